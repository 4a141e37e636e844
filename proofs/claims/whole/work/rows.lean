section
-- ===== PART A: goes FIRST, ahead of the names: the tables' words, and 'selects' of the private methods out of them =====
/-- a private method of a class that the tables say can be made, by its rows of tables_1 -/
def lw_okq (q : MethodName × Nat) : Prop := (q.1.cls ≠ "java/lang/invoke/MethodHandle" ∧ q.1.cls ≠ "java/lang/invoke/VarHandle") ∧ Cond.instantiable q.1.cls q.2 ∈ tables_1 ∧ Cond.privateMethod q.1 ∈ tables_1 ∧ Cond.instanceMethod q.1 ∈ tables_1
theorem lw_p0 : lw_okq (⟨"SignRow$Replica", "aliveAmongFirst", "(I)I"⟩, 12) := ⟨⟨by decide +kernel, by decide +kernel⟩, List.mem_of_getElem? (i := 133) (by decide +kernel), List.mem_of_getElem? (i := 216) (by decide +kernel), List.mem_of_getElem? (i := 217) (by decide +kernel)⟩
theorem lw_p1 : lw_okq (⟨"SignRow", "putSign", "(LSignRow$Replica;II)I"⟩, 4) := ⟨⟨by decide +kernel, by decide +kernel⟩, List.mem_of_getElem? (i := 13) (by decide +kernel), List.mem_of_getElem? (i := 231) (by decide +kernel), List.mem_of_getElem? (i := 232) (by decide +kernel)⟩
theorem lw_p2 : lw_okq (⟨"SignRow$Paths", "isBefore", "(II)Z"⟩, 5) := ⟨⟨by decide +kernel, by decide +kernel⟩, List.mem_of_getElem? (i := 81) (by decide +kernel), List.mem_of_getElem? (i := 291) (by decide +kernel), List.mem_of_getElem? (i := 292) (by decide +kernel)⟩
theorem lw_p3 : lw_okq (⟨"SignRow", "perform", "(LSignRow$Replica;IIII)I"⟩, 4) := ⟨⟨by decide +kernel, by decide +kernel⟩, List.mem_of_getElem? (i := 13) (by decide +kernel), List.mem_of_getElem? (i := 295) (by decide +kernel), List.mem_of_getElem? (i := 296) (by decide +kernel)⟩
theorem lw_p4 : lw_okq (⟨"SignRow$Replica", "isReady", "(I)Z"⟩, 12) := ⟨⟨by decide +kernel, by decide +kernel⟩, List.mem_of_getElem? (i := 133) (by decide +kernel), List.mem_of_getElem? (i := 360) (by decide +kernel), List.mem_of_getElem? (i := 361) (by decide +kernel)⟩
theorem lw_p5 : lw_okq (⟨"SignRow$Replica", "doWhatWaited", "()V"⟩, 12) := ⟨⟨by decide +kernel, by decide +kernel⟩, List.mem_of_getElem? (i := 133) (by decide +kernel), List.mem_of_getElem? (i := 365) (by decide +kernel), List.mem_of_getElem? (i := 366) (by decide +kernel)⟩
theorem lw_p6 : lw_okq (⟨"SignRow$Replica", "firstReady", "()I"⟩, 12) := ⟨⟨by decide +kernel, by decide +kernel⟩, List.mem_of_getElem? (i := 133) (by decide +kernel), List.mem_of_getElem? (i := 369) (by decide +kernel), List.mem_of_getElem? (i := 370) (by decide +kernel)⟩
theorem lw_p7 : lw_okq (⟨"SignRow$Replica", "isMarkedBy", "(II)Z"⟩, 12) := ⟨⟨by decide +kernel, by decide +kernel⟩, List.mem_of_getElem? (i := 133) (by decide +kernel), List.mem_of_getElem? (i := 427) (by decide +kernel), List.mem_of_getElem? (i := 428) (by decide +kernel)⟩
theorem lw_p8 : lw_okq (⟨"SignRow$Replica", "bitsOfLatest", "()I"⟩, 12) := ⟨⟨by decide +kernel, by decide +kernel⟩, List.mem_of_getElem? (i := 133) (by decide +kernel), List.mem_of_getElem? (i := 431) (by decide +kernel), List.mem_of_getElem? (i := 432) (by decide +kernel)⟩
theorem lw_p9 : lw_okq (⟨"SignRow", "livingSign", "(II)I"⟩, 4) := ⟨⟨by decide +kernel, by decide +kernel⟩, List.mem_of_getElem? (i := 13) (by decide +kernel), List.mem_of_getElem? (i := 455) (by decide +kernel), List.mem_of_getElem? (i := 456) (by decide +kernel)⟩
theorem lw_p10 : lw_okq (⟨"java/lang/Throwable", "fillInStackTrace", "(I)Ljava/lang/Throwable;"⟩, 6) := ⟨⟨by decide +kernel, by decide +kernel⟩, List.mem_of_getElem? (i := 495) (by decide +kernel), List.mem_of_getElem? (i := 493) (by decide +kernel), List.mem_of_getElem? (i := 494) (by decide +kernel)⟩
theorem lw_p11 : lw_okq (⟨"SignRowModel", "sizeOf", "(I)I"⟩, 33) := ⟨⟨by decide +kernel, by decide +kernel⟩, List.mem_of_getElem? (i := 552) (by decide +kernel), List.mem_of_getElem? (i := 673) (by decide +kernel), List.mem_of_getElem? (i := 674) (by decide +kernel)⟩
theorem lw_p12 : lw_okq (⟨"SignRowModel", "lives", "(II)Z"⟩, 33) := ⟨⟨by decide +kernel, by decide +kernel⟩, List.mem_of_getElem? (i := 552) (by decide +kernel), List.mem_of_getElem? (i := 677) (by decide +kernel), List.mem_of_getElem? (i := 678) (by decide +kernel)⟩
theorem lw_p13 : lw_okq (⟨"SignRowModel", "has", "(II)Z"⟩, 33) := ⟨⟨by decide +kernel, by decide +kernel⟩, List.mem_of_getElem? (i := 552) (by decide +kernel), List.mem_of_getElem? (i := 681) (by decide +kernel), List.mem_of_getElem? (i := 682) (by decide +kernel)⟩
theorem lw_p14 : lw_okq (⟨"SignRowModel", "typeOne", "(III)I"⟩, 33) := ⟨⟨by decide +kernel, by decide +kernel⟩, List.mem_of_getElem? (i := 552) (by decide +kernel), List.mem_of_getElem? (i := 687) (by decide +kernel), List.mem_of_getElem? (i := 688) (by decide +kernel)⟩
theorem lw_p15 : lw_okq (⟨"SignRowModel", "signAt", "(II)I"⟩, 33) := ⟨⟨by decide +kernel, by decide +kernel⟩, List.mem_of_getElem? (i := 552) (by decide +kernel), List.mem_of_getElem? (i := 691) (by decide +kernel), List.mem_of_getElem? (i := 692) (by decide +kernel)⟩
def lw_privs_1 : List (MethodName × Nat) := [(⟨"SignRow$Replica", "aliveAmongFirst", "(I)I"⟩, 12), (⟨"SignRow", "putSign", "(LSignRow$Replica;II)I"⟩, 4), (⟨"SignRow$Paths", "isBefore", "(II)Z"⟩, 5), (⟨"SignRow", "perform", "(LSignRow$Replica;IIII)I"⟩, 4), (⟨"SignRow$Replica", "isReady", "(I)Z"⟩, 12), (⟨"SignRow$Replica", "doWhatWaited", "()V"⟩, 12), (⟨"SignRow$Replica", "firstReady", "()I"⟩, 12), (⟨"SignRow$Replica", "isMarkedBy", "(II)Z"⟩, 12), (⟨"SignRow$Replica", "bitsOfLatest", "()I"⟩, 12), (⟨"SignRow", "livingSign", "(II)I"⟩, 4), (⟨"java/lang/Throwable", "fillInStackTrace", "(I)Ljava/lang/Throwable;"⟩, 6), (⟨"SignRowModel", "sizeOf", "(I)I"⟩, 33), (⟨"SignRowModel", "lives", "(II)Z"⟩, 33), (⟨"SignRowModel", "has", "(II)Z"⟩, 33), (⟨"SignRowModel", "typeOne", "(III)I"⟩, 33), (⟨"SignRowModel", "signAt", "(II)I"⟩, 33)]
theorem lw_r1 : ∀ q ∈ lw_privs_1, lw_okq q := List.forall_mem_cons.mpr ⟨lw_p0, List.forall_mem_cons.mpr ⟨lw_p1, List.forall_mem_cons.mpr ⟨lw_p2, List.forall_mem_cons.mpr ⟨lw_p3, List.forall_mem_cons.mpr ⟨lw_p4, List.forall_mem_cons.mpr ⟨lw_p5, List.forall_mem_cons.mpr ⟨lw_p6, List.forall_mem_cons.mpr ⟨lw_p7, List.forall_mem_cons.mpr ⟨lw_p8, List.forall_mem_cons.mpr ⟨lw_p9, List.forall_mem_cons.mpr ⟨lw_p10, List.forall_mem_cons.mpr ⟨lw_p11, List.forall_mem_cons.mpr ⟨lw_p12, List.forall_mem_cons.mpr ⟨lw_p13, List.forall_mem_cons.mpr ⟨lw_p14, List.forall_mem_cons.mpr ⟨lw_p15, fun _ h => absurd h List.not_mem_nil⟩⟩⟩⟩⟩⟩⟩⟩⟩⟩⟩⟩⟩⟩⟩⟩
theorem lw_p16 : lw_okq (⟨"SignRowModel", "nextOf", "(II)I"⟩, 33) := ⟨⟨by decide +kernel, by decide +kernel⟩, List.mem_of_getElem? (i := 552) (by decide +kernel), List.mem_of_getElem? (i := 695) (by decide +kernel), List.mem_of_getElem? (i := 696) (by decide +kernel)⟩
theorem lw_p17 : lw_okq (⟨"SignRowModel", "findsPath", "(IIII)Z"⟩, 33) := ⟨⟨by decide +kernel, by decide +kernel⟩, List.mem_of_getElem? (i := 552) (by decide +kernel), List.mem_of_getElem? (i := 699) (by decide +kernel), List.mem_of_getElem? (i := 700) (by decide +kernel)⟩
theorem lw_p18 : lw_okq (⟨"SignRowModel", "level", "(III)V"⟩, 33) := ⟨⟨by decide +kernel, by decide +kernel⟩, List.mem_of_getElem? (i := 552) (by decide +kernel), List.mem_of_getElem? (i := 705) (by decide +kernel), List.mem_of_getElem? (i := 706) (by decide +kernel)⟩
theorem lw_p19 : lw_okq (⟨"SignRowModel", "isLevel", "(III)Z"⟩, 33) := ⟨⟨by decide +kernel, by decide +kernel⟩, List.mem_of_getElem? (i := 552) (by decide +kernel), List.mem_of_getElem? (i := 709) (by decide +kernel), List.mem_of_getElem? (i := 710) (by decide +kernel)⟩
theorem lw_p20 : lw_okq (⟨"SignRowModel", "made", "(IIIII)I"⟩, 33) := ⟨⟨by decide +kernel, by decide +kernel⟩, List.mem_of_getElem? (i := 552) (by decide +kernel), List.mem_of_getElem? (i := 713) (by decide +kernel), List.mem_of_getElem? (i := 714) (by decide +kernel)⟩
theorem lw_p21 : lw_okq (⟨"SignRowModel", "sortIn", "(I)V"⟩, 33) := ⟨⟨by decide +kernel, by decide +kernel⟩, List.mem_of_getElem? (i := 552) (by decide +kernel), List.mem_of_getElem? (i := 717) (by decide +kernel), List.mem_of_getElem? (i := 718) (by decide +kernel)⟩
theorem lw_p22 : lw_okq (⟨"SignRowModel", "isBefore", "(II)Z"⟩, 33) := ⟨⟨by decide +kernel, by decide +kernel⟩, List.mem_of_getElem? (i := 552) (by decide +kernel), List.mem_of_getElem? (i := 721) (by decide +kernel), List.mem_of_getElem? (i := 722) (by decide +kernel)⟩
theorem lw_p23 : lw_okq (⟨"SignRowModel", "isDone", "(II)V"⟩, 33) := ⟨⟨by decide +kernel, by decide +kernel⟩, List.mem_of_getElem? (i := 552) (by decide +kernel), List.mem_of_getElem? (i := 725) (by decide +kernel), List.mem_of_getElem? (i := 726) (by decide +kernel)⟩
theorem lw_p24 : lw_okq (⟨"SignRowModel", "isLater", "(II)Z"⟩, 33) := ⟨⟨by decide +kernel, by decide +kernel⟩, List.mem_of_getElem? (i := 552) (by decide +kernel), List.mem_of_getElem? (i := 729) (by decide +kernel), List.mem_of_getElem? (i := 730) (by decide +kernel)⟩
theorem lw_p25 : lw_okq (⟨"SignRowModel", "goOn", "(I)I"⟩, 33) := ⟨⟨by decide +kernel, by decide +kernel⟩, List.mem_of_getElem? (i := 552) (by decide +kernel), List.mem_of_getElem? (i := 733) (by decide +kernel), List.mem_of_getElem? (i := 734) (by decide +kernel)⟩
theorem lw_p26 : lw_okq (⟨"SignRowModel", "can", "(II)Z"⟩, 33) := ⟨⟨by decide +kernel, by decide +kernel⟩, List.mem_of_getElem? (i := 552) (by decide +kernel), List.mem_of_getElem? (i := 737) (by decide +kernel), List.mem_of_getElem? (i := 738) (by decide +kernel)⟩
theorem lw_p27 : lw_okq (⟨"SignRowModel", "send", "(II)V"⟩, 33) := ⟨⟨by decide +kernel, by decide +kernel⟩, List.mem_of_getElem? (i := 552) (by decide +kernel), List.mem_of_getElem? (i := 741) (by decide +kernel), List.mem_of_getElem? (i := 742) (by decide +kernel)⟩
theorem lw_p28 : lw_okq (⟨"SignRowModel", "drop", "(I)V"⟩, 33) := ⟨⟨by decide +kernel, by decide +kernel⟩, List.mem_of_getElem? (i := 552) (by decide +kernel), List.mem_of_getElem? (i := 767) (by decide +kernel), List.mem_of_getElem? (i := 768) (by decide +kernel)⟩
theorem lw_p29 : lw_okq (⟨"SignRowModel", "comes", "(II)I"⟩, 33) := ⟨⟨by decide +kernel, by decide +kernel⟩, List.mem_of_getElem? (i := 552) (by decide +kernel), List.mem_of_getElem? (i := 771) (by decide +kernel), List.mem_of_getElem? (i := 772) (by decide +kernel)⟩
theorem lw_p30 : lw_okq (⟨"SignRowModel", "signOf", "(II)I"⟩, 33) := ⟨⟨by decide +kernel, by decide +kernel⟩, List.mem_of_getElem? (i := 552) (by decide +kernel), List.mem_of_getElem? (i := 795) (by decide +kernel), List.mem_of_getElem? (i := 796) (by decide +kernel)⟩
theorem lw_p31 : lw_okq (⟨"SignRowModel", "kindsOf", "(II)I"⟩, 33) := ⟨⟨by decide +kernel, by decide +kernel⟩, List.mem_of_getElem? (i := 552) (by decide +kernel), List.mem_of_getElem? (i := 808) (by decide +kernel), List.mem_of_getElem? (i := 809) (by decide +kernel)⟩
def lw_privs_2 : List (MethodName × Nat) := [(⟨"SignRowModel", "nextOf", "(II)I"⟩, 33), (⟨"SignRowModel", "findsPath", "(IIII)Z"⟩, 33), (⟨"SignRowModel", "level", "(III)V"⟩, 33), (⟨"SignRowModel", "isLevel", "(III)Z"⟩, 33), (⟨"SignRowModel", "made", "(IIIII)I"⟩, 33), (⟨"SignRowModel", "sortIn", "(I)V"⟩, 33), (⟨"SignRowModel", "isBefore", "(II)Z"⟩, 33), (⟨"SignRowModel", "isDone", "(II)V"⟩, 33), (⟨"SignRowModel", "isLater", "(II)Z"⟩, 33), (⟨"SignRowModel", "goOn", "(I)I"⟩, 33), (⟨"SignRowModel", "can", "(II)Z"⟩, 33), (⟨"SignRowModel", "send", "(II)V"⟩, 33), (⟨"SignRowModel", "drop", "(I)V"⟩, 33), (⟨"SignRowModel", "comes", "(II)I"⟩, 33), (⟨"SignRowModel", "signOf", "(II)I"⟩, 33), (⟨"SignRowModel", "kindsOf", "(II)I"⟩, 33)]
theorem lw_r2 : ∀ q ∈ lw_privs_2, lw_okq q := List.forall_mem_cons.mpr ⟨lw_p16, List.forall_mem_cons.mpr ⟨lw_p17, List.forall_mem_cons.mpr ⟨lw_p18, List.forall_mem_cons.mpr ⟨lw_p19, List.forall_mem_cons.mpr ⟨lw_p20, List.forall_mem_cons.mpr ⟨lw_p21, List.forall_mem_cons.mpr ⟨lw_p22, List.forall_mem_cons.mpr ⟨lw_p23, List.forall_mem_cons.mpr ⟨lw_p24, List.forall_mem_cons.mpr ⟨lw_p25, List.forall_mem_cons.mpr ⟨lw_p26, List.forall_mem_cons.mpr ⟨lw_p27, List.forall_mem_cons.mpr ⟨lw_p28, List.forall_mem_cons.mpr ⟨lw_p29, List.forall_mem_cons.mpr ⟨lw_p30, List.forall_mem_cons.mpr ⟨lw_p31, fun _ h => absurd h List.not_mem_nil⟩⟩⟩⟩⟩⟩⟩⟩⟩⟩⟩⟩⟩⟩⟩⟩
theorem lw_p32 : lw_okq (⟨"SignRowModel", "placeOf", "(II)I"⟩, 33) := ⟨⟨by decide +kernel, by decide +kernel⟩, List.mem_of_getElem? (i := 552) (by decide +kernel), List.mem_of_getElem? (i := 816) (by decide +kernel), List.mem_of_getElem? (i := 817) (by decide +kernel)⟩
def lw_privs_3 : List (MethodName × Nat) := [(⟨"SignRowModel", "placeOf", "(II)I"⟩, 33)]
theorem lw_r3 : ∀ q ∈ lw_privs_3, lw_okq q := List.forall_mem_cons.mpr ⟨lw_p32, fun _ h => absurd h List.not_mem_nil⟩
def lw_privs : List (MethodName × Nat) := lw_privs_1 ++ (lw_privs_2 ++ (lw_privs_3))
def lw_tbl : List Cond := k2_sels lw_privs ++ tables_1
theorem lw_privs_ok : ∀ q ∈ lw_privs, lw_okq q := by
  show ∀ q ∈ lw_privs_1 ++ (lw_privs_2 ++ (lw_privs_3)), lw_okq q
  exact List.forall_mem_append.mpr ⟨lw_r1, List.forall_mem_append.mpr ⟨lw_r2, lw_r3⟩⟩
/-- the words that every method is given -/
def zt : List Cond := lw_tbl.filter goodWord
theorem zt_of {w : Cond} {i : Nat} (h : lw_tbl[i]? = some w) (hg : goodWord w = true) : w ∈ zt := List.mem_filter.mpr ⟨List.mem_of_getElem? h, hg⟩
theorem zt_good {w : Cond} (h : w ∈ zt) : (w.onTables && w.keeps) = true ∨ ∃ ty, w = .arrayClass ty := good_of_word (List.mem_filter.mp h).2
end
section
def RX0 : String := "SignRow$Deeds"
def TX0 : u_T := fun k => match k with
  | 0 => ("SignRow$Deeds", "owner", "[I", true)
  | 1 => ("SignRow$Deeds", "number", "[I", true)
  | 2 => ("SignRow$Deeds", "time", "[I", true)
  | 3 => ("SignRow$Deeds", "sort", "[I", true)
  | 4 => ("SignRow$Deeds", "value", "[I", true)
  | 5 => ("SignRow$Deeds", "from", "[I", true)
  | 6 => ("SignRow$Deeds", "to", "[I", true)
  | 7 => ("SignRow$Deeds", "mayUndo", "[Z", true)
  | 8 => ("SignRow$Deeds", "marks", "[I", true)
  | 9 => ("SignRow$Deeds", "markTotal", "I", false)
  | _ => ("SignRow$Deeds", "total", "I", false)
def tyX0 : Nat → FieldType := fun k => match k with
  | 0 => .array .int
  | 1 => .array .int
  | 2 => .array .int
  | 3 => .array .int
  | 4 => .array .int
  | 5 => .array .int
  | 6 => .array .int
  | 7 => .array .boolean
  | 8 => .array .int
  | 9 => .int
  | _ => .int
theorem nmX0 : ∀ a, a < 11 → ∀ b, b < 11 → a ≠ b → (TX0 a).2.1 ≠ (TX0 b).2.1 := by decide +kernel
theorem tyX0_ok : ∀ k, k < 11 → parseFieldDescriptor (TX0 k).2.2.1 = some (tyX0 k) := by decide +kernel
theorem uwX0 : ∀ w ∈ u_ws RX0 TX0 11, w ∈ zt := fun w h => List.mem_filter.mpr ⟨(by decide +kernel : ∀ w ∈ u_ws RX0 TX0 11, w ∈ lw_tbl) w h, List.all_eq_true.mp (by decide +kernel : (u_ws RX0 TX0 11).all goodWord = true) w h⟩
theorem iniX0 : Cond.initialized RX0 ∈ zt := zt_of (i := 35) (by decide +kernel) (by decide +kernel)
theorem insX0 : Cond.instantiable RX0 11 ∈ zt := zt_of (i := 54) (by decide +kernel) (by decide +kernel)
def RX1 : String := "SignRow$Paths"
def TX1 : u_T := fun k => match k with
  | 0 => ("SignRow$Paths", "levels", "[I", true)
  | 1 => ("SignRow$Paths", "depth", "[I", true)
  | 2 => ("SignRow$Paths", "order", "[I", true)
  | 3 => ("SignRow$Paths", "rank", "[I", true)
  | _ => ("SignRow$Paths", "total", "I", false)
def tyX1 : Nat → FieldType := fun k => match k with
  | 0 => .array .int
  | 1 => .array .int
  | 2 => .array .int
  | 3 => .array .int
  | _ => .int
theorem nmX1 : ∀ a, a < 5 → ∀ b, b < 5 → a ≠ b → (TX1 a).2.1 ≠ (TX1 b).2.1 := by decide +kernel
theorem tyX1_ok : ∀ k, k < 5 → parseFieldDescriptor (TX1 k).2.2.1 = some (tyX1 k) := by decide +kernel
theorem uwX1 : ∀ w ∈ u_ws RX1 TX1 5, w ∈ zt := fun w h => List.mem_filter.mpr ⟨(by decide +kernel : ∀ w ∈ u_ws RX1 TX1 5, w ∈ lw_tbl) w h, List.all_eq_true.mp (by decide +kernel : (u_ws RX1 TX1 5).all goodWord = true) w h⟩
theorem iniX1 : Cond.initialized RX1 ∈ zt := zt_of (i := 36) (by decide +kernel) (by decide +kernel)
theorem insX1 : Cond.instantiable RX1 5 ∈ zt := zt_of (i := 114) (by decide +kernel) (by decide +kernel)
def RX2 : String := "SignRow$Replica"
def TX2 : u_T := fun k => match k with
  | 0 => ("SignRow$Replica", "site", "I", true)
  | 1 => ("SignRow$Replica", "deeds", "LSignRow$Deeds;", true)
  | 2 => ("SignRow$Replica", "paths", "LSignRow$Paths;", true)
  | 3 => ("SignRow$Replica", "stream", "I", false)
  | 4 => ("SignRow$Replica", "time", "I", false)
  | 5 => ("SignRow$Replica", "signs", "I", false)
  | 6 => ("SignRow$Replica", "waiting", "I", false)
  | 7 => ("SignRow$Replica", "doneOf", "[I", true)
  | 8 => ("SignRow$Replica", "waits", "[Z", true)
  | 9 => ("SignRow$Replica", "fate", "[I", true)
  | 10 => ("SignRow$Replica", "cursors", "[I", true)
  | _ => ("SignRow$Replica", "latestMark", "[I", true)
def tyX2 : Nat → FieldType := fun k => match k with
  | 0 => .int
  | 1 => .object "SignRow$Deeds"
  | 2 => .object "SignRow$Paths"
  | 3 => .int
  | 4 => .int
  | 5 => .int
  | 6 => .int
  | 7 => .array .int
  | 8 => .array .boolean
  | 9 => .array .int
  | 10 => .array .int
  | _ => .array .int
theorem nmX2 : ∀ a, a < 12 → ∀ b, b < 12 → a ≠ b → (TX2 a).2.1 ≠ (TX2 b).2.1 := by decide +kernel
theorem tyX2_ok : ∀ k, k < 12 → parseFieldDescriptor (TX2 k).2.2.1 = some (tyX2 k) := by decide +kernel
theorem uwX2 : ∀ w ∈ u_ws RX2 TX2 12, w ∈ zt := fun w h => List.mem_filter.mpr ⟨(by decide +kernel : ∀ w ∈ u_ws RX2 TX2 12, w ∈ lw_tbl) w h, List.all_eq_true.mp (by decide +kernel : (u_ws RX2 TX2 12).all goodWord = true) w h⟩
theorem iniX2 : Cond.initialized RX2 ∈ zt := zt_of (i := 38) (by decide +kernel) (by decide +kernel)
theorem insX2 : Cond.instantiable RX2 12 ∈ zt := zt_of (i := 166) (by decide +kernel) (by decide +kernel)
def RX3 : String := "SignRow$Way"
def TX3 : u_T := fun k => match k with
  | 0 => ("SignRow$Way", "what", "[I", true)
  | 1 => ("SignRow$Way", "toWhom", "[I", true)
  | 2 => ("SignRow$Way", "total", "I", false)
  | _ => ("SignRow$Way", "lost", "I", false)
def tyX3 : Nat → FieldType := fun k => match k with
  | 0 => .array .int
  | 1 => .array .int
  | 2 => .int
  | _ => .int
theorem nmX3 : ∀ a, a < 4 → ∀ b, b < 4 → a ≠ b → (TX3 a).2.1 ≠ (TX3 b).2.1 := by decide +kernel
theorem tyX3_ok : ∀ k, k < 4 → parseFieldDescriptor (TX3 k).2.2.1 = some (tyX3 k) := by decide +kernel
theorem uwX3 : ∀ w ∈ u_ws RX3 TX3 4, w ∈ zt := fun w h => List.mem_filter.mpr ⟨(by decide +kernel : ∀ w ∈ u_ws RX3 TX3 4, w ∈ lw_tbl) w h, List.all_eq_true.mp (by decide +kernel : (u_ws RX3 TX3 4).all goodWord = true) w h⟩
theorem iniX3 : Cond.initialized RX3 ∈ zt := zt_of (i := 37) (by decide +kernel) (by decide +kernel)
theorem insX3 : Cond.instantiable RX3 4 ∈ zt := zt_of (i := 142) (by decide +kernel) (by decide +kernel)
def RX4 : String := "SignRow"
def TX4 : u_T := fun k => match k with
  | 0 => ("SignRow", "deeds", "LSignRow$Deeds;", true)
  | 1 => ("SignRow", "paths", "LSignRow$Paths;", true)
  | 2 => ("SignRow", "way", "LSignRow$Way;", true)
  | _ => ("SignRow", "replicas", "[LSignRow$Replica;", true)
def tyX4 : Nat → FieldType := fun k => match k with
  | 0 => .object "SignRow$Deeds"
  | 1 => .object "SignRow$Paths"
  | 2 => .object "SignRow$Way"
  | _ => .array (.object "SignRow$Replica")
theorem nmX4 : ∀ a, a < 4 → ∀ b, b < 4 → a ≠ b → (TX4 a).2.1 ≠ (TX4 b).2.1 := by decide +kernel
theorem tyX4_ok : ∀ k, k < 4 → parseFieldDescriptor (TX4 k).2.2.1 = some (tyX4 k) := by decide +kernel
theorem uwX4 : ∀ w ∈ u_ws RX4 TX4 4, w ∈ zt := fun w h => List.mem_filter.mpr ⟨(by decide +kernel : ∀ w ∈ u_ws RX4 TX4 4, w ∈ lw_tbl) w h, List.all_eq_true.mp (by decide +kernel : (u_ws RX4 TX4 4).all goodWord = true) w h⟩
theorem iniX4 : Cond.initialized RX4 ∈ zt := zt_of (i := 34) (by decide +kernel) (by decide +kernel)
theorem insX4 : Cond.instantiable RX4 4 ∈ zt := zt_of (i := 46) (by decide +kernel) (by decide +kernel)
def RX5 : String := "SignRowModel"
def TX5 : u_T := fun k => match k with
  | 0 => ("SignRowModel", "thrown", "I", false)
  | 1 => ("SignRowModel", "deeds", "I", false)
  | 2 => ("SignRowModel", "whose", "[I", true)
  | 3 => ("SignRowModel", "number", "[I", true)
  | 4 => ("SignRowModel", "time", "[I", true)
  | 5 => ("SignRowModel", "sort", "[I", true)
  | 6 => ("SignRowModel", "told", "[I", true)
  | 7 => ("SignRowModel", "one", "[I", true)
  | 8 => ("SignRowModel", "two", "[I", true)
  | 9 => ("SignRowModel", "undone", "[Z", true)
  | 10 => ("SignRowModel", "undoes", "[Z", true)
  | 11 => ("SignRowModel", "levels", "[I", true)
  | 12 => ("SignRowModel", "digits", "[I", true)
  | 13 => ("SignRowModel", "sites", "[I", true)
  | 14 => ("SignRowModel", "counts", "[I", true)
  | 15 => ("SignRowModel", "typed", "I", false)
  | 16 => ("SignRowModel", "sorted", "[I", true)
  | 17 => ("SignRowModel", "rank", "[I", true)
  | 18 => ("SignRowModel", "done", "[Z", true)
  | 19 => ("SignRowModel", "waits", "[Z", true)
  | 20 => ("SignRowModel", "latest", "[I", true)
  | 21 => ("SignRowModel", "doneOf", "[I", true)
  | 22 => ("SignRowModel", "greatest", "[I", true)
  | 23 => ("SignRowModel", "streams", "[I", true)
  | 24 => ("SignRowModel", "cursors", "[I", true)
  | 25 => ("SignRowModel", "ways", "I", false)
  | 26 => ("SignRowModel", "wayDeed", "[I", true)
  | 27 => ("SignRowModel", "wayTo", "[I", true)
  | 28 => ("SignRowModel", "gone", "I", false)
  | 29 => ("SignRowModel", "digit", "[I", true)
  | 30 => ("SignRowModel", "site", "[I", true)
  | 31 => ("SignRowModel", "count", "[I", true)
  | _ => ("SignRowModel", "deep", "I", false)
def tyX5 : Nat → FieldType := fun k => match k with
  | 0 => .int
  | 1 => .int
  | 2 => .array .int
  | 3 => .array .int
  | 4 => .array .int
  | 5 => .array .int
  | 6 => .array .int
  | 7 => .array .int
  | 8 => .array .int
  | 9 => .array .boolean
  | 10 => .array .boolean
  | 11 => .array .int
  | 12 => .array .int
  | 13 => .array .int
  | 14 => .array .int
  | 15 => .int
  | 16 => .array .int
  | 17 => .array .int
  | 18 => .array .boolean
  | 19 => .array .boolean
  | 20 => .array .int
  | 21 => .array .int
  | 22 => .array .int
  | 23 => .array .int
  | 24 => .array .int
  | 25 => .int
  | 26 => .array .int
  | 27 => .array .int
  | 28 => .int
  | 29 => .array .int
  | 30 => .array .int
  | 31 => .array .int
  | _ => .int
theorem nmX5 : ∀ a, a < 33 → ∀ b, b < 33 → a ≠ b → (TX5 a).2.1 ≠ (TX5 b).2.1 := by decide +kernel
theorem tyX5_ok : ∀ k, k < 33 → parseFieldDescriptor (TX5 k).2.2.1 = some (tyX5 k) := by decide +kernel
theorem uwX5 : ∀ w ∈ u_ws RX5 TX5 33, w ∈ zt := fun w h => List.mem_filter.mpr ⟨(by decide +kernel : ∀ w ∈ u_ws RX5 TX5 33, w ∈ lw_tbl) w h, List.all_eq_true.mp (by decide +kernel : (u_ws RX5 TX5 33).all goodWord = true) w h⟩
theorem iniX5 : Cond.initialized RX5 ∈ zt := zt_of (i := 39) (by decide +kernel) (by decide +kernel)
theorem insX5 : Cond.instantiable RX5 33 ∈ zt := zt_of (i := 585) (by decide +kernel) (by decide +kernel)
def RL : String := "SignRowLaw"
theorem iniL : Cond.initialized RL ∈ zt := zt_of (i := 33) (by decide +kernel) (by decide +kernel)
abbrev vwCl : List vw_C := [(RX0, TX0, 11), (RX1, TX1, 5), (RX2, TX2, 12), (RX3, TX3, 4), (RX4, TX4, 4), (RX5, TX5, 33)]
abbrev cX4_init : ByteArray := prog_1_method_1_code
def yX4_init : MethodName := ⟨RX4, "<init>", "()V"⟩
abbrev wsX4_init : List Cond := Cond.code yX4_init cX4_init 2 (none) :: zt
theorem cdX4_init : Cond.code yX4_init cX4_init 2 (none) ∈ zt := zt_of (i := 49) (by decide +kernel) (by decide +kernel)
theorem imX4_init : Cond.instanceMethod yX4_init ∈ zt := zt_of (i := 48) (by decide +kernel) (by decide +kernel)
abbrev cX0_init : ByteArray := prog_2_method_1_code
def yX0_init : MethodName := ⟨RX0, "<init>", "()V"⟩
abbrev wsX0_init : List Cond := Cond.code yX0_init cX0_init 1 (none) :: zt
theorem cdX0_init : Cond.code yX0_init cX0_init 1 (none) ∈ zt := zt_of (i := 57) (by decide +kernel) (by decide +kernel)
theorem imX0_init : Cond.instanceMethod yX0_init ∈ zt := zt_of (i := 56) (by decide +kernel) (by decide +kernel)
abbrev cX1_init : ByteArray := prog_3_method_1_code
def yX1_init : MethodName := ⟨RX1, "<init>", "()V"⟩
abbrev wsX1_init : List Cond := Cond.code yX1_init cX1_init 1 (none) :: zt
theorem cdX1_init : Cond.code yX1_init cX1_init 1 (none) ∈ zt := zt_of (i := 117) (by decide +kernel) (by decide +kernel)
theorem imX1_init : Cond.instanceMethod yX1_init ∈ zt := zt_of (i := 116) (by decide +kernel) (by decide +kernel)
abbrev cX3_init : ByteArray := prog_5_method_1_code
def yX3_init : MethodName := ⟨RX3, "<init>", "()V"⟩
abbrev wsX3_init : List Cond := Cond.code yX3_init cX3_init 1 (none) :: zt
theorem cdX3_init : Cond.code yX3_init cX3_init 1 (none) ∈ zt := zt_of (i := 145) (by decide +kernel) (by decide +kernel)
theorem imX3_init : Cond.instanceMethod yX3_init ∈ zt := zt_of (i := 144) (by decide +kernel) (by decide +kernel)
abbrev cX2_init : ByteArray := prog_4_method_1_code
def yX2_init : MethodName := ⟨RX2, "<init>", "(ILSignRow$Deeds;LSignRow$Paths;)V"⟩
abbrev wsX2_init : List Cond := Cond.code yX2_init cX2_init 5 (none) :: zt
theorem cdX2_init : Cond.code yX2_init cX2_init 5 (none) ∈ zt := zt_of (i := 169) (by decide +kernel) (by decide +kernel)
theorem imX2_init : Cond.instanceMethod yX2_init ∈ zt := zt_of (i := 168) (by decide +kernel) (by decide +kernel)
abbrev cX4_stream : ByteArray := prog_1_method_2_code
def yX4_stream : MethodName := ⟨RX4, "stream", "(II)I"⟩
abbrev wsX4_stream : List Cond := Cond.code yX4_stream cX4_stream 4 (some .int) :: zt
theorem cdX4_stream : Cond.code yX4_stream cX4_stream 4 (some .int) ∈ zt := zt_of (i := 232) (by decide +kernel) (by decide +kernel)
theorem imX4_stream : Cond.instanceMethod yX4_stream ∈ zt := zt_of (i := 230) (by decide +kernel) (by decide +kernel)
theorem slX4_stream : Cond.selects RX4 yX4_stream yX4_stream ∈ zt := zt_of (i := 231) (by decide +kernel) (by decide +kernel)
abbrev cX4_isReplica : ByteArray := prog_1_method_23_code
def yX4_isReplica : MethodName := ⟨RX4, "isReplica", "(I)Z"⟩
abbrev wsX4_isReplica : List Cond := Cond.code yX4_isReplica cX4_isReplica 1 (some .boolean) :: zt
theorem cdX4_isReplica : Cond.code yX4_isReplica cX4_isReplica 1 (some .boolean) ∈ zt := zt_of (i := 235) (by decide +kernel) (by decide +kernel)
theorem stX4_isReplica : Cond.static yX4_isReplica ∈ zt := zt_of (i := 234) (by decide +kernel) (by decide +kernel)
abbrev cX4_type : ByteArray := prog_1_method_3_code
def yX4_type : MethodName := ⟨RX4, "type", "(III)I"⟩
abbrev wsX4_type : List Cond := Cond.code yX4_type cX4_type 4 (some .int) :: zt
theorem cdX4_type : Cond.code yX4_type cX4_type 4 (some .int) ∈ zt := zt_of (i := 239) (by decide +kernel) (by decide +kernel)
theorem imX4_type : Cond.instanceMethod yX4_type ∈ zt := zt_of (i := 237) (by decide +kernel) (by decide +kernel)
theorem slX4_type : Cond.selects RX4 yX4_type yX4_type ∈ zt := zt_of (i := 238) (by decide +kernel) (by decide +kernel)
abbrev cX2_hasGap : ByteArray := prog_4_method_14_code
def yX2_hasGap : MethodName := ⟨RX2, "hasGap", "(I)Z"⟩
abbrev wsX2_hasGap : List Cond := Cond.code yX2_hasGap cX2_hasGap 2 (some .boolean) :: zt
theorem cdX2_hasGap : Cond.code yX2_hasGap cX2_hasGap 2 (some .boolean) ∈ zt := zt_of (i := 243) (by decide +kernel) (by decide +kernel)
theorem imX2_hasGap : Cond.instanceMethod yX2_hasGap ∈ zt := zt_of (i := 241) (by decide +kernel) (by decide +kernel)
theorem slX2_hasGap : Cond.selects RX2 yX2_hasGap yX2_hasGap ∈ zt := zt_of (i := 242) (by decide +kernel) (by decide +kernel)
abbrev cX2_textLength : ByteArray := prog_4_method_13_code
def yX2_textLength : MethodName := ⟨RX2, "textLength", "()I"⟩
abbrev wsX2_textLength : List Cond := Cond.code yX2_textLength cX2_textLength 1 (some .int) :: zt
theorem cdX2_textLength : Cond.code yX2_textLength cX2_textLength 1 (some .int) ∈ zt := zt_of (i := 247) (by decide +kernel) (by decide +kernel)
theorem imX2_textLength : Cond.instanceMethod yX2_textLength ∈ zt := zt_of (i := 245) (by decide +kernel) (by decide +kernel)
theorem slX2_textLength : Cond.selects RX2 yX2_textLength yX2_textLength ∈ zt := zt_of (i := 246) (by decide +kernel) (by decide +kernel)
abbrev cX2_aliveAmongFirst : ByteArray := prog_4_method_12_code
def yX2_aliveAmongFirst : MethodName := ⟨RX2, "aliveAmongFirst", "(I)I"⟩
abbrev wsX2_aliveAmongFirst : List Cond := Cond.code yX2_aliveAmongFirst cX2_aliveAmongFirst 4 (some .int) :: zt
theorem cdX2_aliveAmongFirst : Cond.code yX2_aliveAmongFirst cX2_aliveAmongFirst 4 (some .int) ∈ zt := zt_of (i := 251) (by decide +kernel) (by decide +kernel)
theorem imX2_aliveAmongFirst : Cond.instanceMethod yX2_aliveAmongFirst ∈ zt := zt_of (i := 250) (by decide +kernel) (by decide +kernel)
theorem slX2_aliveAmongFirst : Cond.selects RX2 yX2_aliveAmongFirst yX2_aliveAmongFirst ∈ zt := zt_of (i := 0) (by decide +kernel) (by decide +kernel)
abbrev cX2_isAlive : ByteArray := prog_4_method_11_code
def yX2_isAlive : MethodName := ⟨RX2, "isAlive", "(I)Z"⟩
abbrev wsX2_isAlive : List Cond := Cond.code yX2_isAlive cX2_isAlive 2 (some .boolean) :: zt
theorem cdX2_isAlive : Cond.code yX2_isAlive cX2_isAlive 2 (some .boolean) ∈ zt := zt_of (i := 255) (by decide +kernel) (by decide +kernel)
theorem imX2_isAlive : Cond.instanceMethod yX2_isAlive ∈ zt := zt_of (i := 253) (by decide +kernel) (by decide +kernel)
theorem slX2_isAlive : Cond.selects RX2 yX2_isAlive yX2_isAlive ∈ zt := zt_of (i := 254) (by decide +kernel) (by decide +kernel)
abbrev cX2_didDeed : ByteArray := prog_4_method_5_code
def yX2_didDeed : MethodName := ⟨RX2, "didDeed", "(I)Z"⟩
abbrev wsX2_didDeed : List Cond := Cond.code yX2_didDeed cX2_didDeed 2 (some .boolean) :: zt
theorem cdX2_didDeed : Cond.code yX2_didDeed cX2_didDeed 2 (some .boolean) ∈ zt := zt_of (i := 259) (by decide +kernel) (by decide +kernel)
theorem imX2_didDeed : Cond.instanceMethod yX2_didDeed ∈ zt := zt_of (i := 257) (by decide +kernel) (by decide +kernel)
theorem slX2_didDeed : Cond.selects RX2 yX2_didDeed yX2_didDeed ∈ zt := zt_of (i := 258) (by decide +kernel) (by decide +kernel)
abbrev cX4_isByte : ByteArray := prog_1_method_25_code
def yX4_isByte : MethodName := ⟨RX4, "isByte", "(I)Z"⟩
abbrev wsX4_isByte : List Cond := Cond.code yX4_isByte cX4_isByte 1 (some .boolean) :: zt
theorem cdX4_isByte : Cond.code yX4_isByte cX4_isByte 1 (some .boolean) ∈ zt := zt_of (i := 262) (by decide +kernel) (by decide +kernel)
theorem stX4_isByte : Cond.static yX4_isByte ∈ zt := zt_of (i := 261) (by decide +kernel) (by decide +kernel)
abbrev cX4_putSign : ByteArray := prog_1_method_27_code
def yX4_putSign : MethodName := ⟨RX4, "putSign", "(LSignRow$Replica;II)I"⟩
abbrev wsX4_putSign : List Cond := Cond.code yX4_putSign cX4_putSign 6 (some .int) :: zt
theorem cdX4_putSign : Cond.code yX4_putSign cX4_putSign 6 (some .int) ∈ zt := zt_of (i := 266) (by decide +kernel) (by decide +kernel)
theorem imX4_putSign : Cond.instanceMethod yX4_putSign ∈ zt := zt_of (i := 265) (by decide +kernel) (by decide +kernel)
theorem slX4_putSign : Cond.selects RX4 yX4_putSign yX4_putSign ∈ zt := zt_of (i := 1) (by decide +kernel) (by decide +kernel)
abbrev cX0_isFull : ByteArray := prog_2_method_2_code
def yX0_isFull : MethodName := ⟨RX0, "isFull", "()Z"⟩
abbrev wsX0_isFull : List Cond := Cond.code yX0_isFull cX0_isFull 1 (some .boolean) :: zt
theorem cdX0_isFull : Cond.code yX0_isFull cX0_isFull 1 (some .boolean) ∈ zt := zt_of (i := 270) (by decide +kernel) (by decide +kernel)
theorem imX0_isFull : Cond.instanceMethod yX0_isFull ∈ zt := zt_of (i := 268) (by decide +kernel) (by decide +kernel)
theorem slX0_isFull : Cond.selects RX0 yX0_isFull yX0_isFull ∈ zt := zt_of (i := 269) (by decide +kernel) (by decide +kernel)
abbrev cX2_signBefore : ByteArray := prog_4_method_16_code
def yX2_signBefore : MethodName := ⟨RX2, "signBefore", "(I)I"⟩
abbrev wsX2_signBefore : List Cond := Cond.code yX2_signBefore cX2_signBefore 2 (some .int) :: zt
theorem cdX2_signBefore : Cond.code yX2_signBefore cX2_signBefore 2 (some .int) ∈ zt := zt_of (i := 274) (by decide +kernel) (by decide +kernel)
theorem imX2_signBefore : Cond.instanceMethod yX2_signBefore ∈ zt := zt_of (i := 272) (by decide +kernel) (by decide +kernel)
theorem slX2_signBefore : Cond.selects RX2 yX2_signBefore yX2_signBefore ∈ zt := zt_of (i := 273) (by decide +kernel) (by decide +kernel)
abbrev cX2_signAt : ByteArray := prog_4_method_15_code
def yX2_signAt : MethodName := ⟨RX2, "signAt", "(I)I"⟩
abbrev wsX2_signAt : List Cond := Cond.code yX2_signAt cX2_signAt 4 (some .int) :: zt
theorem cdX2_signAt : Cond.code yX2_signAt cX2_signAt 4 (some .int) ∈ zt := zt_of (i := 278) (by decide +kernel) (by decide +kernel)
theorem imX2_signAt : Cond.instanceMethod yX2_signAt ∈ zt := zt_of (i := 276) (by decide +kernel) (by decide +kernel)
theorem slX2_signAt : Cond.selects RX2 yX2_signAt yX2_signAt ∈ zt := zt_of (i := 277) (by decide +kernel) (by decide +kernel)
abbrev cX2_nextBehind : ByteArray := prog_4_method_17_code
def yX2_nextBehind : MethodName := ⟨RX2, "nextBehind", "(I)I"⟩
abbrev wsX2_nextBehind : List Cond := Cond.code yX2_nextBehind cX2_nextBehind 3 (some .int) :: zt
theorem cdX2_nextBehind : Cond.code yX2_nextBehind cX2_nextBehind 3 (some .int) ∈ zt := zt_of (i := 282) (by decide +kernel) (by decide +kernel)
theorem imX2_nextBehind : Cond.instanceMethod yX2_nextBehind ∈ zt := zt_of (i := 280) (by decide +kernel) (by decide +kernel)
theorem slX2_nextBehind : Cond.selects RX2 yX2_nextBehind yX2_nextBehind ∈ zt := zt_of (i := 281) (by decide +kernel) (by decide +kernel)
abbrev cX1_findNew : ByteArray := prog_3_method_8_code
def yX1_findNew : MethodName := ⟨RX1, "findNew", "(IIILSignRow$Replica;)Z"⟩
abbrev wsX1_findNew : List Cond := Cond.code yX1_findNew cX1_findNew 11 (some .boolean) :: zt
theorem cdX1_findNew : Cond.code yX1_findNew cX1_findNew 11 (some .boolean) ∈ zt := zt_of (i := 286) (by decide +kernel) (by decide +kernel)
theorem imX1_findNew : Cond.instanceMethod yX1_findNew ∈ zt := zt_of (i := 284) (by decide +kernel) (by decide +kernel)
theorem slX1_findNew : Cond.selects RX1 yX1_findNew yX1_findNew ∈ zt := zt_of (i := 285) (by decide +kernel) (by decide +kernel)
abbrev cX1_levelOf : ByteArray := prog_3_method_7_code
def yX1_levelOf : MethodName := ⟨RX1, "levelOf", "(II)I"⟩
abbrev wsX1_levelOf : List Cond := Cond.code yX1_levelOf cX1_levelOf 3 (some .int) :: zt
theorem cdX1_levelOf : Cond.code yX1_levelOf cX1_levelOf 3 (some .int) ∈ zt := zt_of (i := 290) (by decide +kernel) (by decide +kernel)
theorem imX1_levelOf : Cond.instanceMethod yX1_levelOf ∈ zt := zt_of (i := 288) (by decide +kernel) (by decide +kernel)
theorem slX1_levelOf : Cond.selects RX1 yX1_levelOf yX1_levelOf ∈ zt := zt_of (i := 289) (by decide +kernel) (by decide +kernel)
abbrev cX1_digitOf : ByteArray := prog_3_method_2_code
def yX1_digitOf : MethodName := ⟨RX1, "digitOf", "(I)I"⟩
abbrev wsX1_digitOf : List Cond := Cond.code yX1_digitOf cX1_digitOf 1 (some .int) :: zt
theorem cdX1_digitOf : Cond.code yX1_digitOf cX1_digitOf 1 (some .int) ∈ zt := zt_of (i := 293) (by decide +kernel) (by decide +kernel)
theorem stX1_digitOf : Cond.static yX1_digitOf ∈ zt := zt_of (i := 292) (by decide +kernel) (by decide +kernel)
abbrev cX1_baseOf : ByteArray := prog_3_method_6_code
def yX1_baseOf : MethodName := ⟨RX1, "baseOf", "(I)I"⟩
abbrev wsX1_baseOf : List Cond := Cond.code yX1_baseOf cX1_baseOf 1 (some .int) :: zt
theorem cdX1_baseOf : Cond.code yX1_baseOf cX1_baseOf 1 (some .int) ∈ zt := zt_of (i := 296) (by decide +kernel) (by decide +kernel)
theorem stX1_baseOf : Cond.static yX1_baseOf ∈ zt := zt_of (i := 295) (by decide +kernel) (by decide +kernel)
abbrev cX2_throwCoin : ByteArray := prog_4_method_2_code
def yX2_throwCoin : MethodName := ⟨RX2, "throwCoin", "()I"⟩
abbrev wsX2_throwCoin : List Cond := Cond.code yX2_throwCoin cX2_throwCoin 1 (some .int) :: zt
theorem cdX2_throwCoin : Cond.code yX2_throwCoin cX2_throwCoin 1 (some .int) ∈ zt := zt_of (i := 303) (by decide +kernel) (by decide +kernel)
theorem imX2_throwCoin : Cond.instanceMethod yX2_throwCoin ∈ zt := zt_of (i := 301) (by decide +kernel) (by decide +kernel)
theorem slX2_throwCoin : Cond.selects RX2 yX2_throwCoin yX2_throwCoin ∈ zt := zt_of (i := 302) (by decide +kernel) (by decide +kernel)
abbrev cX1_lastDigit : ByteArray := prog_3_method_9_code
def yX1_lastDigit : MethodName := ⟨RX1, "lastDigit", "(IIII)I"⟩
abbrev wsX1_lastDigit : List Cond := Cond.code yX1_lastDigit cX1_lastDigit 5 (some .int) :: zt
theorem cdX1_lastDigit : Cond.code yX1_lastDigit cX1_lastDigit 5 (some .int) ∈ zt := zt_of (i := 308) (by decide +kernel) (by decide +kernel)
theorem stX1_lastDigit : Cond.static yX1_lastDigit ∈ zt := zt_of (i := 307) (by decide +kernel) (by decide +kernel)
abbrev cX2_nextNumber : ByteArray := prog_4_method_3_code
def yX2_nextNumber : MethodName := ⟨RX2, "nextNumber", "()I"⟩
abbrev wsX2_nextNumber : List Cond := Cond.code yX2_nextNumber cX2_nextNumber 1 (some .int) :: zt
theorem cdX2_nextNumber : Cond.code yX2_nextNumber cX2_nextNumber 1 (some .int) ∈ zt := zt_of (i := 312) (by decide +kernel) (by decide +kernel)
theorem imX2_nextNumber : Cond.instanceMethod yX2_nextNumber ∈ zt := zt_of (i := 310) (by decide +kernel) (by decide +kernel)
theorem slX2_nextNumber : Cond.selects RX2 yX2_nextNumber yX2_nextNumber ∈ zt := zt_of (i := 311) (by decide +kernel) (by decide +kernel)
abbrev cX1_makeLevel : ByteArray := prog_3_method_5_code
def yX1_makeLevel : MethodName := ⟨RX1, "makeLevel", "(III)I"⟩
abbrev wsX1_makeLevel : List Cond := Cond.code yX1_makeLevel cX1_makeLevel 3 (some .int) :: zt
theorem cdX1_makeLevel : Cond.code yX1_makeLevel cX1_makeLevel 3 (some .int) ∈ zt := zt_of (i := 315) (by decide +kernel) (by decide +kernel)
theorem stX1_makeLevel : Cond.static yX1_makeLevel ∈ zt := zt_of (i := 314) (by decide +kernel) (by decide +kernel)
abbrev cX1_innerLevel : ByteArray := prog_3_method_10_code
def yX1_innerLevel : MethodName := ⟨RX1, "innerLevel", "(IILSignRow$Replica;)I"⟩
abbrev wsX1_innerLevel : List Cond := Cond.code yX1_innerLevel cX1_innerLevel 3 (some .int) :: zt
theorem cdX1_innerLevel : Cond.code yX1_innerLevel cX1_innerLevel 3 (some .int) ∈ zt := zt_of (i := 318) (by decide +kernel) (by decide +kernel)
theorem stX1_innerLevel : Cond.static yX1_innerLevel ∈ zt := zt_of (i := 317) (by decide +kernel) (by decide +kernel)
abbrev cX1_insert : ByteArray := prog_3_method_12_code
def yX1_insert : MethodName := ⟨RX1, "insert", "(II)V"⟩
abbrev wsX1_insert : List Cond := Cond.code yX1_insert cX1_insert 5 (none) :: zt
theorem cdX1_insert : Cond.code yX1_insert cX1_insert 5 (none) ∈ zt := zt_of (i := 322) (by decide +kernel) (by decide +kernel)
theorem imX1_insert : Cond.instanceMethod yX1_insert ∈ zt := zt_of (i := 320) (by decide +kernel) (by decide +kernel)
theorem slX1_insert : Cond.selects RX1 yX1_insert yX1_insert ∈ zt := zt_of (i := 321) (by decide +kernel) (by decide +kernel)
abbrev cX1_isBefore : ByteArray := prog_3_method_11_code
def yX1_isBefore : MethodName := ⟨RX1, "isBefore", "(II)Z"⟩
abbrev wsX1_isBefore : List Cond := Cond.code yX1_isBefore cX1_isBefore 6 (some .boolean) :: zt
theorem cdX1_isBefore : Cond.code yX1_isBefore cX1_isBefore 6 (some .boolean) ∈ zt := zt_of (i := 326) (by decide +kernel) (by decide +kernel)
theorem imX1_isBefore : Cond.instanceMethod yX1_isBefore ∈ zt := zt_of (i := 325) (by decide +kernel) (by decide +kernel)
theorem slX1_isBefore : Cond.selects RX1 yX1_isBefore yX1_isBefore ∈ zt := zt_of (i := 2) (by decide +kernel) (by decide +kernel)
abbrev cX4_perform : ByteArray := prog_1_method_28_code
def yX4_perform : MethodName := ⟨RX4, "perform", "(LSignRow$Replica;IIII)I"⟩
abbrev wsX4_perform : List Cond := Cond.code yX4_perform cX4_perform 8 (some .int) :: zt
theorem cdX4_perform : Cond.code yX4_perform cX4_perform 8 (some .int) ∈ zt := zt_of (i := 330) (by decide +kernel) (by decide +kernel)
theorem imX4_perform : Cond.instanceMethod yX4_perform ∈ zt := zt_of (i := 329) (by decide +kernel) (by decide +kernel)
theorem slX4_perform : Cond.selects RX4 yX4_perform yX4_perform ∈ zt := zt_of (i := 3) (by decide +kernel) (by decide +kernel)
abbrev cX0_add : ByteArray := prog_2_method_3_code
def yX0_add : MethodName := ⟨RX0, "add", "(IIIIIII)I"⟩
abbrev wsX0_add : List Cond := Cond.code yX0_add cX0_add 9 (some .int) :: zt
theorem cdX0_add : Cond.code yX0_add cX0_add 9 (some .int) ∈ zt := zt_of (i := 335) (by decide +kernel) (by decide +kernel)
theorem imX0_add : Cond.instanceMethod yX0_add ∈ zt := zt_of (i := 333) (by decide +kernel) (by decide +kernel)
theorem slX0_add : Cond.selects RX0 yX0_add yX0_add ∈ zt := zt_of (i := 334) (by decide +kernel) (by decide +kernel)
abbrev cX2_carryOut : ByteArray := prog_4_method_10_code
def yX2_carryOut : MethodName := ⟨RX2, "carryOut", "(I)V"⟩
abbrev wsX2_carryOut : List Cond := Cond.code yX2_carryOut cX2_carryOut 4 (none) :: zt
theorem cdX2_carryOut : Cond.code yX2_carryOut cX2_carryOut 4 (none) ∈ zt := zt_of (i := 339) (by decide +kernel) (by decide +kernel)
theorem imX2_carryOut : Cond.instanceMethod yX2_carryOut ∈ zt := zt_of (i := 337) (by decide +kernel) (by decide +kernel)
theorem slX2_carryOut : Cond.selects RX2 yX2_carryOut yX2_carryOut ∈ zt := zt_of (i := 338) (by decide +kernel) (by decide +kernel)
abbrev cX0_isLater : ByteArray := prog_2_method_4_code
def yX0_isLater : MethodName := ⟨RX0, "isLater", "(II)Z"⟩
abbrev wsX0_isLater : List Cond := Cond.code yX0_isLater cX0_isLater 3 (some .boolean) :: zt
theorem cdX0_isLater : Cond.code yX0_isLater cX0_isLater 3 (some .boolean) ∈ zt := zt_of (i := 346) (by decide +kernel) (by decide +kernel)
theorem imX0_isLater : Cond.instanceMethod yX0_isLater ∈ zt := zt_of (i := 344) (by decide +kernel) (by decide +kernel)
theorem slX0_isLater : Cond.selects RX0 yX0_isLater yX0_isLater ∈ zt := zt_of (i := 345) (by decide +kernel) (by decide +kernel)
abbrev cX3_send : ByteArray := prog_5_method_4_code
def yX3_send : MethodName := ⟨RX3, "send", "(II)V"⟩
abbrev wsX3_send : List Cond := Cond.code yX3_send cX3_send 3 (none) :: zt
theorem cdX3_send : Cond.code yX3_send cX3_send 3 (none) ∈ zt := zt_of (i := 350) (by decide +kernel) (by decide +kernel)
theorem imX3_send : Cond.instanceMethod yX3_send ∈ zt := zt_of (i := 348) (by decide +kernel) (by decide +kernel)
theorem slX3_send : Cond.selects RX3 yX3_send yX3_send ∈ zt := zt_of (i := 349) (by decide +kernel) (by decide +kernel)
abbrev cX3_isFull : ByteArray := prog_5_method_3_code
def yX3_isFull : MethodName := ⟨RX3, "isFull", "()Z"⟩
abbrev wsX3_isFull : List Cond := Cond.code yX3_isFull cX3_isFull 1 (some .boolean) :: zt
theorem cdX3_isFull : Cond.code yX3_isFull cX3_isFull 1 (some .boolean) ∈ zt := zt_of (i := 354) (by decide +kernel) (by decide +kernel)
theorem imX3_isFull : Cond.instanceMethod yX3_isFull ∈ zt := zt_of (i := 352) (by decide +kernel) (by decide +kernel)
theorem slX3_isFull : Cond.selects RX3 yX3_isFull yX3_isFull ∈ zt := zt_of (i := 353) (by decide +kernel) (by decide +kernel)
abbrev cX4_paste : ByteArray := prog_1_method_4_code
def yX4_paste : MethodName := ⟨RX4, "paste", "(IIII)I"⟩
abbrev wsX4_paste : List Cond := Cond.code yX4_paste cX4_paste 7 (some .int) :: zt
theorem cdX4_paste : Cond.code yX4_paste cX4_paste 7 (some .int) ∈ zt := zt_of (i := 358) (by decide +kernel) (by decide +kernel)
theorem imX4_paste : Cond.instanceMethod yX4_paste ∈ zt := zt_of (i := 356) (by decide +kernel) (by decide +kernel)
theorem slX4_paste : Cond.selects RX4 yX4_paste yX4_paste ∈ zt := zt_of (i := 357) (by decide +kernel) (by decide +kernel)
abbrev cX4_erase : ByteArray := prog_1_method_5_code
def yX4_erase : MethodName := ⟨RX4, "erase", "(II)I"⟩
abbrev wsX4_erase : List Cond := Cond.code yX4_erase cX4_erase 4 (some .int) :: zt
theorem cdX4_erase : Cond.code yX4_erase cX4_erase 4 (some .int) ∈ zt := zt_of (i := 362) (by decide +kernel) (by decide +kernel)
theorem imX4_erase : Cond.instanceMethod yX4_erase ∈ zt := zt_of (i := 360) (by decide +kernel) (by decide +kernel)
theorem slX4_erase : Cond.selects RX4 yX4_erase yX4_erase ∈ zt := zt_of (i := 361) (by decide +kernel) (by decide +kernel)
abbrev cX4_undo : ByteArray := prog_1_method_6_code
def yX4_undo : MethodName := ⟨RX4, "undo", "(I)I"⟩
abbrev wsX4_undo : List Cond := Cond.code yX4_undo cX4_undo 5 (some .int) :: zt
theorem cdX4_undo : Cond.code yX4_undo cX4_undo 5 (some .int) ∈ zt := zt_of (i := 367) (by decide +kernel) (by decide +kernel)
theorem imX4_undo : Cond.instanceMethod yX4_undo ∈ zt := zt_of (i := 365) (by decide +kernel) (by decide +kernel)
theorem slX4_undo : Cond.selects RX4 yX4_undo yX4_undo ∈ zt := zt_of (i := 366) (by decide +kernel) (by decide +kernel)
abbrev cX0_lastToUndo : ByteArray := prog_2_method_5_code
def yX0_lastToUndo : MethodName := ⟨RX0, "lastToUndo", "(I)I"⟩
abbrev wsX0_lastToUndo : List Cond := Cond.code yX0_lastToUndo cX0_lastToUndo 3 (some .int) :: zt
theorem cdX0_lastToUndo : Cond.code yX0_lastToUndo cX0_lastToUndo 3 (some .int) ∈ zt := zt_of (i := 371) (by decide +kernel) (by decide +kernel)
theorem imX0_lastToUndo : Cond.instanceMethod yX0_lastToUndo ∈ zt := zt_of (i := 369) (by decide +kernel) (by decide +kernel)
theorem slX0_lastToUndo : Cond.selects RX0 yX0_lastToUndo yX0_lastToUndo ∈ zt := zt_of (i := 370) (by decide +kernel) (by decide +kernel)
abbrev cX4_mark : ByteArray := prog_1_method_7_code
def yX4_mark : MethodName := ⟨RX4, "mark", "(IIIIZ)I"⟩
abbrev wsX4_mark : List Cond := Cond.code yX4_mark cX4_mark 8 (some .int) :: zt
theorem cdX4_mark : Cond.code yX4_mark cX4_mark 8 (some .int) ∈ zt := zt_of (i := 375) (by decide +kernel) (by decide +kernel)
theorem imX4_mark : Cond.instanceMethod yX4_mark ∈ zt := zt_of (i := 373) (by decide +kernel) (by decide +kernel)
theorem slX4_mark : Cond.selects RX4 yX4_mark yX4_mark ∈ zt := zt_of (i := 374) (by decide +kernel) (by decide +kernel)
abbrev cX4_deliver : ByteArray := prog_1_method_8_code
def yX4_deliver : MethodName := ⟨RX4, "deliver", "(I)I"⟩
abbrev wsX4_deliver : List Cond := Cond.code yX4_deliver cX4_deliver 4 (some .int) :: zt
theorem cdX4_deliver : Cond.code yX4_deliver cX4_deliver 4 (some .int) ∈ zt := zt_of (i := 379) (by decide +kernel) (by decide +kernel)
theorem imX4_deliver : Cond.instanceMethod yX4_deliver ∈ zt := zt_of (i := 377) (by decide +kernel) (by decide +kernel)
theorem slX4_deliver : Cond.selects RX4 yX4_deliver yX4_deliver ∈ zt := zt_of (i := 378) (by decide +kernel) (by decide +kernel)
abbrev cX3_holds : ByteArray := prog_5_method_2_code
def yX3_holds : MethodName := ⟨RX3, "holds", "(I)Z"⟩
abbrev wsX3_holds : List Cond := Cond.code yX3_holds cX3_holds 2 (some .boolean) :: zt
theorem cdX3_holds : Cond.code yX3_holds cX3_holds 2 (some .boolean) ∈ zt := zt_of (i := 383) (by decide +kernel) (by decide +kernel)
theorem imX3_holds : Cond.instanceMethod yX3_holds ∈ zt := zt_of (i := 381) (by decide +kernel) (by decide +kernel)
theorem slX3_holds : Cond.selects RX3 yX3_holds yX3_holds ∈ zt := zt_of (i := 382) (by decide +kernel) (by decide +kernel)
abbrev cX3_drop : ByteArray := prog_5_method_5_code
def yX3_drop : MethodName := ⟨RX3, "drop", "(I)V"⟩
abbrev wsX3_drop : List Cond := Cond.code yX3_drop cX3_drop 3 (none) :: zt
theorem cdX3_drop : Cond.code yX3_drop cX3_drop 3 (none) ∈ zt := zt_of (i := 387) (by decide +kernel) (by decide +kernel)
theorem imX3_drop : Cond.instanceMethod yX3_drop ∈ zt := zt_of (i := 385) (by decide +kernel) (by decide +kernel)
theorem slX3_drop : Cond.selects RX3 yX3_drop yX3_drop ∈ zt := zt_of (i := 386) (by decide +kernel) (by decide +kernel)
abbrev cX2_receive : ByteArray := prog_4_method_7_code
def yX2_receive : MethodName := ⟨RX2, "receive", "(I)I"⟩
abbrev wsX2_receive : List Cond := Cond.code yX2_receive cX2_receive 2 (some .int) :: zt
theorem cdX2_receive : Cond.code yX2_receive cX2_receive 2 (some .int) ∈ zt := zt_of (i := 391) (by decide +kernel) (by decide +kernel)
theorem imX2_receive : Cond.instanceMethod yX2_receive ∈ zt := zt_of (i := 389) (by decide +kernel) (by decide +kernel)
theorem slX2_receive : Cond.selects RX2 yX2_receive yX2_receive ∈ zt := zt_of (i := 390) (by decide +kernel) (by decide +kernel)
abbrev cX2_isReady : ByteArray := prog_4_method_6_code
def yX2_isReady : MethodName := ⟨RX2, "isReady", "(I)Z"⟩
abbrev wsX2_isReady : List Cond := Cond.code yX2_isReady cX2_isReady 2 (some .boolean) :: zt
theorem cdX2_isReady : Cond.code yX2_isReady cX2_isReady 2 (some .boolean) ∈ zt := zt_of (i := 395) (by decide +kernel) (by decide +kernel)
theorem imX2_isReady : Cond.instanceMethod yX2_isReady ∈ zt := zt_of (i := 394) (by decide +kernel) (by decide +kernel)
theorem slX2_isReady : Cond.selects RX2 yX2_isReady yX2_isReady ∈ zt := zt_of (i := 4) (by decide +kernel) (by decide +kernel)
abbrev cX2_doWhatWaited : ByteArray := prog_4_method_8_code
def yX2_doWhatWaited : MethodName := ⟨RX2, "doWhatWaited", "()V"⟩
abbrev wsX2_doWhatWaited : List Cond := Cond.code yX2_doWhatWaited cX2_doWhatWaited 3 (none) :: zt
theorem cdX2_doWhatWaited : Cond.code yX2_doWhatWaited cX2_doWhatWaited 3 (none) ∈ zt := zt_of (i := 400) (by decide +kernel) (by decide +kernel)
theorem imX2_doWhatWaited : Cond.instanceMethod yX2_doWhatWaited ∈ zt := zt_of (i := 399) (by decide +kernel) (by decide +kernel)
theorem slX2_doWhatWaited : Cond.selects RX2 yX2_doWhatWaited yX2_doWhatWaited ∈ zt := zt_of (i := 5) (by decide +kernel) (by decide +kernel)
abbrev cX2_firstReady : ByteArray := prog_4_method_9_code
def yX2_firstReady : MethodName := ⟨RX2, "firstReady", "()I"⟩
abbrev wsX2_firstReady : List Cond := Cond.code yX2_firstReady cX2_firstReady 2 (some .int) :: zt
theorem cdX2_firstReady : Cond.code yX2_firstReady cX2_firstReady 2 (some .int) ∈ zt := zt_of (i := 404) (by decide +kernel) (by decide +kernel)
theorem imX2_firstReady : Cond.instanceMethod yX2_firstReady ∈ zt := zt_of (i := 403) (by decide +kernel) (by decide +kernel)
theorem slX2_firstReady : Cond.selects RX2 yX2_firstReady yX2_firstReady ∈ zt := zt_of (i := 6) (by decide +kernel) (by decide +kernel)
abbrev cX4_lose : ByteArray := prog_1_method_9_code
def yX4_lose : MethodName := ⟨RX4, "lose", "(I)I"⟩
abbrev wsX4_lose : List Cond := Cond.code yX4_lose cX4_lose 2 (some .int) :: zt
theorem cdX4_lose : Cond.code yX4_lose cX4_lose 2 (some .int) ∈ zt := zt_of (i := 408) (by decide +kernel) (by decide +kernel)
theorem imX4_lose : Cond.instanceMethod yX4_lose ∈ zt := zt_of (i := 406) (by decide +kernel) (by decide +kernel)
theorem slX4_lose : Cond.selects RX4 yX4_lose yX4_lose ∈ zt := zt_of (i := 407) (by decide +kernel) (by decide +kernel)
abbrev cX4_repeat : ByteArray := prog_1_method_10_code
def yX4_repeat : MethodName := ⟨RX4, "repeat", "(I)I"⟩
abbrev wsX4_repeat : List Cond := Cond.code yX4_repeat cX4_repeat 2 (some .int) :: zt
theorem cdX4_repeat : Cond.code yX4_repeat cX4_repeat 2 (some .int) ∈ zt := zt_of (i := 412) (by decide +kernel) (by decide +kernel)
theorem imX4_repeat : Cond.instanceMethod yX4_repeat ∈ zt := zt_of (i := 410) (by decide +kernel) (by decide +kernel)
theorem slX4_repeat : Cond.selects RX4 yX4_repeat yX4_repeat ∈ zt := zt_of (i := 411) (by decide +kernel) (by decide +kernel)
abbrev cX4_sync : ByteArray := prog_1_method_11_code
def yX4_sync : MethodName := ⟨RX4, "sync", "(II)I"⟩
abbrev wsX4_sync : List Cond := Cond.code yX4_sync cX4_sync 6 (some .int) :: zt
theorem cdX4_sync : Cond.code yX4_sync cX4_sync 6 (some .int) ∈ zt := zt_of (i := 417) (by decide +kernel) (by decide +kernel)
theorem imX4_sync : Cond.instanceMethod yX4_sync ∈ zt := zt_of (i := 415) (by decide +kernel) (by decide +kernel)
theorem slX4_sync : Cond.selects RX4 yX4_sync yX4_sync ∈ zt := zt_of (i := 416) (by decide +kernel) (by decide +kernel)
abbrev cX2_doneInAll : ByteArray := prog_4_method_4_code
def yX2_doneInAll : MethodName := ⟨RX2, "doneInAll", "()I"⟩
abbrev wsX2_doneInAll : List Cond := Cond.code yX2_doneInAll cX2_doneInAll 3 (some .int) :: zt
theorem cdX2_doneInAll : Cond.code yX2_doneInAll cX2_doneInAll 3 (some .int) ∈ zt := zt_of (i := 421) (by decide +kernel) (by decide +kernel)
theorem imX2_doneInAll : Cond.instanceMethod yX2_doneInAll ∈ zt := zt_of (i := 419) (by decide +kernel) (by decide +kernel)
theorem slX2_doneInAll : Cond.selects RX2 yX2_doneInAll yX2_doneInAll ∈ zt := zt_of (i := 420) (by decide +kernel) (by decide +kernel)
abbrev cX4_length : ByteArray := prog_1_method_12_code
def yX4_length : MethodName := ⟨RX4, "length", "(I)I"⟩
abbrev wsX4_length : List Cond := Cond.code yX4_length cX4_length 2 (some .int) :: zt
theorem cdX4_length : Cond.code yX4_length cX4_length 2 (some .int) ∈ zt := zt_of (i := 426) (by decide +kernel) (by decide +kernel)
theorem imX4_length : Cond.instanceMethod yX4_length ∈ zt := zt_of (i := 424) (by decide +kernel) (by decide +kernel)
theorem slX4_length : Cond.selects RX4 yX4_length yX4_length ∈ zt := zt_of (i := 425) (by decide +kernel) (by decide +kernel)
abbrev cX4_cursor : ByteArray := prog_1_method_16_code
def yX4_cursor : MethodName := ⟨RX4, "cursor", "(III)I"⟩
abbrev wsX4_cursor : List Cond := Cond.code yX4_cursor cX4_cursor 5 (some .int) :: zt
theorem cdX4_cursor : Cond.code yX4_cursor cX4_cursor 5 (some .int) ∈ zt := zt_of (i := 431) (by decide +kernel) (by decide +kernel)
theorem imX4_cursor : Cond.instanceMethod yX4_cursor ∈ zt := zt_of (i := 429) (by decide +kernel) (by decide +kernel)
theorem slX4_cursor : Cond.selects RX4 yX4_cursor yX4_cursor ∈ zt := zt_of (i := 430) (by decide +kernel) (by decide +kernel)
abbrev cX4_isCursor : ByteArray := prog_1_method_24_code
def yX4_isCursor : MethodName := ⟨RX4, "isCursor", "(I)Z"⟩
abbrev wsX4_isCursor : List Cond := Cond.code yX4_isCursor cX4_isCursor 1 (some .boolean) :: zt
theorem cdX4_isCursor : Cond.code yX4_isCursor cX4_isCursor 1 (some .boolean) ∈ zt := zt_of (i := 434) (by decide +kernel) (by decide +kernel)
theorem stX4_isCursor : Cond.static yX4_isCursor ∈ zt := zt_of (i := 433) (by decide +kernel) (by decide +kernel)
abbrev cX2_cursorPlace : ByteArray := prog_4_method_18_code
def yX2_cursorPlace : MethodName := ⟨RX2, "cursorPlace", "(I)I"⟩
abbrev wsX2_cursorPlace : List Cond := Cond.code yX2_cursorPlace cX2_cursorPlace 3 (some .int) :: zt
theorem cdX2_cursorPlace : Cond.code yX2_cursorPlace cX2_cursorPlace 3 (some .int) ∈ zt := zt_of (i := 438) (by decide +kernel) (by decide +kernel)
theorem imX2_cursorPlace : Cond.instanceMethod yX2_cursorPlace ∈ zt := zt_of (i := 436) (by decide +kernel) (by decide +kernel)
theorem slX2_cursorPlace : Cond.selects RX2 yX2_cursorPlace yX2_cursorPlace ∈ zt := zt_of (i := 437) (by decide +kernel) (by decide +kernel)
abbrev cX4_at : ByteArray := prog_1_method_17_code
def yX4_at : MethodName := ⟨RX4, "at", "(II)I"⟩
abbrev wsX4_at : List Cond := Cond.code yX4_at cX4_at 3 (some .int) :: zt
theorem cdX4_at : Cond.code yX4_at cX4_at 3 (some .int) ∈ zt := zt_of (i := 442) (by decide +kernel) (by decide +kernel)
theorem imX4_at : Cond.instanceMethod yX4_at ∈ zt := zt_of (i := 440) (by decide +kernel) (by decide +kernel)
theorem slX4_at : Cond.selects RX4 yX4_at yX4_at ∈ zt := zt_of (i := 441) (by decide +kernel) (by decide +kernel)
abbrev cX4_about : ByteArray := prog_1_method_18_code
def yX4_about : MethodName := ⟨RX4, "about", "(III)I"⟩
abbrev wsX4_about : List Cond := Cond.code yX4_about cX4_about 4 (some .int) :: zt
theorem cdX4_about : Cond.code yX4_about cX4_about 4 (some .int) ∈ zt := zt_of (i := 446) (by decide +kernel) (by decide +kernel)
theorem imX4_about : Cond.instanceMethod yX4_about ∈ zt := zt_of (i := 444) (by decide +kernel) (by decide +kernel)
theorem slX4_about : Cond.selects RX4 yX4_about yX4_about ∈ zt := zt_of (i := 445) (by decide +kernel) (by decide +kernel)
abbrev cX4_same : ByteArray := prog_1_method_19_code
def yX4_same : MethodName := ⟨RX4, "same", "(II)I"⟩
abbrev wsX4_same : List Cond := Cond.code yX4_same cX4_same 4 (some .int) :: zt
theorem cdX4_same : Cond.code yX4_same cX4_same 4 (some .int) ∈ zt := zt_of (i := 450) (by decide +kernel) (by decide +kernel)
theorem imX4_same : Cond.instanceMethod yX4_same ∈ zt := zt_of (i := 448) (by decide +kernel) (by decide +kernel)
theorem slX4_same : Cond.selects RX4 yX4_same yX4_same ∈ zt := zt_of (i := 449) (by decide +kernel) (by decide +kernel)
abbrev cX4_isAlike : ByteArray := prog_1_method_29_code
def yX4_isAlike : MethodName := ⟨RX4, "isAlike", "(LSignRow$Replica;LSignRow$Replica;I)Z"⟩
abbrev wsX4_isAlike : List Cond := Cond.code yX4_isAlike cX4_isAlike 4 (some .boolean) :: zt
theorem cdX4_isAlike : Cond.code yX4_isAlike cX4_isAlike 4 (some .boolean) ∈ zt := zt_of (i := 453) (by decide +kernel) (by decide +kernel)
theorem stX4_isAlike : Cond.static yX4_isAlike ∈ zt := zt_of (i := 452) (by decide +kernel) (by decide +kernel)
abbrev cX2_kindsOf : ByteArray := prog_4_method_19_code
def yX2_kindsOf : MethodName := ⟨RX2, "kindsOf", "(I)I"⟩
abbrev wsX2_kindsOf : List Cond := Cond.code yX2_kindsOf cX2_kindsOf 5 (some .int) :: zt
theorem cdX2_kindsOf : Cond.code yX2_kindsOf cX2_kindsOf 5 (some .int) ∈ zt := zt_of (i := 458) (by decide +kernel) (by decide +kernel)
theorem imX2_kindsOf : Cond.instanceMethod yX2_kindsOf ∈ zt := zt_of (i := 456) (by decide +kernel) (by decide +kernel)
theorem slX2_kindsOf : Cond.selects RX2 yX2_kindsOf yX2_kindsOf ∈ zt := zt_of (i := 457) (by decide +kernel) (by decide +kernel)
abbrev cX2_isMarkedBy : ByteArray := prog_4_method_20_code
def yX2_isMarkedBy : MethodName := ⟨RX2, "isMarkedBy", "(II)Z"⟩
abbrev wsX2_isMarkedBy : List Cond := Cond.code yX2_isMarkedBy cX2_isMarkedBy 4 (some .boolean) :: zt
theorem cdX2_isMarkedBy : Cond.code yX2_isMarkedBy cX2_isMarkedBy 4 (some .boolean) ∈ zt := zt_of (i := 462) (by decide +kernel) (by decide +kernel)
theorem imX2_isMarkedBy : Cond.instanceMethod yX2_isMarkedBy ∈ zt := zt_of (i := 461) (by decide +kernel) (by decide +kernel)
theorem slX2_isMarkedBy : Cond.selects RX2 yX2_isMarkedBy yX2_isMarkedBy ∈ zt := zt_of (i := 7) (by decide +kernel) (by decide +kernel)
abbrev cX2_bitsOfLatest : ByteArray := prog_4_method_21_code
def yX2_bitsOfLatest : MethodName := ⟨RX2, "bitsOfLatest", "()I"⟩
abbrev wsX2_bitsOfLatest : List Cond := Cond.code yX2_bitsOfLatest cX2_bitsOfLatest 4 (some .int) :: zt
theorem cdX2_bitsOfLatest : Cond.code yX2_bitsOfLatest cX2_bitsOfLatest 4 (some .int) ∈ zt := zt_of (i := 466) (by decide +kernel) (by decide +kernel)
theorem imX2_bitsOfLatest : Cond.instanceMethod yX2_bitsOfLatest ∈ zt := zt_of (i := 465) (by decide +kernel) (by decide +kernel)
theorem slX2_bitsOfLatest : Cond.selects RX2 yX2_bitsOfLatest yX2_bitsOfLatest ∈ zt := zt_of (i := 8) (by decide +kernel) (by decide +kernel)
abbrev cX4_deed : ByteArray := prog_1_method_20_code
def yX4_deed : MethodName := ⟨RX4, "deed", "(II)I"⟩
abbrev wsX4_deed : List Cond := Cond.code yX4_deed cX4_deed 3 (some .int) :: zt
theorem cdX4_deed : Cond.code yX4_deed cX4_deed 3 (some .int) ∈ zt := zt_of (i := 470) (by decide +kernel) (by decide +kernel)
theorem imX4_deed : Cond.instanceMethod yX4_deed ∈ zt := zt_of (i := 468) (by decide +kernel) (by decide +kernel)
theorem slX4_deed : Cond.selects RX4 yX4_deed yX4_deed ∈ zt := zt_of (i := 469) (by decide +kernel) (by decide +kernel)
abbrev cX4_message : ByteArray := prog_1_method_21_code
def yX4_message : MethodName := ⟨RX4, "message", "(II)I"⟩
abbrev wsX4_message : List Cond := Cond.code yX4_message cX4_message 3 (some .int) :: zt
theorem cdX4_message : Cond.code yX4_message cX4_message 3 (some .int) ∈ zt := zt_of (i := 474) (by decide +kernel) (by decide +kernel)
theorem imX4_message : Cond.instanceMethod yX4_message ∈ zt := zt_of (i := 472) (by decide +kernel) (by decide +kernel)
theorem slX4_message : Cond.selects RX4 yX4_message yX4_message ∈ zt := zt_of (i := 473) (by decide +kernel) (by decide +kernel)
abbrev cX4_count : ByteArray := prog_1_method_22_code
def yX4_count : MethodName := ⟨RX4, "count", "(I)I"⟩
abbrev wsX4_count : List Cond := Cond.code yX4_count cX4_count 2 (some .int) :: zt
theorem cdX4_count : Cond.code yX4_count cX4_count 2 (some .int) ∈ zt := zt_of (i := 478) (by decide +kernel) (by decide +kernel)
theorem imX4_count : Cond.instanceMethod yX4_count ∈ zt := zt_of (i := 476) (by decide +kernel) (by decide +kernel)
theorem slX4_count : Cond.selects RX4 yX4_count yX4_count ∈ zt := zt_of (i := 477) (by decide +kernel) (by decide +kernel)
abbrev cL_sign : ByteArray := method_3_code
def yL_sign : MethodName := ⟨RL, "sign", "(LSignRow;II[J)I"⟩
theorem stL_sign : Cond.static yL_sign ∈ zt := zt_of (i := 480) (by decide +kernel) (by decide +kernel)
abbrev cX4_sign : ByteArray := prog_1_method_13_code
def yX4_sign : MethodName := ⟨RX4, "sign", "(II)I"⟩
abbrev wsX4_sign : List Cond := Cond.code yX4_sign cX4_sign 3 (some .int) :: zt
theorem cdX4_sign : Cond.code yX4_sign cX4_sign 3 (some .int) ∈ zt := zt_of (i := 486) (by decide +kernel) (by decide +kernel)
theorem imX4_sign : Cond.instanceMethod yX4_sign ∈ zt := zt_of (i := 484) (by decide +kernel) (by decide +kernel)
theorem slX4_sign : Cond.selects RX4 yX4_sign yX4_sign ∈ zt := zt_of (i := 485) (by decide +kernel) (by decide +kernel)
abbrev cX4_livingSign : ByteArray := prog_1_method_26_code
def yX4_livingSign : MethodName := ⟨RX4, "livingSign", "(II)I"⟩
abbrev wsX4_livingSign : List Cond := Cond.code yX4_livingSign cX4_livingSign 4 (some .int) :: zt
theorem cdX4_livingSign : Cond.code yX4_livingSign cX4_livingSign 4 (some .int) ∈ zt := zt_of (i := 490) (by decide +kernel) (by decide +kernel)
theorem imX4_livingSign : Cond.instanceMethod yX4_livingSign ∈ zt := zt_of (i := 489) (by decide +kernel) (by decide +kernel)
theorem slX4_livingSign : Cond.selects RX4 yX4_livingSign yX4_livingSign ∈ zt := zt_of (i := 9) (by decide +kernel) (by decide +kernel)
abbrev cL_path : ByteArray := method_4_code
def yL_path : MethodName := ⟨RL, "path", "(LSignRow;IIII[J)I"⟩
theorem stL_path : Cond.static yL_path ∈ zt := zt_of (i := 558) (by decide +kernel) (by decide +kernel)
abbrev cX4_path : ByteArray := prog_1_method_14_code
def yX4_path : MethodName := ⟨RX4, "path", "(IIII)I"⟩
abbrev wsX4_path : List Cond := Cond.code yX4_path cX4_path 8 (some .int) :: zt
theorem cdX4_path : Cond.code yX4_path cX4_path 8 (some .int) ∈ zt := zt_of (i := 563) (by decide +kernel) (by decide +kernel)
theorem imX4_path : Cond.instanceMethod yX4_path ∈ zt := zt_of (i := 561) (by decide +kernel) (by decide +kernel)
theorem slX4_path : Cond.selects RX4 yX4_path yX4_path ∈ zt := zt_of (i := 562) (by decide +kernel) (by decide +kernel)
abbrev cX1_siteOf : ByteArray := prog_3_method_3_code
def yX1_siteOf : MethodName := ⟨RX1, "siteOf", "(I)I"⟩
abbrev wsX1_siteOf : List Cond := Cond.code yX1_siteOf cX1_siteOf 1 (some .int) :: zt
theorem cdX1_siteOf : Cond.code yX1_siteOf cX1_siteOf 1 (some .int) ∈ zt := zt_of (i := 569) (by decide +kernel) (by decide +kernel)
theorem stX1_siteOf : Cond.static yX1_siteOf ∈ zt := zt_of (i := 568) (by decide +kernel) (by decide +kernel)
abbrev cX1_countOf : ByteArray := prog_3_method_4_code
def yX1_countOf : MethodName := ⟨RX1, "countOf", "(I)I"⟩
abbrev wsX1_countOf : List Cond := Cond.code yX1_countOf cX1_countOf 1 (some .int) :: zt
theorem cdX1_countOf : Cond.code yX1_countOf cX1_countOf 1 (some .int) ∈ zt := zt_of (i := 572) (by decide +kernel) (by decide +kernel)
theorem stX1_countOf : Cond.static yX1_countOf ∈ zt := zt_of (i := 571) (by decide +kernel) (by decide +kernel)
abbrev cL_kinds : ByteArray := method_5_code
def yL_kinds : MethodName := ⟨RL, "kinds", "(LSignRow;II[J)I"⟩
theorem stL_kinds : Cond.static yL_kinds ∈ zt := zt_of (i := 574) (by decide +kernel) (by decide +kernel)
abbrev cX4_kinds : ByteArray := prog_1_method_15_code
def yX4_kinds : MethodName := ⟨RX4, "kinds", "(II)I"⟩
abbrev wsX4_kinds : List Cond := Cond.code yX4_kinds cX4_kinds 4 (some .int) :: zt
theorem cdX4_kinds : Cond.code yX4_kinds cX4_kinds 4 (some .int) ∈ zt := zt_of (i := 579) (by decide +kernel) (by decide +kernel)
theorem imX4_kinds : Cond.instanceMethod yX4_kinds ∈ zt := zt_of (i := 577) (by decide +kernel) (by decide +kernel)
theorem slX4_kinds : Cond.selects RX4 yX4_kinds yX4_kinds ∈ zt := zt_of (i := 578) (by decide +kernel) (by decide +kernel)
abbrev cX5_thrown : ByteArray := prog_7_method_1_code
def yX5_thrown : MethodName := ⟨RX5, "thrown", "()I"⟩
abbrev wsX5_thrown : List Cond := Cond.code yX5_thrown cX5_thrown 1 (some .int) :: zt
theorem cdX5_thrown : Cond.code yX5_thrown cX5_thrown 1 (some .int) ∈ zt := zt_of (i := 583) (by decide +kernel) (by decide +kernel)
theorem imX5_thrown : Cond.instanceMethod yX5_thrown ∈ zt := zt_of (i := 581) (by decide +kernel) (by decide +kernel)
theorem slX5_thrown : Cond.selects RX5 yX5_thrown yX5_thrown ∈ zt := zt_of (i := 582) (by decide +kernel) (by decide +kernel)
abbrev cX5_init : ByteArray := prog_7_method_2_code
def yX5_init : MethodName := ⟨RX5, "<init>", "()V"⟩
abbrev wsX5_init : List Cond := Cond.code yX5_init cX5_init 2 (none) :: zt
theorem cdX5_init : Cond.code yX5_init cX5_init 2 (none) ∈ zt := zt_of (i := 588) (by decide +kernel) (by decide +kernel)
theorem imX5_init : Cond.instanceMethod yX5_init ∈ zt := zt_of (i := 587) (by decide +kernel) (by decide +kernel)
abbrev cX5_stream : ByteArray := prog_7_method_5_code
def yX5_stream : MethodName := ⟨RX5, "stream", "(II)I"⟩
abbrev wsX5_stream : List Cond := Cond.code yX5_stream cX5_stream 4 (some .int) :: zt
theorem cdX5_stream : Cond.code yX5_stream cX5_stream 4 (some .int) ∈ zt := zt_of (i := 693) (by decide +kernel) (by decide +kernel)
theorem imX5_stream : Cond.instanceMethod yX5_stream ∈ zt := zt_of (i := 691) (by decide +kernel) (by decide +kernel)
theorem slX5_stream : Cond.selects RX5 yX5_stream yX5_stream ∈ zt := zt_of (i := 692) (by decide +kernel) (by decide +kernel)
abbrev cX5_isReplica : ByteArray := prog_7_method_4_code
def yX5_isReplica : MethodName := ⟨RX5, "isReplica", "(I)Z"⟩
abbrev wsX5_isReplica : List Cond := Cond.code yX5_isReplica cX5_isReplica 1 (some .boolean) :: zt
theorem cdX5_isReplica : Cond.code yX5_isReplica cX5_isReplica 1 (some .boolean) ∈ zt := zt_of (i := 696) (by decide +kernel) (by decide +kernel)
theorem stX5_isReplica : Cond.static yX5_isReplica ∈ zt := zt_of (i := 695) (by decide +kernel) (by decide +kernel)
abbrev cX5_in : ByteArray := prog_7_method_3_code
def yX5_in : MethodName := ⟨RX5, "in", "(JJJ)Z"⟩
abbrev wsX5_in : List Cond := Cond.code yX5_in cX5_in 6 (some .boolean) :: zt
theorem cdX5_in : Cond.code yX5_in cX5_in 6 (some .boolean) ∈ zt := zt_of (i := 700) (by decide +kernel) (by decide +kernel)
theorem stX5_in : Cond.static yX5_in ∈ zt := zt_of (i := 699) (by decide +kernel) (by decide +kernel)
abbrev cX5_type : ByteArray := prog_7_method_24_code
def yX5_type : MethodName := ⟨RX5, "type", "(III)I"⟩
abbrev wsX5_type : List Cond := Cond.code yX5_type cX5_type 4 (some .int) :: zt
theorem cdX5_type : Cond.code yX5_type cX5_type 4 (some .int) ∈ zt := zt_of (i := 704) (by decide +kernel) (by decide +kernel)
theorem imX5_type : Cond.instanceMethod yX5_type ∈ zt := zt_of (i := 702) (by decide +kernel) (by decide +kernel)
theorem slX5_type : Cond.selects RX5 yX5_type yX5_type ∈ zt := zt_of (i := 703) (by decide +kernel) (by decide +kernel)
abbrev cX5_sizeOf : ByteArray := prog_7_method_9_code
def yX5_sizeOf : MethodName := ⟨RX5, "sizeOf", "(I)I"⟩
abbrev wsX5_sizeOf : List Cond := Cond.code yX5_sizeOf cX5_sizeOf 4 (some .int) :: zt
theorem cdX5_sizeOf : Cond.code yX5_sizeOf cX5_sizeOf 4 (some .int) ∈ zt := zt_of (i := 708) (by decide +kernel) (by decide +kernel)
theorem imX5_sizeOf : Cond.instanceMethod yX5_sizeOf ∈ zt := zt_of (i := 707) (by decide +kernel) (by decide +kernel)
theorem slX5_sizeOf : Cond.selects RX5 yX5_sizeOf yX5_sizeOf ∈ zt := zt_of (i := 11) (by decide +kernel) (by decide +kernel)
abbrev cX5_lives : ByteArray := prog_7_method_7_code
def yX5_lives : MethodName := ⟨RX5, "lives", "(II)Z"⟩
abbrev wsX5_lives : List Cond := Cond.code yX5_lives cX5_lives 4 (some .boolean) :: zt
theorem cdX5_lives : Cond.code yX5_lives cX5_lives 4 (some .boolean) ∈ zt := zt_of (i := 712) (by decide +kernel) (by decide +kernel)
theorem imX5_lives : Cond.instanceMethod yX5_lives ∈ zt := zt_of (i := 711) (by decide +kernel) (by decide +kernel)
theorem slX5_lives : Cond.selects RX5 yX5_lives yX5_lives ∈ zt := zt_of (i := 12) (by decide +kernel) (by decide +kernel)
abbrev cX5_has : ByteArray := prog_7_method_6_code
def yX5_has : MethodName := ⟨RX5, "has", "(II)Z"⟩
abbrev wsX5_has : List Cond := Cond.code yX5_has cX5_has 3 (some .boolean) :: zt
theorem cdX5_has : Cond.code yX5_has cX5_has 3 (some .boolean) ∈ zt := zt_of (i := 716) (by decide +kernel) (by decide +kernel)
theorem imX5_has : Cond.instanceMethod yX5_has ∈ zt := zt_of (i := 715) (by decide +kernel) (by decide +kernel)
theorem slX5_has : Cond.selects RX5 yX5_has yX5_has ∈ zt := zt_of (i := 13) (by decide +kernel) (by decide +kernel)
abbrev cX5_typeOne : ByteArray := prog_7_method_23_code
def yX5_typeOne : MethodName := ⟨RX5, "typeOne", "(III)I"⟩
abbrev wsX5_typeOne : List Cond := Cond.code yX5_typeOne cX5_typeOne 5 (some .int) :: zt
theorem cdX5_typeOne : Cond.code yX5_typeOne cX5_typeOne 5 (some .int) ∈ zt := zt_of (i := 722) (by decide +kernel) (by decide +kernel)
theorem imX5_typeOne : Cond.instanceMethod yX5_typeOne ∈ zt := zt_of (i := 721) (by decide +kernel) (by decide +kernel)
theorem slX5_typeOne : Cond.selects RX5 yX5_typeOne yX5_typeOne ∈ zt := zt_of (i := 14) (by decide +kernel) (by decide +kernel)
abbrev cX5_signAt : ByteArray := prog_7_method_10_code
def yX5_signAt : MethodName := ⟨RX5, "signAt", "(II)I"⟩
abbrev wsX5_signAt : List Cond := Cond.code yX5_signAt cX5_signAt 5 (some .int) :: zt
theorem cdX5_signAt : Cond.code yX5_signAt cX5_signAt 5 (some .int) ∈ zt := zt_of (i := 726) (by decide +kernel) (by decide +kernel)
theorem imX5_signAt : Cond.instanceMethod yX5_signAt ∈ zt := zt_of (i := 725) (by decide +kernel) (by decide +kernel)
theorem slX5_signAt : Cond.selects RX5 yX5_signAt yX5_signAt ∈ zt := zt_of (i := 15) (by decide +kernel) (by decide +kernel)
abbrev cX5_nextOf : ByteArray := prog_7_method_11_code
def yX5_nextOf : MethodName := ⟨RX5, "nextOf", "(II)I"⟩
abbrev wsX5_nextOf : List Cond := Cond.code yX5_nextOf cX5_nextOf 4 (some .int) :: zt
theorem cdX5_nextOf : Cond.code yX5_nextOf cX5_nextOf 4 (some .int) ∈ zt := zt_of (i := 730) (by decide +kernel) (by decide +kernel)
theorem imX5_nextOf : Cond.instanceMethod yX5_nextOf ∈ zt := zt_of (i := 729) (by decide +kernel) (by decide +kernel)
theorem slX5_nextOf : Cond.selects RX5 yX5_nextOf yX5_nextOf ∈ zt := zt_of (i := 16) (by decide +kernel) (by decide +kernel)
abbrev cX5_findsPath : ByteArray := prog_7_method_14_code
def yX5_findsPath : MethodName := ⟨RX5, "findsPath", "(IIII)Z"⟩
abbrev wsX5_findsPath : List Cond := Cond.code yX5_findsPath cX5_findsPath 12 (some .boolean) :: zt
theorem cdX5_findsPath : Cond.code yX5_findsPath cX5_findsPath 12 (some .boolean) ∈ zt := zt_of (i := 734) (by decide +kernel) (by decide +kernel)
theorem imX5_findsPath : Cond.instanceMethod yX5_findsPath ∈ zt := zt_of (i := 733) (by decide +kernel) (by decide +kernel)
theorem slX5_findsPath : Cond.selects RX5 yX5_findsPath yX5_findsPath ∈ zt := zt_of (i := 17) (by decide +kernel) (by decide +kernel)
abbrev cX5_level : ByteArray := prog_7_method_12_code
def yX5_level : MethodName := ⟨RX5, "level", "(III)V"⟩
abbrev wsX5_level : List Cond := Cond.code yX5_level cX5_level 4 (none) :: zt
theorem cdX5_level : Cond.code yX5_level cX5_level 4 (none) ∈ zt := zt_of (i := 740) (by decide +kernel) (by decide +kernel)
theorem imX5_level : Cond.instanceMethod yX5_level ∈ zt := zt_of (i := 739) (by decide +kernel) (by decide +kernel)
theorem slX5_level : Cond.selects RX5 yX5_level yX5_level ∈ zt := zt_of (i := 18) (by decide +kernel) (by decide +kernel)
abbrev cX5_isLevel : ByteArray := prog_7_method_13_code
def yX5_isLevel : MethodName := ⟨RX5, "isLevel", "(III)Z"⟩
abbrev wsX5_isLevel : List Cond := Cond.code yX5_isLevel cX5_isLevel 6 (some .boolean) :: zt
theorem cdX5_isLevel : Cond.code yX5_isLevel cX5_isLevel 6 (some .boolean) ∈ zt := zt_of (i := 744) (by decide +kernel) (by decide +kernel)
theorem imX5_isLevel : Cond.instanceMethod yX5_isLevel ∈ zt := zt_of (i := 743) (by decide +kernel) (by decide +kernel)
theorem slX5_isLevel : Cond.selects RX5 yX5_isLevel yX5_isLevel ∈ zt := zt_of (i := 19) (by decide +kernel) (by decide +kernel)
abbrev cX5_made : ByteArray := prog_7_method_22_code
def yX5_made : MethodName := ⟨RX5, "made", "(IIIII)I"⟩
abbrev wsX5_made : List Cond := Cond.code yX5_made cX5_made 9 (some .int) :: zt
theorem cdX5_made : Cond.code yX5_made cX5_made 9 (some .int) ∈ zt := zt_of (i := 748) (by decide +kernel) (by decide +kernel)
theorem imX5_made : Cond.instanceMethod yX5_made ∈ zt := zt_of (i := 747) (by decide +kernel) (by decide +kernel)
theorem slX5_made : Cond.selects RX5 yX5_made yX5_made ∈ zt := zt_of (i := 20) (by decide +kernel) (by decide +kernel)
abbrev cX5_sortIn : ByteArray := prog_7_method_16_code
def yX5_sortIn : MethodName := ⟨RX5, "sortIn", "(I)V"⟩
abbrev wsX5_sortIn : List Cond := Cond.code yX5_sortIn cX5_sortIn 3 (none) :: zt
theorem cdX5_sortIn : Cond.code yX5_sortIn cX5_sortIn 3 (none) ∈ zt := zt_of (i := 752) (by decide +kernel) (by decide +kernel)
theorem imX5_sortIn : Cond.instanceMethod yX5_sortIn ∈ zt := zt_of (i := 751) (by decide +kernel) (by decide +kernel)
theorem slX5_sortIn : Cond.selects RX5 yX5_sortIn yX5_sortIn ∈ zt := zt_of (i := 21) (by decide +kernel) (by decide +kernel)
abbrev cX5_isBefore : ByteArray := prog_7_method_15_code
def yX5_isBefore : MethodName := ⟨RX5, "isBefore", "(II)Z"⟩
abbrev wsX5_isBefore : List Cond := Cond.code yX5_isBefore cX5_isBefore 6 (some .boolean) :: zt
theorem cdX5_isBefore : Cond.code yX5_isBefore cX5_isBefore 6 (some .boolean) ∈ zt := zt_of (i := 756) (by decide +kernel) (by decide +kernel)
theorem imX5_isBefore : Cond.instanceMethod yX5_isBefore ∈ zt := zt_of (i := 755) (by decide +kernel) (by decide +kernel)
theorem slX5_isBefore : Cond.selects RX5 yX5_isBefore yX5_isBefore ∈ zt := zt_of (i := 22) (by decide +kernel) (by decide +kernel)
abbrev cX5_isDone : ByteArray := prog_7_method_18_code
def yX5_isDone : MethodName := ⟨RX5, "isDone", "(II)V"⟩
abbrev wsX5_isDone : List Cond := Cond.code yX5_isDone cX5_isDone 4 (none) :: zt
theorem cdX5_isDone : Cond.code yX5_isDone cX5_isDone 4 (none) ∈ zt := zt_of (i := 760) (by decide +kernel) (by decide +kernel)
theorem imX5_isDone : Cond.instanceMethod yX5_isDone ∈ zt := zt_of (i := 759) (by decide +kernel) (by decide +kernel)
theorem slX5_isDone : Cond.selects RX5 yX5_isDone yX5_isDone ∈ zt := zt_of (i := 23) (by decide +kernel) (by decide +kernel)
abbrev cX5_isLater : ByteArray := prog_7_method_8_code
def yX5_isLater : MethodName := ⟨RX5, "isLater", "(II)Z"⟩
abbrev wsX5_isLater : List Cond := Cond.code yX5_isLater cX5_isLater 3 (some .boolean) :: zt
theorem cdX5_isLater : Cond.code yX5_isLater cX5_isLater 3 (some .boolean) ∈ zt := zt_of (i := 764) (by decide +kernel) (by decide +kernel)
theorem imX5_isLater : Cond.instanceMethod yX5_isLater ∈ zt := zt_of (i := 763) (by decide +kernel) (by decide +kernel)
theorem slX5_isLater : Cond.selects RX5 yX5_isLater yX5_isLater ∈ zt := zt_of (i := 24) (by decide +kernel) (by decide +kernel)
abbrev cX5_goOn : ByteArray := prog_7_method_19_code
def yX5_goOn : MethodName := ⟨RX5, "goOn", "(I)I"⟩
abbrev wsX5_goOn : List Cond := Cond.code yX5_goOn cX5_goOn 5 (some .int) :: zt
theorem cdX5_goOn : Cond.code yX5_goOn cX5_goOn 5 (some .int) ∈ zt := zt_of (i := 768) (by decide +kernel) (by decide +kernel)
theorem imX5_goOn : Cond.instanceMethod yX5_goOn ∈ zt := zt_of (i := 767) (by decide +kernel) (by decide +kernel)
theorem slX5_goOn : Cond.selects RX5 yX5_goOn yX5_goOn ∈ zt := zt_of (i := 25) (by decide +kernel) (by decide +kernel)
abbrev cX5_can : ByteArray := prog_7_method_17_code
def yX5_can : MethodName := ⟨RX5, "can", "(II)Z"⟩
abbrev wsX5_can : List Cond := Cond.code yX5_can cX5_can 5 (some .boolean) :: zt
theorem cdX5_can : Cond.code yX5_can cX5_can 5 (some .boolean) ∈ zt := zt_of (i := 772) (by decide +kernel) (by decide +kernel)
theorem imX5_can : Cond.instanceMethod yX5_can ∈ zt := zt_of (i := 771) (by decide +kernel) (by decide +kernel)
theorem slX5_can : Cond.selects RX5 yX5_can yX5_can ∈ zt := zt_of (i := 26) (by decide +kernel) (by decide +kernel)
abbrev cX5_send : ByteArray := prog_7_method_21_code
def yX5_send : MethodName := ⟨RX5, "send", "(II)V"⟩
abbrev wsX5_send : List Cond := Cond.code yX5_send cX5_send 3 (none) :: zt
theorem cdX5_send : Cond.code yX5_send cX5_send 3 (none) ∈ zt := zt_of (i := 776) (by decide +kernel) (by decide +kernel)
theorem imX5_send : Cond.instanceMethod yX5_send ∈ zt := zt_of (i := 775) (by decide +kernel) (by decide +kernel)
theorem slX5_send : Cond.selects RX5 yX5_send yX5_send ∈ zt := zt_of (i := 27) (by decide +kernel) (by decide +kernel)
abbrev cX5_paste : ByteArray := prog_7_method_25_code
def yX5_paste : MethodName := ⟨RX5, "paste", "(IIII)I"⟩
abbrev wsX5_paste : List Cond := Cond.code yX5_paste cX5_paste 6 (some .int) :: zt
theorem cdX5_paste : Cond.code yX5_paste cX5_paste 6 (some .int) ∈ zt := zt_of (i := 780) (by decide +kernel) (by decide +kernel)
theorem imX5_paste : Cond.instanceMethod yX5_paste ∈ zt := zt_of (i := 778) (by decide +kernel) (by decide +kernel)
theorem slX5_paste : Cond.selects RX5 yX5_paste yX5_paste ∈ zt := zt_of (i := 779) (by decide +kernel) (by decide +kernel)
abbrev cX5_erase : ByteArray := prog_7_method_26_code
def yX5_erase : MethodName := ⟨RX5, "erase", "(II)I"⟩
abbrev wsX5_erase : List Cond := Cond.code yX5_erase cX5_erase 3 (some .int) :: zt
theorem cdX5_erase : Cond.code yX5_erase cX5_erase 3 (some .int) ∈ zt := zt_of (i := 785) (by decide +kernel) (by decide +kernel)
theorem imX5_erase : Cond.instanceMethod yX5_erase ∈ zt := zt_of (i := 783) (by decide +kernel) (by decide +kernel)
theorem slX5_erase : Cond.selects RX5 yX5_erase yX5_erase ∈ zt := zt_of (i := 784) (by decide +kernel) (by decide +kernel)
abbrev cX5_undo : ByteArray := prog_7_method_27_code
def yX5_undo : MethodName := ⟨RX5, "undo", "(I)I"⟩
abbrev wsX5_undo : List Cond := Cond.code yX5_undo cX5_undo 4 (some .int) :: zt
theorem cdX5_undo : Cond.code yX5_undo cX5_undo 4 (some .int) ∈ zt := zt_of (i := 789) (by decide +kernel) (by decide +kernel)
theorem imX5_undo : Cond.instanceMethod yX5_undo ∈ zt := zt_of (i := 787) (by decide +kernel) (by decide +kernel)
theorem slX5_undo : Cond.selects RX5 yX5_undo yX5_undo ∈ zt := zt_of (i := 788) (by decide +kernel) (by decide +kernel)
abbrev cX5_mark : ByteArray := prog_7_method_28_code
def yX5_mark : MethodName := ⟨RX5, "mark", "(IIIIZ)I"⟩
abbrev wsX5_mark : List Cond := Cond.code yX5_mark cX5_mark 6 (some .int) :: zt
theorem cdX5_mark : Cond.code yX5_mark cX5_mark 6 (some .int) ∈ zt := zt_of (i := 793) (by decide +kernel) (by decide +kernel)
theorem imX5_mark : Cond.instanceMethod yX5_mark ∈ zt := zt_of (i := 791) (by decide +kernel) (by decide +kernel)
theorem slX5_mark : Cond.selects RX5 yX5_mark yX5_mark ∈ zt := zt_of (i := 792) (by decide +kernel) (by decide +kernel)
abbrev cX5_deliver : ByteArray := prog_7_method_30_code
def yX5_deliver : MethodName := ⟨RX5, "deliver", "(I)I"⟩
abbrev wsX5_deliver : List Cond := Cond.code yX5_deliver cX5_deliver 6 (some .int) :: zt
theorem cdX5_deliver : Cond.code yX5_deliver cX5_deliver 6 (some .int) ∈ zt := zt_of (i := 798) (by decide +kernel) (by decide +kernel)
theorem imX5_deliver : Cond.instanceMethod yX5_deliver ∈ zt := zt_of (i := 796) (by decide +kernel) (by decide +kernel)
theorem slX5_deliver : Cond.selects RX5 yX5_deliver yX5_deliver ∈ zt := zt_of (i := 797) (by decide +kernel) (by decide +kernel)
abbrev cX5_drop : ByteArray := prog_7_method_29_code
def yX5_drop : MethodName := ⟨RX5, "drop", "(I)V"⟩
abbrev wsX5_drop : List Cond := Cond.code yX5_drop cX5_drop 3 (none) :: zt
theorem cdX5_drop : Cond.code yX5_drop cX5_drop 3 (none) ∈ zt := zt_of (i := 802) (by decide +kernel) (by decide +kernel)
theorem imX5_drop : Cond.instanceMethod yX5_drop ∈ zt := zt_of (i := 801) (by decide +kernel) (by decide +kernel)
theorem slX5_drop : Cond.selects RX5 yX5_drop yX5_drop ∈ zt := zt_of (i := 28) (by decide +kernel) (by decide +kernel)
abbrev cX5_comes : ByteArray := prog_7_method_20_code
def yX5_comes : MethodName := ⟨RX5, "comes", "(II)I"⟩
abbrev wsX5_comes : List Cond := Cond.code yX5_comes cX5_comes 3 (some .int) :: zt
theorem cdX5_comes : Cond.code yX5_comes cX5_comes 3 (some .int) ∈ zt := zt_of (i := 806) (by decide +kernel) (by decide +kernel)
theorem imX5_comes : Cond.instanceMethod yX5_comes ∈ zt := zt_of (i := 805) (by decide +kernel) (by decide +kernel)
theorem slX5_comes : Cond.selects RX5 yX5_comes yX5_comes ∈ zt := zt_of (i := 29) (by decide +kernel) (by decide +kernel)
abbrev cX5_lose : ByteArray := prog_7_method_31_code
def yX5_lose : MethodName := ⟨RX5, "lose", "(I)I"⟩
abbrev wsX5_lose : List Cond := Cond.code yX5_lose cX5_lose 2 (some .int) :: zt
theorem cdX5_lose : Cond.code yX5_lose cX5_lose 2 (some .int) ∈ zt := zt_of (i := 810) (by decide +kernel) (by decide +kernel)
theorem imX5_lose : Cond.instanceMethod yX5_lose ∈ zt := zt_of (i := 808) (by decide +kernel) (by decide +kernel)
theorem slX5_lose : Cond.selects RX5 yX5_lose yX5_lose ∈ zt := zt_of (i := 809) (by decide +kernel) (by decide +kernel)
abbrev cX5_repeat : ByteArray := prog_7_method_32_code
def yX5_repeat : MethodName := ⟨RX5, "repeat", "(I)I"⟩
abbrev wsX5_repeat : List Cond := Cond.code yX5_repeat cX5_repeat 2 (some .int) :: zt
theorem cdX5_repeat : Cond.code yX5_repeat cX5_repeat 2 (some .int) ∈ zt := zt_of (i := 814) (by decide +kernel) (by decide +kernel)
theorem imX5_repeat : Cond.instanceMethod yX5_repeat ∈ zt := zt_of (i := 812) (by decide +kernel) (by decide +kernel)
theorem slX5_repeat : Cond.selects RX5 yX5_repeat yX5_repeat ∈ zt := zt_of (i := 813) (by decide +kernel) (by decide +kernel)
abbrev cX5_sync : ByteArray := prog_7_method_33_code
def yX5_sync : MethodName := ⟨RX5, "sync", "(II)I"⟩
abbrev wsX5_sync : List Cond := Cond.code yX5_sync cX5_sync 5 (some .int) :: zt
theorem cdX5_sync : Cond.code yX5_sync cX5_sync 5 (some .int) ∈ zt := zt_of (i := 818) (by decide +kernel) (by decide +kernel)
theorem imX5_sync : Cond.instanceMethod yX5_sync ∈ zt := zt_of (i := 816) (by decide +kernel) (by decide +kernel)
theorem slX5_sync : Cond.selects RX5 yX5_sync yX5_sync ∈ zt := zt_of (i := 817) (by decide +kernel) (by decide +kernel)
abbrev cX5_length : ByteArray := prog_7_method_34_code
def yX5_length : MethodName := ⟨RX5, "length", "(I)I"⟩
abbrev wsX5_length : List Cond := Cond.code yX5_length cX5_length 2 (some .int) :: zt
theorem cdX5_length : Cond.code yX5_length cX5_length 2 (some .int) ∈ zt := zt_of (i := 822) (by decide +kernel) (by decide +kernel)
theorem imX5_length : Cond.instanceMethod yX5_length ∈ zt := zt_of (i := 820) (by decide +kernel) (by decide +kernel)
theorem slX5_length : Cond.selects RX5 yX5_length yX5_length ∈ zt := zt_of (i := 821) (by decide +kernel) (by decide +kernel)
abbrev cX5_sign : ByteArray := prog_7_method_36_code
def yX5_sign : MethodName := ⟨RX5, "sign", "(II)I"⟩
abbrev wsX5_sign : List Cond := Cond.code yX5_sign cX5_sign 4 (some .int) :: zt
theorem cdX5_sign : Cond.code yX5_sign cX5_sign 4 (some .int) ∈ zt := zt_of (i := 826) (by decide +kernel) (by decide +kernel)
theorem imX5_sign : Cond.instanceMethod yX5_sign ∈ zt := zt_of (i := 824) (by decide +kernel) (by decide +kernel)
theorem slX5_sign : Cond.selects RX5 yX5_sign yX5_sign ∈ zt := zt_of (i := 825) (by decide +kernel) (by decide +kernel)
abbrev cX5_signOf : ByteArray := prog_7_method_35_code
def yX5_signOf : MethodName := ⟨RX5, "signOf", "(II)I"⟩
abbrev wsX5_signOf : List Cond := Cond.code yX5_signOf cX5_signOf 3 (some .int) :: zt
theorem cdX5_signOf : Cond.code yX5_signOf cX5_signOf 3 (some .int) ∈ zt := zt_of (i := 830) (by decide +kernel) (by decide +kernel)
theorem imX5_signOf : Cond.instanceMethod yX5_signOf ∈ zt := zt_of (i := 829) (by decide +kernel) (by decide +kernel)
theorem slX5_signOf : Cond.selects RX5 yX5_signOf yX5_signOf ∈ zt := zt_of (i := 30) (by decide +kernel) (by decide +kernel)
abbrev cX5_path : ByteArray := prog_7_method_37_code
def yX5_path : MethodName := ⟨RX5, "path", "(IIII)I"⟩
abbrev wsX5_path : List Cond := Cond.code yX5_path cX5_path 7 (some .int) :: zt
theorem cdX5_path : Cond.code yX5_path cX5_path 7 (some .int) ∈ zt := zt_of (i := 834) (by decide +kernel) (by decide +kernel)
theorem imX5_path : Cond.instanceMethod yX5_path ∈ zt := zt_of (i := 832) (by decide +kernel) (by decide +kernel)
theorem slX5_path : Cond.selects RX5 yX5_path yX5_path ∈ zt := zt_of (i := 833) (by decide +kernel) (by decide +kernel)
abbrev cX5_kinds : ByteArray := prog_7_method_39_code
def yX5_kinds : MethodName := ⟨RX5, "kinds", "(II)I"⟩
abbrev wsX5_kinds : List Cond := Cond.code yX5_kinds cX5_kinds 4 (some .int) :: zt
theorem cdX5_kinds : Cond.code yX5_kinds cX5_kinds 4 (some .int) ∈ zt := zt_of (i := 839) (by decide +kernel) (by decide +kernel)
theorem imX5_kinds : Cond.instanceMethod yX5_kinds ∈ zt := zt_of (i := 837) (by decide +kernel) (by decide +kernel)
theorem slX5_kinds : Cond.selects RX5 yX5_kinds yX5_kinds ∈ zt := zt_of (i := 838) (by decide +kernel) (by decide +kernel)
abbrev cX5_kindsOf : ByteArray := prog_7_method_38_code
def yX5_kindsOf : MethodName := ⟨RX5, "kindsOf", "(II)I"⟩
abbrev wsX5_kindsOf : List Cond := Cond.code yX5_kindsOf cX5_kindsOf 8 (some .int) :: zt
theorem cdX5_kindsOf : Cond.code yX5_kindsOf cX5_kindsOf 8 (some .int) ∈ zt := zt_of (i := 843) (by decide +kernel) (by decide +kernel)
theorem imX5_kindsOf : Cond.instanceMethod yX5_kindsOf ∈ zt := zt_of (i := 842) (by decide +kernel) (by decide +kernel)
theorem slX5_kindsOf : Cond.selects RX5 yX5_kindsOf yX5_kindsOf ∈ zt := zt_of (i := 31) (by decide +kernel) (by decide +kernel)
abbrev cX5_cursor : ByteArray := prog_7_method_41_code
def yX5_cursor : MethodName := ⟨RX5, "cursor", "(III)I"⟩
abbrev wsX5_cursor : List Cond := Cond.code yX5_cursor cX5_cursor 5 (some .int) :: zt
theorem cdX5_cursor : Cond.code yX5_cursor cX5_cursor 5 (some .int) ∈ zt := zt_of (i := 847) (by decide +kernel) (by decide +kernel)
theorem imX5_cursor : Cond.instanceMethod yX5_cursor ∈ zt := zt_of (i := 845) (by decide +kernel) (by decide +kernel)
theorem slX5_cursor : Cond.selects RX5 yX5_cursor yX5_cursor ∈ zt := zt_of (i := 846) (by decide +kernel) (by decide +kernel)
abbrev cX5_placeOf : ByteArray := prog_7_method_40_code
def yX5_placeOf : MethodName := ⟨RX5, "placeOf", "(II)I"⟩
abbrev wsX5_placeOf : List Cond := Cond.code yX5_placeOf cX5_placeOf 6 (some .int) :: zt
theorem cdX5_placeOf : Cond.code yX5_placeOf cX5_placeOf 6 (some .int) ∈ zt := zt_of (i := 851) (by decide +kernel) (by decide +kernel)
theorem imX5_placeOf : Cond.instanceMethod yX5_placeOf ∈ zt := zt_of (i := 850) (by decide +kernel) (by decide +kernel)
theorem slX5_placeOf : Cond.selects RX5 yX5_placeOf yX5_placeOf ∈ zt := zt_of (i := 32) (by decide +kernel) (by decide +kernel)
abbrev cX5_at : ByteArray := prog_7_method_42_code
def yX5_at : MethodName := ⟨RX5, "at", "(II)I"⟩
abbrev wsX5_at : List Cond := Cond.code yX5_at cX5_at 3 (some .int) :: zt
theorem cdX5_at : Cond.code yX5_at cX5_at 3 (some .int) ∈ zt := zt_of (i := 855) (by decide +kernel) (by decide +kernel)
theorem imX5_at : Cond.instanceMethod yX5_at ∈ zt := zt_of (i := 853) (by decide +kernel) (by decide +kernel)
theorem slX5_at : Cond.selects RX5 yX5_at yX5_at ∈ zt := zt_of (i := 854) (by decide +kernel) (by decide +kernel)
abbrev cX5_about : ByteArray := prog_7_method_43_code
def yX5_about : MethodName := ⟨RX5, "about", "(III)I"⟩
abbrev wsX5_about : List Cond := Cond.code yX5_about cX5_about 6 (some .int) :: zt
theorem cdX5_about : Cond.code yX5_about cX5_about 6 (some .int) ∈ zt := zt_of (i := 859) (by decide +kernel) (by decide +kernel)
theorem imX5_about : Cond.instanceMethod yX5_about ∈ zt := zt_of (i := 857) (by decide +kernel) (by decide +kernel)
theorem slX5_about : Cond.selects RX5 yX5_about yX5_about ∈ zt := zt_of (i := 858) (by decide +kernel) (by decide +kernel)
abbrev cX5_same : ByteArray := prog_7_method_44_code
def yX5_same : MethodName := ⟨RX5, "same", "(II)I"⟩
abbrev wsX5_same : List Cond := Cond.code yX5_same cX5_same 5 (some .int) :: zt
theorem cdX5_same : Cond.code yX5_same cX5_same 5 (some .int) ∈ zt := zt_of (i := 863) (by decide +kernel) (by decide +kernel)
theorem imX5_same : Cond.instanceMethod yX5_same ∈ zt := zt_of (i := 861) (by decide +kernel) (by decide +kernel)
theorem slX5_same : Cond.selects RX5 yX5_same yX5_same ∈ zt := zt_of (i := 862) (by decide +kernel) (by decide +kernel)
abbrev cX5_deed : ByteArray := prog_7_method_45_code
def yX5_deed : MethodName := ⟨RX5, "deed", "(II)I"⟩
abbrev wsX5_deed : List Cond := Cond.code yX5_deed cX5_deed 3 (some .int) :: zt
theorem cdX5_deed : Cond.code yX5_deed cX5_deed 3 (some .int) ∈ zt := zt_of (i := 867) (by decide +kernel) (by decide +kernel)
theorem imX5_deed : Cond.instanceMethod yX5_deed ∈ zt := zt_of (i := 865) (by decide +kernel) (by decide +kernel)
theorem slX5_deed : Cond.selects RX5 yX5_deed yX5_deed ∈ zt := zt_of (i := 866) (by decide +kernel) (by decide +kernel)
abbrev cX5_message : ByteArray := prog_7_method_46_code
def yX5_message : MethodName := ⟨RX5, "message", "(II)I"⟩
abbrev wsX5_message : List Cond := Cond.code yX5_message cX5_message 3 (some .int) :: zt
theorem cdX5_message : Cond.code yX5_message cX5_message 3 (some .int) ∈ zt := zt_of (i := 871) (by decide +kernel) (by decide +kernel)
theorem imX5_message : Cond.instanceMethod yX5_message ∈ zt := zt_of (i := 869) (by decide +kernel) (by decide +kernel)
theorem slX5_message : Cond.selects RX5 yX5_message yX5_message ∈ zt := zt_of (i := 870) (by decide +kernel) (by decide +kernel)
abbrev cX5_count : ByteArray := prog_7_method_47_code
def yX5_count : MethodName := ⟨RX5, "count", "(I)I"⟩
abbrev wsX5_count : List Cond := Cond.code yX5_count cX5_count 2 (some .int) :: zt
theorem cdX5_count : Cond.code yX5_count cX5_count 2 (some .int) ∈ zt := zt_of (i := 875) (by decide +kernel) (by decide +kernel)
theorem imX5_count : Cond.instanceMethod yX5_count ∈ zt := zt_of (i := 873) (by decide +kernel) (by decide +kernel)
theorem slX5_count : Cond.selects RX5 yX5_count yX5_count ∈ zt := zt_of (i := 874) (by decide +kernel) (by decide +kernel)
theorem mlL_22 : Cond.methodLink RL 22 yX4_init ∈ zt := zt_of (i := 47) (by decide +kernel) (by decide +kernel)
theorem flX0_9 : Cond.fieldLink RX0 9 RX0 "owner" "[I" ∈ zt := zt_of (i := 59) (by decide +kernel) (by decide +kernel)
theorem flX2_50 : Cond.fieldLink RX2 50 RX0 "owner" "[I" ∈ zt := zt_of (i := 60) (by decide +kernel) (by decide +kernel)
theorem flX4_182 : Cond.fieldLink RX4 182 RX0 "owner" "[I" ∈ zt := zt_of (i := 61) (by decide +kernel) (by decide +kernel)
theorem flX0_15 : Cond.fieldLink RX0 15 RX0 "number" "[I" ∈ zt := zt_of (i := 62) (by decide +kernel) (by decide +kernel)
theorem flX2_45 : Cond.fieldLink RX2 45 RX0 "number" "[I" ∈ zt := zt_of (i := 63) (by decide +kernel) (by decide +kernel)
theorem flX4_185 : Cond.fieldLink RX4 185 RX0 "number" "[I" ∈ zt := zt_of (i := 64) (by decide +kernel) (by decide +kernel)
theorem flX0_18 : Cond.fieldLink RX0 18 RX0 "time" "[I" ∈ zt := zt_of (i := 65) (by decide +kernel) (by decide +kernel)
theorem flX2_89 : Cond.fieldLink RX2 89 RX0 "time" "[I" ∈ zt := zt_of (i := 66) (by decide +kernel) (by decide +kernel)
theorem flX4_188 : Cond.fieldLink RX4 188 RX0 "time" "[I" ∈ zt := zt_of (i := 67) (by decide +kernel) (by decide +kernel)
theorem flX0_21 : Cond.fieldLink RX0 21 RX0 "sort" "[I" ∈ zt := zt_of (i := 68) (by decide +kernel) (by decide +kernel)
theorem flX2_53 : Cond.fieldLink RX2 53 RX0 "sort" "[I" ∈ zt := zt_of (i := 69) (by decide +kernel) (by decide +kernel)
theorem flX4_76 : Cond.fieldLink RX4 76 RX0 "sort" "[I" ∈ zt := zt_of (i := 70) (by decide +kernel) (by decide +kernel)
theorem flX0_24 : Cond.fieldLink RX0 24 RX0 "value" "[I" ∈ zt := zt_of (i := 71) (by decide +kernel) (by decide +kernel)
theorem flX4_118 : Cond.fieldLink RX4 118 RX0 "value" "[I" ∈ zt := zt_of (i := 72) (by decide +kernel) (by decide +kernel)
theorem flX2_132 : Cond.fieldLink RX2 132 RX0 "value" "[I" ∈ zt := zt_of (i := 73) (by decide +kernel) (by decide +kernel)
theorem flX0_27 : Cond.fieldLink RX0 27 RX0 "from" "[I" ∈ zt := zt_of (i := 74) (by decide +kernel) (by decide +kernel)
theorem flX4_72 : Cond.fieldLink RX4 72 RX0 "from" "[I" ∈ zt := zt_of (i := 75) (by decide +kernel) (by decide +kernel)
theorem flX2_56 : Cond.fieldLink RX2 56 RX0 "from" "[I" ∈ zt := zt_of (i := 76) (by decide +kernel) (by decide +kernel)
theorem flX0_30 : Cond.fieldLink RX0 30 RX0 "to" "[I" ∈ zt := zt_of (i := 77) (by decide +kernel) (by decide +kernel)
theorem flX2_63 : Cond.fieldLink RX2 63 RX0 "to" "[I" ∈ zt := zt_of (i := 78) (by decide +kernel) (by decide +kernel)
theorem flX0_33 : Cond.fieldLink RX0 33 RX0 "mayUndo" "[Z" ∈ zt := zt_of (i := 79) (by decide +kernel) (by decide +kernel)
theorem flX4_79 : Cond.fieldLink RX4 79 RX0 "mayUndo" "[Z" ∈ zt := zt_of (i := 80) (by decide +kernel) (by decide +kernel)
theorem flX0_37 : Cond.fieldLink RX0 37 RX0 "marks" "[I" ∈ zt := zt_of (i := 81) (by decide +kernel) (by decide +kernel)
theorem flX2_129 : Cond.fieldLink RX2 129 RX0 "marks" "[I" ∈ zt := zt_of (i := 82) (by decide +kernel) (by decide +kernel)
theorem flX0_44 : Cond.fieldLink RX0 44 RX0 "markTotal" "I" ∈ zt := zt_of (i := 83) (by decide +kernel) (by decide +kernel)
theorem flX2_126 : Cond.fieldLink RX2 126 RX0 "markTotal" "I" ∈ zt := zt_of (i := 84) (by decide +kernel) (by decide +kernel)
theorem flX0_40 : Cond.fieldLink RX0 40 RX0 "total" "I" ∈ zt := zt_of (i := 85) (by decide +kernel) (by decide +kernel)
theorem flX2_83 : Cond.fieldLink RX2 83 RX0 "total" "I" ∈ zt := zt_of (i := 86) (by decide +kernel) (by decide +kernel)
theorem flX4_111 : Cond.fieldLink RX4 111 RX0 "total" "I" ∈ zt := zt_of (i := 87) (by decide +kernel) (by decide +kernel)
theorem flX1_9 : Cond.fieldLink RX1 9 RX1 "levels" "[I" ∈ zt := zt_of (i := 119) (by decide +kernel) (by decide +kernel)
theorem flX1_15 : Cond.fieldLink RX1 15 RX1 "depth" "[I" ∈ zt := zt_of (i := 120) (by decide +kernel) (by decide +kernel)
theorem flX4_125 : Cond.fieldLink RX4 125 RX1 "depth" "[I" ∈ zt := zt_of (i := 121) (by decide +kernel) (by decide +kernel)
theorem flX1_18 : Cond.fieldLink RX1 18 RX1 "order" "[I" ∈ zt := zt_of (i := 122) (by decide +kernel) (by decide +kernel)
theorem flX2_104 : Cond.fieldLink RX2 104 RX1 "order" "[I" ∈ zt := zt_of (i := 123) (by decide +kernel) (by decide +kernel)
theorem flX4_175 : Cond.fieldLink RX4 175 RX1 "order" "[I" ∈ zt := zt_of (i := 124) (by decide +kernel) (by decide +kernel)
theorem flX1_21 : Cond.fieldLink RX1 21 RX1 "rank" "[I" ∈ zt := zt_of (i := 125) (by decide +kernel) (by decide +kernel)
theorem flX2_123 : Cond.fieldLink RX2 123 RX1 "rank" "[I" ∈ zt := zt_of (i := 126) (by decide +kernel) (by decide +kernel)
theorem flX1_65 : Cond.fieldLink RX1 65 RX1 "total" "I" ∈ zt := zt_of (i := 127) (by decide +kernel) (by decide +kernel)
theorem flX2_112 : Cond.fieldLink RX2 112 RX1 "total" "I" ∈ zt := zt_of (i := 128) (by decide +kernel) (by decide +kernel)
theorem flX4_174 : Cond.fieldLink RX4 174 RX1 "total" "I" ∈ zt := zt_of (i := 129) (by decide +kernel) (by decide +kernel)
theorem flX3_9 : Cond.fieldLink RX3 9 RX3 "what" "[I" ∈ zt := zt_of (i := 147) (by decide +kernel) (by decide +kernel)
theorem flX4_86 : Cond.fieldLink RX4 86 RX3 "what" "[I" ∈ zt := zt_of (i := 148) (by decide +kernel) (by decide +kernel)
theorem flX3_15 : Cond.fieldLink RX3 15 RX3 "toWhom" "[I" ∈ zt := zt_of (i := 149) (by decide +kernel) (by decide +kernel)
theorem flX4_89 : Cond.fieldLink RX4 89 RX3 "toWhom" "[I" ∈ zt := zt_of (i := 150) (by decide +kernel) (by decide +kernel)
theorem flX3_18 : Cond.fieldLink RX3 18 RX3 "total" "I" ∈ zt := zt_of (i := 151) (by decide +kernel) (by decide +kernel)
theorem flX4_99 : Cond.fieldLink RX4 99 RX3 "total" "I" ∈ zt := zt_of (i := 152) (by decide +kernel) (by decide +kernel)
theorem flX3_26 : Cond.fieldLink RX3 26 RX3 "lost" "I" ∈ zt := zt_of (i := 153) (by decide +kernel) (by decide +kernel)
theorem flX4_190 : Cond.fieldLink RX4 190 RX3 "lost" "I" ∈ zt := zt_of (i := 154) (by decide +kernel) (by decide +kernel)
theorem mlX4_36 : Cond.methodLink RX4 36 yX2_init ∈ zt := zt_of (i := 167) (by decide +kernel) (by decide +kernel)
theorem flX2_28 : Cond.fieldLink RX2 28 RX2 "site" "I" ∈ zt := zt_of (i := 171) (by decide +kernel) (by decide +kernel)
theorem flX1_50 : Cond.fieldLink RX1 50 RX2 "site" "I" ∈ zt := zt_of (i := 172) (by decide +kernel) (by decide +kernel)
theorem flX4_205 : Cond.fieldLink RX4 205 RX2 "site" "I" ∈ zt := zt_of (i := 173) (by decide +kernel) (by decide +kernel)
theorem flX2_32 : Cond.fieldLink RX2 32 RX2 "deeds" "LSignRow$Deeds;" ∈ zt := zt_of (i := 174) (by decide +kernel) (by decide +kernel)
theorem flX2_36 : Cond.fieldLink RX2 36 RX2 "paths" "LSignRow$Paths;" ∈ zt := zt_of (i := 175) (by decide +kernel) (by decide +kernel)
theorem flX2_40 : Cond.fieldLink RX2 40 RX2 "stream" "I" ∈ zt := zt_of (i := 176) (by decide +kernel) (by decide +kernel)
theorem flX4_43 : Cond.fieldLink RX4 43 RX2 "stream" "I" ∈ zt := zt_of (i := 177) (by decide +kernel) (by decide +kernel)
theorem flX2_86 : Cond.fieldLink RX2 86 RX2 "time" "I" ∈ zt := zt_of (i := 178) (by decide +kernel) (by decide +kernel)
theorem flX4_168 : Cond.fieldLink RX4 168 RX2 "time" "I" ∈ zt := zt_of (i := 179) (by decide +kernel) (by decide +kernel)
theorem flX2_97 : Cond.fieldLink RX2 97 RX2 "signs" "I" ∈ zt := zt_of (i := 180) (by decide +kernel) (by decide +kernel)
theorem flX4_171 : Cond.fieldLink RX4 171 RX2 "signs" "I" ∈ zt := zt_of (i := 181) (by decide +kernel) (by decide +kernel)
theorem flX2_69 : Cond.fieldLink RX2 69 RX2 "waiting" "I" ∈ zt := zt_of (i := 182) (by decide +kernel) (by decide +kernel)
theorem flX4_165 : Cond.fieldLink RX4 165 RX2 "waiting" "I" ∈ zt := zt_of (i := 183) (by decide +kernel) (by decide +kernel)
theorem flX2_9 : Cond.fieldLink RX2 9 RX2 "doneOf" "[I" ∈ zt := zt_of (i := 184) (by decide +kernel) (by decide +kernel)
theorem flX4_162 : Cond.fieldLink RX4 162 RX2 "doneOf" "[I" ∈ zt := zt_of (i := 185) (by decide +kernel) (by decide +kernel)
theorem flX2_15 : Cond.fieldLink RX2 15 RX2 "waits" "[Z" ∈ zt := zt_of (i := 186) (by decide +kernel) (by decide +kernel)
theorem flX2_19 : Cond.fieldLink RX2 19 RX2 "fate" "[I" ∈ zt := zt_of (i := 187) (by decide +kernel) (by decide +kernel)
theorem flX2_22 : Cond.fieldLink RX2 22 RX2 "cursors" "[I" ∈ zt := zt_of (i := 188) (by decide +kernel) (by decide +kernel)
theorem flX4_156 : Cond.fieldLink RX4 156 RX2 "cursors" "[I" ∈ zt := zt_of (i := 189) (by decide +kernel) (by decide +kernel)
theorem flX2_25 : Cond.fieldLink RX2 25 RX2 "latestMark" "[I" ∈ zt := zt_of (i := 190) (by decide +kernel) (by decide +kernel)
theorem flX4_10 : Cond.fieldLink RX4 10 RX4 "deeds" "LSignRow$Deeds;" ∈ zt := zt_of (i := 216) (by decide +kernel) (by decide +kernel)
theorem flX4_19 : Cond.fieldLink RX4 19 RX4 "paths" "LSignRow$Paths;" ∈ zt := zt_of (i := 217) (by decide +kernel) (by decide +kernel)
theorem flX4_26 : Cond.fieldLink RX4 26 RX4 "way" "LSignRow$Way;" ∈ zt := zt_of (i := 218) (by decide +kernel) (by decide +kernel)
theorem flX4_32 : Cond.fieldLink RX4 32 RX4 "replicas" "[LSignRow$Replica;" ∈ zt := zt_of (i := 219) (by decide +kernel) (by decide +kernel)
theorem mlL_26 : Cond.methodLink RL 26 yX4_stream ∈ zt := zt_of (i := 229) (by decide +kernel) (by decide +kernel)
theorem mlX4_39 : Cond.methodLink RX4 39 yX4_isReplica ∈ zt := zt_of (i := 233) (by decide +kernel) (by decide +kernel)
theorem mlL_30 : Cond.methodLink RL 30 yX4_type ∈ zt := zt_of (i := 236) (by decide +kernel) (by decide +kernel)
theorem mlX4_47 : Cond.methodLink RX4 47 yX2_hasGap ∈ zt := zt_of (i := 240) (by decide +kernel) (by decide +kernel)
theorem mlX2_117 : Cond.methodLink RX2 117 yX2_textLength ∈ zt := zt_of (i := 244) (by decide +kernel) (by decide +kernel)
theorem mlX2_113 : Cond.methodLink RX2 113 yX2_aliveAmongFirst ∈ zt := zt_of (i := 248) (by decide +kernel) (by decide +kernel)
theorem mlX2_109 : Cond.methodLink RX2 109 yX2_isAlive ∈ zt := zt_of (i := 252) (by decide +kernel) (by decide +kernel)
theorem mlX2_59 : Cond.methodLink RX2 59 yX2_didDeed ∈ zt := zt_of (i := 256) (by decide +kernel) (by decide +kernel)
theorem mlX4_50 : Cond.methodLink RX4 50 yX4_isByte ∈ zt := zt_of (i := 260) (by decide +kernel) (by decide +kernel)
theorem mlX4_53 : Cond.methodLink RX4 53 yX4_putSign ∈ zt := zt_of (i := 263) (by decide +kernel) (by decide +kernel)
theorem mlX4_61 : Cond.methodLink RX4 61 yX0_isFull ∈ zt := zt_of (i := 267) (by decide +kernel) (by decide +kernel)
theorem mlX4_159 : Cond.methodLink RX4 159 yX2_signBefore ∈ zt := zt_of (i := 271) (by decide +kernel) (by decide +kernel)
theorem mlX2_120 : Cond.methodLink RX2 120 yX2_signAt ∈ zt := zt_of (i := 275) (by decide +kernel) (by decide +kernel)
theorem mlX4_195 : Cond.methodLink RX4 195 yX2_nextBehind ∈ zt := zt_of (i := 279) (by decide +kernel) (by decide +kernel)
theorem mlX4_198 : Cond.methodLink RX4 198 yX1_findNew ∈ zt := zt_of (i := 283) (by decide +kernel) (by decide +kernel)
theorem mlX1_30 : Cond.methodLink RX1 30 yX1_levelOf ∈ zt := zt_of (i := 287) (by decide +kernel) (by decide +kernel)
theorem mlX1_33 : Cond.methodLink RX1 33 yX1_digitOf ∈ zt := zt_of (i := 291) (by decide +kernel) (by decide +kernel)
theorem mlX1_37 : Cond.methodLink RX1 37 yX1_baseOf ∈ zt := zt_of (i := 294) (by decide +kernel) (by decide +kernel)
theorem mlX1_24 : Cond.methodLink RX1 24 Lib.Math.min.name ∈ zt := zt_of (i := 297) (by decide +kernel) (by decide +kernel)
theorem mlX1_40 : Cond.methodLink RX1 40 yX2_throwCoin ∈ zt := zt_of (i := 300) (by decide +kernel) (by decide +kernel)
theorem knX2_43 : Cond.constant RX2 43 1664525 ∈ zt := zt_of (i := 304) (by decide +kernel) (by decide +kernel)
theorem knX2_44 : Cond.constant RX2 44 1013904223 ∈ zt := zt_of (i := 305) (by decide +kernel) (by decide +kernel)
theorem mlX1_46 : Cond.methodLink RX1 46 yX1_lastDigit ∈ zt := zt_of (i := 306) (by decide +kernel) (by decide +kernel)
theorem mlX1_54 : Cond.methodLink RX1 54 yX2_nextNumber ∈ zt := zt_of (i := 309) (by decide +kernel) (by decide +kernel)
theorem mlX1_57 : Cond.methodLink RX1 57 yX1_makeLevel ∈ zt := zt_of (i := 313) (by decide +kernel) (by decide +kernel)
theorem mlX1_61 : Cond.methodLink RX1 61 yX1_innerLevel ∈ zt := zt_of (i := 316) (by decide +kernel) (by decide +kernel)
theorem mlX4_202 : Cond.methodLink RX4 202 yX1_insert ∈ zt := zt_of (i := 319) (by decide +kernel) (by decide +kernel)
theorem mlX1_68 : Cond.methodLink RX1 68 yX1_isBefore ∈ zt := zt_of (i := 323) (by decide +kernel) (by decide +kernel)
theorem mlX4_65 : Cond.methodLink RX4 65 yX4_perform ∈ zt := zt_of (i := 327) (by decide +kernel) (by decide +kernel)
theorem mlX4_208 : Cond.methodLink RX4 208 yX2_nextNumber ∈ zt := zt_of (i := 331) (by decide +kernel) (by decide +kernel)
theorem mlX4_211 : Cond.methodLink RX4 211 yX0_add ∈ zt := zt_of (i := 332) (by decide +kernel) (by decide +kernel)
theorem mlX4_215 : Cond.methodLink RX4 215 yX2_carryOut ∈ zt := zt_of (i := 336) (by decide +kernel) (by decide +kernel)
theorem mlX2_91 : Cond.methodLink RX2 91 Lib.Math.max.name ∈ zt := zt_of (i := 340) (by decide +kernel) (by decide +kernel)
theorem mlX2_100 : Cond.methodLink RX2 100 yX0_isLater ∈ zt := zt_of (i := 343) (by decide +kernel) (by decide +kernel)
theorem mlX4_103 : Cond.methodLink RX4 103 yX3_send ∈ zt := zt_of (i := 347) (by decide +kernel) (by decide +kernel)
theorem mlX3_22 : Cond.methodLink RX3 22 yX3_isFull ∈ zt := zt_of (i := 351) (by decide +kernel) (by decide +kernel)
theorem mlL_35 : Cond.methodLink RL 35 yX4_paste ∈ zt := zt_of (i := 355) (by decide +kernel) (by decide +kernel)
theorem mlL_39 : Cond.methodLink RL 39 yX4_erase ∈ zt := zt_of (i := 359) (by decide +kernel) (by decide +kernel)
theorem mlX4_57 : Cond.methodLink RX4 57 yX2_signAt ∈ zt := zt_of (i := 363) (by decide +kernel) (by decide +kernel)
theorem mlL_43 : Cond.methodLink RL 43 yX4_undo ∈ zt := zt_of (i := 364) (by decide +kernel) (by decide +kernel)
theorem mlX4_69 : Cond.methodLink RX4 69 yX0_lastToUndo ∈ zt := zt_of (i := 368) (by decide +kernel) (by decide +kernel)
theorem mlL_48 : Cond.methodLink RL 48 yX4_mark ∈ zt := zt_of (i := 372) (by decide +kernel) (by decide +kernel)
theorem mlL_53 : Cond.methodLink RL 53 yX4_deliver ∈ zt := zt_of (i := 376) (by decide +kernel) (by decide +kernel)
theorem mlX4_83 : Cond.methodLink RX4 83 yX3_holds ∈ zt := zt_of (i := 380) (by decide +kernel) (by decide +kernel)
theorem mlX4_92 : Cond.methodLink RX4 92 yX3_drop ∈ zt := zt_of (i := 384) (by decide +kernel) (by decide +kernel)
theorem mlX4_96 : Cond.methodLink RX4 96 yX2_receive ∈ zt := zt_of (i := 388) (by decide +kernel) (by decide +kernel)
theorem mlX2_66 : Cond.methodLink RX2 66 yX2_isReady ∈ zt := zt_of (i := 392) (by decide +kernel) (by decide +kernel)
theorem mlX2_72 : Cond.methodLink RX2 72 yX2_carryOut ∈ zt := zt_of (i := 396) (by decide +kernel) (by decide +kernel)
theorem mlX2_76 : Cond.methodLink RX2 76 yX2_doWhatWaited ∈ zt := zt_of (i := 397) (by decide +kernel) (by decide +kernel)
theorem mlX2_79 : Cond.methodLink RX2 79 yX2_firstReady ∈ zt := zt_of (i := 401) (by decide +kernel) (by decide +kernel)
theorem mlL_57 : Cond.methodLink RL 57 yX4_lose ∈ zt := zt_of (i := 405) (by decide +kernel) (by decide +kernel)
theorem mlL_61 : Cond.methodLink RL 61 yX4_repeat ∈ zt := zt_of (i := 409) (by decide +kernel) (by decide +kernel)
theorem mlX4_102 : Cond.methodLink RX4 102 yX3_isFull ∈ zt := zt_of (i := 413) (by decide +kernel) (by decide +kernel)
theorem mlL_65 : Cond.methodLink RL 65 yX4_sync ∈ zt := zt_of (i := 414) (by decide +kernel) (by decide +kernel)
theorem mlX4_107 : Cond.methodLink RX4 107 yX2_doneInAll ∈ zt := zt_of (i := 418) (by decide +kernel) (by decide +kernel)
theorem mlX4_112 : Cond.methodLink RX4 112 yX2_didDeed ∈ zt := zt_of (i := 422) (by decide +kernel) (by decide +kernel)
theorem mlL_69 : Cond.methodLink RL 69 yX4_length ∈ zt := zt_of (i := 423) (by decide +kernel) (by decide +kernel)
theorem mlX4_115 : Cond.methodLink RX4 115 yX2_textLength ∈ zt := zt_of (i := 427) (by decide +kernel) (by decide +kernel)
theorem mlL_90 : Cond.methodLink RL 90 yX4_cursor ∈ zt := zt_of (i := 428) (by decide +kernel) (by decide +kernel)
theorem mlX4_150 : Cond.methodLink RX4 150 yX4_isCursor ∈ zt := zt_of (i := 432) (by decide +kernel) (by decide +kernel)
theorem mlX4_153 : Cond.methodLink RX4 153 yX2_cursorPlace ∈ zt := zt_of (i := 435) (by decide +kernel) (by decide +kernel)
theorem mlL_94 : Cond.methodLink RL 94 yX4_at ∈ zt := zt_of (i := 439) (by decide +kernel) (by decide +kernel)
theorem mlL_98 : Cond.methodLink RL 98 yX4_about ∈ zt := zt_of (i := 443) (by decide +kernel) (by decide +kernel)
theorem mlL_102 : Cond.methodLink RL 102 yX4_same ∈ zt := zt_of (i := 447) (by decide +kernel) (by decide +kernel)
theorem mlX4_178 : Cond.methodLink RX4 178 yX4_isAlike ∈ zt := zt_of (i := 451) (by decide +kernel) (by decide +kernel)
theorem mlX4_218 : Cond.methodLink RX4 218 yX2_isAlive ∈ zt := zt_of (i := 454) (by decide +kernel) (by decide +kernel)
theorem mlX4_147 : Cond.methodLink RX4 147 yX2_kindsOf ∈ zt := zt_of (i := 455) (by decide +kernel) (by decide +kernel)
theorem mlX2_135 : Cond.methodLink RX2 135 yX2_isMarkedBy ∈ zt := zt_of (i := 459) (by decide +kernel) (by decide +kernel)
theorem mlX2_138 : Cond.methodLink RX2 138 yX2_bitsOfLatest ∈ zt := zt_of (i := 463) (by decide +kernel) (by decide +kernel)
theorem mlL_106 : Cond.methodLink RL 106 yX4_deed ∈ zt := zt_of (i := 467) (by decide +kernel) (by decide +kernel)
theorem mlL_110 : Cond.methodLink RL 110 yX4_message ∈ zt := zt_of (i := 471) (by decide +kernel) (by decide +kernel)
theorem mlL_114 : Cond.methodLink RL 114 yX4_count ∈ zt := zt_of (i := 475) (by decide +kernel) (by decide +kernel)
theorem mlL_73 : Cond.methodLink RL 73 yL_sign ∈ zt := zt_of (i := 479) (by decide +kernel) (by decide +kernel)
theorem mlL_7 : Cond.methodLink RL 7 yX4_sign ∈ zt := zt_of (i := 483) (by decide +kernel) (by decide +kernel)
theorem mlX4_121 : Cond.methodLink RX4 121 yX4_livingSign ∈ zt := zt_of (i := 487) (by decide +kernel) (by decide +kernel)
theorem mlL_83 : Cond.methodLink RL 83 yL_path ∈ zt := zt_of (i := 557) (by decide +kernel) (by decide +kernel)
theorem mlL_15 : Cond.methodLink RL 15 yX4_path ∈ zt := zt_of (i := 560) (by decide +kernel) (by decide +kernel)
theorem mlX4_135 : Cond.methodLink RX4 135 yX1_levelOf ∈ zt := zt_of (i := 565) (by decide +kernel) (by decide +kernel)
theorem mlX4_138 : Cond.methodLink RX4 138 yX1_digitOf ∈ zt := zt_of (i := 566) (by decide +kernel) (by decide +kernel)
theorem mlX4_141 : Cond.methodLink RX4 141 yX1_siteOf ∈ zt := zt_of (i := 567) (by decide +kernel) (by decide +kernel)
theorem mlX4_144 : Cond.methodLink RX4 144 yX1_countOf ∈ zt := zt_of (i := 570) (by decide +kernel) (by decide +kernel)
theorem mlL_87 : Cond.methodLink RL 87 yL_kinds ∈ zt := zt_of (i := 573) (by decide +kernel) (by decide +kernel)
theorem mlL_19 : Cond.methodLink RL 19 yX4_kinds ∈ zt := zt_of (i := 576) (by decide +kernel) (by decide +kernel)
theorem mlL_79 : Cond.methodLink RL 79 yX5_thrown ∈ zt := zt_of (i := 580) (by decide +kernel) (by decide +kernel)
theorem mlL_25 : Cond.methodLink RL 25 yX5_init ∈ zt := zt_of (i := 586) (by decide +kernel) (by decide +kernel)
theorem flX5_1 : Cond.fieldLink RX5 1 RX5 "thrown" "I" ∈ zt := zt_of (i := 590) (by decide +kernel) (by decide +kernel)
theorem flX5_135 : Cond.fieldLink RX5 135 RX5 "deeds" "I" ∈ zt := zt_of (i := 591) (by decide +kernel) (by decide +kernel)
theorem flX5_13 : Cond.fieldLink RX5 13 RX5 "whose" "[I" ∈ zt := zt_of (i := 592) (by decide +kernel) (by decide +kernel)
theorem flX5_17 : Cond.fieldLink RX5 17 RX5 "number" "[I" ∈ zt := zt_of (i := 593) (by decide +kernel) (by decide +kernel)
theorem flX5_20 : Cond.fieldLink RX5 20 RX5 "time" "[I" ∈ zt := zt_of (i := 594) (by decide +kernel) (by decide +kernel)
theorem flX5_23 : Cond.fieldLink RX5 23 RX5 "sort" "[I" ∈ zt := zt_of (i := 595) (by decide +kernel) (by decide +kernel)
theorem flX5_26 : Cond.fieldLink RX5 26 RX5 "told" "[I" ∈ zt := zt_of (i := 596) (by decide +kernel) (by decide +kernel)
theorem flX5_29 : Cond.fieldLink RX5 29 RX5 "one" "[I" ∈ zt := zt_of (i := 597) (by decide +kernel) (by decide +kernel)
theorem flX5_32 : Cond.fieldLink RX5 32 RX5 "two" "[I" ∈ zt := zt_of (i := 598) (by decide +kernel) (by decide +kernel)
theorem flX5_35 : Cond.fieldLink RX5 35 RX5 "undone" "[Z" ∈ zt := zt_of (i := 599) (by decide +kernel) (by decide +kernel)
theorem flX5_39 : Cond.fieldLink RX5 39 RX5 "undoes" "[Z" ∈ zt := zt_of (i := 600) (by decide +kernel) (by decide +kernel)
theorem flX5_42 : Cond.fieldLink RX5 42 RX5 "levels" "[I" ∈ zt := zt_of (i := 601) (by decide +kernel) (by decide +kernel)
theorem flX5_45 : Cond.fieldLink RX5 45 RX5 "digits" "[I" ∈ zt := zt_of (i := 602) (by decide +kernel) (by decide +kernel)
theorem flX5_48 : Cond.fieldLink RX5 48 RX5 "sites" "[I" ∈ zt := zt_of (i := 603) (by decide +kernel) (by decide +kernel)
theorem flX5_51 : Cond.fieldLink RX5 51 RX5 "counts" "[I" ∈ zt := zt_of (i := 604) (by decide +kernel) (by decide +kernel)
theorem flX5_110 : Cond.fieldLink RX5 110 RX5 "typed" "I" ∈ zt := zt_of (i := 605) (by decide +kernel) (by decide +kernel)
theorem flX5_54 : Cond.fieldLink RX5 54 RX5 "sorted" "[I" ∈ zt := zt_of (i := 606) (by decide +kernel) (by decide +kernel)
theorem flX5_57 : Cond.fieldLink RX5 57 RX5 "rank" "[I" ∈ zt := zt_of (i := 607) (by decide +kernel) (by decide +kernel)
theorem flX5_60 : Cond.fieldLink RX5 60 RX5 "done" "[Z" ∈ zt := zt_of (i := 608) (by decide +kernel) (by decide +kernel)
theorem flX5_63 : Cond.fieldLink RX5 63 RX5 "waits" "[Z" ∈ zt := zt_of (i := 609) (by decide +kernel) (by decide +kernel)
theorem flX5_66 : Cond.fieldLink RX5 66 RX5 "latest" "[I" ∈ zt := zt_of (i := 610) (by decide +kernel) (by decide +kernel)
theorem flX5_69 : Cond.fieldLink RX5 69 RX5 "doneOf" "[I" ∈ zt := zt_of (i := 611) (by decide +kernel) (by decide +kernel)
theorem flX5_72 : Cond.fieldLink RX5 72 RX5 "greatest" "[I" ∈ zt := zt_of (i := 612) (by decide +kernel) (by decide +kernel)
theorem flX5_75 : Cond.fieldLink RX5 75 RX5 "streams" "[I" ∈ zt := zt_of (i := 613) (by decide +kernel) (by decide +kernel)
theorem flX5_78 : Cond.fieldLink RX5 78 RX5 "cursors" "[I" ∈ zt := zt_of (i := 614) (by decide +kernel) (by decide +kernel)
theorem flX5_145 : Cond.fieldLink RX5 145 RX5 "ways" "I" ∈ zt := zt_of (i := 615) (by decide +kernel) (by decide +kernel)
theorem flX5_81 : Cond.fieldLink RX5 81 RX5 "wayDeed" "[I" ∈ zt := zt_of (i := 616) (by decide +kernel) (by decide +kernel)
theorem flX5_84 : Cond.fieldLink RX5 84 RX5 "wayTo" "[I" ∈ zt := zt_of (i := 617) (by decide +kernel) (by decide +kernel)
theorem flX5_148 : Cond.fieldLink RX5 148 RX5 "gone" "I" ∈ zt := zt_of (i := 618) (by decide +kernel) (by decide +kernel)
theorem flX5_87 : Cond.fieldLink RX5 87 RX5 "digit" "[I" ∈ zt := zt_of (i := 619) (by decide +kernel) (by decide +kernel)
theorem flX5_90 : Cond.fieldLink RX5 90 RX5 "site" "[I" ∈ zt := zt_of (i := 620) (by decide +kernel) (by decide +kernel)
theorem flX5_93 : Cond.fieldLink RX5 93 RX5 "count" "[I" ∈ zt := zt_of (i := 621) (by decide +kernel) (by decide +kernel)
theorem flX5_116 : Cond.fieldLink RX5 116 RX5 "deep" "I" ∈ zt := zt_of (i := 622) (by decide +kernel) (by decide +kernel)
theorem mlL_29 : Cond.methodLink RL 29 yX5_stream ∈ zt := zt_of (i := 690) (by decide +kernel) (by decide +kernel)
theorem mlX5_102 : Cond.methodLink RX5 102 yX5_isReplica ∈ zt := zt_of (i := 694) (by decide +kernel) (by decide +kernel)
theorem klX5_96 : Cond.constantLong RX5 96 5 ∈ zt := zt_of (i := 697) (by decide +kernel) (by decide +kernel)
theorem mlX5_98 : Cond.methodLink RX5 98 yX5_in ∈ zt := zt_of (i := 698) (by decide +kernel) (by decide +kernel)
theorem mlL_34 : Cond.methodLink RL 34 yX5_type ∈ zt := zt_of (i := 701) (by decide +kernel) (by decide +kernel)
theorem mlX5_177 : Cond.methodLink RX5 177 yX5_sizeOf ∈ zt := zt_of (i := 705) (by decide +kernel) (by decide +kernel)
theorem mlX5_113 : Cond.methodLink RX5 113 yX5_lives ∈ zt := zt_of (i := 709) (by decide +kernel) (by decide +kernel)
theorem mlX5_106 : Cond.methodLink RX5 106 yX5_has ∈ zt := zt_of (i := 713) (by decide +kernel) (by decide +kernel)
theorem klX5_180 : Cond.constantLong RX5 180 32 ∈ zt := zt_of (i := 717) (by decide +kernel) (by decide +kernel)
theorem klX5_182 : Cond.constantLong RX5 182 126 ∈ zt := zt_of (i := 718) (by decide +kernel) (by decide +kernel)
theorem mlX5_184 : Cond.methodLink RX5 184 yX5_typeOne ∈ zt := zt_of (i := 719) (by decide +kernel) (by decide +kernel)
theorem mlX5_162 : Cond.methodLink RX5 162 yX5_signAt ∈ zt := zt_of (i := 723) (by decide +kernel) (by decide +kernel)
theorem mlX5_166 : Cond.methodLink RX5 166 yX5_nextOf ∈ zt := zt_of (i := 727) (by decide +kernel) (by decide +kernel)
theorem mlX5_169 : Cond.methodLink RX5 169 yX5_findsPath ∈ zt := zt_of (i := 731) (by decide +kernel) (by decide +kernel)
theorem knX5_119 : Cond.constant RX5 119 1664525 ∈ zt := zt_of (i := 735) (by decide +kernel) (by decide +kernel)
theorem knX5_120 : Cond.constant RX5 120 1013904223 ∈ zt := zt_of (i := 736) (by decide +kernel) (by decide +kernel)
theorem mlX5_121 : Cond.methodLink RX5 121 yX5_level ∈ zt := zt_of (i := 737) (by decide +kernel) (by decide +kernel)
theorem mlX5_125 : Cond.methodLink RX5 125 yX5_isLevel ∈ zt := zt_of (i := 741) (by decide +kernel) (by decide +kernel)
theorem mlX5_173 : Cond.methodLink RX5 173 yX5_made ∈ zt := zt_of (i := 745) (by decide +kernel) (by decide +kernel)
theorem mlX5_151 : Cond.methodLink RX5 151 yX5_sortIn ∈ zt := zt_of (i := 749) (by decide +kernel) (by decide +kernel)
theorem mlX5_129 : Cond.methodLink RX5 129 yX5_isBefore ∈ zt := zt_of (i := 753) (by decide +kernel) (by decide +kernel)
theorem mlX5_141 : Cond.methodLink RX5 141 yX5_isDone ∈ zt := zt_of (i := 757) (by decide +kernel) (by decide +kernel)
theorem mlX5_132 : Cond.methodLink RX5 132 yX5_isLater ∈ zt := zt_of (i := 761) (by decide +kernel) (by decide +kernel)
theorem mlX5_155 : Cond.methodLink RX5 155 yX5_goOn ∈ zt := zt_of (i := 765) (by decide +kernel) (by decide +kernel)
theorem mlX5_138 : Cond.methodLink RX5 138 yX5_can ∈ zt := zt_of (i := 769) (by decide +kernel) (by decide +kernel)
theorem mlX5_159 : Cond.methodLink RX5 159 yX5_send ∈ zt := zt_of (i := 773) (by decide +kernel) (by decide +kernel)
theorem mlL_38 : Cond.methodLink RL 38 yX5_paste ∈ zt := zt_of (i := 777) (by decide +kernel) (by decide +kernel)
theorem klX5_188 : Cond.constantLong RX5 188 20 ∈ zt := zt_of (i := 781) (by decide +kernel) (by decide +kernel)
theorem mlL_42 : Cond.methodLink RL 42 yX5_erase ∈ zt := zt_of (i := 782) (by decide +kernel) (by decide +kernel)
theorem mlL_47 : Cond.methodLink RL 47 yX5_undo ∈ zt := zt_of (i := 786) (by decide +kernel) (by decide +kernel)
theorem mlL_52 : Cond.methodLink RL 52 yX5_mark ∈ zt := zt_of (i := 790) (by decide +kernel) (by decide +kernel)
theorem klX5_190 : Cond.constantLong RX5 190 7 ∈ zt := zt_of (i := 794) (by decide +kernel) (by decide +kernel)
theorem mlL_56 : Cond.methodLink RL 56 yX5_deliver ∈ zt := zt_of (i := 795) (by decide +kernel) (by decide +kernel)
theorem mlX5_192 : Cond.methodLink RX5 192 yX5_drop ∈ zt := zt_of (i := 799) (by decide +kernel) (by decide +kernel)
theorem mlX5_195 : Cond.methodLink RX5 195 yX5_comes ∈ zt := zt_of (i := 803) (by decide +kernel) (by decide +kernel)
theorem mlL_60 : Cond.methodLink RL 60 yX5_lose ∈ zt := zt_of (i := 807) (by decide +kernel) (by decide +kernel)
theorem mlL_64 : Cond.methodLink RL 64 yX5_repeat ∈ zt := zt_of (i := 811) (by decide +kernel) (by decide +kernel)
theorem mlL_68 : Cond.methodLink RL 68 yX5_sync ∈ zt := zt_of (i := 815) (by decide +kernel) (by decide +kernel)
theorem mlL_72 : Cond.methodLink RL 72 yX5_length ∈ zt := zt_of (i := 819) (by decide +kernel) (by decide +kernel)
theorem mlL_78 : Cond.methodLink RL 78 yX5_sign ∈ zt := zt_of (i := 823) (by decide +kernel) (by decide +kernel)
theorem mlX5_198 : Cond.methodLink RX5 198 yX5_signOf ∈ zt := zt_of (i := 827) (by decide +kernel) (by decide +kernel)
theorem mlL_86 : Cond.methodLink RL 86 yX5_path ∈ zt := zt_of (i := 831) (by decide +kernel) (by decide +kernel)
theorem klX5_201 : Cond.constantLong RX5 201 3 ∈ zt := zt_of (i := 835) (by decide +kernel) (by decide +kernel)
theorem mlL_89 : Cond.methodLink RL 89 yX5_kinds ∈ zt := zt_of (i := 836) (by decide +kernel) (by decide +kernel)
theorem mlX5_203 : Cond.methodLink RX5 203 yX5_kindsOf ∈ zt := zt_of (i := 840) (by decide +kernel) (by decide +kernel)
theorem mlL_93 : Cond.methodLink RL 93 yX5_cursor ∈ zt := zt_of (i := 844) (by decide +kernel) (by decide +kernel)
theorem mlX5_206 : Cond.methodLink RX5 206 yX5_placeOf ∈ zt := zt_of (i := 848) (by decide +kernel) (by decide +kernel)
theorem mlL_97 : Cond.methodLink RL 97 yX5_at ∈ zt := zt_of (i := 852) (by decide +kernel) (by decide +kernel)
theorem mlL_101 : Cond.methodLink RL 101 yX5_about ∈ zt := zt_of (i := 856) (by decide +kernel) (by decide +kernel)
theorem mlL_105 : Cond.methodLink RL 105 yX5_same ∈ zt := zt_of (i := 860) (by decide +kernel) (by decide +kernel)
theorem mlL_109 : Cond.methodLink RL 109 yX5_deed ∈ zt := zt_of (i := 864) (by decide +kernel) (by decide +kernel)
theorem mlL_113 : Cond.methodLink RL 113 yX5_message ∈ zt := zt_of (i := 868) (by decide +kernel) (by decide +kernel)
theorem mlL_117 : Cond.methodLink RL 117 yX5_count ∈ zt := zt_of (i := 872) (by decide +kernel) (by decide +kernel)
theorem iniMath : Cond.initialized "java/lang/Math" ∈ zt := zt_of (i := 40) (by decide +kernel) (by decide +kernel)
theorem stMath_max : Cond.static Lib.Math.max.name ∈ zt := zt_of (i := 341) (by decide +kernel) (by decide +kernel)
theorem cdMath_max : Cond.code Lib.Math.max.name Lib.Math.max.code 2 (some .int) ∈ zt := zt_of (i := 342) (by decide +kernel) (by decide +kernel)
theorem stMath_min : Cond.static Lib.Math.min.name ∈ zt := zt_of (i := 298) (by decide +kernel) (by decide +kernel)
theorem cdMath_min : Cond.code Lib.Math.min.name Lib.Math.min.code 2 (some .int) ∈ zt := zt_of (i := 299) (by decide +kernel) (by decide +kernel)
end
section
theorem dX4_init_0 : decode cX4_init 0 = .ok (.aload_n 0, 1) := by decide +kernel
theorem dX4_init_1 : decode cX4_init 1 = .ok (.invokespecial 1, 3) := by decide +kernel
theorem dX4_init_4 : decode cX4_init 4 = .ok (.aload_n 0, 1) := by decide +kernel
theorem dX4_init_5 : decode cX4_init 5 = .ok (.new 7, 3) := by decide +kernel
theorem dX4_init_8 : decode cX4_init 8 = .ok (.dup, 1) := by decide +kernel
theorem dX4_init_9 : decode cX4_init 9 = .ok (.invokespecial 9, 3) := by decide +kernel
theorem dX4_init_12 : decode cX4_init 12 = .ok (.putfield 10, 3) := by decide +kernel
theorem dX4_init_15 : decode cX4_init 15 = .ok (.aload_n 0, 1) := by decide +kernel
theorem dX4_init_16 : decode cX4_init 16 = .ok (.new 16, 3) := by decide +kernel
theorem dX4_init_19 : decode cX4_init 19 = .ok (.dup, 1) := by decide +kernel
theorem dX4_init_20 : decode cX4_init 20 = .ok (.invokespecial 18, 3) := by decide +kernel
theorem dX4_init_23 : decode cX4_init 23 = .ok (.putfield 19, 3) := by decide +kernel
theorem dX4_init_26 : decode cX4_init 26 = .ok (.aload_n 0, 1) := by decide +kernel
theorem dX4_init_27 : decode cX4_init 27 = .ok (.new 23, 3) := by decide +kernel
theorem dX4_init_30 : decode cX4_init 30 = .ok (.dup, 1) := by decide +kernel
theorem dX4_init_31 : decode cX4_init 31 = .ok (.invokespecial 25, 3) := by decide +kernel
theorem dX4_init_34 : decode cX4_init 34 = .ok (.putfield 26, 3) := by decide +kernel
theorem dX4_init_37 : decode cX4_init 37 = .ok (.aload_n 0, 1) := by decide +kernel
theorem dX4_init_38 : decode cX4_init 38 = .ok (.bipush 6, 2) := by decide +kernel
theorem dX4_init_40 : decode cX4_init 40 = .ok (.anewarray 30, 3) := by decide +kernel
theorem dX4_init_43 : decode cX4_init 43 = .ok (.putfield 32, 3) := by decide +kernel
theorem dX4_init_46 : decode cX4_init 46 = .ok (.iconst 0, 1) := by decide +kernel
theorem dX4_init_47 : decode cX4_init 47 = .ok (.istore_n 1, 1) := by decide +kernel
theorem dX4_init_48 : decode cX4_init 48 = .ok (.iload_n 1, 1) := by decide +kernel
theorem dX4_init_49 : decode cX4_init 49 = .ok (.bipush 6, 2) := by decide +kernel
theorem dX4_init_51 : decode cX4_init 51 = .ok (.if_icmp .ge 31, 3) := by decide +kernel
theorem dX4_init_54 : decode cX4_init 54 = .ok (.aload_n 0, 1) := by decide +kernel
theorem dX4_init_55 : decode cX4_init 55 = .ok (.getfield 32, 3) := by decide +kernel
theorem dX4_init_58 : decode cX4_init 58 = .ok (.iload_n 1, 1) := by decide +kernel
theorem dX4_init_59 : decode cX4_init 59 = .ok (.new 30, 3) := by decide +kernel
theorem dX4_init_62 : decode cX4_init 62 = .ok (.dup, 1) := by decide +kernel
theorem dX4_init_63 : decode cX4_init 63 = .ok (.iload_n 1, 1) := by decide +kernel
theorem dX4_init_64 : decode cX4_init 64 = .ok (.aload_n 0, 1) := by decide +kernel
theorem dX4_init_65 : decode cX4_init 65 = .ok (.getfield 10, 3) := by decide +kernel
theorem dX4_init_68 : decode cX4_init 68 = .ok (.aload_n 0, 1) := by decide +kernel
theorem dX4_init_69 : decode cX4_init 69 = .ok (.getfield 19, 3) := by decide +kernel
theorem dX4_init_72 : decode cX4_init 72 = .ok (.invokespecial 36, 3) := by decide +kernel
theorem dX4_init_75 : decode cX4_init 75 = .ok (.aastore, 1) := by decide +kernel
theorem dX4_init_76 : decode cX4_init 76 = .ok (.iinc 1 1, 3) := by decide +kernel
theorem dX4_init_79 : decode cX4_init 79 = .ok (.goto (-31), 3) := by decide +kernel
theorem dX4_init_82 : decode cX4_init 82 = .ok (.return_, 1) := by decide +kernel
theorem dX4_stream_0 : decode cX4_stream 0 = .ok (.iload_n 1, 1) := by decide +kernel
theorem dX4_stream_1 : decode cX4_stream 1 = .ok (.invokestatic 39, 3) := by decide +kernel
theorem dX4_stream_4 : decode cX4_stream 4 = .ok (.ifCond .ne 6, 3) := by decide +kernel
theorem dX4_stream_7 : decode cX4_stream 7 = .ok (.bipush (-101), 2) := by decide +kernel
theorem dX4_stream_9 : decode cX4_stream 9 = .ok (.ireturn, 1) := by decide +kernel
theorem dX4_stream_10 : decode cX4_stream 10 = .ok (.aload_n 0, 1) := by decide +kernel
theorem dX4_stream_11 : decode cX4_stream 11 = .ok (.getfield 32, 3) := by decide +kernel
theorem dX4_stream_14 : decode cX4_stream 14 = .ok (.iload_n 1, 1) := by decide +kernel
theorem dX4_stream_15 : decode cX4_stream 15 = .ok (.aaload, 1) := by decide +kernel
theorem dX4_stream_16 : decode cX4_stream 16 = .ok (.getfield 43, 3) := by decide +kernel
theorem dX4_stream_19 : decode cX4_stream 19 = .ok (.istore_n 3, 1) := by decide +kernel
theorem dX4_stream_20 : decode cX4_stream 20 = .ok (.aload_n 0, 1) := by decide +kernel
theorem dX4_stream_21 : decode cX4_stream 21 = .ok (.getfield 32, 3) := by decide +kernel
theorem dX4_stream_24 : decode cX4_stream 24 = .ok (.iload_n 1, 1) := by decide +kernel
theorem dX4_stream_25 : decode cX4_stream 25 = .ok (.aaload, 1) := by decide +kernel
theorem dX4_stream_26 : decode cX4_stream 26 = .ok (.iload_n 2, 1) := by decide +kernel
theorem dX4_stream_27 : decode cX4_stream 27 = .ok (.putfield 43, 3) := by decide +kernel
theorem dX4_stream_30 : decode cX4_stream 30 = .ok (.iload_n 3, 1) := by decide +kernel
theorem dX4_stream_31 : decode cX4_stream 31 = .ok (.ireturn, 1) := by decide +kernel
theorem dX4_type_0 : decode cX4_type 0 = .ok (.iload_n 1, 1) := by decide +kernel
theorem dX4_type_1 : decode cX4_type 1 = .ok (.invokestatic 39, 3) := by decide +kernel
theorem dX4_type_4 : decode cX4_type 4 = .ok (.ifCond .ne 6, 3) := by decide +kernel
theorem dX4_type_7 : decode cX4_type 7 = .ok (.bipush (-101), 2) := by decide +kernel
theorem dX4_type_9 : decode cX4_type 9 = .ok (.ireturn, 1) := by decide +kernel
theorem dX4_type_10 : decode cX4_type 10 = .ok (.aload_n 0, 1) := by decide +kernel
theorem dX4_type_11 : decode cX4_type 11 = .ok (.getfield 32, 3) := by decide +kernel
theorem dX4_type_14 : decode cX4_type 14 = .ok (.iload_n 1, 1) := by decide +kernel
theorem dX4_type_15 : decode cX4_type 15 = .ok (.aaload, 1) := by decide +kernel
theorem dX4_type_16 : decode cX4_type 16 = .ok (.iload_n 2, 1) := by decide +kernel
theorem dX4_type_17 : decode cX4_type 17 = .ok (.invokevirtual 47, 3) := by decide +kernel
theorem dX4_type_20 : decode cX4_type 20 = .ok (.ifCond .eq 10, 3) := by decide +kernel
theorem dX4_type_23 : decode cX4_type 23 = .ok (.iload_n 3, 1) := by decide +kernel
theorem dX4_type_24 : decode cX4_type 24 = .ok (.invokestatic 50, 3) := by decide +kernel
theorem dX4_type_27 : decode cX4_type 27 = .ok (.ifCond .ne 6, 3) := by decide +kernel
theorem dX4_type_30 : decode cX4_type 30 = .ok (.bipush (-102), 2) := by decide +kernel
theorem dX4_type_32 : decode cX4_type 32 = .ok (.ireturn, 1) := by decide +kernel
theorem dX4_type_33 : decode cX4_type 33 = .ok (.aload_n 0, 1) := by decide +kernel
theorem dX4_type_34 : decode cX4_type 34 = .ok (.aload_n 0, 1) := by decide +kernel
theorem dX4_type_35 : decode cX4_type 35 = .ok (.getfield 32, 3) := by decide +kernel
theorem dX4_type_38 : decode cX4_type 38 = .ok (.iload_n 1, 1) := by decide +kernel
theorem dX4_type_39 : decode cX4_type 39 = .ok (.aaload, 1) := by decide +kernel
theorem dX4_type_40 : decode cX4_type 40 = .ok (.iload_n 2, 1) := by decide +kernel
theorem dX4_type_41 : decode cX4_type 41 = .ok (.iload_n 3, 1) := by decide +kernel
theorem dX4_type_42 : decode cX4_type 42 = .ok (.invokevirtual 53, 3) := by decide +kernel
theorem dX4_type_45 : decode cX4_type 45 = .ok (.ireturn, 1) := by decide +kernel
theorem dX4_paste_0 : decode cX4_paste 0 = .ok (.iload_n 1, 1) := by decide +kernel
theorem dX4_paste_1 : decode cX4_paste 1 = .ok (.invokestatic 39, 3) := by decide +kernel
theorem dX4_paste_4 : decode cX4_paste 4 = .ok (.ifCond .ne 6, 3) := by decide +kernel
theorem dX4_paste_7 : decode cX4_paste 7 = .ok (.bipush (-101), 2) := by decide +kernel
theorem dX4_paste_9 : decode cX4_paste 9 = .ok (.ireturn, 1) := by decide +kernel
theorem dX4_paste_10 : decode cX4_paste 10 = .ok (.aload_n 0, 1) := by decide +kernel
theorem dX4_paste_11 : decode cX4_paste 11 = .ok (.getfield 32, 3) := by decide +kernel
theorem dX4_paste_14 : decode cX4_paste 14 = .ok (.iload_n 1, 1) := by decide +kernel
theorem dX4_paste_15 : decode cX4_paste 15 = .ok (.aaload, 1) := by decide +kernel
theorem dX4_paste_16 : decode cX4_paste 16 = .ok (.iload_n 2, 1) := by decide +kernel
theorem dX4_paste_17 : decode cX4_paste 17 = .ok (.invokevirtual 47, 3) := by decide +kernel
theorem dX4_paste_20 : decode cX4_paste 20 = .ok (.ifCond .eq 22, 3) := by decide +kernel
theorem dX4_paste_23 : decode cX4_paste 23 = .ok (.iload_n 3, 1) := by decide +kernel
theorem dX4_paste_24 : decode cX4_paste 24 = .ok (.iconst 1, 1) := by decide +kernel
theorem dX4_paste_25 : decode cX4_paste 25 = .ok (.if_icmp .lt 17, 3) := by decide +kernel
theorem dX4_paste_28 : decode cX4_paste 28 = .ok (.iload_n 3, 1) := by decide +kernel
theorem dX4_paste_29 : decode cX4_paste 29 = .ok (.bipush 20, 2) := by decide +kernel
theorem dX4_paste_31 : decode cX4_paste 31 = .ok (.if_icmp .gt 11, 3) := by decide +kernel
theorem dX4_paste_34 : decode cX4_paste 34 = .ok (.iload 4, 2) := by decide +kernel
theorem dX4_paste_36 : decode cX4_paste 36 = .ok (.invokestatic 50, 3) := by decide +kernel
theorem dX4_paste_39 : decode cX4_paste 39 = .ok (.ifCond .ne 6, 3) := by decide +kernel
theorem dX4_paste_42 : decode cX4_paste 42 = .ok (.bipush (-102), 2) := by decide +kernel
theorem dX4_paste_44 : decode cX4_paste 44 = .ok (.ireturn, 1) := by decide +kernel
theorem dX4_paste_45 : decode cX4_paste 45 = .ok (.iload 4, 2) := by decide +kernel
theorem dX4_paste_47 : decode cX4_paste 47 = .ok (.istore 5, 2) := by decide +kernel
theorem dX4_paste_49 : decode cX4_paste 49 = .ok (.iconst 0, 1) := by decide +kernel
theorem dX4_paste_50 : decode cX4_paste 50 = .ok (.istore 6, 2) := by decide +kernel
theorem dX4_paste_52 : decode cX4_paste 52 = .ok (.iload 6, 2) := by decide +kernel
theorem dX4_paste_54 : decode cX4_paste 54 = .ok (.iload_n 3, 1) := by decide +kernel
theorem dX4_paste_55 : decode cX4_paste 55 = .ok (.if_icmp .ge 51, 3) := by decide +kernel
theorem dX4_paste_58 : decode cX4_paste 58 = .ok (.aload_n 0, 1) := by decide +kernel
theorem dX4_paste_59 : decode cX4_paste 59 = .ok (.aload_n 0, 1) := by decide +kernel
theorem dX4_paste_60 : decode cX4_paste 60 = .ok (.getfield 32, 3) := by decide +kernel
theorem dX4_paste_63 : decode cX4_paste 63 = .ok (.iload_n 1, 1) := by decide +kernel
theorem dX4_paste_64 : decode cX4_paste 64 = .ok (.aaload, 1) := by decide +kernel
theorem dX4_paste_65 : decode cX4_paste 65 = .ok (.iload_n 2, 1) := by decide +kernel
theorem dX4_paste_66 : decode cX4_paste 66 = .ok (.iload 6, 2) := by decide +kernel
theorem dX4_paste_68 : decode cX4_paste 68 = .ok (.iadd, 1) := by decide +kernel
theorem dX4_paste_69 : decode cX4_paste 69 = .ok (.iload 5, 2) := by decide +kernel
theorem dX4_paste_71 : decode cX4_paste 71 = .ok (.invokevirtual 53, 3) := by decide +kernel
theorem dX4_paste_74 : decode cX4_paste 74 = .ok (.bipush (-104), 2) := by decide +kernel
theorem dX4_paste_76 : decode cX4_paste 76 = .ok (.if_icmp .ne 6, 3) := by decide +kernel
theorem dX4_paste_79 : decode cX4_paste 79 = .ok (.iload 6, 2) := by decide +kernel
theorem dX4_paste_81 : decode cX4_paste 81 = .ok (.ireturn, 1) := by decide +kernel
theorem dX4_paste_82 : decode cX4_paste 82 = .ok (.iload 5, 2) := by decide +kernel
theorem dX4_paste_84 : decode cX4_paste 84 = .ok (.bipush 126, 2) := by decide +kernel
theorem dX4_paste_86 : decode cX4_paste 86 = .ok (.if_icmp .ne 8, 3) := by decide +kernel
theorem dX4_paste_89 : decode cX4_paste 89 = .ok (.bipush 32, 2) := by decide +kernel
theorem dX4_paste_91 : decode cX4_paste 91 = .ok (.goto 7, 3) := by decide +kernel
theorem dX4_paste_94 : decode cX4_paste 94 = .ok (.iload 5, 2) := by decide +kernel
theorem dX4_paste_96 : decode cX4_paste 96 = .ok (.iconst 1, 1) := by decide +kernel
theorem dX4_paste_97 : decode cX4_paste 97 = .ok (.iadd, 1) := by decide +kernel
theorem dX4_paste_98 : decode cX4_paste 98 = .ok (.istore 5, 2) := by decide +kernel
theorem dX4_paste_100 : decode cX4_paste 100 = .ok (.iinc 6 1, 3) := by decide +kernel
theorem dX4_paste_103 : decode cX4_paste 103 = .ok (.goto (-51), 3) := by decide +kernel
theorem dX4_paste_106 : decode cX4_paste 106 = .ok (.iload_n 3, 1) := by decide +kernel
theorem dX4_paste_107 : decode cX4_paste 107 = .ok (.ireturn, 1) := by decide +kernel
theorem dX4_erase_0 : decode cX4_erase 0 = .ok (.iload_n 1, 1) := by decide +kernel
theorem dX4_erase_1 : decode cX4_erase 1 = .ok (.invokestatic 39, 3) := by decide +kernel
theorem dX4_erase_4 : decode cX4_erase 4 = .ok (.ifCond .ne 6, 3) := by decide +kernel
theorem dX4_erase_7 : decode cX4_erase 7 = .ok (.bipush (-101), 2) := by decide +kernel
theorem dX4_erase_9 : decode cX4_erase 9 = .ok (.ireturn, 1) := by decide +kernel
theorem dX4_erase_10 : decode cX4_erase 10 = .ok (.aload_n 0, 1) := by decide +kernel
theorem dX4_erase_11 : decode cX4_erase 11 = .ok (.getfield 32, 3) := by decide +kernel
theorem dX4_erase_14 : decode cX4_erase 14 = .ok (.iload_n 1, 1) := by decide +kernel
theorem dX4_erase_15 : decode cX4_erase 15 = .ok (.aaload, 1) := by decide +kernel
theorem dX4_erase_16 : decode cX4_erase 16 = .ok (.iload_n 2, 1) := by decide +kernel
theorem dX4_erase_17 : decode cX4_erase 17 = .ok (.invokevirtual 57, 3) := by decide +kernel
theorem dX4_erase_20 : decode cX4_erase 20 = .ok (.istore_n 3, 1) := by decide +kernel
theorem dX4_erase_21 : decode cX4_erase 21 = .ok (.iload_n 3, 1) := by decide +kernel
theorem dX4_erase_22 : decode cX4_erase 22 = .ok (.iconst (-1), 1) := by decide +kernel
theorem dX4_erase_23 : decode cX4_erase 23 = .ok (.if_icmp .ne 6, 3) := by decide +kernel
theorem dX4_erase_26 : decode cX4_erase 26 = .ok (.bipush (-102), 2) := by decide +kernel
theorem dX4_erase_28 : decode cX4_erase 28 = .ok (.ireturn, 1) := by decide +kernel
theorem dX4_erase_29 : decode cX4_erase 29 = .ok (.aload_n 0, 1) := by decide +kernel
theorem dX4_erase_30 : decode cX4_erase 30 = .ok (.getfield 10, 3) := by decide +kernel
theorem dX4_erase_33 : decode cX4_erase 33 = .ok (.invokevirtual 61, 3) := by decide +kernel
theorem dX4_erase_36 : decode cX4_erase 36 = .ok (.ifCond .eq 8, 3) := by decide +kernel
theorem dX4_erase_39 : decode cX4_erase 39 = .ok (.bipush (-104), 2) := by decide +kernel
theorem dX4_erase_41 : decode cX4_erase 41 = .ok (.goto 17, 3) := by decide +kernel
theorem dX4_erase_44 : decode cX4_erase 44 = .ok (.aload_n 0, 1) := by decide +kernel
theorem dX4_erase_45 : decode cX4_erase 45 = .ok (.aload_n 0, 1) := by decide +kernel
theorem dX4_erase_46 : decode cX4_erase 46 = .ok (.getfield 32, 3) := by decide +kernel
theorem dX4_erase_49 : decode cX4_erase 49 = .ok (.iload_n 1, 1) := by decide +kernel
theorem dX4_erase_50 : decode cX4_erase 50 = .ok (.aaload, 1) := by decide +kernel
theorem dX4_erase_51 : decode cX4_erase 51 = .ok (.iconst 1, 1) := by decide +kernel
theorem dX4_erase_52 : decode cX4_erase 52 = .ok (.iconst 0, 1) := by decide +kernel
theorem dX4_erase_53 : decode cX4_erase 53 = .ok (.iload_n 3, 1) := by decide +kernel
theorem dX4_erase_54 : decode cX4_erase 54 = .ok (.iload_n 3, 1) := by decide +kernel
theorem dX4_erase_55 : decode cX4_erase 55 = .ok (.invokevirtual 65, 3) := by decide +kernel
theorem dX4_erase_58 : decode cX4_erase 58 = .ok (.ireturn, 1) := by decide +kernel
theorem dX4_undo_0 : decode cX4_undo 0 = .ok (.iload_n 1, 1) := by decide +kernel
theorem dX4_undo_1 : decode cX4_undo 1 = .ok (.invokestatic 39, 3) := by decide +kernel
theorem dX4_undo_4 : decode cX4_undo 4 = .ok (.ifCond .ne 6, 3) := by decide +kernel
theorem dX4_undo_7 : decode cX4_undo 7 = .ok (.bipush (-101), 2) := by decide +kernel
theorem dX4_undo_9 : decode cX4_undo 9 = .ok (.ireturn, 1) := by decide +kernel
theorem dX4_undo_10 : decode cX4_undo 10 = .ok (.aload_n 0, 1) := by decide +kernel
theorem dX4_undo_11 : decode cX4_undo 11 = .ok (.getfield 10, 3) := by decide +kernel
theorem dX4_undo_14 : decode cX4_undo 14 = .ok (.iload_n 1, 1) := by decide +kernel
theorem dX4_undo_15 : decode cX4_undo 15 = .ok (.invokevirtual 69, 3) := by decide +kernel
theorem dX4_undo_18 : decode cX4_undo 18 = .ok (.istore_n 2, 1) := by decide +kernel
theorem dX4_undo_19 : decode cX4_undo 19 = .ok (.iload_n 2, 1) := by decide +kernel
theorem dX4_undo_20 : decode cX4_undo 20 = .ok (.iconst (-1), 1) := by decide +kernel
theorem dX4_undo_21 : decode cX4_undo 21 = .ok (.if_icmp .ne 6, 3) := by decide +kernel
theorem dX4_undo_24 : decode cX4_undo 24 = .ok (.bipush (-103), 2) := by decide +kernel
theorem dX4_undo_26 : decode cX4_undo 26 = .ok (.ireturn, 1) := by decide +kernel
theorem dX4_undo_27 : decode cX4_undo 27 = .ok (.aload_n 0, 1) := by decide +kernel
theorem dX4_undo_28 : decode cX4_undo 28 = .ok (.getfield 10, 3) := by decide +kernel
theorem dX4_undo_31 : decode cX4_undo 31 = .ok (.invokevirtual 61, 3) := by decide +kernel
theorem dX4_undo_34 : decode cX4_undo 34 = .ok (.ifCond .eq 6, 3) := by decide +kernel
theorem dX4_undo_37 : decode cX4_undo 37 = .ok (.bipush (-104), 2) := by decide +kernel
theorem dX4_undo_39 : decode cX4_undo 39 = .ok (.ireturn, 1) := by decide +kernel
theorem dX4_undo_40 : decode cX4_undo 40 = .ok (.aload_n 0, 1) := by decide +kernel
theorem dX4_undo_41 : decode cX4_undo 41 = .ok (.getfield 10, 3) := by decide +kernel
theorem dX4_undo_44 : decode cX4_undo 44 = .ok (.getfield 72, 3) := by decide +kernel
theorem dX4_undo_47 : decode cX4_undo 47 = .ok (.iload_n 2, 1) := by decide +kernel
theorem dX4_undo_48 : decode cX4_undo 48 = .ok (.iaload, 1) := by decide +kernel
theorem dX4_undo_49 : decode cX4_undo 49 = .ok (.istore_n 3, 1) := by decide +kernel
theorem dX4_undo_50 : decode cX4_undo 50 = .ok (.aload_n 0, 1) := by decide +kernel
theorem dX4_undo_51 : decode cX4_undo 51 = .ok (.aload_n 0, 1) := by decide +kernel
theorem dX4_undo_52 : decode cX4_undo 52 = .ok (.getfield 32, 3) := by decide +kernel
theorem dX4_undo_55 : decode cX4_undo 55 = .ok (.iload_n 1, 1) := by decide +kernel
theorem dX4_undo_56 : decode cX4_undo 56 = .ok (.aaload, 1) := by decide +kernel
theorem dX4_undo_57 : decode cX4_undo 57 = .ok (.aload_n 0, 1) := by decide +kernel
theorem dX4_undo_58 : decode cX4_undo 58 = .ok (.getfield 10, 3) := by decide +kernel
theorem dX4_undo_61 : decode cX4_undo 61 = .ok (.getfield 76, 3) := by decide +kernel
theorem dX4_undo_64 : decode cX4_undo 64 = .ok (.iload_n 2, 1) := by decide +kernel
theorem dX4_undo_65 : decode cX4_undo 65 = .ok (.iaload, 1) := by decide +kernel
theorem dX4_undo_66 : decode cX4_undo 66 = .ok (.ifCond .ne 7, 3) := by decide +kernel
theorem dX4_undo_69 : decode cX4_undo 69 = .ok (.iconst 1, 1) := by decide +kernel
theorem dX4_undo_70 : decode cX4_undo 70 = .ok (.goto 4, 3) := by decide +kernel
theorem dX4_undo_73 : decode cX4_undo 73 = .ok (.iconst 2, 1) := by decide +kernel
theorem dX4_undo_74 : decode cX4_undo 74 = .ok (.iconst 0, 1) := by decide +kernel
theorem dX4_undo_75 : decode cX4_undo 75 = .ok (.iload_n 3, 1) := by decide +kernel
theorem dX4_undo_76 : decode cX4_undo 76 = .ok (.iload_n 3, 1) := by decide +kernel
theorem dX4_undo_77 : decode cX4_undo 77 = .ok (.invokevirtual 65, 3) := by decide +kernel
theorem dX4_undo_80 : decode cX4_undo 80 = .ok (.istore 4, 2) := by decide +kernel
theorem dX4_undo_82 : decode cX4_undo 82 = .ok (.aload_n 0, 1) := by decide +kernel
theorem dX4_undo_83 : decode cX4_undo 83 = .ok (.getfield 10, 3) := by decide +kernel
theorem dX4_undo_86 : decode cX4_undo 86 = .ok (.getfield 79, 3) := by decide +kernel
theorem dX4_undo_89 : decode cX4_undo 89 = .ok (.iload_n 2, 1) := by decide +kernel
theorem dX4_undo_90 : decode cX4_undo 90 = .ok (.iconst 0, 1) := by decide +kernel
theorem dX4_undo_91 : decode cX4_undo 91 = .ok (.bastore, 1) := by decide +kernel
theorem dX4_undo_92 : decode cX4_undo 92 = .ok (.aload_n 0, 1) := by decide +kernel
theorem dX4_undo_93 : decode cX4_undo 93 = .ok (.getfield 10, 3) := by decide +kernel
theorem dX4_undo_96 : decode cX4_undo 96 = .ok (.getfield 79, 3) := by decide +kernel
theorem dX4_undo_99 : decode cX4_undo 99 = .ok (.iload 4, 2) := by decide +kernel
theorem dX4_undo_101 : decode cX4_undo 101 = .ok (.iconst 0, 1) := by decide +kernel
theorem dX4_undo_102 : decode cX4_undo 102 = .ok (.bastore, 1) := by decide +kernel
theorem dX4_undo_103 : decode cX4_undo 103 = .ok (.iload 4, 2) := by decide +kernel
theorem dX4_undo_105 : decode cX4_undo 105 = .ok (.ireturn, 1) := by decide +kernel
theorem dX4_mark_0 : decode cX4_mark 0 = .ok (.iload_n 1, 1) := by decide +kernel
theorem dX4_mark_1 : decode cX4_mark 1 = .ok (.invokestatic 39, 3) := by decide +kernel
theorem dX4_mark_4 : decode cX4_mark 4 = .ok (.ifCond .ne 6, 3) := by decide +kernel
theorem dX4_mark_7 : decode cX4_mark 7 = .ok (.bipush (-101), 2) := by decide +kernel
theorem dX4_mark_9 : decode cX4_mark 9 = .ok (.ireturn, 1) := by decide +kernel
theorem dX4_mark_10 : decode cX4_mark 10 = .ok (.aload_n 0, 1) := by decide +kernel
theorem dX4_mark_11 : decode cX4_mark 11 = .ok (.getfield 32, 3) := by decide +kernel
theorem dX4_mark_14 : decode cX4_mark 14 = .ok (.iload_n 1, 1) := by decide +kernel
theorem dX4_mark_15 : decode cX4_mark 15 = .ok (.aaload, 1) := by decide +kernel
theorem dX4_mark_16 : decode cX4_mark 16 = .ok (.iload_n 2, 1) := by decide +kernel
theorem dX4_mark_17 : decode cX4_mark 17 = .ok (.invokevirtual 57, 3) := by decide +kernel
theorem dX4_mark_20 : decode cX4_mark 20 = .ok (.istore 6, 2) := by decide +kernel
theorem dX4_mark_22 : decode cX4_mark 22 = .ok (.aload_n 0, 1) := by decide +kernel
theorem dX4_mark_23 : decode cX4_mark 23 = .ok (.getfield 32, 3) := by decide +kernel
theorem dX4_mark_26 : decode cX4_mark 26 = .ok (.iload_n 1, 1) := by decide +kernel
theorem dX4_mark_27 : decode cX4_mark 27 = .ok (.aaload, 1) := by decide +kernel
theorem dX4_mark_28 : decode cX4_mark 28 = .ok (.iload_n 3, 1) := by decide +kernel
theorem dX4_mark_29 : decode cX4_mark 29 = .ok (.invokevirtual 57, 3) := by decide +kernel
theorem dX4_mark_32 : decode cX4_mark 32 = .ok (.istore 7, 2) := by decide +kernel
theorem dX4_mark_34 : decode cX4_mark 34 = .ok (.iload 6, 2) := by decide +kernel
theorem dX4_mark_36 : decode cX4_mark 36 = .ok (.iconst (-1), 1) := by decide +kernel
theorem dX4_mark_37 : decode cX4_mark 37 = .ok (.if_icmp .eq 26, 3) := by decide +kernel
theorem dX4_mark_40 : decode cX4_mark 40 = .ok (.iload 7, 2) := by decide +kernel
theorem dX4_mark_42 : decode cX4_mark 42 = .ok (.iconst (-1), 1) := by decide +kernel
theorem dX4_mark_43 : decode cX4_mark 43 = .ok (.if_icmp .eq 20, 3) := by decide +kernel
theorem dX4_mark_46 : decode cX4_mark 46 = .ok (.iload_n 2, 1) := by decide +kernel
theorem dX4_mark_47 : decode cX4_mark 47 = .ok (.iload_n 3, 1) := by decide +kernel
theorem dX4_mark_48 : decode cX4_mark 48 = .ok (.if_icmp .gt 15, 3) := by decide +kernel
theorem dX4_mark_51 : decode cX4_mark 51 = .ok (.iload 4, 2) := by decide +kernel
theorem dX4_mark_53 : decode cX4_mark 53 = .ok (.ifCond .lt 10, 3) := by decide +kernel
theorem dX4_mark_56 : decode cX4_mark 56 = .ok (.iload 4, 2) := by decide +kernel
theorem dX4_mark_58 : decode cX4_mark 58 = .ok (.bipush 8, 2) := by decide +kernel
theorem dX4_mark_60 : decode cX4_mark 60 = .ok (.if_icmp .lt 6, 3) := by decide +kernel
theorem dX4_mark_63 : decode cX4_mark 63 = .ok (.bipush (-102), 2) := by decide +kernel
theorem dX4_mark_65 : decode cX4_mark 65 = .ok (.ireturn, 1) := by decide +kernel
theorem dX4_mark_66 : decode cX4_mark 66 = .ok (.aload_n 0, 1) := by decide +kernel
theorem dX4_mark_67 : decode cX4_mark 67 = .ok (.getfield 10, 3) := by decide +kernel
theorem dX4_mark_70 : decode cX4_mark 70 = .ok (.invokevirtual 61, 3) := by decide +kernel
theorem dX4_mark_73 : decode cX4_mark 73 = .ok (.ifCond .eq 6, 3) := by decide +kernel
theorem dX4_mark_76 : decode cX4_mark 76 = .ok (.bipush (-104), 2) := by decide +kernel
theorem dX4_mark_78 : decode cX4_mark 78 = .ok (.ireturn, 1) := by decide +kernel
theorem dX4_mark_79 : decode cX4_mark 79 = .ok (.aload_n 0, 1) := by decide +kernel
theorem dX4_mark_80 : decode cX4_mark 80 = .ok (.aload_n 0, 1) := by decide +kernel
theorem dX4_mark_81 : decode cX4_mark 81 = .ok (.getfield 32, 3) := by decide +kernel
theorem dX4_mark_84 : decode cX4_mark 84 = .ok (.iload_n 1, 1) := by decide +kernel
theorem dX4_mark_85 : decode cX4_mark 85 = .ok (.aaload, 1) := by decide +kernel
theorem dX4_mark_86 : decode cX4_mark 86 = .ok (.iconst 3, 1) := by decide +kernel
theorem dX4_mark_87 : decode cX4_mark 87 = .ok (.iload 5, 2) := by decide +kernel
theorem dX4_mark_89 : decode cX4_mark 89 = .ok (.ifCond .eq 11, 3) := by decide +kernel
theorem dX4_mark_92 : decode cX4_mark 92 = .ok (.iload 4, 2) := by decide +kernel
theorem dX4_mark_94 : decode cX4_mark 94 = .ok (.bipush 8, 2) := by decide +kernel
theorem dX4_mark_96 : decode cX4_mark 96 = .ok (.iadd, 1) := by decide +kernel
theorem dX4_mark_97 : decode cX4_mark 97 = .ok (.goto 5, 3) := by decide +kernel
theorem dX4_mark_100 : decode cX4_mark 100 = .ok (.iload 4, 2) := by decide +kernel
theorem dX4_mark_102 : decode cX4_mark 102 = .ok (.iload 6, 2) := by decide +kernel
theorem dX4_mark_104 : decode cX4_mark 104 = .ok (.iload 7, 2) := by decide +kernel
theorem dX4_mark_106 : decode cX4_mark 106 = .ok (.invokevirtual 65, 3) := by decide +kernel
theorem dX4_mark_109 : decode cX4_mark 109 = .ok (.ireturn, 1) := by decide +kernel
theorem dX4_deliver_0 : decode cX4_deliver 0 = .ok (.aload_n 0, 1) := by decide +kernel
theorem dX4_deliver_1 : decode cX4_deliver 1 = .ok (.getfield 26, 3) := by decide +kernel
theorem dX4_deliver_4 : decode cX4_deliver 4 = .ok (.iload_n 1, 1) := by decide +kernel
theorem dX4_deliver_5 : decode cX4_deliver 5 = .ok (.invokevirtual 83, 3) := by decide +kernel
theorem dX4_deliver_8 : decode cX4_deliver 8 = .ok (.ifCond .ne 6, 3) := by decide +kernel
theorem dX4_deliver_11 : decode cX4_deliver 11 = .ok (.bipush (-101), 2) := by decide +kernel
theorem dX4_deliver_13 : decode cX4_deliver 13 = .ok (.ireturn, 1) := by decide +kernel
theorem dX4_deliver_14 : decode cX4_deliver 14 = .ok (.aload_n 0, 1) := by decide +kernel
theorem dX4_deliver_15 : decode cX4_deliver 15 = .ok (.getfield 26, 3) := by decide +kernel
theorem dX4_deliver_18 : decode cX4_deliver 18 = .ok (.getfield 86, 3) := by decide +kernel
theorem dX4_deliver_21 : decode cX4_deliver 21 = .ok (.iload_n 1, 1) := by decide +kernel
theorem dX4_deliver_22 : decode cX4_deliver 22 = .ok (.iaload, 1) := by decide +kernel
theorem dX4_deliver_23 : decode cX4_deliver 23 = .ok (.istore_n 2, 1) := by decide +kernel
theorem dX4_deliver_24 : decode cX4_deliver 24 = .ok (.aload_n 0, 1) := by decide +kernel
theorem dX4_deliver_25 : decode cX4_deliver 25 = .ok (.getfield 26, 3) := by decide +kernel
theorem dX4_deliver_28 : decode cX4_deliver 28 = .ok (.getfield 89, 3) := by decide +kernel
theorem dX4_deliver_31 : decode cX4_deliver 31 = .ok (.iload_n 1, 1) := by decide +kernel
theorem dX4_deliver_32 : decode cX4_deliver 32 = .ok (.iaload, 1) := by decide +kernel
theorem dX4_deliver_33 : decode cX4_deliver 33 = .ok (.istore_n 3, 1) := by decide +kernel
theorem dX4_deliver_34 : decode cX4_deliver 34 = .ok (.aload_n 0, 1) := by decide +kernel
theorem dX4_deliver_35 : decode cX4_deliver 35 = .ok (.getfield 26, 3) := by decide +kernel
theorem dX4_deliver_38 : decode cX4_deliver 38 = .ok (.iload_n 1, 1) := by decide +kernel
theorem dX4_deliver_39 : decode cX4_deliver 39 = .ok (.invokevirtual 92, 3) := by decide +kernel
theorem dX4_deliver_42 : decode cX4_deliver 42 = .ok (.aload_n 0, 1) := by decide +kernel
theorem dX4_deliver_43 : decode cX4_deliver 43 = .ok (.getfield 32, 3) := by decide +kernel
theorem dX4_deliver_46 : decode cX4_deliver 46 = .ok (.iload_n 3, 1) := by decide +kernel
theorem dX4_deliver_47 : decode cX4_deliver 47 = .ok (.aaload, 1) := by decide +kernel
theorem dX4_deliver_48 : decode cX4_deliver 48 = .ok (.iload_n 2, 1) := by decide +kernel
theorem dX4_deliver_49 : decode cX4_deliver 49 = .ok (.invokevirtual 96, 3) := by decide +kernel
theorem dX4_deliver_52 : decode cX4_deliver 52 = .ok (.ireturn, 1) := by decide +kernel
theorem dX4_lose_0 : decode cX4_lose 0 = .ok (.aload_n 0, 1) := by decide +kernel
theorem dX4_lose_1 : decode cX4_lose 1 = .ok (.getfield 26, 3) := by decide +kernel
theorem dX4_lose_4 : decode cX4_lose 4 = .ok (.iload_n 1, 1) := by decide +kernel
theorem dX4_lose_5 : decode cX4_lose 5 = .ok (.invokevirtual 83, 3) := by decide +kernel
theorem dX4_lose_8 : decode cX4_lose 8 = .ok (.ifCond .ne 6, 3) := by decide +kernel
theorem dX4_lose_11 : decode cX4_lose 11 = .ok (.bipush (-101), 2) := by decide +kernel
theorem dX4_lose_13 : decode cX4_lose 13 = .ok (.ireturn, 1) := by decide +kernel
theorem dX4_lose_14 : decode cX4_lose 14 = .ok (.aload_n 0, 1) := by decide +kernel
theorem dX4_lose_15 : decode cX4_lose 15 = .ok (.getfield 26, 3) := by decide +kernel
theorem dX4_lose_18 : decode cX4_lose 18 = .ok (.iload_n 1, 1) := by decide +kernel
theorem dX4_lose_19 : decode cX4_lose 19 = .ok (.invokevirtual 92, 3) := by decide +kernel
theorem dX4_lose_22 : decode cX4_lose 22 = .ok (.aload_n 0, 1) := by decide +kernel
theorem dX4_lose_23 : decode cX4_lose 23 = .ok (.getfield 26, 3) := by decide +kernel
theorem dX4_lose_26 : decode cX4_lose 26 = .ok (.getfield 99, 3) := by decide +kernel
theorem dX4_lose_29 : decode cX4_lose 29 = .ok (.ireturn, 1) := by decide +kernel
theorem dX4_repeat_0 : decode cX4_repeat 0 = .ok (.aload_n 0, 1) := by decide +kernel
theorem dX4_repeat_1 : decode cX4_repeat 1 = .ok (.getfield 26, 3) := by decide +kernel
theorem dX4_repeat_4 : decode cX4_repeat 4 = .ok (.iload_n 1, 1) := by decide +kernel
theorem dX4_repeat_5 : decode cX4_repeat 5 = .ok (.invokevirtual 83, 3) := by decide +kernel
theorem dX4_repeat_8 : decode cX4_repeat 8 = .ok (.ifCond .ne 6, 3) := by decide +kernel
theorem dX4_repeat_11 : decode cX4_repeat 11 = .ok (.bipush (-101), 2) := by decide +kernel
theorem dX4_repeat_13 : decode cX4_repeat 13 = .ok (.ireturn, 1) := by decide +kernel
theorem dX4_repeat_14 : decode cX4_repeat 14 = .ok (.aload_n 0, 1) := by decide +kernel
theorem dX4_repeat_15 : decode cX4_repeat 15 = .ok (.getfield 26, 3) := by decide +kernel
theorem dX4_repeat_18 : decode cX4_repeat 18 = .ok (.invokevirtual 102, 3) := by decide +kernel
theorem dX4_repeat_21 : decode cX4_repeat 21 = .ok (.ifCond .eq 6, 3) := by decide +kernel
theorem dX4_repeat_24 : decode cX4_repeat 24 = .ok (.bipush (-104), 2) := by decide +kernel
theorem dX4_repeat_26 : decode cX4_repeat 26 = .ok (.ireturn, 1) := by decide +kernel
theorem dX4_repeat_27 : decode cX4_repeat 27 = .ok (.aload_n 0, 1) := by decide +kernel
theorem dX4_repeat_28 : decode cX4_repeat 28 = .ok (.getfield 26, 3) := by decide +kernel
theorem dX4_repeat_31 : decode cX4_repeat 31 = .ok (.aload_n 0, 1) := by decide +kernel
theorem dX4_repeat_32 : decode cX4_repeat 32 = .ok (.getfield 26, 3) := by decide +kernel
theorem dX4_repeat_35 : decode cX4_repeat 35 = .ok (.getfield 86, 3) := by decide +kernel
theorem dX4_repeat_38 : decode cX4_repeat 38 = .ok (.iload_n 1, 1) := by decide +kernel
theorem dX4_repeat_39 : decode cX4_repeat 39 = .ok (.iaload, 1) := by decide +kernel
theorem dX4_repeat_40 : decode cX4_repeat 40 = .ok (.aload_n 0, 1) := by decide +kernel
theorem dX4_repeat_41 : decode cX4_repeat 41 = .ok (.getfield 26, 3) := by decide +kernel
theorem dX4_repeat_44 : decode cX4_repeat 44 = .ok (.getfield 89, 3) := by decide +kernel
theorem dX4_repeat_47 : decode cX4_repeat 47 = .ok (.iload_n 1, 1) := by decide +kernel
theorem dX4_repeat_48 : decode cX4_repeat 48 = .ok (.iaload, 1) := by decide +kernel
theorem dX4_repeat_49 : decode cX4_repeat 49 = .ok (.invokevirtual 103, 3) := by decide +kernel
theorem dX4_repeat_52 : decode cX4_repeat 52 = .ok (.aload_n 0, 1) := by decide +kernel
theorem dX4_repeat_53 : decode cX4_repeat 53 = .ok (.getfield 26, 3) := by decide +kernel
theorem dX4_repeat_56 : decode cX4_repeat 56 = .ok (.getfield 99, 3) := by decide +kernel
theorem dX4_repeat_59 : decode cX4_repeat 59 = .ok (.ireturn, 1) := by decide +kernel
theorem dX4_sync_0 : decode cX4_sync 0 = .ok (.iload_n 1, 1) := by decide +kernel
theorem dX4_sync_1 : decode cX4_sync 1 = .ok (.invokestatic 39, 3) := by decide +kernel
theorem dX4_sync_4 : decode cX4_sync 4 = .ok (.ifCond .eq 10, 3) := by decide +kernel
theorem dX4_sync_7 : decode cX4_sync 7 = .ok (.iload_n 2, 1) := by decide +kernel
theorem dX4_sync_8 : decode cX4_sync 8 = .ok (.invokestatic 39, 3) := by decide +kernel
theorem dX4_sync_11 : decode cX4_sync 11 = .ok (.ifCond .ne 6, 3) := by decide +kernel
theorem dX4_sync_14 : decode cX4_sync 14 = .ok (.bipush (-101), 2) := by decide +kernel
theorem dX4_sync_16 : decode cX4_sync 16 = .ok (.ireturn, 1) := by decide +kernel
theorem dX4_sync_17 : decode cX4_sync 17 = .ok (.aload_n 0, 1) := by decide +kernel
theorem dX4_sync_18 : decode cX4_sync 18 = .ok (.getfield 32, 3) := by decide +kernel
theorem dX4_sync_21 : decode cX4_sync 21 = .ok (.iload_n 1, 1) := by decide +kernel
theorem dX4_sync_22 : decode cX4_sync 22 = .ok (.aaload, 1) := by decide +kernel
theorem dX4_sync_23 : decode cX4_sync 23 = .ok (.astore_n 3, 1) := by decide +kernel
theorem dX4_sync_24 : decode cX4_sync 24 = .ok (.aload_n 3, 1) := by decide +kernel
theorem dX4_sync_25 : decode cX4_sync 25 = .ok (.invokevirtual 107, 3) := by decide +kernel
theorem dX4_sync_28 : decode cX4_sync 28 = .ok (.istore 4, 2) := by decide +kernel
theorem dX4_sync_30 : decode cX4_sync 30 = .ok (.iconst 0, 1) := by decide +kernel
theorem dX4_sync_31 : decode cX4_sync 31 = .ok (.istore 5, 2) := by decide +kernel
theorem dX4_sync_33 : decode cX4_sync 33 = .ok (.iload 5, 2) := by decide +kernel
theorem dX4_sync_35 : decode cX4_sync 35 = .ok (.aload_n 0, 1) := by decide +kernel
theorem dX4_sync_36 : decode cX4_sync 36 = .ok (.getfield 10, 3) := by decide +kernel
theorem dX4_sync_39 : decode cX4_sync 39 = .ok (.getfield 111, 3) := by decide +kernel
theorem dX4_sync_42 : decode cX4_sync 42 = .ok (.if_icmp .ge 30, 3) := by decide +kernel
theorem dX4_sync_45 : decode cX4_sync 45 = .ok (.aload_n 0, 1) := by decide +kernel
theorem dX4_sync_46 : decode cX4_sync 46 = .ok (.getfield 32, 3) := by decide +kernel
theorem dX4_sync_49 : decode cX4_sync 49 = .ok (.iload_n 2, 1) := by decide +kernel
theorem dX4_sync_50 : decode cX4_sync 50 = .ok (.aaload, 1) := by decide +kernel
theorem dX4_sync_51 : decode cX4_sync 51 = .ok (.iload 5, 2) := by decide +kernel
theorem dX4_sync_53 : decode cX4_sync 53 = .ok (.invokevirtual 112, 3) := by decide +kernel
theorem dX4_sync_56 : decode cX4_sync 56 = .ok (.ifCond .eq 10, 3) := by decide +kernel
theorem dX4_sync_59 : decode cX4_sync 59 = .ok (.aload_n 3, 1) := by decide +kernel
theorem dX4_sync_60 : decode cX4_sync 60 = .ok (.iload 5, 2) := by decide +kernel
theorem dX4_sync_62 : decode cX4_sync 62 = .ok (.invokevirtual 96, 3) := by decide +kernel
theorem dX4_sync_65 : decode cX4_sync 65 = .ok (.pop, 1) := by decide +kernel
theorem dX4_sync_66 : decode cX4_sync 66 = .ok (.iinc 5 1, 3) := by decide +kernel
theorem dX4_sync_69 : decode cX4_sync 69 = .ok (.goto (-36), 3) := by decide +kernel
theorem dX4_sync_72 : decode cX4_sync 72 = .ok (.aload_n 3, 1) := by decide +kernel
theorem dX4_sync_73 : decode cX4_sync 73 = .ok (.invokevirtual 107, 3) := by decide +kernel
theorem dX4_sync_76 : decode cX4_sync 76 = .ok (.iload 4, 2) := by decide +kernel
theorem dX4_sync_78 : decode cX4_sync 78 = .ok (.isub, 1) := by decide +kernel
theorem dX4_sync_79 : decode cX4_sync 79 = .ok (.ireturn, 1) := by decide +kernel
theorem dX4_length_0 : decode cX4_length 0 = .ok (.iload_n 1, 1) := by decide +kernel
theorem dX4_length_1 : decode cX4_length 1 = .ok (.invokestatic 39, 3) := by decide +kernel
theorem dX4_length_4 : decode cX4_length 4 = .ok (.ifCond .eq 15, 3) := by decide +kernel
theorem dX4_length_7 : decode cX4_length 7 = .ok (.aload_n 0, 1) := by decide +kernel
theorem dX4_length_8 : decode cX4_length 8 = .ok (.getfield 32, 3) := by decide +kernel
theorem dX4_length_11 : decode cX4_length 11 = .ok (.iload_n 1, 1) := by decide +kernel
theorem dX4_length_12 : decode cX4_length 12 = .ok (.aaload, 1) := by decide +kernel
theorem dX4_length_13 : decode cX4_length 13 = .ok (.invokevirtual 115, 3) := by decide +kernel
theorem dX4_length_16 : decode cX4_length 16 = .ok (.goto 5, 3) := by decide +kernel
theorem dX4_length_19 : decode cX4_length 19 = .ok (.bipush (-101), 2) := by decide +kernel
theorem dX4_length_21 : decode cX4_length 21 = .ok (.ireturn, 1) := by decide +kernel
theorem dX4_sign_0 : decode cX4_sign 0 = .ok (.aload_n 0, 1) := by decide +kernel
theorem dX4_sign_1 : decode cX4_sign 1 = .ok (.getfield 10, 3) := by decide +kernel
theorem dX4_sign_4 : decode cX4_sign 4 = .ok (.getfield 118, 3) := by decide +kernel
theorem dX4_sign_7 : decode cX4_sign 7 = .ok (.aload_n 0, 1) := by decide +kernel
theorem dX4_sign_8 : decode cX4_sign 8 = .ok (.iload_n 1, 1) := by decide +kernel
theorem dX4_sign_9 : decode cX4_sign 9 = .ok (.iload_n 2, 1) := by decide +kernel
theorem dX4_sign_10 : decode cX4_sign 10 = .ok (.invokevirtual 121, 3) := by decide +kernel
theorem dX4_sign_13 : decode cX4_sign 13 = .ok (.iaload, 1) := by decide +kernel
theorem dX4_sign_14 : decode cX4_sign 14 = .ok (.ireturn, 1) := by decide +kernel
theorem dX4_path_0 : decode cX4_path 0 = .ok (.aload_n 0, 1) := by decide +kernel
theorem dX4_path_1 : decode cX4_path 1 = .ok (.iload_n 1, 1) := by decide +kernel
theorem dX4_path_2 : decode cX4_path 2 = .ok (.iload_n 2, 1) := by decide +kernel
theorem dX4_path_3 : decode cX4_path 3 = .ok (.invokevirtual 121, 3) := by decide +kernel
theorem dX4_path_6 : decode cX4_path 6 = .ok (.istore 5, 2) := by decide +kernel
theorem dX4_path_8 : decode cX4_path 8 = .ok (.aload_n 0, 1) := by decide +kernel
theorem dX4_path_9 : decode cX4_path 9 = .ok (.getfield 19, 3) := by decide +kernel
theorem dX4_path_12 : decode cX4_path 12 = .ok (.getfield 125, 3) := by decide +kernel
theorem dX4_path_15 : decode cX4_path 15 = .ok (.iload 5, 2) := by decide +kernel
theorem dX4_path_17 : decode cX4_path 17 = .ok (.iaload, 1) := by decide +kernel
theorem dX4_path_18 : decode cX4_path 18 = .ok (.istore 6, 2) := by decide +kernel
theorem dX4_path_20 : decode cX4_path 20 = .ok (.iload 4, 2) := by decide +kernel
theorem dX4_path_22 : decode cX4_path 22 = .ok (.ifCond .ne 6, 3) := by decide +kernel
theorem dX4_path_25 : decode cX4_path 25 = .ok (.iload 6, 2) := by decide +kernel
theorem dX4_path_27 : decode cX4_path 27 = .ok (.ireturn, 1) := by decide +kernel
theorem dX4_path_28 : decode cX4_path 28 = .ok (.iload 4, 2) := by decide +kernel
theorem dX4_path_30 : decode cX4_path 30 = .ok (.ifCond .lt 20, 3) := by decide +kernel
theorem dX4_path_33 : decode cX4_path 33 = .ok (.iload 4, 2) := by decide +kernel
theorem dX4_path_35 : decode cX4_path 35 = .ok (.iconst 3, 1) := by decide +kernel
theorem dX4_path_36 : decode cX4_path 36 = .ok (.if_icmp .gt 14, 3) := by decide +kernel
theorem dX4_path_39 : decode cX4_path 39 = .ok (.iload_n 3, 1) := by decide +kernel
theorem dX4_path_40 : decode cX4_path 40 = .ok (.iconst 1, 1) := by decide +kernel
theorem dX4_path_41 : decode cX4_path 41 = .ok (.if_icmp .lt 9, 3) := by decide +kernel
theorem dX4_path_44 : decode cX4_path 44 = .ok (.iload_n 3, 1) := by decide +kernel
theorem dX4_path_45 : decode cX4_path 45 = .ok (.iload 6, 2) := by decide +kernel
theorem dX4_path_47 : decode cX4_path 47 = .ok (.if_icmp .le 13, 3) := by decide +kernel
theorem dX4_path_50 : decode cX4_path 50 = .ok (.new 128, 3) := by decide +kernel
theorem dX4_path_53 : decode cX4_path 53 = .ok (.dup, 1) := by decide +kernel
theorem dX4_path_54 : decode cX4_path 54 = .ok (.ldc 130, 2) := by decide +kernel
theorem dX4_path_56 : decode cX4_path 56 = .ok (.invokespecial 132, 3) := by decide +kernel
theorem dX4_path_59 : decode cX4_path 59 = .ok (.athrow, 1) := by decide +kernel
theorem dX4_path_60 : decode cX4_path 60 = .ok (.aload_n 0, 1) := by decide +kernel
theorem dX4_path_61 : decode cX4_path 61 = .ok (.getfield 19, 3) := by decide +kernel
theorem dX4_path_64 : decode cX4_path 64 = .ok (.iload 5, 2) := by decide +kernel
theorem dX4_path_66 : decode cX4_path 66 = .ok (.iload_n 3, 1) := by decide +kernel
theorem dX4_path_67 : decode cX4_path 67 = .ok (.invokevirtual 135, 3) := by decide +kernel
theorem dX4_path_70 : decode cX4_path 70 = .ok (.istore 7, 2) := by decide +kernel
theorem dX4_path_72 : decode cX4_path 72 = .ok (.iload 4, 2) := by decide +kernel
theorem dX4_path_74 : decode cX4_path 74 = .ok (.iconst 1, 1) := by decide +kernel
theorem dX4_path_75 : decode cX4_path 75 = .ok (.if_icmp .ne 11, 3) := by decide +kernel
theorem dX4_path_78 : decode cX4_path 78 = .ok (.iload 7, 2) := by decide +kernel
theorem dX4_path_80 : decode cX4_path 80 = .ok (.invokestatic 138, 3) := by decide +kernel
theorem dX4_path_83 : decode cX4_path 83 = .ok (.goto 22, 3) := by decide +kernel
theorem dX4_path_86 : decode cX4_path 86 = .ok (.iload 4, 2) := by decide +kernel
theorem dX4_path_88 : decode cX4_path 88 = .ok (.iconst 2, 1) := by decide +kernel
theorem dX4_path_89 : decode cX4_path 89 = .ok (.if_icmp .ne 11, 3) := by decide +kernel
theorem dX4_path_92 : decode cX4_path 92 = .ok (.iload 7, 2) := by decide +kernel
theorem dX4_path_94 : decode cX4_path 94 = .ok (.invokestatic 141, 3) := by decide +kernel
theorem dX4_path_97 : decode cX4_path 97 = .ok (.goto 8, 3) := by decide +kernel
theorem dX4_path_100 : decode cX4_path 100 = .ok (.iload 7, 2) := by decide +kernel
theorem dX4_path_102 : decode cX4_path 102 = .ok (.invokestatic 144, 3) := by decide +kernel
theorem dX4_path_105 : decode cX4_path 105 = .ok (.ireturn, 1) := by decide +kernel
theorem dX4_kinds_0 : decode cX4_kinds 0 = .ok (.aload_n 0, 1) := by decide +kernel
theorem dX4_kinds_1 : decode cX4_kinds 1 = .ok (.iload_n 1, 1) := by decide +kernel
theorem dX4_kinds_2 : decode cX4_kinds 2 = .ok (.iload_n 2, 1) := by decide +kernel
theorem dX4_kinds_3 : decode cX4_kinds 3 = .ok (.invokevirtual 121, 3) := by decide +kernel
theorem dX4_kinds_6 : decode cX4_kinds 6 = .ok (.istore_n 3, 1) := by decide +kernel
theorem dX4_kinds_7 : decode cX4_kinds 7 = .ok (.aload_n 0, 1) := by decide +kernel
theorem dX4_kinds_8 : decode cX4_kinds 8 = .ok (.getfield 32, 3) := by decide +kernel
theorem dX4_kinds_11 : decode cX4_kinds 11 = .ok (.iload_n 1, 1) := by decide +kernel
theorem dX4_kinds_12 : decode cX4_kinds 12 = .ok (.aaload, 1) := by decide +kernel
theorem dX4_kinds_13 : decode cX4_kinds 13 = .ok (.iload_n 3, 1) := by decide +kernel
theorem dX4_kinds_14 : decode cX4_kinds 14 = .ok (.invokevirtual 147, 3) := by decide +kernel
theorem dX4_kinds_17 : decode cX4_kinds 17 = .ok (.ireturn, 1) := by decide +kernel
theorem dX4_cursor_0 : decode cX4_cursor 0 = .ok (.iload_n 1, 1) := by decide +kernel
theorem dX4_cursor_1 : decode cX4_cursor 1 = .ok (.invokestatic 39, 3) := by decide +kernel
theorem dX4_cursor_4 : decode cX4_cursor 4 = .ok (.ifCond .ne 6, 3) := by decide +kernel
theorem dX4_cursor_7 : decode cX4_cursor 7 = .ok (.bipush (-101), 2) := by decide +kernel
theorem dX4_cursor_9 : decode cX4_cursor 9 = .ok (.ireturn, 1) := by decide +kernel
theorem dX4_cursor_10 : decode cX4_cursor 10 = .ok (.iload_n 2, 1) := by decide +kernel
theorem dX4_cursor_11 : decode cX4_cursor 11 = .ok (.invokestatic 150, 3) := by decide +kernel
theorem dX4_cursor_14 : decode cX4_cursor 14 = .ok (.ifCond .eq 16, 3) := by decide +kernel
theorem dX4_cursor_17 : decode cX4_cursor 17 = .ok (.aload_n 0, 1) := by decide +kernel
theorem dX4_cursor_18 : decode cX4_cursor 18 = .ok (.getfield 32, 3) := by decide +kernel
theorem dX4_cursor_21 : decode cX4_cursor 21 = .ok (.iload_n 1, 1) := by decide +kernel
theorem dX4_cursor_22 : decode cX4_cursor 22 = .ok (.aaload, 1) := by decide +kernel
theorem dX4_cursor_23 : decode cX4_cursor 23 = .ok (.iload_n 3, 1) := by decide +kernel
theorem dX4_cursor_24 : decode cX4_cursor 24 = .ok (.invokevirtual 47, 3) := by decide +kernel
theorem dX4_cursor_27 : decode cX4_cursor 27 = .ok (.ifCond .ne 6, 3) := by decide +kernel
theorem dX4_cursor_30 : decode cX4_cursor 30 = .ok (.bipush (-102), 2) := by decide +kernel
theorem dX4_cursor_32 : decode cX4_cursor 32 = .ok (.ireturn, 1) := by decide +kernel
theorem dX4_cursor_33 : decode cX4_cursor 33 = .ok (.aload_n 0, 1) := by decide +kernel
theorem dX4_cursor_34 : decode cX4_cursor 34 = .ok (.getfield 32, 3) := by decide +kernel
theorem dX4_cursor_37 : decode cX4_cursor 37 = .ok (.iload_n 1, 1) := by decide +kernel
theorem dX4_cursor_38 : decode cX4_cursor 38 = .ok (.aaload, 1) := by decide +kernel
theorem dX4_cursor_39 : decode cX4_cursor 39 = .ok (.iload_n 2, 1) := by decide +kernel
theorem dX4_cursor_40 : decode cX4_cursor 40 = .ok (.invokevirtual 153, 3) := by decide +kernel
theorem dX4_cursor_43 : decode cX4_cursor 43 = .ok (.istore 4, 2) := by decide +kernel
theorem dX4_cursor_45 : decode cX4_cursor 45 = .ok (.aload_n 0, 1) := by decide +kernel
theorem dX4_cursor_46 : decode cX4_cursor 46 = .ok (.getfield 32, 3) := by decide +kernel
theorem dX4_cursor_49 : decode cX4_cursor 49 = .ok (.iload_n 1, 1) := by decide +kernel
theorem dX4_cursor_50 : decode cX4_cursor 50 = .ok (.aaload, 1) := by decide +kernel
theorem dX4_cursor_51 : decode cX4_cursor 51 = .ok (.getfield 156, 3) := by decide +kernel
theorem dX4_cursor_54 : decode cX4_cursor 54 = .ok (.iload_n 2, 1) := by decide +kernel
theorem dX4_cursor_55 : decode cX4_cursor 55 = .ok (.aload_n 0, 1) := by decide +kernel
theorem dX4_cursor_56 : decode cX4_cursor 56 = .ok (.getfield 32, 3) := by decide +kernel
theorem dX4_cursor_59 : decode cX4_cursor 59 = .ok (.iload_n 1, 1) := by decide +kernel
theorem dX4_cursor_60 : decode cX4_cursor 60 = .ok (.aaload, 1) := by decide +kernel
theorem dX4_cursor_61 : decode cX4_cursor 61 = .ok (.iload_n 3, 1) := by decide +kernel
theorem dX4_cursor_62 : decode cX4_cursor 62 = .ok (.invokevirtual 159, 3) := by decide +kernel
theorem dX4_cursor_65 : decode cX4_cursor 65 = .ok (.iastore, 1) := by decide +kernel
theorem dX4_cursor_66 : decode cX4_cursor 66 = .ok (.iload 4, 2) := by decide +kernel
theorem dX4_cursor_68 : decode cX4_cursor 68 = .ok (.ireturn, 1) := by decide +kernel
theorem dX4_at_0 : decode cX4_at 0 = .ok (.iload_n 1, 1) := by decide +kernel
theorem dX4_at_1 : decode cX4_at 1 = .ok (.invokestatic 39, 3) := by decide +kernel
theorem dX4_at_4 : decode cX4_at 4 = .ok (.ifCond .ne 6, 3) := by decide +kernel
theorem dX4_at_7 : decode cX4_at 7 = .ok (.bipush (-101), 2) := by decide +kernel
theorem dX4_at_9 : decode cX4_at 9 = .ok (.ireturn, 1) := by decide +kernel
theorem dX4_at_10 : decode cX4_at 10 = .ok (.iload_n 2, 1) := by decide +kernel
theorem dX4_at_11 : decode cX4_at 11 = .ok (.invokestatic 150, 3) := by decide +kernel
theorem dX4_at_14 : decode cX4_at 14 = .ok (.ifCond .eq 16, 3) := by decide +kernel
theorem dX4_at_17 : decode cX4_at 17 = .ok (.aload_n 0, 1) := by decide +kernel
theorem dX4_at_18 : decode cX4_at 18 = .ok (.getfield 32, 3) := by decide +kernel
theorem dX4_at_21 : decode cX4_at 21 = .ok (.iload_n 1, 1) := by decide +kernel
theorem dX4_at_22 : decode cX4_at 22 = .ok (.aaload, 1) := by decide +kernel
theorem dX4_at_23 : decode cX4_at 23 = .ok (.iload_n 2, 1) := by decide +kernel
theorem dX4_at_24 : decode cX4_at 24 = .ok (.invokevirtual 153, 3) := by decide +kernel
theorem dX4_at_27 : decode cX4_at 27 = .ok (.goto 5, 3) := by decide +kernel
theorem dX4_at_30 : decode cX4_at 30 = .ok (.bipush (-102), 2) := by decide +kernel
theorem dX4_at_32 : decode cX4_at 32 = .ok (.ireturn, 1) := by decide +kernel
theorem dX4_about_0 : decode cX4_about 0 = .ok (.iload_n 1, 1) := by decide +kernel
theorem dX4_about_1 : decode cX4_about 1 = .ok (.invokestatic 39, 3) := by decide +kernel
theorem dX4_about_4 : decode cX4_about 4 = .ok (.ifCond .ne 6, 3) := by decide +kernel
theorem dX4_about_7 : decode cX4_about 7 = .ok (.bipush (-101), 2) := by decide +kernel
theorem dX4_about_9 : decode cX4_about 9 = .ok (.ireturn, 1) := by decide +kernel
theorem dX4_about_10 : decode cX4_about 10 = .ok (.iload_n 3, 1) := by decide +kernel
theorem dX4_about_11 : decode cX4_about 11 = .ok (.tableswitch 83 0 3 #[29, 53, 63, 73], 29) := by decide +kernel
theorem dX4_about_40 : decode cX4_about 40 = .ok (.iload_n 2, 1) := by decide +kernel
theorem dX4_about_41 : decode cX4_about 41 = .ok (.invokestatic 39, 3) := by decide +kernel
theorem dX4_about_44 : decode cX4_about 44 = .ok (.ifCond .eq 17, 3) := by decide +kernel
theorem dX4_about_47 : decode cX4_about 47 = .ok (.aload_n 0, 1) := by decide +kernel
theorem dX4_about_48 : decode cX4_about 48 = .ok (.getfield 32, 3) := by decide +kernel
theorem dX4_about_51 : decode cX4_about 51 = .ok (.iload_n 1, 1) := by decide +kernel
theorem dX4_about_52 : decode cX4_about 52 = .ok (.aaload, 1) := by decide +kernel
theorem dX4_about_53 : decode cX4_about 53 = .ok (.getfield 162, 3) := by decide +kernel
theorem dX4_about_56 : decode cX4_about 56 = .ok (.iload_n 2, 1) := by decide +kernel
theorem dX4_about_57 : decode cX4_about 57 = .ok (.iaload, 1) := by decide +kernel
theorem dX4_about_58 : decode cX4_about 58 = .ok (.goto 5, 3) := by decide +kernel
theorem dX4_about_61 : decode cX4_about 61 = .ok (.bipush (-101), 2) := by decide +kernel
theorem dX4_about_63 : decode cX4_about 63 = .ok (.ireturn, 1) := by decide +kernel
theorem dX4_about_64 : decode cX4_about 64 = .ok (.aload_n 0, 1) := by decide +kernel
theorem dX4_about_65 : decode cX4_about 65 = .ok (.getfield 32, 3) := by decide +kernel
theorem dX4_about_68 : decode cX4_about 68 = .ok (.iload_n 1, 1) := by decide +kernel
theorem dX4_about_69 : decode cX4_about 69 = .ok (.aaload, 1) := by decide +kernel
theorem dX4_about_70 : decode cX4_about 70 = .ok (.getfield 165, 3) := by decide +kernel
theorem dX4_about_73 : decode cX4_about 73 = .ok (.ireturn, 1) := by decide +kernel
theorem dX4_about_74 : decode cX4_about 74 = .ok (.aload_n 0, 1) := by decide +kernel
theorem dX4_about_75 : decode cX4_about 75 = .ok (.getfield 32, 3) := by decide +kernel
theorem dX4_about_78 : decode cX4_about 78 = .ok (.iload_n 1, 1) := by decide +kernel
theorem dX4_about_79 : decode cX4_about 79 = .ok (.aaload, 1) := by decide +kernel
theorem dX4_about_80 : decode cX4_about 80 = .ok (.getfield 168, 3) := by decide +kernel
theorem dX4_about_83 : decode cX4_about 83 = .ok (.ireturn, 1) := by decide +kernel
theorem dX4_about_84 : decode cX4_about 84 = .ok (.aload_n 0, 1) := by decide +kernel
theorem dX4_about_85 : decode cX4_about 85 = .ok (.getfield 32, 3) := by decide +kernel
theorem dX4_about_88 : decode cX4_about 88 = .ok (.iload_n 1, 1) := by decide +kernel
theorem dX4_about_89 : decode cX4_about 89 = .ok (.aaload, 1) := by decide +kernel
theorem dX4_about_90 : decode cX4_about 90 = .ok (.getfield 171, 3) := by decide +kernel
theorem dX4_about_93 : decode cX4_about 93 = .ok (.ireturn, 1) := by decide +kernel
theorem dX4_about_94 : decode cX4_about 94 = .ok (.bipush (-102), 2) := by decide +kernel
theorem dX4_about_96 : decode cX4_about 96 = .ok (.ireturn, 1) := by decide +kernel
theorem dX4_same_0 : decode cX4_same 0 = .ok (.iload_n 1, 1) := by decide +kernel
theorem dX4_same_1 : decode cX4_same 1 = .ok (.invokestatic 39, 3) := by decide +kernel
theorem dX4_same_4 : decode cX4_same 4 = .ok (.ifCond .eq 10, 3) := by decide +kernel
theorem dX4_same_7 : decode cX4_same 7 = .ok (.iload_n 2, 1) := by decide +kernel
theorem dX4_same_8 : decode cX4_same 8 = .ok (.invokestatic 39, 3) := by decide +kernel
theorem dX4_same_11 : decode cX4_same 11 = .ok (.ifCond .ne 6, 3) := by decide +kernel
theorem dX4_same_14 : decode cX4_same 14 = .ok (.bipush (-101), 2) := by decide +kernel
theorem dX4_same_16 : decode cX4_same 16 = .ok (.ireturn, 1) := by decide +kernel
theorem dX4_same_17 : decode cX4_same 17 = .ok (.iconst 0, 1) := by decide +kernel
theorem dX4_same_18 : decode cX4_same 18 = .ok (.istore_n 3, 1) := by decide +kernel
theorem dX4_same_19 : decode cX4_same 19 = .ok (.iload_n 3, 1) := by decide +kernel
theorem dX4_same_20 : decode cX4_same 20 = .ok (.aload_n 0, 1) := by decide +kernel
theorem dX4_same_21 : decode cX4_same 21 = .ok (.getfield 19, 3) := by decide +kernel
theorem dX4_same_24 : decode cX4_same 24 = .ok (.getfield 174, 3) := by decide +kernel
theorem dX4_same_27 : decode cX4_same 27 = .ok (.if_icmp .ge 38, 3) := by decide +kernel
theorem dX4_same_30 : decode cX4_same 30 = .ok (.aload_n 0, 1) := by decide +kernel
theorem dX4_same_31 : decode cX4_same 31 = .ok (.getfield 32, 3) := by decide +kernel
theorem dX4_same_34 : decode cX4_same 34 = .ok (.iload_n 1, 1) := by decide +kernel
theorem dX4_same_35 : decode cX4_same 35 = .ok (.aaload, 1) := by decide +kernel
theorem dX4_same_36 : decode cX4_same 36 = .ok (.aload_n 0, 1) := by decide +kernel
theorem dX4_same_37 : decode cX4_same 37 = .ok (.getfield 32, 3) := by decide +kernel
theorem dX4_same_40 : decode cX4_same 40 = .ok (.iload_n 2, 1) := by decide +kernel
theorem dX4_same_41 : decode cX4_same 41 = .ok (.aaload, 1) := by decide +kernel
theorem dX4_same_42 : decode cX4_same 42 = .ok (.aload_n 0, 1) := by decide +kernel
theorem dX4_same_43 : decode cX4_same 43 = .ok (.getfield 19, 3) := by decide +kernel
theorem dX4_same_46 : decode cX4_same 46 = .ok (.getfield 175, 3) := by decide +kernel
theorem dX4_same_49 : decode cX4_same 49 = .ok (.iload_n 3, 1) := by decide +kernel
theorem dX4_same_50 : decode cX4_same 50 = .ok (.iaload, 1) := by decide +kernel
theorem dX4_same_51 : decode cX4_same 51 = .ok (.invokestatic 178, 3) := by decide +kernel
theorem dX4_same_54 : decode cX4_same 54 = .ok (.ifCond .ne 5, 3) := by decide +kernel
theorem dX4_same_57 : decode cX4_same 57 = .ok (.iconst 0, 1) := by decide +kernel
theorem dX4_same_58 : decode cX4_same 58 = .ok (.ireturn, 1) := by decide +kernel
theorem dX4_same_59 : decode cX4_same 59 = .ok (.iinc 3 1, 3) := by decide +kernel
theorem dX4_same_62 : decode cX4_same 62 = .ok (.goto (-43), 3) := by decide +kernel
theorem dX4_same_65 : decode cX4_same 65 = .ok (.iconst 1, 1) := by decide +kernel
theorem dX4_same_66 : decode cX4_same 66 = .ok (.ireturn, 1) := by decide +kernel
theorem dX4_deed_0 : decode cX4_deed 0 = .ok (.iload_n 1, 1) := by decide +kernel
theorem dX4_deed_1 : decode cX4_deed 1 = .ok (.ifCond .lt 14, 3) := by decide +kernel
theorem dX4_deed_4 : decode cX4_deed 4 = .ok (.iload_n 1, 1) := by decide +kernel
theorem dX4_deed_5 : decode cX4_deed 5 = .ok (.aload_n 0, 1) := by decide +kernel
theorem dX4_deed_6 : decode cX4_deed 6 = .ok (.getfield 10, 3) := by decide +kernel
theorem dX4_deed_9 : decode cX4_deed 9 = .ok (.getfield 111, 3) := by decide +kernel
theorem dX4_deed_12 : decode cX4_deed 12 = .ok (.if_icmp .lt 6, 3) := by decide +kernel
theorem dX4_deed_15 : decode cX4_deed 15 = .ok (.bipush (-101), 2) := by decide +kernel
theorem dX4_deed_17 : decode cX4_deed 17 = .ok (.ireturn, 1) := by decide +kernel
theorem dX4_deed_18 : decode cX4_deed 18 = .ok (.iload_n 2, 1) := by decide +kernel
theorem dX4_deed_19 : decode cX4_deed 19 = .ok (.tableswitch 97 0 5 #[37, 47, 57, 67, 77, 87], 37) := by decide +kernel
theorem dX4_deed_56 : decode cX4_deed 56 = .ok (.aload_n 0, 1) := by decide +kernel
theorem dX4_deed_57 : decode cX4_deed 57 = .ok (.getfield 10, 3) := by decide +kernel
theorem dX4_deed_60 : decode cX4_deed 60 = .ok (.getfield 182, 3) := by decide +kernel
theorem dX4_deed_63 : decode cX4_deed 63 = .ok (.iload_n 1, 1) := by decide +kernel
theorem dX4_deed_64 : decode cX4_deed 64 = .ok (.iaload, 1) := by decide +kernel
theorem dX4_deed_65 : decode cX4_deed 65 = .ok (.ireturn, 1) := by decide +kernel
theorem dX4_deed_66 : decode cX4_deed 66 = .ok (.aload_n 0, 1) := by decide +kernel
theorem dX4_deed_67 : decode cX4_deed 67 = .ok (.getfield 10, 3) := by decide +kernel
theorem dX4_deed_70 : decode cX4_deed 70 = .ok (.getfield 185, 3) := by decide +kernel
theorem dX4_deed_73 : decode cX4_deed 73 = .ok (.iload_n 1, 1) := by decide +kernel
theorem dX4_deed_74 : decode cX4_deed 74 = .ok (.iaload, 1) := by decide +kernel
theorem dX4_deed_75 : decode cX4_deed 75 = .ok (.ireturn, 1) := by decide +kernel
theorem dX4_deed_76 : decode cX4_deed 76 = .ok (.aload_n 0, 1) := by decide +kernel
theorem dX4_deed_77 : decode cX4_deed 77 = .ok (.getfield 10, 3) := by decide +kernel
theorem dX4_deed_80 : decode cX4_deed 80 = .ok (.getfield 188, 3) := by decide +kernel
theorem dX4_deed_83 : decode cX4_deed 83 = .ok (.iload_n 1, 1) := by decide +kernel
theorem dX4_deed_84 : decode cX4_deed 84 = .ok (.iaload, 1) := by decide +kernel
theorem dX4_deed_85 : decode cX4_deed 85 = .ok (.ireturn, 1) := by decide +kernel
theorem dX4_deed_86 : decode cX4_deed 86 = .ok (.aload_n 0, 1) := by decide +kernel
theorem dX4_deed_87 : decode cX4_deed 87 = .ok (.getfield 10, 3) := by decide +kernel
theorem dX4_deed_90 : decode cX4_deed 90 = .ok (.getfield 76, 3) := by decide +kernel
theorem dX4_deed_93 : decode cX4_deed 93 = .ok (.iload_n 1, 1) := by decide +kernel
theorem dX4_deed_94 : decode cX4_deed 94 = .ok (.iaload, 1) := by decide +kernel
theorem dX4_deed_95 : decode cX4_deed 95 = .ok (.ireturn, 1) := by decide +kernel
theorem dX4_deed_96 : decode cX4_deed 96 = .ok (.aload_n 0, 1) := by decide +kernel
theorem dX4_deed_97 : decode cX4_deed 97 = .ok (.getfield 10, 3) := by decide +kernel
theorem dX4_deed_100 : decode cX4_deed 100 = .ok (.getfield 118, 3) := by decide +kernel
theorem dX4_deed_103 : decode cX4_deed 103 = .ok (.iload_n 1, 1) := by decide +kernel
theorem dX4_deed_104 : decode cX4_deed 104 = .ok (.iaload, 1) := by decide +kernel
theorem dX4_deed_105 : decode cX4_deed 105 = .ok (.ireturn, 1) := by decide +kernel
theorem dX4_deed_106 : decode cX4_deed 106 = .ok (.aload_n 0, 1) := by decide +kernel
theorem dX4_deed_107 : decode cX4_deed 107 = .ok (.getfield 10, 3) := by decide +kernel
theorem dX4_deed_110 : decode cX4_deed 110 = .ok (.getfield 72, 3) := by decide +kernel
theorem dX4_deed_113 : decode cX4_deed 113 = .ok (.iload_n 1, 1) := by decide +kernel
theorem dX4_deed_114 : decode cX4_deed 114 = .ok (.iaload, 1) := by decide +kernel
theorem dX4_deed_115 : decode cX4_deed 115 = .ok (.ireturn, 1) := by decide +kernel
theorem dX4_deed_116 : decode cX4_deed 116 = .ok (.bipush (-102), 2) := by decide +kernel
theorem dX4_deed_118 : decode cX4_deed 118 = .ok (.ireturn, 1) := by decide +kernel
theorem dX4_message_0 : decode cX4_message 0 = .ok (.aload_n 0, 1) := by decide +kernel
theorem dX4_message_1 : decode cX4_message 1 = .ok (.getfield 26, 3) := by decide +kernel
theorem dX4_message_4 : decode cX4_message 4 = .ok (.iload_n 1, 1) := by decide +kernel
theorem dX4_message_5 : decode cX4_message 5 = .ok (.invokevirtual 83, 3) := by decide +kernel
theorem dX4_message_8 : decode cX4_message 8 = .ok (.ifCond .ne 6, 3) := by decide +kernel
theorem dX4_message_11 : decode cX4_message 11 = .ok (.bipush (-101), 2) := by decide +kernel
theorem dX4_message_13 : decode cX4_message 13 = .ok (.ireturn, 1) := by decide +kernel
theorem dX4_message_14 : decode cX4_message 14 = .ok (.iload_n 2, 1) := by decide +kernel
theorem dX4_message_15 : decode cX4_message 15 = .ok (.ifCond .ne 15, 3) := by decide +kernel
theorem dX4_message_18 : decode cX4_message 18 = .ok (.aload_n 0, 1) := by decide +kernel
theorem dX4_message_19 : decode cX4_message 19 = .ok (.getfield 26, 3) := by decide +kernel
theorem dX4_message_22 : decode cX4_message 22 = .ok (.getfield 86, 3) := by decide +kernel
theorem dX4_message_25 : decode cX4_message 25 = .ok (.iload_n 1, 1) := by decide +kernel
theorem dX4_message_26 : decode cX4_message 26 = .ok (.iaload, 1) := by decide +kernel
theorem dX4_message_27 : decode cX4_message 27 = .ok (.goto 22, 3) := by decide +kernel
theorem dX4_message_30 : decode cX4_message 30 = .ok (.iload_n 2, 1) := by decide +kernel
theorem dX4_message_31 : decode cX4_message 31 = .ok (.iconst 1, 1) := by decide +kernel
theorem dX4_message_32 : decode cX4_message 32 = .ok (.if_icmp .ne 15, 3) := by decide +kernel
theorem dX4_message_35 : decode cX4_message 35 = .ok (.aload_n 0, 1) := by decide +kernel
theorem dX4_message_36 : decode cX4_message 36 = .ok (.getfield 26, 3) := by decide +kernel
theorem dX4_message_39 : decode cX4_message 39 = .ok (.getfield 89, 3) := by decide +kernel
theorem dX4_message_42 : decode cX4_message 42 = .ok (.iload_n 1, 1) := by decide +kernel
theorem dX4_message_43 : decode cX4_message 43 = .ok (.iaload, 1) := by decide +kernel
theorem dX4_message_44 : decode cX4_message 44 = .ok (.goto 5, 3) := by decide +kernel
theorem dX4_message_47 : decode cX4_message 47 = .ok (.bipush (-102), 2) := by decide +kernel
theorem dX4_message_49 : decode cX4_message 49 = .ok (.ireturn, 1) := by decide +kernel
theorem dX4_count_0 : decode cX4_count 0 = .ok (.iload_n 1, 1) := by decide +kernel
theorem dX4_count_1 : decode cX4_count 1 = .ok (.tableswitch 51 0 2 #[27, 35, 43], 27) := by decide +kernel
theorem dX4_count_28 : decode cX4_count 28 = .ok (.aload_n 0, 1) := by decide +kernel
theorem dX4_count_29 : decode cX4_count 29 = .ok (.getfield 10, 3) := by decide +kernel
theorem dX4_count_32 : decode cX4_count 32 = .ok (.getfield 111, 3) := by decide +kernel
theorem dX4_count_35 : decode cX4_count 35 = .ok (.ireturn, 1) := by decide +kernel
theorem dX4_count_36 : decode cX4_count 36 = .ok (.aload_n 0, 1) := by decide +kernel
theorem dX4_count_37 : decode cX4_count 37 = .ok (.getfield 26, 3) := by decide +kernel
theorem dX4_count_40 : decode cX4_count 40 = .ok (.getfield 99, 3) := by decide +kernel
theorem dX4_count_43 : decode cX4_count 43 = .ok (.ireturn, 1) := by decide +kernel
theorem dX4_count_44 : decode cX4_count 44 = .ok (.aload_n 0, 1) := by decide +kernel
theorem dX4_count_45 : decode cX4_count 45 = .ok (.getfield 26, 3) := by decide +kernel
theorem dX4_count_48 : decode cX4_count 48 = .ok (.getfield 190, 3) := by decide +kernel
theorem dX4_count_51 : decode cX4_count 51 = .ok (.ireturn, 1) := by decide +kernel
theorem dX4_count_52 : decode cX4_count 52 = .ok (.bipush (-102), 2) := by decide +kernel
theorem dX4_count_54 : decode cX4_count 54 = .ok (.ireturn, 1) := by decide +kernel
theorem dX4_isReplica_0 : decode cX4_isReplica 0 = .ok (.iload_n 0, 1) := by decide +kernel
theorem dX4_isReplica_1 : decode cX4_isReplica 1 = .ok (.ifCond .lt 13, 3) := by decide +kernel
theorem dX4_isReplica_4 : decode cX4_isReplica 4 = .ok (.iload_n 0, 1) := by decide +kernel
theorem dX4_isReplica_5 : decode cX4_isReplica 5 = .ok (.bipush 6, 2) := by decide +kernel
theorem dX4_isReplica_7 : decode cX4_isReplica 7 = .ok (.if_icmp .ge 7, 3) := by decide +kernel
theorem dX4_isReplica_10 : decode cX4_isReplica 10 = .ok (.iconst 1, 1) := by decide +kernel
theorem dX4_isReplica_11 : decode cX4_isReplica 11 = .ok (.goto 4, 3) := by decide +kernel
theorem dX4_isReplica_14 : decode cX4_isReplica 14 = .ok (.iconst 0, 1) := by decide +kernel
theorem dX4_isReplica_15 : decode cX4_isReplica 15 = .ok (.ireturn, 1) := by decide +kernel
theorem dX4_isCursor_0 : decode cX4_isCursor 0 = .ok (.iload_n 0, 1) := by decide +kernel
theorem dX4_isCursor_1 : decode cX4_isCursor 1 = .ok (.ifCond .lt 12, 3) := by decide +kernel
theorem dX4_isCursor_4 : decode cX4_isCursor 4 = .ok (.iload_n 0, 1) := by decide +kernel
theorem dX4_isCursor_5 : decode cX4_isCursor 5 = .ok (.iconst 4, 1) := by decide +kernel
theorem dX4_isCursor_6 : decode cX4_isCursor 6 = .ok (.if_icmp .ge 7, 3) := by decide +kernel
theorem dX4_isCursor_9 : decode cX4_isCursor 9 = .ok (.iconst 1, 1) := by decide +kernel
theorem dX4_isCursor_10 : decode cX4_isCursor 10 = .ok (.goto 4, 3) := by decide +kernel
theorem dX4_isCursor_13 : decode cX4_isCursor 13 = .ok (.iconst 0, 1) := by decide +kernel
theorem dX4_isCursor_14 : decode cX4_isCursor 14 = .ok (.ireturn, 1) := by decide +kernel
theorem dX4_isByte_0 : decode cX4_isByte 0 = .ok (.iload_n 0, 1) := by decide +kernel
theorem dX4_isByte_1 : decode cX4_isByte 1 = .ok (.bipush 32, 2) := by decide +kernel
theorem dX4_isByte_3 : decode cX4_isByte 3 = .ok (.if_icmp .lt 13, 3) := by decide +kernel
theorem dX4_isByte_6 : decode cX4_isByte 6 = .ok (.iload_n 0, 1) := by decide +kernel
theorem dX4_isByte_7 : decode cX4_isByte 7 = .ok (.bipush 126, 2) := by decide +kernel
theorem dX4_isByte_9 : decode cX4_isByte 9 = .ok (.if_icmp .gt 7, 3) := by decide +kernel
theorem dX4_isByte_12 : decode cX4_isByte 12 = .ok (.iconst 1, 1) := by decide +kernel
theorem dX4_isByte_13 : decode cX4_isByte 13 = .ok (.goto 4, 3) := by decide +kernel
theorem dX4_isByte_16 : decode cX4_isByte 16 = .ok (.iconst 0, 1) := by decide +kernel
theorem dX4_isByte_17 : decode cX4_isByte 17 = .ok (.ireturn, 1) := by decide +kernel
theorem dX4_livingSign_0 : decode cX4_livingSign 0 = .ok (.iload_n 1, 1) := by decide +kernel
theorem dX4_livingSign_1 : decode cX4_livingSign 1 = .ok (.invokestatic 39, 3) := by decide +kernel
theorem dX4_livingSign_4 : decode cX4_livingSign 4 = .ok (.ifCond .eq 16, 3) := by decide +kernel
theorem dX4_livingSign_7 : decode cX4_livingSign 7 = .ok (.aload_n 0, 1) := by decide +kernel
theorem dX4_livingSign_8 : decode cX4_livingSign 8 = .ok (.getfield 32, 3) := by decide +kernel
theorem dX4_livingSign_11 : decode cX4_livingSign 11 = .ok (.iload_n 1, 1) := by decide +kernel
theorem dX4_livingSign_12 : decode cX4_livingSign 12 = .ok (.aaload, 1) := by decide +kernel
theorem dX4_livingSign_13 : decode cX4_livingSign 13 = .ok (.iload_n 2, 1) := by decide +kernel
theorem dX4_livingSign_14 : decode cX4_livingSign 14 = .ok (.invokevirtual 57, 3) := by decide +kernel
theorem dX4_livingSign_17 : decode cX4_livingSign 17 = .ok (.goto 4, 3) := by decide +kernel
theorem dX4_livingSign_20 : decode cX4_livingSign 20 = .ok (.iconst (-1), 1) := by decide +kernel
theorem dX4_livingSign_21 : decode cX4_livingSign 21 = .ok (.istore_n 3, 1) := by decide +kernel
theorem dX4_livingSign_22 : decode cX4_livingSign 22 = .ok (.iload_n 3, 1) := by decide +kernel
theorem dX4_livingSign_23 : decode cX4_livingSign 23 = .ok (.iconst (-1), 1) := by decide +kernel
theorem dX4_livingSign_24 : decode cX4_livingSign 24 = .ok (.if_icmp .ne 13, 3) := by decide +kernel
theorem dX4_livingSign_27 : decode cX4_livingSign 27 = .ok (.new 128, 3) := by decide +kernel
theorem dX4_livingSign_30 : decode cX4_livingSign 30 = .ok (.dup, 1) := by decide +kernel
theorem dX4_livingSign_31 : decode cX4_livingSign 31 = .ok (.ldc 193, 2) := by decide +kernel
theorem dX4_livingSign_33 : decode cX4_livingSign 33 = .ok (.invokespecial 132, 3) := by decide +kernel
theorem dX4_livingSign_36 : decode cX4_livingSign 36 = .ok (.athrow, 1) := by decide +kernel
theorem dX4_livingSign_37 : decode cX4_livingSign 37 = .ok (.iload_n 3, 1) := by decide +kernel
theorem dX4_livingSign_38 : decode cX4_livingSign 38 = .ok (.ireturn, 1) := by decide +kernel
theorem dX4_putSign_0 : decode cX4_putSign 0 = .ok (.aload_n 0, 1) := by decide +kernel
theorem dX4_putSign_1 : decode cX4_putSign 1 = .ok (.getfield 10, 3) := by decide +kernel
theorem dX4_putSign_4 : decode cX4_putSign 4 = .ok (.invokevirtual 61, 3) := by decide +kernel
theorem dX4_putSign_7 : decode cX4_putSign 7 = .ok (.ifCond .eq 6, 3) := by decide +kernel
theorem dX4_putSign_10 : decode cX4_putSign 10 = .ok (.bipush (-104), 2) := by decide +kernel
theorem dX4_putSign_12 : decode cX4_putSign 12 = .ok (.ireturn, 1) := by decide +kernel
theorem dX4_putSign_13 : decode cX4_putSign 13 = .ok (.aload_n 0, 1) := by decide +kernel
theorem dX4_putSign_14 : decode cX4_putSign 14 = .ok (.getfield 10, 3) := by decide +kernel
theorem dX4_putSign_17 : decode cX4_putSign 17 = .ok (.getfield 111, 3) := by decide +kernel
theorem dX4_putSign_20 : decode cX4_putSign 20 = .ok (.istore 4, 2) := by decide +kernel
theorem dX4_putSign_22 : decode cX4_putSign 22 = .ok (.aload_n 1, 1) := by decide +kernel
theorem dX4_putSign_23 : decode cX4_putSign 23 = .ok (.iload_n 2, 1) := by decide +kernel
theorem dX4_putSign_24 : decode cX4_putSign 24 = .ok (.invokevirtual 159, 3) := by decide +kernel
theorem dX4_putSign_27 : decode cX4_putSign 27 = .ok (.istore 5, 2) := by decide +kernel
theorem dX4_putSign_29 : decode cX4_putSign 29 = .ok (.aload_n 0, 1) := by decide +kernel
theorem dX4_putSign_30 : decode cX4_putSign 30 = .ok (.getfield 19, 3) := by decide +kernel
theorem dX4_putSign_33 : decode cX4_putSign 33 = .ok (.iload 4, 2) := by decide +kernel
theorem dX4_putSign_35 : decode cX4_putSign 35 = .ok (.iload 5, 2) := by decide +kernel
theorem dX4_putSign_37 : decode cX4_putSign 37 = .ok (.aload_n 1, 1) := by decide +kernel
theorem dX4_putSign_38 : decode cX4_putSign 38 = .ok (.iload 5, 2) := by decide +kernel
theorem dX4_putSign_40 : decode cX4_putSign 40 = .ok (.invokevirtual 195, 3) := by decide +kernel
theorem dX4_putSign_43 : decode cX4_putSign 43 = .ok (.aload_n 1, 1) := by decide +kernel
theorem dX4_putSign_44 : decode cX4_putSign 44 = .ok (.invokevirtual 198, 3) := by decide +kernel
theorem dX4_putSign_47 : decode cX4_putSign 47 = .ok (.ifCond .ne 6, 3) := by decide +kernel
theorem dX4_putSign_50 : decode cX4_putSign 50 = .ok (.bipush (-104), 2) := by decide +kernel
theorem dX4_putSign_52 : decode cX4_putSign 52 = .ok (.ireturn, 1) := by decide +kernel
theorem dX4_putSign_53 : decode cX4_putSign 53 = .ok (.aload_n 0, 1) := by decide +kernel
theorem dX4_putSign_54 : decode cX4_putSign 54 = .ok (.getfield 19, 3) := by decide +kernel
theorem dX4_putSign_57 : decode cX4_putSign 57 = .ok (.iload 4, 2) := by decide +kernel
theorem dX4_putSign_59 : decode cX4_putSign 59 = .ok (.iload 5, 2) := by decide +kernel
theorem dX4_putSign_61 : decode cX4_putSign 61 = .ok (.invokevirtual 202, 3) := by decide +kernel
theorem dX4_putSign_64 : decode cX4_putSign 64 = .ok (.aload_n 0, 1) := by decide +kernel
theorem dX4_putSign_65 : decode cX4_putSign 65 = .ok (.aload_n 1, 1) := by decide +kernel
theorem dX4_putSign_66 : decode cX4_putSign 66 = .ok (.iconst 0, 1) := by decide +kernel
theorem dX4_putSign_67 : decode cX4_putSign 67 = .ok (.iload_n 3, 1) := by decide +kernel
theorem dX4_putSign_68 : decode cX4_putSign 68 = .ok (.iload 4, 2) := by decide +kernel
theorem dX4_putSign_70 : decode cX4_putSign 70 = .ok (.iload 4, 2) := by decide +kernel
theorem dX4_putSign_72 : decode cX4_putSign 72 = .ok (.invokevirtual 65, 3) := by decide +kernel
theorem dX4_putSign_75 : decode cX4_putSign 75 = .ok (.ireturn, 1) := by decide +kernel
theorem dX4_perform_0 : decode cX4_perform 0 = .ok (.aload_n 0, 1) := by decide +kernel
theorem dX4_perform_1 : decode cX4_perform 1 = .ok (.getfield 10, 3) := by decide +kernel
theorem dX4_perform_4 : decode cX4_perform 4 = .ok (.aload_n 1, 1) := by decide +kernel
theorem dX4_perform_5 : decode cX4_perform 5 = .ok (.getfield 205, 3) := by decide +kernel
theorem dX4_perform_8 : decode cX4_perform 8 = .ok (.aload_n 1, 1) := by decide +kernel
theorem dX4_perform_9 : decode cX4_perform 9 = .ok (.invokevirtual 208, 3) := by decide +kernel
theorem dX4_perform_12 : decode cX4_perform 12 = .ok (.aload_n 1, 1) := by decide +kernel
theorem dX4_perform_13 : decode cX4_perform 13 = .ok (.getfield 168, 3) := by decide +kernel
theorem dX4_perform_16 : decode cX4_perform 16 = .ok (.iconst 1, 1) := by decide +kernel
theorem dX4_perform_17 : decode cX4_perform 17 = .ok (.iadd, 1) := by decide +kernel
theorem dX4_perform_18 : decode cX4_perform 18 = .ok (.iload_n 2, 1) := by decide +kernel
theorem dX4_perform_19 : decode cX4_perform 19 = .ok (.iload_n 3, 1) := by decide +kernel
theorem dX4_perform_20 : decode cX4_perform 20 = .ok (.iload 4, 2) := by decide +kernel
theorem dX4_perform_22 : decode cX4_perform 22 = .ok (.iload 5, 2) := by decide +kernel
theorem dX4_perform_24 : decode cX4_perform 24 = .ok (.invokevirtual 211, 3) := by decide +kernel
theorem dX4_perform_27 : decode cX4_perform 27 = .ok (.istore 6, 2) := by decide +kernel
theorem dX4_perform_29 : decode cX4_perform 29 = .ok (.aload_n 1, 1) := by decide +kernel
theorem dX4_perform_30 : decode cX4_perform 30 = .ok (.iload 6, 2) := by decide +kernel
theorem dX4_perform_32 : decode cX4_perform 32 = .ok (.invokevirtual 215, 3) := by decide +kernel
theorem dX4_perform_35 : decode cX4_perform 35 = .ok (.iconst 0, 1) := by decide +kernel
theorem dX4_perform_36 : decode cX4_perform 36 = .ok (.istore 7, 2) := by decide +kernel
theorem dX4_perform_38 : decode cX4_perform 38 = .ok (.iload 7, 2) := by decide +kernel
theorem dX4_perform_40 : decode cX4_perform 40 = .ok (.bipush 6, 2) := by decide +kernel
theorem dX4_perform_42 : decode cX4_perform 42 = .ok (.if_icmp .ge 29, 3) := by decide +kernel
theorem dX4_perform_45 : decode cX4_perform 45 = .ok (.iload 7, 2) := by decide +kernel
theorem dX4_perform_47 : decode cX4_perform 47 = .ok (.aload_n 1, 1) := by decide +kernel
theorem dX4_perform_48 : decode cX4_perform 48 = .ok (.getfield 205, 3) := by decide +kernel
theorem dX4_perform_51 : decode cX4_perform 51 = .ok (.if_icmp .eq 14, 3) := by decide +kernel
theorem dX4_perform_54 : decode cX4_perform 54 = .ok (.aload_n 0, 1) := by decide +kernel
theorem dX4_perform_55 : decode cX4_perform 55 = .ok (.getfield 26, 3) := by decide +kernel
theorem dX4_perform_58 : decode cX4_perform 58 = .ok (.iload 6, 2) := by decide +kernel
theorem dX4_perform_60 : decode cX4_perform 60 = .ok (.iload 7, 2) := by decide +kernel
theorem dX4_perform_62 : decode cX4_perform 62 = .ok (.invokevirtual 103, 3) := by decide +kernel
theorem dX4_perform_65 : decode cX4_perform 65 = .ok (.iinc 7 1, 3) := by decide +kernel
theorem dX4_perform_68 : decode cX4_perform 68 = .ok (.goto (-30), 3) := by decide +kernel
theorem dX4_perform_71 : decode cX4_perform 71 = .ok (.iload 6, 2) := by decide +kernel
theorem dX4_perform_73 : decode cX4_perform 73 = .ok (.ireturn, 1) := by decide +kernel
theorem dX4_isAlike_0 : decode cX4_isAlike 0 = .ok (.aload_n 0, 1) := by decide +kernel
theorem dX4_isAlike_1 : decode cX4_isAlike 1 = .ok (.iload_n 2, 1) := by decide +kernel
theorem dX4_isAlike_2 : decode cX4_isAlike 2 = .ok (.invokevirtual 218, 3) := by decide +kernel
theorem dX4_isAlike_5 : decode cX4_isAlike 5 = .ok (.istore_n 3, 1) := by decide +kernel
theorem dX4_isAlike_6 : decode cX4_isAlike 6 = .ok (.iload_n 3, 1) := by decide +kernel
theorem dX4_isAlike_7 : decode cX4_isAlike 7 = .ok (.aload_n 1, 1) := by decide +kernel
theorem dX4_isAlike_8 : decode cX4_isAlike 8 = .ok (.iload_n 2, 1) := by decide +kernel
theorem dX4_isAlike_9 : decode cX4_isAlike 9 = .ok (.invokevirtual 218, 3) := by decide +kernel
theorem dX4_isAlike_12 : decode cX4_isAlike 12 = .ok (.if_icmp .eq 5, 3) := by decide +kernel
theorem dX4_isAlike_15 : decode cX4_isAlike 15 = .ok (.iconst 0, 1) := by decide +kernel
theorem dX4_isAlike_16 : decode cX4_isAlike 16 = .ok (.ireturn, 1) := by decide +kernel
theorem dX4_isAlike_17 : decode cX4_isAlike 17 = .ok (.iload_n 3, 1) := by decide +kernel
theorem dX4_isAlike_18 : decode cX4_isAlike 18 = .ok (.ifCond .eq 16, 3) := by decide +kernel
theorem dX4_isAlike_21 : decode cX4_isAlike 21 = .ok (.aload_n 0, 1) := by decide +kernel
theorem dX4_isAlike_22 : decode cX4_isAlike 22 = .ok (.iload_n 2, 1) := by decide +kernel
theorem dX4_isAlike_23 : decode cX4_isAlike 23 = .ok (.invokevirtual 147, 3) := by decide +kernel
theorem dX4_isAlike_26 : decode cX4_isAlike 26 = .ok (.aload_n 1, 1) := by decide +kernel
theorem dX4_isAlike_27 : decode cX4_isAlike 27 = .ok (.iload_n 2, 1) := by decide +kernel
theorem dX4_isAlike_28 : decode cX4_isAlike 28 = .ok (.invokevirtual 147, 3) := by decide +kernel
theorem dX4_isAlike_31 : decode cX4_isAlike 31 = .ok (.if_icmp .ne 7, 3) := by decide +kernel
theorem dX4_isAlike_34 : decode cX4_isAlike 34 = .ok (.iconst 1, 1) := by decide +kernel
theorem dX4_isAlike_35 : decode cX4_isAlike 35 = .ok (.goto 4, 3) := by decide +kernel
theorem dX4_isAlike_38 : decode cX4_isAlike 38 = .ok (.iconst 0, 1) := by decide +kernel
theorem dX4_isAlike_39 : decode cX4_isAlike 39 = .ok (.ireturn, 1) := by decide +kernel
theorem dX0_init_0 : decode cX0_init 0 = .ok (.aload_n 0, 1) := by decide +kernel
theorem dX0_init_1 : decode cX0_init 1 = .ok (.invokespecial 3, 3) := by decide +kernel
theorem dX0_init_4 : decode cX0_init 4 = .ok (.aload_n 0, 1) := by decide +kernel
theorem dX0_init_5 : decode cX0_init 5 = .ok (.sipush 400, 3) := by decide +kernel
theorem dX0_init_8 : decode cX0_init 8 = .ok (.newarray .int, 2) := by decide +kernel
theorem dX0_init_10 : decode cX0_init 10 = .ok (.putfield 9, 3) := by decide +kernel
theorem dX0_init_13 : decode cX0_init 13 = .ok (.aload_n 0, 1) := by decide +kernel
theorem dX0_init_14 : decode cX0_init 14 = .ok (.sipush 400, 3) := by decide +kernel
theorem dX0_init_17 : decode cX0_init 17 = .ok (.newarray .int, 2) := by decide +kernel
theorem dX0_init_19 : decode cX0_init 19 = .ok (.putfield 15, 3) := by decide +kernel
theorem dX0_init_22 : decode cX0_init 22 = .ok (.aload_n 0, 1) := by decide +kernel
theorem dX0_init_23 : decode cX0_init 23 = .ok (.sipush 400, 3) := by decide +kernel
theorem dX0_init_26 : decode cX0_init 26 = .ok (.newarray .int, 2) := by decide +kernel
theorem dX0_init_28 : decode cX0_init 28 = .ok (.putfield 18, 3) := by decide +kernel
theorem dX0_init_31 : decode cX0_init 31 = .ok (.aload_n 0, 1) := by decide +kernel
theorem dX0_init_32 : decode cX0_init 32 = .ok (.sipush 400, 3) := by decide +kernel
theorem dX0_init_35 : decode cX0_init 35 = .ok (.newarray .int, 2) := by decide +kernel
theorem dX0_init_37 : decode cX0_init 37 = .ok (.putfield 21, 3) := by decide +kernel
theorem dX0_init_40 : decode cX0_init 40 = .ok (.aload_n 0, 1) := by decide +kernel
theorem dX0_init_41 : decode cX0_init 41 = .ok (.sipush 400, 3) := by decide +kernel
theorem dX0_init_44 : decode cX0_init 44 = .ok (.newarray .int, 2) := by decide +kernel
theorem dX0_init_46 : decode cX0_init 46 = .ok (.putfield 24, 3) := by decide +kernel
theorem dX0_init_49 : decode cX0_init 49 = .ok (.aload_n 0, 1) := by decide +kernel
theorem dX0_init_50 : decode cX0_init 50 = .ok (.sipush 400, 3) := by decide +kernel
theorem dX0_init_53 : decode cX0_init 53 = .ok (.newarray .int, 2) := by decide +kernel
theorem dX0_init_55 : decode cX0_init 55 = .ok (.putfield 27, 3) := by decide +kernel
theorem dX0_init_58 : decode cX0_init 58 = .ok (.aload_n 0, 1) := by decide +kernel
theorem dX0_init_59 : decode cX0_init 59 = .ok (.sipush 400, 3) := by decide +kernel
theorem dX0_init_62 : decode cX0_init 62 = .ok (.newarray .int, 2) := by decide +kernel
theorem dX0_init_64 : decode cX0_init 64 = .ok (.putfield 30, 3) := by decide +kernel
theorem dX0_init_67 : decode cX0_init 67 = .ok (.aload_n 0, 1) := by decide +kernel
theorem dX0_init_68 : decode cX0_init 68 = .ok (.sipush 400, 3) := by decide +kernel
theorem dX0_init_71 : decode cX0_init 71 = .ok (.newarray .boolean, 2) := by decide +kernel
theorem dX0_init_73 : decode cX0_init 73 = .ok (.putfield 33, 3) := by decide +kernel
theorem dX0_init_76 : decode cX0_init 76 = .ok (.aload_n 0, 1) := by decide +kernel
theorem dX0_init_77 : decode cX0_init 77 = .ok (.sipush 400, 3) := by decide +kernel
theorem dX0_init_80 : decode cX0_init 80 = .ok (.newarray .int, 2) := by decide +kernel
theorem dX0_init_82 : decode cX0_init 82 = .ok (.putfield 37, 3) := by decide +kernel
theorem dX0_init_85 : decode cX0_init 85 = .ok (.return_, 1) := by decide +kernel
theorem dX0_isFull_0 : decode cX0_isFull 0 = .ok (.aload_n 0, 1) := by decide +kernel
theorem dX0_isFull_1 : decode cX0_isFull 1 = .ok (.getfield 40, 3) := by decide +kernel
theorem dX0_isFull_4 : decode cX0_isFull 4 = .ok (.sipush 400, 3) := by decide +kernel
theorem dX0_isFull_7 : decode cX0_isFull 7 = .ok (.if_icmp .lt 7, 3) := by decide +kernel
theorem dX0_isFull_10 : decode cX0_isFull 10 = .ok (.iconst 1, 1) := by decide +kernel
theorem dX0_isFull_11 : decode cX0_isFull 11 = .ok (.goto 4, 3) := by decide +kernel
theorem dX0_isFull_14 : decode cX0_isFull 14 = .ok (.iconst 0, 1) := by decide +kernel
theorem dX0_isFull_15 : decode cX0_isFull 15 = .ok (.ireturn, 1) := by decide +kernel
theorem dX0_add_0 : decode cX0_add 0 = .ok (.aload_n 0, 1) := by decide +kernel
theorem dX0_add_1 : decode cX0_add 1 = .ok (.getfield 40, 3) := by decide +kernel
theorem dX0_add_4 : decode cX0_add 4 = .ok (.istore 8, 2) := by decide +kernel
theorem dX0_add_6 : decode cX0_add 6 = .ok (.aload_n 0, 1) := by decide +kernel
theorem dX0_add_7 : decode cX0_add 7 = .ok (.getfield 9, 3) := by decide +kernel
theorem dX0_add_10 : decode cX0_add 10 = .ok (.iload 8, 2) := by decide +kernel
theorem dX0_add_12 : decode cX0_add 12 = .ok (.iload_n 1, 1) := by decide +kernel
theorem dX0_add_13 : decode cX0_add 13 = .ok (.iastore, 1) := by decide +kernel
theorem dX0_add_14 : decode cX0_add 14 = .ok (.aload_n 0, 1) := by decide +kernel
theorem dX0_add_15 : decode cX0_add 15 = .ok (.getfield 15, 3) := by decide +kernel
theorem dX0_add_18 : decode cX0_add 18 = .ok (.iload 8, 2) := by decide +kernel
theorem dX0_add_20 : decode cX0_add 20 = .ok (.iload_n 2, 1) := by decide +kernel
theorem dX0_add_21 : decode cX0_add 21 = .ok (.iastore, 1) := by decide +kernel
theorem dX0_add_22 : decode cX0_add 22 = .ok (.aload_n 0, 1) := by decide +kernel
theorem dX0_add_23 : decode cX0_add 23 = .ok (.getfield 18, 3) := by decide +kernel
theorem dX0_add_26 : decode cX0_add 26 = .ok (.iload 8, 2) := by decide +kernel
theorem dX0_add_28 : decode cX0_add 28 = .ok (.iload_n 3, 1) := by decide +kernel
theorem dX0_add_29 : decode cX0_add 29 = .ok (.iastore, 1) := by decide +kernel
theorem dX0_add_30 : decode cX0_add 30 = .ok (.aload_n 0, 1) := by decide +kernel
theorem dX0_add_31 : decode cX0_add 31 = .ok (.getfield 21, 3) := by decide +kernel
theorem dX0_add_34 : decode cX0_add 34 = .ok (.iload 8, 2) := by decide +kernel
theorem dX0_add_36 : decode cX0_add 36 = .ok (.iload 4, 2) := by decide +kernel
theorem dX0_add_38 : decode cX0_add 38 = .ok (.iastore, 1) := by decide +kernel
theorem dX0_add_39 : decode cX0_add 39 = .ok (.aload_n 0, 1) := by decide +kernel
theorem dX0_add_40 : decode cX0_add 40 = .ok (.getfield 24, 3) := by decide +kernel
theorem dX0_add_43 : decode cX0_add 43 = .ok (.iload 8, 2) := by decide +kernel
theorem dX0_add_45 : decode cX0_add 45 = .ok (.iload 5, 2) := by decide +kernel
theorem dX0_add_47 : decode cX0_add 47 = .ok (.iastore, 1) := by decide +kernel
theorem dX0_add_48 : decode cX0_add 48 = .ok (.aload_n 0, 1) := by decide +kernel
theorem dX0_add_49 : decode cX0_add 49 = .ok (.getfield 27, 3) := by decide +kernel
theorem dX0_add_52 : decode cX0_add 52 = .ok (.iload 8, 2) := by decide +kernel
theorem dX0_add_54 : decode cX0_add 54 = .ok (.iload 6, 2) := by decide +kernel
theorem dX0_add_56 : decode cX0_add 56 = .ok (.iastore, 1) := by decide +kernel
theorem dX0_add_57 : decode cX0_add 57 = .ok (.aload_n 0, 1) := by decide +kernel
theorem dX0_add_58 : decode cX0_add 58 = .ok (.getfield 30, 3) := by decide +kernel
theorem dX0_add_61 : decode cX0_add 61 = .ok (.iload 8, 2) := by decide +kernel
theorem dX0_add_63 : decode cX0_add 63 = .ok (.iload 7, 2) := by decide +kernel
theorem dX0_add_65 : decode cX0_add 65 = .ok (.iastore, 1) := by decide +kernel
theorem dX0_add_66 : decode cX0_add 66 = .ok (.aload_n 0, 1) := by decide +kernel
theorem dX0_add_67 : decode cX0_add 67 = .ok (.getfield 33, 3) := by decide +kernel
theorem dX0_add_70 : decode cX0_add 70 = .ok (.iload 8, 2) := by decide +kernel
theorem dX0_add_72 : decode cX0_add 72 = .ok (.iload 4, 2) := by decide +kernel
theorem dX0_add_74 : decode cX0_add 74 = .ok (.ifCond .eq 9, 3) := by decide +kernel
theorem dX0_add_77 : decode cX0_add 77 = .ok (.iload 4, 2) := by decide +kernel
theorem dX0_add_79 : decode cX0_add 79 = .ok (.iconst 1, 1) := by decide +kernel
theorem dX0_add_80 : decode cX0_add 80 = .ok (.if_icmp .ne 7, 3) := by decide +kernel
theorem dX0_add_83 : decode cX0_add 83 = .ok (.iconst 1, 1) := by decide +kernel
theorem dX0_add_84 : decode cX0_add 84 = .ok (.goto 4, 3) := by decide +kernel
theorem dX0_add_87 : decode cX0_add 87 = .ok (.iconst 0, 1) := by decide +kernel
theorem dX0_add_88 : decode cX0_add 88 = .ok (.bastore, 1) := by decide +kernel
theorem dX0_add_89 : decode cX0_add 89 = .ok (.iload 4, 2) := by decide +kernel
theorem dX0_add_91 : decode cX0_add 91 = .ok (.iconst 3, 1) := by decide +kernel
theorem dX0_add_92 : decode cX0_add 92 = .ok (.if_icmp .ne 24, 3) := by decide +kernel
theorem dX0_add_95 : decode cX0_add 95 = .ok (.aload_n 0, 1) := by decide +kernel
theorem dX0_add_96 : decode cX0_add 96 = .ok (.getfield 37, 3) := by decide +kernel
theorem dX0_add_99 : decode cX0_add 99 = .ok (.aload_n 0, 1) := by decide +kernel
theorem dX0_add_100 : decode cX0_add 100 = .ok (.getfield 44, 3) := by decide +kernel
theorem dX0_add_103 : decode cX0_add 103 = .ok (.iload 8, 2) := by decide +kernel
theorem dX0_add_105 : decode cX0_add 105 = .ok (.iastore, 1) := by decide +kernel
theorem dX0_add_106 : decode cX0_add 106 = .ok (.aload_n 0, 1) := by decide +kernel
theorem dX0_add_107 : decode cX0_add 107 = .ok (.dup, 1) := by decide +kernel
theorem dX0_add_108 : decode cX0_add 108 = .ok (.getfield 44, 3) := by decide +kernel
theorem dX0_add_111 : decode cX0_add 111 = .ok (.iconst 1, 1) := by decide +kernel
theorem dX0_add_112 : decode cX0_add 112 = .ok (.iadd, 1) := by decide +kernel
theorem dX0_add_113 : decode cX0_add 113 = .ok (.putfield 44, 3) := by decide +kernel
theorem dX0_add_116 : decode cX0_add 116 = .ok (.aload_n 0, 1) := by decide +kernel
theorem dX0_add_117 : decode cX0_add 117 = .ok (.dup, 1) := by decide +kernel
theorem dX0_add_118 : decode cX0_add 118 = .ok (.getfield 40, 3) := by decide +kernel
theorem dX0_add_121 : decode cX0_add 121 = .ok (.iconst 1, 1) := by decide +kernel
theorem dX0_add_122 : decode cX0_add 122 = .ok (.iadd, 1) := by decide +kernel
theorem dX0_add_123 : decode cX0_add 123 = .ok (.putfield 40, 3) := by decide +kernel
theorem dX0_add_126 : decode cX0_add 126 = .ok (.iload 8, 2) := by decide +kernel
theorem dX0_add_128 : decode cX0_add 128 = .ok (.ireturn, 1) := by decide +kernel
theorem dX0_isLater_0 : decode cX0_isLater 0 = .ok (.aload_n 0, 1) := by decide +kernel
theorem dX0_isLater_1 : decode cX0_isLater 1 = .ok (.getfield 18, 3) := by decide +kernel
theorem dX0_isLater_4 : decode cX0_isLater 4 = .ok (.iload_n 1, 1) := by decide +kernel
theorem dX0_isLater_5 : decode cX0_isLater 5 = .ok (.iaload, 1) := by decide +kernel
theorem dX0_isLater_6 : decode cX0_isLater 6 = .ok (.aload_n 0, 1) := by decide +kernel
theorem dX0_isLater_7 : decode cX0_isLater 7 = .ok (.getfield 18, 3) := by decide +kernel
theorem dX0_isLater_10 : decode cX0_isLater 10 = .ok (.iload_n 2, 1) := by decide +kernel
theorem dX0_isLater_11 : decode cX0_isLater 11 = .ok (.iaload, 1) := by decide +kernel
theorem dX0_isLater_12 : decode cX0_isLater 12 = .ok (.if_icmp .gt 33, 3) := by decide +kernel
theorem dX0_isLater_15 : decode cX0_isLater 15 = .ok (.aload_n 0, 1) := by decide +kernel
theorem dX0_isLater_16 : decode cX0_isLater 16 = .ok (.getfield 18, 3) := by decide +kernel
theorem dX0_isLater_19 : decode cX0_isLater 19 = .ok (.iload_n 1, 1) := by decide +kernel
theorem dX0_isLater_20 : decode cX0_isLater 20 = .ok (.iaload, 1) := by decide +kernel
theorem dX0_isLater_21 : decode cX0_isLater 21 = .ok (.aload_n 0, 1) := by decide +kernel
theorem dX0_isLater_22 : decode cX0_isLater 22 = .ok (.getfield 18, 3) := by decide +kernel
theorem dX0_isLater_25 : decode cX0_isLater 25 = .ok (.iload_n 2, 1) := by decide +kernel
theorem dX0_isLater_26 : decode cX0_isLater 26 = .ok (.iaload, 1) := by decide +kernel
theorem dX0_isLater_27 : decode cX0_isLater 27 = .ok (.if_icmp .ne 22, 3) := by decide +kernel
theorem dX0_isLater_30 : decode cX0_isLater 30 = .ok (.aload_n 0, 1) := by decide +kernel
theorem dX0_isLater_31 : decode cX0_isLater 31 = .ok (.getfield 9, 3) := by decide +kernel
theorem dX0_isLater_34 : decode cX0_isLater 34 = .ok (.iload_n 1, 1) := by decide +kernel
theorem dX0_isLater_35 : decode cX0_isLater 35 = .ok (.iaload, 1) := by decide +kernel
theorem dX0_isLater_36 : decode cX0_isLater 36 = .ok (.aload_n 0, 1) := by decide +kernel
theorem dX0_isLater_37 : decode cX0_isLater 37 = .ok (.getfield 9, 3) := by decide +kernel
theorem dX0_isLater_40 : decode cX0_isLater 40 = .ok (.iload_n 2, 1) := by decide +kernel
theorem dX0_isLater_41 : decode cX0_isLater 41 = .ok (.iaload, 1) := by decide +kernel
theorem dX0_isLater_42 : decode cX0_isLater 42 = .ok (.if_icmp .le 7, 3) := by decide +kernel
theorem dX0_isLater_45 : decode cX0_isLater 45 = .ok (.iconst 1, 1) := by decide +kernel
theorem dX0_isLater_46 : decode cX0_isLater 46 = .ok (.goto 4, 3) := by decide +kernel
theorem dX0_isLater_49 : decode cX0_isLater 49 = .ok (.iconst 0, 1) := by decide +kernel
theorem dX0_isLater_50 : decode cX0_isLater 50 = .ok (.ireturn, 1) := by decide +kernel
theorem dX0_lastToUndo_0 : decode cX0_lastToUndo 0 = .ok (.aload_n 0, 1) := by decide +kernel
theorem dX0_lastToUndo_1 : decode cX0_lastToUndo 1 = .ok (.getfield 40, 3) := by decide +kernel
theorem dX0_lastToUndo_4 : decode cX0_lastToUndo 4 = .ok (.iconst 1, 1) := by decide +kernel
theorem dX0_lastToUndo_5 : decode cX0_lastToUndo 5 = .ok (.isub, 1) := by decide +kernel
theorem dX0_lastToUndo_6 : decode cX0_lastToUndo 6 = .ok (.istore_n 2, 1) := by decide +kernel
theorem dX0_lastToUndo_7 : decode cX0_lastToUndo 7 = .ok (.iload_n 2, 1) := by decide +kernel
theorem dX0_lastToUndo_8 : decode cX0_lastToUndo 8 = .ok (.ifCond .lt 30, 3) := by decide +kernel
theorem dX0_lastToUndo_11 : decode cX0_lastToUndo 11 = .ok (.aload_n 0, 1) := by decide +kernel
theorem dX0_lastToUndo_12 : decode cX0_lastToUndo 12 = .ok (.getfield 33, 3) := by decide +kernel
theorem dX0_lastToUndo_15 : decode cX0_lastToUndo 15 = .ok (.iload_n 2, 1) := by decide +kernel
theorem dX0_lastToUndo_16 : decode cX0_lastToUndo 16 = .ok (.baload, 1) := by decide +kernel
theorem dX0_lastToUndo_17 : decode cX0_lastToUndo 17 = .ok (.ifCond .eq 15, 3) := by decide +kernel
theorem dX0_lastToUndo_20 : decode cX0_lastToUndo 20 = .ok (.aload_n 0, 1) := by decide +kernel
theorem dX0_lastToUndo_21 : decode cX0_lastToUndo 21 = .ok (.getfield 9, 3) := by decide +kernel
theorem dX0_lastToUndo_24 : decode cX0_lastToUndo 24 = .ok (.iload_n 2, 1) := by decide +kernel
theorem dX0_lastToUndo_25 : decode cX0_lastToUndo 25 = .ok (.iaload, 1) := by decide +kernel
theorem dX0_lastToUndo_26 : decode cX0_lastToUndo 26 = .ok (.iload_n 1, 1) := by decide +kernel
theorem dX0_lastToUndo_27 : decode cX0_lastToUndo 27 = .ok (.if_icmp .ne 5, 3) := by decide +kernel
theorem dX0_lastToUndo_30 : decode cX0_lastToUndo 30 = .ok (.iload_n 2, 1) := by decide +kernel
theorem dX0_lastToUndo_31 : decode cX0_lastToUndo 31 = .ok (.ireturn, 1) := by decide +kernel
theorem dX0_lastToUndo_32 : decode cX0_lastToUndo 32 = .ok (.iinc 2 (-1), 3) := by decide +kernel
theorem dX0_lastToUndo_35 : decode cX0_lastToUndo 35 = .ok (.goto (-28), 3) := by decide +kernel
theorem dX0_lastToUndo_38 : decode cX0_lastToUndo 38 = .ok (.iconst (-1), 1) := by decide +kernel
theorem dX0_lastToUndo_39 : decode cX0_lastToUndo 39 = .ok (.ireturn, 1) := by decide +kernel
theorem dX1_init_0 : decode cX1_init 0 = .ok (.aload_n 0, 1) := by decide +kernel
theorem dX1_init_1 : decode cX1_init 1 = .ok (.invokespecial 3, 3) := by decide +kernel
theorem dX1_init_4 : decode cX1_init 4 = .ok (.aload_n 0, 1) := by decide +kernel
theorem dX1_init_5 : decode cX1_init 5 = .ok (.sipush 4800, 3) := by decide +kernel
theorem dX1_init_8 : decode cX1_init 8 = .ok (.newarray .int, 2) := by decide +kernel
theorem dX1_init_10 : decode cX1_init 10 = .ok (.putfield 9, 3) := by decide +kernel
theorem dX1_init_13 : decode cX1_init 13 = .ok (.aload_n 0, 1) := by decide +kernel
theorem dX1_init_14 : decode cX1_init 14 = .ok (.sipush 400, 3) := by decide +kernel
theorem dX1_init_17 : decode cX1_init 17 = .ok (.newarray .int, 2) := by decide +kernel
theorem dX1_init_19 : decode cX1_init 19 = .ok (.putfield 15, 3) := by decide +kernel
theorem dX1_init_22 : decode cX1_init 22 = .ok (.aload_n 0, 1) := by decide +kernel
theorem dX1_init_23 : decode cX1_init 23 = .ok (.sipush 400, 3) := by decide +kernel
theorem dX1_init_26 : decode cX1_init 26 = .ok (.newarray .int, 2) := by decide +kernel
theorem dX1_init_28 : decode cX1_init 28 = .ok (.putfield 18, 3) := by decide +kernel
theorem dX1_init_31 : decode cX1_init 31 = .ok (.aload_n 0, 1) := by decide +kernel
theorem dX1_init_32 : decode cX1_init 32 = .ok (.sipush 400, 3) := by decide +kernel
theorem dX1_init_35 : decode cX1_init 35 = .ok (.newarray .int, 2) := by decide +kernel
theorem dX1_init_37 : decode cX1_init 37 = .ok (.putfield 21, 3) := by decide +kernel
theorem dX1_init_40 : decode cX1_init 40 = .ok (.return_, 1) := by decide +kernel
theorem dX1_digitOf_0 : decode cX1_digitOf 0 = .ok (.iload_n 0, 1) := by decide +kernel
theorem dX1_digitOf_1 : decode cX1_digitOf 1 = .ok (.bipush 12, 2) := by decide +kernel
theorem dX1_digitOf_3 : decode cX1_digitOf 3 = .ok (.iushr, 1) := by decide +kernel
theorem dX1_digitOf_4 : decode cX1_digitOf 4 = .ok (.ireturn, 1) := by decide +kernel
theorem dX1_siteOf_0 : decode cX1_siteOf 0 = .ok (.iload_n 0, 1) := by decide +kernel
theorem dX1_siteOf_1 : decode cX1_siteOf 1 = .ok (.bipush 9, 2) := by decide +kernel
theorem dX1_siteOf_3 : decode cX1_siteOf 3 = .ok (.iushr, 1) := by decide +kernel
theorem dX1_siteOf_4 : decode cX1_siteOf 4 = .ok (.bipush 7, 2) := by decide +kernel
theorem dX1_siteOf_6 : decode cX1_siteOf 6 = .ok (.iand, 1) := by decide +kernel
theorem dX1_siteOf_7 : decode cX1_siteOf 7 = .ok (.ireturn, 1) := by decide +kernel
theorem dX1_countOf_0 : decode cX1_countOf 0 = .ok (.iload_n 0, 1) := by decide +kernel
theorem dX1_countOf_1 : decode cX1_countOf 1 = .ok (.sipush 511, 3) := by decide +kernel
theorem dX1_countOf_4 : decode cX1_countOf 4 = .ok (.iand, 1) := by decide +kernel
theorem dX1_countOf_5 : decode cX1_countOf 5 = .ok (.ireturn, 1) := by decide +kernel
theorem dX1_makeLevel_0 : decode cX1_makeLevel 0 = .ok (.iload_n 0, 1) := by decide +kernel
theorem dX1_makeLevel_1 : decode cX1_makeLevel 1 = .ok (.bipush 12, 2) := by decide +kernel
theorem dX1_makeLevel_3 : decode cX1_makeLevel 3 = .ok (.ishl, 1) := by decide +kernel
theorem dX1_makeLevel_4 : decode cX1_makeLevel 4 = .ok (.iload_n 1, 1) := by decide +kernel
theorem dX1_makeLevel_5 : decode cX1_makeLevel 5 = .ok (.bipush 9, 2) := by decide +kernel
theorem dX1_makeLevel_7 : decode cX1_makeLevel 7 = .ok (.ishl, 1) := by decide +kernel
theorem dX1_makeLevel_8 : decode cX1_makeLevel 8 = .ok (.ior, 1) := by decide +kernel
theorem dX1_makeLevel_9 : decode cX1_makeLevel 9 = .ok (.iload_n 2, 1) := by decide +kernel
theorem dX1_makeLevel_10 : decode cX1_makeLevel 10 = .ok (.ior, 1) := by decide +kernel
theorem dX1_makeLevel_11 : decode cX1_makeLevel 11 = .ok (.ireturn, 1) := by decide +kernel
theorem dX1_baseOf_0 : decode cX1_baseOf 0 = .ok (.iconst 1, 1) := by decide +kernel
theorem dX1_baseOf_1 : decode cX1_baseOf 1 = .ok (.iload_n 0, 1) := by decide +kernel
theorem dX1_baseOf_2 : decode cX1_baseOf 2 = .ok (.iconst 3, 1) := by decide +kernel
theorem dX1_baseOf_3 : decode cX1_baseOf 3 = .ok (.iadd, 1) := by decide +kernel
theorem dX1_baseOf_4 : decode cX1_baseOf 4 = .ok (.bipush 12, 2) := by decide +kernel
theorem dX1_baseOf_6 : decode cX1_baseOf 6 = .ok (.invokestatic 24, 3) := by decide +kernel
theorem dX1_baseOf_9 : decode cX1_baseOf 9 = .ok (.ishl, 1) := by decide +kernel
theorem dX1_baseOf_10 : decode cX1_baseOf 10 = .ok (.ireturn, 1) := by decide +kernel
theorem dX1_levelOf_0 : decode cX1_levelOf 0 = .ok (.iload_n 1, 1) := by decide +kernel
theorem dX1_levelOf_1 : decode cX1_levelOf 1 = .ok (.iconst (-1), 1) := by decide +kernel
theorem dX1_levelOf_2 : decode cX1_levelOf 2 = .ok (.if_icmp .eq 13, 3) := by decide +kernel
theorem dX1_levelOf_5 : decode cX1_levelOf 5 = .ok (.iload_n 2, 1) := by decide +kernel
theorem dX1_levelOf_6 : decode cX1_levelOf 6 = .ok (.aload_n 0, 1) := by decide +kernel
theorem dX1_levelOf_7 : decode cX1_levelOf 7 = .ok (.getfield 15, 3) := by decide +kernel
theorem dX1_levelOf_10 : decode cX1_levelOf 10 = .ok (.iload_n 1, 1) := by decide +kernel
theorem dX1_levelOf_11 : decode cX1_levelOf 11 = .ok (.iaload, 1) := by decide +kernel
theorem dX1_levelOf_12 : decode cX1_levelOf 12 = .ok (.if_icmp .le 7, 3) := by decide +kernel
theorem dX1_levelOf_15 : decode cX1_levelOf 15 = .ok (.iconst 0, 1) := by decide +kernel
theorem dX1_levelOf_16 : decode cX1_levelOf 16 = .ok (.goto 16, 3) := by decide +kernel
theorem dX1_levelOf_19 : decode cX1_levelOf 19 = .ok (.aload_n 0, 1) := by decide +kernel
theorem dX1_levelOf_20 : decode cX1_levelOf 20 = .ok (.getfield 9, 3) := by decide +kernel
theorem dX1_levelOf_23 : decode cX1_levelOf 23 = .ok (.iload_n 1, 1) := by decide +kernel
theorem dX1_levelOf_24 : decode cX1_levelOf 24 = .ok (.bipush 12, 2) := by decide +kernel
theorem dX1_levelOf_26 : decode cX1_levelOf 26 = .ok (.imul, 1) := by decide +kernel
theorem dX1_levelOf_27 : decode cX1_levelOf 27 = .ok (.iload_n 2, 1) := by decide +kernel
theorem dX1_levelOf_28 : decode cX1_levelOf 28 = .ok (.iadd, 1) := by decide +kernel
theorem dX1_levelOf_29 : decode cX1_levelOf 29 = .ok (.iconst 1, 1) := by decide +kernel
theorem dX1_levelOf_30 : decode cX1_levelOf 30 = .ok (.isub, 1) := by decide +kernel
theorem dX1_levelOf_31 : decode cX1_levelOf 31 = .ok (.iaload, 1) := by decide +kernel
theorem dX1_levelOf_32 : decode cX1_levelOf 32 = .ok (.ireturn, 1) := by decide +kernel
theorem dX1_findNew_0 : decode cX1_findNew 0 = .ok (.iload_n 3, 1) := by decide +kernel
theorem dX1_findNew_1 : decode cX1_findNew 1 = .ok (.istore 5, 2) := by decide +kernel
theorem dX1_findNew_3 : decode cX1_findNew 3 = .ok (.iconst 1, 1) := by decide +kernel
theorem dX1_findNew_4 : decode cX1_findNew 4 = .ok (.istore 6, 2) := by decide +kernel
theorem dX1_findNew_6 : decode cX1_findNew 6 = .ok (.iload 6, 2) := by decide +kernel
theorem dX1_findNew_8 : decode cX1_findNew 8 = .ok (.bipush 12, 2) := by decide +kernel
theorem dX1_findNew_10 : decode cX1_findNew 10 = .ok (.if_icmp .gt 164, 3) := by decide +kernel
theorem dX1_findNew_13 : decode cX1_findNew 13 = .ok (.aload_n 0, 1) := by decide +kernel
theorem dX1_findNew_14 : decode cX1_findNew 14 = .ok (.iload_n 2, 1) := by decide +kernel
theorem dX1_findNew_15 : decode cX1_findNew 15 = .ok (.iload 6, 2) := by decide +kernel
theorem dX1_findNew_17 : decode cX1_findNew 17 = .ok (.invokevirtual 30, 3) := by decide +kernel
theorem dX1_findNew_20 : decode cX1_findNew 20 = .ok (.invokestatic 33, 3) := by decide +kernel
theorem dX1_findNew_23 : decode cX1_findNew 23 = .ok (.istore 7, 2) := by decide +kernel
theorem dX1_findNew_25 : decode cX1_findNew 25 = .ok (.iload 5, 2) := by decide +kernel
theorem dX1_findNew_27 : decode cX1_findNew 27 = .ok (.iconst (-1), 1) := by decide +kernel
theorem dX1_findNew_28 : decode cX1_findNew 28 = .ok (.if_icmp .ne 11, 3) := by decide +kernel
theorem dX1_findNew_31 : decode cX1_findNew 31 = .ok (.iload 6, 2) := by decide +kernel
theorem dX1_findNew_33 : decode cX1_findNew 33 = .ok (.invokestatic 37, 3) := by decide +kernel
theorem dX1_findNew_36 : decode cX1_findNew 36 = .ok (.goto 14, 3) := by decide +kernel
theorem dX1_findNew_39 : decode cX1_findNew 39 = .ok (.aload_n 0, 1) := by decide +kernel
theorem dX1_findNew_40 : decode cX1_findNew 40 = .ok (.iload 5, 2) := by decide +kernel
theorem dX1_findNew_42 : decode cX1_findNew 42 = .ok (.iload 6, 2) := by decide +kernel
theorem dX1_findNew_44 : decode cX1_findNew 44 = .ok (.invokevirtual 30, 3) := by decide +kernel
theorem dX1_findNew_47 : decode cX1_findNew 47 = .ok (.invokestatic 33, 3) := by decide +kernel
theorem dX1_findNew_50 : decode cX1_findNew 50 = .ok (.istore 8, 2) := by decide +kernel
theorem dX1_findNew_52 : decode cX1_findNew 52 = .ok (.iload_n 1, 1) := by decide +kernel
theorem dX1_findNew_53 : decode cX1_findNew 53 = .ok (.bipush 12, 2) := by decide +kernel
theorem dX1_findNew_55 : decode cX1_findNew 55 = .ok (.imul, 1) := by decide +kernel
theorem dX1_findNew_56 : decode cX1_findNew 56 = .ok (.iload 6, 2) := by decide +kernel
theorem dX1_findNew_58 : decode cX1_findNew 58 = .ok (.iadd, 1) := by decide +kernel
theorem dX1_findNew_59 : decode cX1_findNew 59 = .ok (.iconst 1, 1) := by decide +kernel
theorem dX1_findNew_60 : decode cX1_findNew 60 = .ok (.isub, 1) := by decide +kernel
theorem dX1_findNew_61 : decode cX1_findNew 61 = .ok (.istore 9, 2) := by decide +kernel
theorem dX1_findNew_63 : decode cX1_findNew 63 = .ok (.iload 8, 2) := by decide +kernel
theorem dX1_findNew_65 : decode cX1_findNew 65 = .ok (.iload 7, 2) := by decide +kernel
theorem dX1_findNew_67 : decode cX1_findNew 67 = .ok (.isub, 1) := by decide +kernel
theorem dX1_findNew_68 : decode cX1_findNew 68 = .ok (.iconst 1, 1) := by decide +kernel
theorem dX1_findNew_69 : decode cX1_findNew 69 = .ok (.if_icmp .le 51, 3) := by decide +kernel
theorem dX1_findNew_72 : decode cX1_findNew 72 = .ok (.iload 6, 2) := by decide +kernel
theorem dX1_findNew_74 : decode cX1_findNew 74 = .ok (.iload 7, 2) := by decide +kernel
theorem dX1_findNew_76 : decode cX1_findNew 76 = .ok (.iload 8, 2) := by decide +kernel
theorem dX1_findNew_78 : decode cX1_findNew 78 = .ok (.aload 4, 2) := by decide +kernel
theorem dX1_findNew_80 : decode cX1_findNew 80 = .ok (.invokevirtual 40, 3) := by decide +kernel
theorem dX1_findNew_83 : decode cX1_findNew 83 = .ok (.invokestatic 46, 3) := by decide +kernel
theorem dX1_findNew_86 : decode cX1_findNew 86 = .ok (.istore 10, 2) := by decide +kernel
theorem dX1_findNew_88 : decode cX1_findNew 88 = .ok (.aload_n 0, 1) := by decide +kernel
theorem dX1_findNew_89 : decode cX1_findNew 89 = .ok (.getfield 9, 3) := by decide +kernel
theorem dX1_findNew_92 : decode cX1_findNew 92 = .ok (.iload 9, 2) := by decide +kernel
theorem dX1_findNew_94 : decode cX1_findNew 94 = .ok (.iload 10, 2) := by decide +kernel
theorem dX1_findNew_96 : decode cX1_findNew 96 = .ok (.aload 4, 2) := by decide +kernel
theorem dX1_findNew_98 : decode cX1_findNew 98 = .ok (.getfield 50, 3) := by decide +kernel
theorem dX1_findNew_101 : decode cX1_findNew 101 = .ok (.aload 4, 2) := by decide +kernel
theorem dX1_findNew_103 : decode cX1_findNew 103 = .ok (.invokevirtual 54, 3) := by decide +kernel
theorem dX1_findNew_106 : decode cX1_findNew 106 = .ok (.invokestatic 57, 3) := by decide +kernel
theorem dX1_findNew_109 : decode cX1_findNew 109 = .ok (.iastore, 1) := by decide +kernel
theorem dX1_findNew_110 : decode cX1_findNew 110 = .ok (.aload_n 0, 1) := by decide +kernel
theorem dX1_findNew_111 : decode cX1_findNew 111 = .ok (.getfield 15, 3) := by decide +kernel
theorem dX1_findNew_114 : decode cX1_findNew 114 = .ok (.iload_n 1, 1) := by decide +kernel
theorem dX1_findNew_115 : decode cX1_findNew 115 = .ok (.iload 6, 2) := by decide +kernel
theorem dX1_findNew_117 : decode cX1_findNew 117 = .ok (.iastore, 1) := by decide +kernel
theorem dX1_findNew_118 : decode cX1_findNew 118 = .ok (.iconst 1, 1) := by decide +kernel
theorem dX1_findNew_119 : decode cX1_findNew 119 = .ok (.ireturn, 1) := by decide +kernel
theorem dX1_findNew_120 : decode cX1_findNew 120 = .ok (.aload_n 0, 1) := by decide +kernel
theorem dX1_findNew_121 : decode cX1_findNew 121 = .ok (.getfield 9, 3) := by decide +kernel
theorem dX1_findNew_124 : decode cX1_findNew 124 = .ok (.iload 9, 2) := by decide +kernel
theorem dX1_findNew_126 : decode cX1_findNew 126 = .ok (.aload_n 0, 1) := by decide +kernel
theorem dX1_findNew_127 : decode cX1_findNew 127 = .ok (.iload_n 2, 1) := by decide +kernel
theorem dX1_findNew_128 : decode cX1_findNew 128 = .ok (.iload 6, 2) := by decide +kernel
theorem dX1_findNew_130 : decode cX1_findNew 130 = .ok (.invokevirtual 30, 3) := by decide +kernel
theorem dX1_findNew_133 : decode cX1_findNew 133 = .ok (.aload_n 0, 1) := by decide +kernel
theorem dX1_findNew_134 : decode cX1_findNew 134 = .ok (.iload 5, 2) := by decide +kernel
theorem dX1_findNew_136 : decode cX1_findNew 136 = .ok (.iload 6, 2) := by decide +kernel
theorem dX1_findNew_138 : decode cX1_findNew 138 = .ok (.invokevirtual 30, 3) := by decide +kernel
theorem dX1_findNew_141 : decode cX1_findNew 141 = .ok (.aload 4, 2) := by decide +kernel
theorem dX1_findNew_143 : decode cX1_findNew 143 = .ok (.invokestatic 61, 3) := by decide +kernel
theorem dX1_findNew_146 : decode cX1_findNew 146 = .ok (.iastore, 1) := by decide +kernel
theorem dX1_findNew_147 : decode cX1_findNew 147 = .ok (.aload_n 0, 1) := by decide +kernel
theorem dX1_findNew_148 : decode cX1_findNew 148 = .ok (.iload 5, 2) := by decide +kernel
theorem dX1_findNew_150 : decode cX1_findNew 150 = .ok (.iload 6, 2) := by decide +kernel
theorem dX1_findNew_152 : decode cX1_findNew 152 = .ok (.invokevirtual 30, 3) := by decide +kernel
theorem dX1_findNew_155 : decode cX1_findNew 155 = .ok (.aload_n 0, 1) := by decide +kernel
theorem dX1_findNew_156 : decode cX1_findNew 156 = .ok (.getfield 9, 3) := by decide +kernel
theorem dX1_findNew_159 : decode cX1_findNew 159 = .ok (.iload 9, 2) := by decide +kernel
theorem dX1_findNew_161 : decode cX1_findNew 161 = .ok (.iaload, 1) := by decide +kernel
theorem dX1_findNew_162 : decode cX1_findNew 162 = .ok (.if_icmp .eq 6, 3) := by decide +kernel
theorem dX1_findNew_165 : decode cX1_findNew 165 = .ok (.iconst (-1), 1) := by decide +kernel
theorem dX1_findNew_166 : decode cX1_findNew 166 = .ok (.istore 5, 2) := by decide +kernel
theorem dX1_findNew_168 : decode cX1_findNew 168 = .ok (.iinc 6 1, 3) := by decide +kernel
theorem dX1_findNew_171 : decode cX1_findNew 171 = .ok (.goto (-165), 3) := by decide +kernel
theorem dX1_findNew_174 : decode cX1_findNew 174 = .ok (.iconst 0, 1) := by decide +kernel
theorem dX1_findNew_175 : decode cX1_findNew 175 = .ok (.ireturn, 1) := by decide +kernel
theorem dX1_lastDigit_0 : decode cX1_lastDigit 0 = .ok (.iconst 1, 1) := by decide +kernel
theorem dX1_lastDigit_1 : decode cX1_lastDigit 1 = .ok (.iload_n 3, 1) := by decide +kernel
theorem dX1_lastDigit_2 : decode cX1_lastDigit 2 = .ok (.bipush 10, 2) := by decide +kernel
theorem dX1_lastDigit_4 : decode cX1_lastDigit 4 = .ok (.iload_n 2, 1) := by decide +kernel
theorem dX1_lastDigit_5 : decode cX1_lastDigit 5 = .ok (.iload_n 1, 1) := by decide +kernel
theorem dX1_lastDigit_6 : decode cX1_lastDigit 6 = .ok (.isub, 1) := by decide +kernel
theorem dX1_lastDigit_7 : decode cX1_lastDigit 7 = .ok (.iconst 1, 1) := by decide +kernel
theorem dX1_lastDigit_8 : decode cX1_lastDigit 8 = .ok (.isub, 1) := by decide +kernel
theorem dX1_lastDigit_9 : decode cX1_lastDigit 9 = .ok (.invokestatic 24, 3) := by decide +kernel
theorem dX1_lastDigit_12 : decode cX1_lastDigit 12 = .ok (.irem, 1) := by decide +kernel
theorem dX1_lastDigit_13 : decode cX1_lastDigit 13 = .ok (.iadd, 1) := by decide +kernel
theorem dX1_lastDigit_14 : decode cX1_lastDigit 14 = .ok (.istore 4, 2) := by decide +kernel
theorem dX1_lastDigit_16 : decode cX1_lastDigit 16 = .ok (.iload_n 0, 1) := by decide +kernel
theorem dX1_lastDigit_17 : decode cX1_lastDigit 17 = .ok (.iconst 2, 1) := by decide +kernel
theorem dX1_lastDigit_18 : decode cX1_lastDigit 18 = .ok (.irem, 1) := by decide +kernel
theorem dX1_lastDigit_19 : decode cX1_lastDigit 19 = .ok (.iconst 1, 1) := by decide +kernel
theorem dX1_lastDigit_20 : decode cX1_lastDigit 20 = .ok (.if_icmp .ne 10, 3) := by decide +kernel
theorem dX1_lastDigit_23 : decode cX1_lastDigit 23 = .ok (.iload_n 1, 1) := by decide +kernel
theorem dX1_lastDigit_24 : decode cX1_lastDigit 24 = .ok (.iload 4, 2) := by decide +kernel
theorem dX1_lastDigit_26 : decode cX1_lastDigit 26 = .ok (.iadd, 1) := by decide +kernel
theorem dX1_lastDigit_27 : decode cX1_lastDigit 27 = .ok (.goto 7, 3) := by decide +kernel
theorem dX1_lastDigit_30 : decode cX1_lastDigit 30 = .ok (.iload_n 2, 1) := by decide +kernel
theorem dX1_lastDigit_31 : decode cX1_lastDigit 31 = .ok (.iload 4, 2) := by decide +kernel
theorem dX1_lastDigit_33 : decode cX1_lastDigit 33 = .ok (.isub, 1) := by decide +kernel
theorem dX1_lastDigit_34 : decode cX1_lastDigit 34 = .ok (.ireturn, 1) := by decide +kernel
theorem dX1_innerLevel_0 : decode cX1_innerLevel 0 = .ok (.iload_n 0, 1) := by decide +kernel
theorem dX1_innerLevel_1 : decode cX1_innerLevel 1 = .ok (.ifCond .eq 5, 3) := by decide +kernel
theorem dX1_innerLevel_4 : decode cX1_innerLevel 4 = .ok (.iload_n 0, 1) := by decide +kernel
theorem dX1_innerLevel_5 : decode cX1_innerLevel 5 = .ok (.ireturn, 1) := by decide +kernel
theorem dX1_innerLevel_6 : decode cX1_innerLevel 6 = .ok (.iload_n 1, 1) := by decide +kernel
theorem dX1_innerLevel_7 : decode cX1_innerLevel 7 = .ok (.invokestatic 33, 3) := by decide +kernel
theorem dX1_innerLevel_10 : decode cX1_innerLevel 10 = .ok (.ifCond .ne 7, 3) := by decide +kernel
theorem dX1_innerLevel_13 : decode cX1_innerLevel 13 = .ok (.iload_n 1, 1) := by decide +kernel
theorem dX1_innerLevel_14 : decode cX1_innerLevel 14 = .ok (.goto 15, 3) := by decide +kernel
theorem dX1_innerLevel_17 : decode cX1_innerLevel 17 = .ok (.iconst 0, 1) := by decide +kernel
theorem dX1_innerLevel_18 : decode cX1_innerLevel 18 = .ok (.aload_n 2, 1) := by decide +kernel
theorem dX1_innerLevel_19 : decode cX1_innerLevel 19 = .ok (.getfield 50, 3) := by decide +kernel
theorem dX1_innerLevel_22 : decode cX1_innerLevel 22 = .ok (.aload_n 2, 1) := by decide +kernel
theorem dX1_innerLevel_23 : decode cX1_innerLevel 23 = .ok (.invokevirtual 54, 3) := by decide +kernel
theorem dX1_innerLevel_26 : decode cX1_innerLevel 26 = .ok (.invokestatic 57, 3) := by decide +kernel
theorem dX1_innerLevel_29 : decode cX1_innerLevel 29 = .ok (.ireturn, 1) := by decide +kernel
theorem dX1_isBefore_0 : decode cX1_isBefore 0 = .ok (.iconst 1, 1) := by decide +kernel
theorem dX1_isBefore_1 : decode cX1_isBefore 1 = .ok (.istore_n 3, 1) := by decide +kernel
theorem dX1_isBefore_2 : decode cX1_isBefore 2 = .ok (.iload_n 3, 1) := by decide +kernel
theorem dX1_isBefore_3 : decode cX1_isBefore 3 = .ok (.bipush 12, 2) := by decide +kernel
theorem dX1_isBefore_5 : decode cX1_isBefore 5 = .ok (.if_icmp .gt 45, 3) := by decide +kernel
theorem dX1_isBefore_8 : decode cX1_isBefore 8 = .ok (.aload_n 0, 1) := by decide +kernel
theorem dX1_isBefore_9 : decode cX1_isBefore 9 = .ok (.iload_n 1, 1) := by decide +kernel
theorem dX1_isBefore_10 : decode cX1_isBefore 10 = .ok (.iload_n 3, 1) := by decide +kernel
theorem dX1_isBefore_11 : decode cX1_isBefore 11 = .ok (.invokevirtual 30, 3) := by decide +kernel
theorem dX1_isBefore_14 : decode cX1_isBefore 14 = .ok (.istore 4, 2) := by decide +kernel
theorem dX1_isBefore_16 : decode cX1_isBefore 16 = .ok (.aload_n 0, 1) := by decide +kernel
theorem dX1_isBefore_17 : decode cX1_isBefore 17 = .ok (.iload_n 2, 1) := by decide +kernel
theorem dX1_isBefore_18 : decode cX1_isBefore 18 = .ok (.iload_n 3, 1) := by decide +kernel
theorem dX1_isBefore_19 : decode cX1_isBefore 19 = .ok (.invokevirtual 30, 3) := by decide +kernel
theorem dX1_isBefore_22 : decode cX1_isBefore 22 = .ok (.istore 5, 2) := by decide +kernel
theorem dX1_isBefore_24 : decode cX1_isBefore 24 = .ok (.iload 4, 2) := by decide +kernel
theorem dX1_isBefore_26 : decode cX1_isBefore 26 = .ok (.iload 5, 2) := by decide +kernel
theorem dX1_isBefore_28 : decode cX1_isBefore 28 = .ok (.if_icmp .eq 16, 3) := by decide +kernel
theorem dX1_isBefore_31 : decode cX1_isBefore 31 = .ok (.iload 4, 2) := by decide +kernel
theorem dX1_isBefore_33 : decode cX1_isBefore 33 = .ok (.iload 5, 2) := by decide +kernel
theorem dX1_isBefore_35 : decode cX1_isBefore 35 = .ok (.if_icmp .ge 7, 3) := by decide +kernel
theorem dX1_isBefore_38 : decode cX1_isBefore 38 = .ok (.iconst 1, 1) := by decide +kernel
theorem dX1_isBefore_39 : decode cX1_isBefore 39 = .ok (.goto 4, 3) := by decide +kernel
theorem dX1_isBefore_42 : decode cX1_isBefore 42 = .ok (.iconst 0, 1) := by decide +kernel
theorem dX1_isBefore_43 : decode cX1_isBefore 43 = .ok (.ireturn, 1) := by decide +kernel
theorem dX1_isBefore_44 : decode cX1_isBefore 44 = .ok (.iinc 3 1, 3) := by decide +kernel
theorem dX1_isBefore_47 : decode cX1_isBefore 47 = .ok (.goto (-45), 3) := by decide +kernel
theorem dX1_isBefore_50 : decode cX1_isBefore 50 = .ok (.iconst 0, 1) := by decide +kernel
theorem dX1_isBefore_51 : decode cX1_isBefore 51 = .ok (.ireturn, 1) := by decide +kernel
theorem dX1_insert_0 : decode cX1_insert 0 = .ok (.iload_n 2, 1) := by decide +kernel
theorem dX1_insert_1 : decode cX1_insert 1 = .ok (.iconst (-1), 1) := by decide +kernel
theorem dX1_insert_2 : decode cX1_insert 2 = .ok (.if_icmp .ne 7, 3) := by decide +kernel
theorem dX1_insert_5 : decode cX1_insert 5 = .ok (.iconst 0, 1) := by decide +kernel
theorem dX1_insert_6 : decode cX1_insert 6 = .ok (.goto 11, 3) := by decide +kernel
theorem dX1_insert_9 : decode cX1_insert 9 = .ok (.aload_n 0, 1) := by decide +kernel
theorem dX1_insert_10 : decode cX1_insert 10 = .ok (.getfield 21, 3) := by decide +kernel
theorem dX1_insert_13 : decode cX1_insert 13 = .ok (.iload_n 2, 1) := by decide +kernel
theorem dX1_insert_14 : decode cX1_insert 14 = .ok (.iaload, 1) := by decide +kernel
theorem dX1_insert_15 : decode cX1_insert 15 = .ok (.iconst 1, 1) := by decide +kernel
theorem dX1_insert_16 : decode cX1_insert 16 = .ok (.iadd, 1) := by decide +kernel
theorem dX1_insert_17 : decode cX1_insert 17 = .ok (.istore_n 3, 1) := by decide +kernel
theorem dX1_insert_18 : decode cX1_insert 18 = .ok (.iload_n 3, 1) := by decide +kernel
theorem dX1_insert_19 : decode cX1_insert 19 = .ok (.aload_n 0, 1) := by decide +kernel
theorem dX1_insert_20 : decode cX1_insert 20 = .ok (.getfield 65, 3) := by decide +kernel
theorem dX1_insert_23 : decode cX1_insert 23 = .ok (.if_icmp .ge 23, 3) := by decide +kernel
theorem dX1_insert_26 : decode cX1_insert 26 = .ok (.aload_n 0, 1) := by decide +kernel
theorem dX1_insert_27 : decode cX1_insert 27 = .ok (.aload_n 0, 1) := by decide +kernel
theorem dX1_insert_28 : decode cX1_insert 28 = .ok (.getfield 18, 3) := by decide +kernel
theorem dX1_insert_31 : decode cX1_insert 31 = .ok (.iload_n 3, 1) := by decide +kernel
theorem dX1_insert_32 : decode cX1_insert 32 = .ok (.iaload, 1) := by decide +kernel
theorem dX1_insert_33 : decode cX1_insert 33 = .ok (.iload_n 1, 1) := by decide +kernel
theorem dX1_insert_34 : decode cX1_insert 34 = .ok (.invokevirtual 68, 3) := by decide +kernel
theorem dX1_insert_37 : decode cX1_insert 37 = .ok (.ifCond .eq 9, 3) := by decide +kernel
theorem dX1_insert_40 : decode cX1_insert 40 = .ok (.iinc 3 1, 3) := by decide +kernel
theorem dX1_insert_43 : decode cX1_insert 43 = .ok (.goto (-25), 3) := by decide +kernel
theorem dX1_insert_46 : decode cX1_insert 46 = .ok (.aload_n 0, 1) := by decide +kernel
theorem dX1_insert_47 : decode cX1_insert 47 = .ok (.getfield 65, 3) := by decide +kernel
theorem dX1_insert_50 : decode cX1_insert 50 = .ok (.istore 4, 2) := by decide +kernel
theorem dX1_insert_52 : decode cX1_insert 52 = .ok (.iload 4, 2) := by decide +kernel
theorem dX1_insert_54 : decode cX1_insert 54 = .ok (.iload_n 3, 1) := by decide +kernel
theorem dX1_insert_55 : decode cX1_insert 55 = .ok (.if_icmp .le 39, 3) := by decide +kernel
theorem dX1_insert_58 : decode cX1_insert 58 = .ok (.aload_n 0, 1) := by decide +kernel
theorem dX1_insert_59 : decode cX1_insert 59 = .ok (.getfield 18, 3) := by decide +kernel
theorem dX1_insert_62 : decode cX1_insert 62 = .ok (.iload 4, 2) := by decide +kernel
theorem dX1_insert_64 : decode cX1_insert 64 = .ok (.aload_n 0, 1) := by decide +kernel
theorem dX1_insert_65 : decode cX1_insert 65 = .ok (.getfield 18, 3) := by decide +kernel
theorem dX1_insert_68 : decode cX1_insert 68 = .ok (.iload 4, 2) := by decide +kernel
theorem dX1_insert_70 : decode cX1_insert 70 = .ok (.iconst 1, 1) := by decide +kernel
theorem dX1_insert_71 : decode cX1_insert 71 = .ok (.isub, 1) := by decide +kernel
theorem dX1_insert_72 : decode cX1_insert 72 = .ok (.iaload, 1) := by decide +kernel
theorem dX1_insert_73 : decode cX1_insert 73 = .ok (.iastore, 1) := by decide +kernel
theorem dX1_insert_74 : decode cX1_insert 74 = .ok (.aload_n 0, 1) := by decide +kernel
theorem dX1_insert_75 : decode cX1_insert 75 = .ok (.getfield 21, 3) := by decide +kernel
theorem dX1_insert_78 : decode cX1_insert 78 = .ok (.aload_n 0, 1) := by decide +kernel
theorem dX1_insert_79 : decode cX1_insert 79 = .ok (.getfield 18, 3) := by decide +kernel
theorem dX1_insert_82 : decode cX1_insert 82 = .ok (.iload 4, 2) := by decide +kernel
theorem dX1_insert_84 : decode cX1_insert 84 = .ok (.iaload, 1) := by decide +kernel
theorem dX1_insert_85 : decode cX1_insert 85 = .ok (.iload 4, 2) := by decide +kernel
theorem dX1_insert_87 : decode cX1_insert 87 = .ok (.iastore, 1) := by decide +kernel
theorem dX1_insert_88 : decode cX1_insert 88 = .ok (.iinc 4 (-1), 3) := by decide +kernel
theorem dX1_insert_91 : decode cX1_insert 91 = .ok (.goto (-39), 3) := by decide +kernel
theorem dX1_insert_94 : decode cX1_insert 94 = .ok (.aload_n 0, 1) := by decide +kernel
theorem dX1_insert_95 : decode cX1_insert 95 = .ok (.getfield 18, 3) := by decide +kernel
theorem dX1_insert_98 : decode cX1_insert 98 = .ok (.iload_n 3, 1) := by decide +kernel
theorem dX1_insert_99 : decode cX1_insert 99 = .ok (.iload_n 1, 1) := by decide +kernel
theorem dX1_insert_100 : decode cX1_insert 100 = .ok (.iastore, 1) := by decide +kernel
theorem dX1_insert_101 : decode cX1_insert 101 = .ok (.aload_n 0, 1) := by decide +kernel
theorem dX1_insert_102 : decode cX1_insert 102 = .ok (.getfield 21, 3) := by decide +kernel
theorem dX1_insert_105 : decode cX1_insert 105 = .ok (.iload_n 1, 1) := by decide +kernel
theorem dX1_insert_106 : decode cX1_insert 106 = .ok (.iload_n 3, 1) := by decide +kernel
theorem dX1_insert_107 : decode cX1_insert 107 = .ok (.iastore, 1) := by decide +kernel
theorem dX1_insert_108 : decode cX1_insert 108 = .ok (.aload_n 0, 1) := by decide +kernel
theorem dX1_insert_109 : decode cX1_insert 109 = .ok (.dup, 1) := by decide +kernel
theorem dX1_insert_110 : decode cX1_insert 110 = .ok (.getfield 65, 3) := by decide +kernel
theorem dX1_insert_113 : decode cX1_insert 113 = .ok (.iconst 1, 1) := by decide +kernel
theorem dX1_insert_114 : decode cX1_insert 114 = .ok (.iadd, 1) := by decide +kernel
theorem dX1_insert_115 : decode cX1_insert 115 = .ok (.putfield 65, 3) := by decide +kernel
theorem dX1_insert_118 : decode cX1_insert 118 = .ok (.return_, 1) := by decide +kernel
theorem dX2_init_0 : decode cX2_init 0 = .ok (.aload_n 0, 1) := by decide +kernel
theorem dX2_init_1 : decode cX2_init 1 = .ok (.invokespecial 3, 3) := by decide +kernel
theorem dX2_init_4 : decode cX2_init 4 = .ok (.aload_n 0, 1) := by decide +kernel
theorem dX2_init_5 : decode cX2_init 5 = .ok (.bipush 6, 2) := by decide +kernel
theorem dX2_init_7 : decode cX2_init 7 = .ok (.newarray .int, 2) := by decide +kernel
theorem dX2_init_9 : decode cX2_init 9 = .ok (.putfield 9, 3) := by decide +kernel
theorem dX2_init_12 : decode cX2_init 12 = .ok (.aload_n 0, 1) := by decide +kernel
theorem dX2_init_13 : decode cX2_init 13 = .ok (.sipush 400, 3) := by decide +kernel
theorem dX2_init_16 : decode cX2_init 16 = .ok (.newarray .boolean, 2) := by decide +kernel
theorem dX2_init_18 : decode cX2_init 18 = .ok (.putfield 15, 3) := by decide +kernel
theorem dX2_init_21 : decode cX2_init 21 = .ok (.aload_n 0, 1) := by decide +kernel
theorem dX2_init_22 : decode cX2_init 22 = .ok (.sipush 400, 3) := by decide +kernel
theorem dX2_init_25 : decode cX2_init 25 = .ok (.newarray .int, 2) := by decide +kernel
theorem dX2_init_27 : decode cX2_init 27 = .ok (.putfield 19, 3) := by decide +kernel
theorem dX2_init_30 : decode cX2_init 30 = .ok (.aload_n 0, 1) := by decide +kernel
theorem dX2_init_31 : decode cX2_init 31 = .ok (.iconst 4, 1) := by decide +kernel
theorem dX2_init_32 : decode cX2_init 32 = .ok (.newarray .int, 2) := by decide +kernel
theorem dX2_init_34 : decode cX2_init 34 = .ok (.putfield 22, 3) := by decide +kernel
theorem dX2_init_37 : decode cX2_init 37 = .ok (.aload_n 0, 1) := by decide +kernel
theorem dX2_init_38 : decode cX2_init 38 = .ok (.bipush 8, 2) := by decide +kernel
theorem dX2_init_40 : decode cX2_init 40 = .ok (.newarray .int, 2) := by decide +kernel
theorem dX2_init_42 : decode cX2_init 42 = .ok (.putfield 25, 3) := by decide +kernel
theorem dX2_init_45 : decode cX2_init 45 = .ok (.aload_n 0, 1) := by decide +kernel
theorem dX2_init_46 : decode cX2_init 46 = .ok (.iload_n 1, 1) := by decide +kernel
theorem dX2_init_47 : decode cX2_init 47 = .ok (.putfield 28, 3) := by decide +kernel
theorem dX2_init_50 : decode cX2_init 50 = .ok (.aload_n 0, 1) := by decide +kernel
theorem dX2_init_51 : decode cX2_init 51 = .ok (.aload_n 2, 1) := by decide +kernel
theorem dX2_init_52 : decode cX2_init 52 = .ok (.putfield 32, 3) := by decide +kernel
theorem dX2_init_55 : decode cX2_init 55 = .ok (.aload_n 0, 1) := by decide +kernel
theorem dX2_init_56 : decode cX2_init 56 = .ok (.aload_n 3, 1) := by decide +kernel
theorem dX2_init_57 : decode cX2_init 57 = .ok (.putfield 36, 3) := by decide +kernel
theorem dX2_init_60 : decode cX2_init 60 = .ok (.aload_n 0, 1) := by decide +kernel
theorem dX2_init_61 : decode cX2_init 61 = .ok (.iload_n 1, 1) := by decide +kernel
theorem dX2_init_62 : decode cX2_init 62 = .ok (.putfield 40, 3) := by decide +kernel
theorem dX2_init_65 : decode cX2_init 65 = .ok (.iconst 0, 1) := by decide +kernel
theorem dX2_init_66 : decode cX2_init 66 = .ok (.istore 4, 2) := by decide +kernel
theorem dX2_init_68 : decode cX2_init 68 = .ok (.iload 4, 2) := by decide +kernel
theorem dX2_init_70 : decode cX2_init 70 = .ok (.sipush 400, 3) := by decide +kernel
theorem dX2_init_73 : decode cX2_init 73 = .ok (.if_icmp .ge 17, 3) := by decide +kernel
theorem dX2_init_76 : decode cX2_init 76 = .ok (.aload_n 0, 1) := by decide +kernel
theorem dX2_init_77 : decode cX2_init 77 = .ok (.getfield 19, 3) := by decide +kernel
theorem dX2_init_80 : decode cX2_init 80 = .ok (.iload 4, 2) := by decide +kernel
theorem dX2_init_82 : decode cX2_init 82 = .ok (.iconst (-1), 1) := by decide +kernel
theorem dX2_init_83 : decode cX2_init 83 = .ok (.iastore, 1) := by decide +kernel
theorem dX2_init_84 : decode cX2_init 84 = .ok (.iinc 4 1, 3) := by decide +kernel
theorem dX2_init_87 : decode cX2_init 87 = .ok (.goto (-19), 3) := by decide +kernel
theorem dX2_init_90 : decode cX2_init 90 = .ok (.iconst 0, 1) := by decide +kernel
theorem dX2_init_91 : decode cX2_init 91 = .ok (.istore 4, 2) := by decide +kernel
theorem dX2_init_93 : decode cX2_init 93 = .ok (.iload 4, 2) := by decide +kernel
theorem dX2_init_95 : decode cX2_init 95 = .ok (.iconst 4, 1) := by decide +kernel
theorem dX2_init_96 : decode cX2_init 96 = .ok (.if_icmp .ge 17, 3) := by decide +kernel
theorem dX2_init_99 : decode cX2_init 99 = .ok (.aload_n 0, 1) := by decide +kernel
theorem dX2_init_100 : decode cX2_init 100 = .ok (.getfield 22, 3) := by decide +kernel
theorem dX2_init_103 : decode cX2_init 103 = .ok (.iload 4, 2) := by decide +kernel
theorem dX2_init_105 : decode cX2_init 105 = .ok (.iconst (-1), 1) := by decide +kernel
theorem dX2_init_106 : decode cX2_init 106 = .ok (.iastore, 1) := by decide +kernel
theorem dX2_init_107 : decode cX2_init 107 = .ok (.iinc 4 1, 3) := by decide +kernel
theorem dX2_init_110 : decode cX2_init 110 = .ok (.goto (-17), 3) := by decide +kernel
theorem dX2_init_113 : decode cX2_init 113 = .ok (.return_, 1) := by decide +kernel
theorem dX2_throwCoin_0 : decode cX2_throwCoin 0 = .ok (.aload_n 0, 1) := by decide +kernel
theorem dX2_throwCoin_1 : decode cX2_throwCoin 1 = .ok (.aload_n 0, 1) := by decide +kernel
theorem dX2_throwCoin_2 : decode cX2_throwCoin 2 = .ok (.getfield 40, 3) := by decide +kernel
theorem dX2_throwCoin_5 : decode cX2_throwCoin 5 = .ok (.ldc 43, 2) := by decide +kernel
theorem dX2_throwCoin_7 : decode cX2_throwCoin 7 = .ok (.imul, 1) := by decide +kernel
theorem dX2_throwCoin_8 : decode cX2_throwCoin 8 = .ok (.ldc 44, 2) := by decide +kernel
theorem dX2_throwCoin_10 : decode cX2_throwCoin 10 = .ok (.iadd, 1) := by decide +kernel
theorem dX2_throwCoin_11 : decode cX2_throwCoin 11 = .ok (.putfield 40, 3) := by decide +kernel
theorem dX2_throwCoin_14 : decode cX2_throwCoin 14 = .ok (.aload_n 0, 1) := by decide +kernel
theorem dX2_throwCoin_15 : decode cX2_throwCoin 15 = .ok (.getfield 40, 3) := by decide +kernel
theorem dX2_throwCoin_18 : decode cX2_throwCoin 18 = .ok (.bipush 16, 2) := by decide +kernel
theorem dX2_throwCoin_20 : decode cX2_throwCoin 20 = .ok (.iushr, 1) := by decide +kernel
theorem dX2_throwCoin_21 : decode cX2_throwCoin 21 = .ok (.ireturn, 1) := by decide +kernel
theorem dX2_nextNumber_0 : decode cX2_nextNumber 0 = .ok (.aload_n 0, 1) := by decide +kernel
theorem dX2_nextNumber_1 : decode cX2_nextNumber 1 = .ok (.getfield 9, 3) := by decide +kernel
theorem dX2_nextNumber_4 : decode cX2_nextNumber 4 = .ok (.aload_n 0, 1) := by decide +kernel
theorem dX2_nextNumber_5 : decode cX2_nextNumber 5 = .ok (.getfield 28, 3) := by decide +kernel
theorem dX2_nextNumber_8 : decode cX2_nextNumber 8 = .ok (.iaload, 1) := by decide +kernel
theorem dX2_nextNumber_9 : decode cX2_nextNumber 9 = .ok (.iconst 1, 1) := by decide +kernel
theorem dX2_nextNumber_10 : decode cX2_nextNumber 10 = .ok (.iadd, 1) := by decide +kernel
theorem dX2_nextNumber_11 : decode cX2_nextNumber 11 = .ok (.ireturn, 1) := by decide +kernel
theorem dX2_doneInAll_0 : decode cX2_doneInAll 0 = .ok (.iconst 0, 1) := by decide +kernel
theorem dX2_doneInAll_1 : decode cX2_doneInAll 1 = .ok (.istore_n 1, 1) := by decide +kernel
theorem dX2_doneInAll_2 : decode cX2_doneInAll 2 = .ok (.iconst 0, 1) := by decide +kernel
theorem dX2_doneInAll_3 : decode cX2_doneInAll 3 = .ok (.istore_n 2, 1) := by decide +kernel
theorem dX2_doneInAll_4 : decode cX2_doneInAll 4 = .ok (.iload_n 2, 1) := by decide +kernel
theorem dX2_doneInAll_5 : decode cX2_doneInAll 5 = .ok (.bipush 6, 2) := by decide +kernel
theorem dX2_doneInAll_7 : decode cX2_doneInAll 7 = .ok (.if_icmp .ge 18, 3) := by decide +kernel
theorem dX2_doneInAll_10 : decode cX2_doneInAll 10 = .ok (.iload_n 1, 1) := by decide +kernel
theorem dX2_doneInAll_11 : decode cX2_doneInAll 11 = .ok (.aload_n 0, 1) := by decide +kernel
theorem dX2_doneInAll_12 : decode cX2_doneInAll 12 = .ok (.getfield 9, 3) := by decide +kernel
theorem dX2_doneInAll_15 : decode cX2_doneInAll 15 = .ok (.iload_n 2, 1) := by decide +kernel
theorem dX2_doneInAll_16 : decode cX2_doneInAll 16 = .ok (.iaload, 1) := by decide +kernel
theorem dX2_doneInAll_17 : decode cX2_doneInAll 17 = .ok (.iadd, 1) := by decide +kernel
theorem dX2_doneInAll_18 : decode cX2_doneInAll 18 = .ok (.istore_n 1, 1) := by decide +kernel
theorem dX2_doneInAll_19 : decode cX2_doneInAll 19 = .ok (.iinc 2 1, 3) := by decide +kernel
theorem dX2_doneInAll_22 : decode cX2_doneInAll 22 = .ok (.goto (-18), 3) := by decide +kernel
theorem dX2_doneInAll_25 : decode cX2_doneInAll 25 = .ok (.iload_n 1, 1) := by decide +kernel
theorem dX2_doneInAll_26 : decode cX2_doneInAll 26 = .ok (.ireturn, 1) := by decide +kernel
theorem dX2_didDeed_0 : decode cX2_didDeed 0 = .ok (.aload_n 0, 1) := by decide +kernel
theorem dX2_didDeed_1 : decode cX2_didDeed 1 = .ok (.getfield 32, 3) := by decide +kernel
theorem dX2_didDeed_4 : decode cX2_didDeed 4 = .ok (.getfield 45, 3) := by decide +kernel
theorem dX2_didDeed_7 : decode cX2_didDeed 7 = .ok (.iload_n 1, 1) := by decide +kernel
theorem dX2_didDeed_8 : decode cX2_didDeed 8 = .ok (.iaload, 1) := by decide +kernel
theorem dX2_didDeed_9 : decode cX2_didDeed 9 = .ok (.aload_n 0, 1) := by decide +kernel
theorem dX2_didDeed_10 : decode cX2_didDeed 10 = .ok (.getfield 9, 3) := by decide +kernel
theorem dX2_didDeed_13 : decode cX2_didDeed 13 = .ok (.aload_n 0, 1) := by decide +kernel
theorem dX2_didDeed_14 : decode cX2_didDeed 14 = .ok (.getfield 32, 3) := by decide +kernel
theorem dX2_didDeed_17 : decode cX2_didDeed 17 = .ok (.getfield 50, 3) := by decide +kernel
theorem dX2_didDeed_20 : decode cX2_didDeed 20 = .ok (.iload_n 1, 1) := by decide +kernel
theorem dX2_didDeed_21 : decode cX2_didDeed 21 = .ok (.iaload, 1) := by decide +kernel
theorem dX2_didDeed_22 : decode cX2_didDeed 22 = .ok (.iaload, 1) := by decide +kernel
theorem dX2_didDeed_23 : decode cX2_didDeed 23 = .ok (.if_icmp .gt 7, 3) := by decide +kernel
theorem dX2_didDeed_26 : decode cX2_didDeed 26 = .ok (.iconst 1, 1) := by decide +kernel
theorem dX2_didDeed_27 : decode cX2_didDeed 27 = .ok (.goto 4, 3) := by decide +kernel
theorem dX2_didDeed_30 : decode cX2_didDeed 30 = .ok (.iconst 0, 1) := by decide +kernel
theorem dX2_didDeed_31 : decode cX2_didDeed 31 = .ok (.ireturn, 1) := by decide +kernel
theorem dX2_isReady_0 : decode cX2_isReady 0 = .ok (.aload_n 0, 1) := by decide +kernel
theorem dX2_isReady_1 : decode cX2_isReady 1 = .ok (.getfield 32, 3) := by decide +kernel
theorem dX2_isReady_4 : decode cX2_isReady 4 = .ok (.getfield 45, 3) := by decide +kernel
theorem dX2_isReady_7 : decode cX2_isReady 7 = .ok (.iload_n 1, 1) := by decide +kernel
theorem dX2_isReady_8 : decode cX2_isReady 8 = .ok (.iaload, 1) := by decide +kernel
theorem dX2_isReady_9 : decode cX2_isReady 9 = .ok (.iconst 1, 1) := by decide +kernel
theorem dX2_isReady_10 : decode cX2_isReady 10 = .ok (.isub, 1) := by decide +kernel
theorem dX2_isReady_11 : decode cX2_isReady 11 = .ok (.aload_n 0, 1) := by decide +kernel
theorem dX2_isReady_12 : decode cX2_isReady 12 = .ok (.getfield 9, 3) := by decide +kernel
theorem dX2_isReady_15 : decode cX2_isReady 15 = .ok (.aload_n 0, 1) := by decide +kernel
theorem dX2_isReady_16 : decode cX2_isReady 16 = .ok (.getfield 32, 3) := by decide +kernel
theorem dX2_isReady_19 : decode cX2_isReady 19 = .ok (.getfield 50, 3) := by decide +kernel
theorem dX2_isReady_22 : decode cX2_isReady 22 = .ok (.iload_n 1, 1) := by decide +kernel
theorem dX2_isReady_23 : decode cX2_isReady 23 = .ok (.iaload, 1) := by decide +kernel
theorem dX2_isReady_24 : decode cX2_isReady 24 = .ok (.iaload, 1) := by decide +kernel
theorem dX2_isReady_25 : decode cX2_isReady 25 = .ok (.if_icmp .eq 5, 3) := by decide +kernel
theorem dX2_isReady_28 : decode cX2_isReady 28 = .ok (.iconst 0, 1) := by decide +kernel
theorem dX2_isReady_29 : decode cX2_isReady 29 = .ok (.ireturn, 1) := by decide +kernel
theorem dX2_isReady_30 : decode cX2_isReady 30 = .ok (.aload_n 0, 1) := by decide +kernel
theorem dX2_isReady_31 : decode cX2_isReady 31 = .ok (.getfield 32, 3) := by decide +kernel
theorem dX2_isReady_34 : decode cX2_isReady 34 = .ok (.getfield 53, 3) := by decide +kernel
theorem dX2_isReady_37 : decode cX2_isReady 37 = .ok (.iload_n 1, 1) := by decide +kernel
theorem dX2_isReady_38 : decode cX2_isReady 38 = .ok (.iaload, 1) := by decide +kernel
theorem dX2_isReady_39 : decode cX2_isReady 39 = .ok (.ifCond .eq 35, 3) := by decide +kernel
theorem dX2_isReady_42 : decode cX2_isReady 42 = .ok (.aload_n 0, 1) := by decide +kernel
theorem dX2_isReady_43 : decode cX2_isReady 43 = .ok (.aload_n 0, 1) := by decide +kernel
theorem dX2_isReady_44 : decode cX2_isReady 44 = .ok (.getfield 32, 3) := by decide +kernel
theorem dX2_isReady_47 : decode cX2_isReady 47 = .ok (.getfield 56, 3) := by decide +kernel
theorem dX2_isReady_50 : decode cX2_isReady 50 = .ok (.iload_n 1, 1) := by decide +kernel
theorem dX2_isReady_51 : decode cX2_isReady 51 = .ok (.iaload, 1) := by decide +kernel
theorem dX2_isReady_52 : decode cX2_isReady 52 = .ok (.invokevirtual 59, 3) := by decide +kernel
theorem dX2_isReady_55 : decode cX2_isReady 55 = .ok (.ifCond .eq 23, 3) := by decide +kernel
theorem dX2_isReady_58 : decode cX2_isReady 58 = .ok (.aload_n 0, 1) := by decide +kernel
theorem dX2_isReady_59 : decode cX2_isReady 59 = .ok (.aload_n 0, 1) := by decide +kernel
theorem dX2_isReady_60 : decode cX2_isReady 60 = .ok (.getfield 32, 3) := by decide +kernel
theorem dX2_isReady_63 : decode cX2_isReady 63 = .ok (.getfield 63, 3) := by decide +kernel
theorem dX2_isReady_66 : decode cX2_isReady 66 = .ok (.iload_n 1, 1) := by decide +kernel
theorem dX2_isReady_67 : decode cX2_isReady 67 = .ok (.iaload, 1) := by decide +kernel
theorem dX2_isReady_68 : decode cX2_isReady 68 = .ok (.invokevirtual 59, 3) := by decide +kernel
theorem dX2_isReady_71 : decode cX2_isReady 71 = .ok (.ifCond .eq 7, 3) := by decide +kernel
theorem dX2_isReady_74 : decode cX2_isReady 74 = .ok (.iconst 1, 1) := by decide +kernel
theorem dX2_isReady_75 : decode cX2_isReady 75 = .ok (.goto 4, 3) := by decide +kernel
theorem dX2_isReady_78 : decode cX2_isReady 78 = .ok (.iconst 0, 1) := by decide +kernel
theorem dX2_isReady_79 : decode cX2_isReady 79 = .ok (.ireturn, 1) := by decide +kernel
theorem dX2_receive_0 : decode cX2_receive 0 = .ok (.aload_n 0, 1) := by decide +kernel
theorem dX2_receive_1 : decode cX2_receive 1 = .ok (.iload_n 1, 1) := by decide +kernel
theorem dX2_receive_2 : decode cX2_receive 2 = .ok (.invokevirtual 59, 3) := by decide +kernel
theorem dX2_receive_5 : decode cX2_receive 5 = .ok (.ifCond .ne 12, 3) := by decide +kernel
theorem dX2_receive_8 : decode cX2_receive 8 = .ok (.aload_n 0, 1) := by decide +kernel
theorem dX2_receive_9 : decode cX2_receive 9 = .ok (.getfield 15, 3) := by decide +kernel
theorem dX2_receive_12 : decode cX2_receive 12 = .ok (.iload_n 1, 1) := by decide +kernel
theorem dX2_receive_13 : decode cX2_receive 13 = .ok (.baload, 1) := by decide +kernel
theorem dX2_receive_14 : decode cX2_receive 14 = .ok (.ifCond .eq 5, 3) := by decide +kernel
theorem dX2_receive_17 : decode cX2_receive 17 = .ok (.iconst 0, 1) := by decide +kernel
theorem dX2_receive_18 : decode cX2_receive 18 = .ok (.ireturn, 1) := by decide +kernel
theorem dX2_receive_19 : decode cX2_receive 19 = .ok (.aload_n 0, 1) := by decide +kernel
theorem dX2_receive_20 : decode cX2_receive 20 = .ok (.iload_n 1, 1) := by decide +kernel
theorem dX2_receive_21 : decode cX2_receive 21 = .ok (.invokevirtual 66, 3) := by decide +kernel
theorem dX2_receive_24 : decode cX2_receive 24 = .ok (.ifCond .ne 22, 3) := by decide +kernel
theorem dX2_receive_27 : decode cX2_receive 27 = .ok (.aload_n 0, 1) := by decide +kernel
theorem dX2_receive_28 : decode cX2_receive 28 = .ok (.getfield 15, 3) := by decide +kernel
theorem dX2_receive_31 : decode cX2_receive 31 = .ok (.iload_n 1, 1) := by decide +kernel
theorem dX2_receive_32 : decode cX2_receive 32 = .ok (.iconst 1, 1) := by decide +kernel
theorem dX2_receive_33 : decode cX2_receive 33 = .ok (.bastore, 1) := by decide +kernel
theorem dX2_receive_34 : decode cX2_receive 34 = .ok (.aload_n 0, 1) := by decide +kernel
theorem dX2_receive_35 : decode cX2_receive 35 = .ok (.dup, 1) := by decide +kernel
theorem dX2_receive_36 : decode cX2_receive 36 = .ok (.getfield 69, 3) := by decide +kernel
theorem dX2_receive_39 : decode cX2_receive 39 = .ok (.iconst 1, 1) := by decide +kernel
theorem dX2_receive_40 : decode cX2_receive 40 = .ok (.iadd, 1) := by decide +kernel
theorem dX2_receive_41 : decode cX2_receive 41 = .ok (.putfield 69, 3) := by decide +kernel
theorem dX2_receive_44 : decode cX2_receive 44 = .ok (.iconst 2, 1) := by decide +kernel
theorem dX2_receive_45 : decode cX2_receive 45 = .ok (.ireturn, 1) := by decide +kernel
theorem dX2_receive_46 : decode cX2_receive 46 = .ok (.aload_n 0, 1) := by decide +kernel
theorem dX2_receive_47 : decode cX2_receive 47 = .ok (.iload_n 1, 1) := by decide +kernel
theorem dX2_receive_48 : decode cX2_receive 48 = .ok (.invokevirtual 72, 3) := by decide +kernel
theorem dX2_receive_51 : decode cX2_receive 51 = .ok (.aload_n 0, 1) := by decide +kernel
theorem dX2_receive_52 : decode cX2_receive 52 = .ok (.invokevirtual 76, 3) := by decide +kernel
theorem dX2_receive_55 : decode cX2_receive 55 = .ok (.iconst 1, 1) := by decide +kernel
theorem dX2_receive_56 : decode cX2_receive 56 = .ok (.ireturn, 1) := by decide +kernel
theorem dX2_doWhatWaited_0 : decode cX2_doWhatWaited 0 = .ok (.iconst 0, 1) := by decide +kernel
theorem dX2_doWhatWaited_1 : decode cX2_doWhatWaited 1 = .ok (.istore_n 1, 1) := by decide +kernel
theorem dX2_doWhatWaited_2 : decode cX2_doWhatWaited 2 = .ok (.iload_n 1, 1) := by decide +kernel
theorem dX2_doWhatWaited_3 : decode cX2_doWhatWaited 3 = .ok (.sipush 400, 3) := by decide +kernel
theorem dX2_doWhatWaited_6 : decode cX2_doWhatWaited 6 = .ok (.if_icmp .ge 49, 3) := by decide +kernel
theorem dX2_doWhatWaited_9 : decode cX2_doWhatWaited 9 = .ok (.aload_n 0, 1) := by decide +kernel
theorem dX2_doWhatWaited_10 : decode cX2_doWhatWaited 10 = .ok (.getfield 69, 3) := by decide +kernel
theorem dX2_doWhatWaited_13 : decode cX2_doWhatWaited 13 = .ok (.ifCond .le 42, 3) := by decide +kernel
theorem dX2_doWhatWaited_16 : decode cX2_doWhatWaited 16 = .ok (.aload_n 0, 1) := by decide +kernel
theorem dX2_doWhatWaited_17 : decode cX2_doWhatWaited 17 = .ok (.invokevirtual 79, 3) := by decide +kernel
theorem dX2_doWhatWaited_20 : decode cX2_doWhatWaited 20 = .ok (.istore_n 2, 1) := by decide +kernel
theorem dX2_doWhatWaited_21 : decode cX2_doWhatWaited 21 = .ok (.iload_n 2, 1) := by decide +kernel
theorem dX2_doWhatWaited_22 : decode cX2_doWhatWaited 22 = .ok (.iconst (-1), 1) := by decide +kernel
theorem dX2_doWhatWaited_23 : decode cX2_doWhatWaited 23 = .ok (.if_icmp .ne 4, 3) := by decide +kernel
theorem dX2_doWhatWaited_26 : decode cX2_doWhatWaited 26 = .ok (.return_, 1) := by decide +kernel
theorem dX2_doWhatWaited_27 : decode cX2_doWhatWaited 27 = .ok (.aload_n 0, 1) := by decide +kernel
theorem dX2_doWhatWaited_28 : decode cX2_doWhatWaited 28 = .ok (.getfield 15, 3) := by decide +kernel
theorem dX2_doWhatWaited_31 : decode cX2_doWhatWaited 31 = .ok (.iload_n 2, 1) := by decide +kernel
theorem dX2_doWhatWaited_32 : decode cX2_doWhatWaited 32 = .ok (.iconst 0, 1) := by decide +kernel
theorem dX2_doWhatWaited_33 : decode cX2_doWhatWaited 33 = .ok (.bastore, 1) := by decide +kernel
theorem dX2_doWhatWaited_34 : decode cX2_doWhatWaited 34 = .ok (.aload_n 0, 1) := by decide +kernel
theorem dX2_doWhatWaited_35 : decode cX2_doWhatWaited 35 = .ok (.dup, 1) := by decide +kernel
theorem dX2_doWhatWaited_36 : decode cX2_doWhatWaited 36 = .ok (.getfield 69, 3) := by decide +kernel
theorem dX2_doWhatWaited_39 : decode cX2_doWhatWaited 39 = .ok (.iconst 1, 1) := by decide +kernel
theorem dX2_doWhatWaited_40 : decode cX2_doWhatWaited 40 = .ok (.isub, 1) := by decide +kernel
theorem dX2_doWhatWaited_41 : decode cX2_doWhatWaited 41 = .ok (.putfield 69, 3) := by decide +kernel
theorem dX2_doWhatWaited_44 : decode cX2_doWhatWaited 44 = .ok (.aload_n 0, 1) := by decide +kernel
theorem dX2_doWhatWaited_45 : decode cX2_doWhatWaited 45 = .ok (.iload_n 2, 1) := by decide +kernel
theorem dX2_doWhatWaited_46 : decode cX2_doWhatWaited 46 = .ok (.invokevirtual 72, 3) := by decide +kernel
theorem dX2_doWhatWaited_49 : decode cX2_doWhatWaited 49 = .ok (.iinc 1 1, 3) := by decide +kernel
theorem dX2_doWhatWaited_52 : decode cX2_doWhatWaited 52 = .ok (.goto (-50), 3) := by decide +kernel
theorem dX2_doWhatWaited_55 : decode cX2_doWhatWaited 55 = .ok (.return_, 1) := by decide +kernel
theorem dX2_firstReady_0 : decode cX2_firstReady 0 = .ok (.iconst 0, 1) := by decide +kernel
theorem dX2_firstReady_1 : decode cX2_firstReady 1 = .ok (.istore_n 1, 1) := by decide +kernel
theorem dX2_firstReady_2 : decode cX2_firstReady 2 = .ok (.iload_n 1, 1) := by decide +kernel
theorem dX2_firstReady_3 : decode cX2_firstReady 3 = .ok (.aload_n 0, 1) := by decide +kernel
theorem dX2_firstReady_4 : decode cX2_firstReady 4 = .ok (.getfield 32, 3) := by decide +kernel
theorem dX2_firstReady_7 : decode cX2_firstReady 7 = .ok (.getfield 83, 3) := by decide +kernel
theorem dX2_firstReady_10 : decode cX2_firstReady 10 = .ok (.if_icmp .ge 28, 3) := by decide +kernel
theorem dX2_firstReady_13 : decode cX2_firstReady 13 = .ok (.aload_n 0, 1) := by decide +kernel
theorem dX2_firstReady_14 : decode cX2_firstReady 14 = .ok (.getfield 15, 3) := by decide +kernel
theorem dX2_firstReady_17 : decode cX2_firstReady 17 = .ok (.iload_n 1, 1) := by decide +kernel
theorem dX2_firstReady_18 : decode cX2_firstReady 18 = .ok (.baload, 1) := by decide +kernel
theorem dX2_firstReady_19 : decode cX2_firstReady 19 = .ok (.ifCond .eq 13, 3) := by decide +kernel
theorem dX2_firstReady_22 : decode cX2_firstReady 22 = .ok (.aload_n 0, 1) := by decide +kernel
theorem dX2_firstReady_23 : decode cX2_firstReady 23 = .ok (.iload_n 1, 1) := by decide +kernel
theorem dX2_firstReady_24 : decode cX2_firstReady 24 = .ok (.invokevirtual 66, 3) := by decide +kernel
theorem dX2_firstReady_27 : decode cX2_firstReady 27 = .ok (.ifCond .eq 5, 3) := by decide +kernel
theorem dX2_firstReady_30 : decode cX2_firstReady 30 = .ok (.iload_n 1, 1) := by decide +kernel
theorem dX2_firstReady_31 : decode cX2_firstReady 31 = .ok (.ireturn, 1) := by decide +kernel
theorem dX2_firstReady_32 : decode cX2_firstReady 32 = .ok (.iinc 1 1, 3) := by decide +kernel
theorem dX2_firstReady_35 : decode cX2_firstReady 35 = .ok (.goto (-33), 3) := by decide +kernel
theorem dX2_firstReady_38 : decode cX2_firstReady 38 = .ok (.iconst (-1), 1) := by decide +kernel
theorem dX2_firstReady_39 : decode cX2_firstReady 39 = .ok (.ireturn, 1) := by decide +kernel
theorem dX2_carryOut_0 : decode cX2_carryOut 0 = .ok (.aload_n 0, 1) := by decide +kernel
theorem dX2_carryOut_1 : decode cX2_carryOut 1 = .ok (.getfield 9, 3) := by decide +kernel
theorem dX2_carryOut_4 : decode cX2_carryOut 4 = .ok (.aload_n 0, 1) := by decide +kernel
theorem dX2_carryOut_5 : decode cX2_carryOut 5 = .ok (.getfield 32, 3) := by decide +kernel
theorem dX2_carryOut_8 : decode cX2_carryOut 8 = .ok (.getfield 50, 3) := by decide +kernel
theorem dX2_carryOut_11 : decode cX2_carryOut 11 = .ok (.iload_n 1, 1) := by decide +kernel
theorem dX2_carryOut_12 : decode cX2_carryOut 12 = .ok (.iaload, 1) := by decide +kernel
theorem dX2_carryOut_13 : decode cX2_carryOut 13 = .ok (.dup2, 1) := by decide +kernel
theorem dX2_carryOut_14 : decode cX2_carryOut 14 = .ok (.iaload, 1) := by decide +kernel
theorem dX2_carryOut_15 : decode cX2_carryOut 15 = .ok (.iconst 1, 1) := by decide +kernel
theorem dX2_carryOut_16 : decode cX2_carryOut 16 = .ok (.iadd, 1) := by decide +kernel
theorem dX2_carryOut_17 : decode cX2_carryOut 17 = .ok (.iastore, 1) := by decide +kernel
theorem dX2_carryOut_18 : decode cX2_carryOut 18 = .ok (.aload_n 0, 1) := by decide +kernel
theorem dX2_carryOut_19 : decode cX2_carryOut 19 = .ok (.aload_n 0, 1) := by decide +kernel
theorem dX2_carryOut_20 : decode cX2_carryOut 20 = .ok (.getfield 86, 3) := by decide +kernel
theorem dX2_carryOut_23 : decode cX2_carryOut 23 = .ok (.aload_n 0, 1) := by decide +kernel
theorem dX2_carryOut_24 : decode cX2_carryOut 24 = .ok (.getfield 32, 3) := by decide +kernel
theorem dX2_carryOut_27 : decode cX2_carryOut 27 = .ok (.getfield 89, 3) := by decide +kernel
theorem dX2_carryOut_30 : decode cX2_carryOut 30 = .ok (.iload_n 1, 1) := by decide +kernel
theorem dX2_carryOut_31 : decode cX2_carryOut 31 = .ok (.iaload, 1) := by decide +kernel
theorem dX2_carryOut_32 : decode cX2_carryOut 32 = .ok (.invokestatic 91, 3) := by decide +kernel
theorem dX2_carryOut_35 : decode cX2_carryOut 35 = .ok (.putfield 86, 3) := by decide +kernel
theorem dX2_carryOut_38 : decode cX2_carryOut 38 = .ok (.aload_n 0, 1) := by decide +kernel
theorem dX2_carryOut_39 : decode cX2_carryOut 39 = .ok (.getfield 32, 3) := by decide +kernel
theorem dX2_carryOut_42 : decode cX2_carryOut 42 = .ok (.getfield 53, 3) := by decide +kernel
theorem dX2_carryOut_45 : decode cX2_carryOut 45 = .ok (.iload_n 1, 1) := by decide +kernel
theorem dX2_carryOut_46 : decode cX2_carryOut 46 = .ok (.iaload, 1) := by decide +kernel
theorem dX2_carryOut_47 : decode cX2_carryOut 47 = .ok (.istore_n 2, 1) := by decide +kernel
theorem dX2_carryOut_48 : decode cX2_carryOut 48 = .ok (.iload_n 2, 1) := by decide +kernel
theorem dX2_carryOut_49 : decode cX2_carryOut 49 = .ok (.ifCond .ne 16, 3) := by decide +kernel
theorem dX2_carryOut_52 : decode cX2_carryOut 52 = .ok (.aload_n 0, 1) := by decide +kernel
theorem dX2_carryOut_53 : decode cX2_carryOut 53 = .ok (.dup, 1) := by decide +kernel
theorem dX2_carryOut_54 : decode cX2_carryOut 54 = .ok (.getfield 97, 3) := by decide +kernel
theorem dX2_carryOut_57 : decode cX2_carryOut 57 = .ok (.iconst 1, 1) := by decide +kernel
theorem dX2_carryOut_58 : decode cX2_carryOut 58 = .ok (.iadd, 1) := by decide +kernel
theorem dX2_carryOut_59 : decode cX2_carryOut 59 = .ok (.putfield 97, 3) := by decide +kernel
theorem dX2_carryOut_62 : decode cX2_carryOut 62 = .ok (.goto 57, 3) := by decide +kernel
theorem dX2_carryOut_65 : decode cX2_carryOut 65 = .ok (.iload_n 2, 1) := by decide +kernel
theorem dX2_carryOut_66 : decode cX2_carryOut 66 = .ok (.iconst 1, 1) := by decide +kernel
theorem dX2_carryOut_67 : decode cX2_carryOut 67 = .ok (.if_icmp .eq 8, 3) := by decide +kernel
theorem dX2_carryOut_70 : decode cX2_carryOut 70 = .ok (.iload_n 2, 1) := by decide +kernel
theorem dX2_carryOut_71 : decode cX2_carryOut 71 = .ok (.iconst 2, 1) := by decide +kernel
theorem dX2_carryOut_72 : decode cX2_carryOut 72 = .ok (.if_icmp .ne 47, 3) := by decide +kernel
theorem dX2_carryOut_75 : decode cX2_carryOut 75 = .ok (.aload_n 0, 1) := by decide +kernel
theorem dX2_carryOut_76 : decode cX2_carryOut 76 = .ok (.getfield 32, 3) := by decide +kernel
theorem dX2_carryOut_79 : decode cX2_carryOut 79 = .ok (.getfield 56, 3) := by decide +kernel
theorem dX2_carryOut_82 : decode cX2_carryOut 82 = .ok (.iload_n 1, 1) := by decide +kernel
theorem dX2_carryOut_83 : decode cX2_carryOut 83 = .ok (.iaload, 1) := by decide +kernel
theorem dX2_carryOut_84 : decode cX2_carryOut 84 = .ok (.istore_n 3, 1) := by decide +kernel
theorem dX2_carryOut_85 : decode cX2_carryOut 85 = .ok (.aload_n 0, 1) := by decide +kernel
theorem dX2_carryOut_86 : decode cX2_carryOut 86 = .ok (.getfield 19, 3) := by decide +kernel
theorem dX2_carryOut_89 : decode cX2_carryOut 89 = .ok (.iload_n 3, 1) := by decide +kernel
theorem dX2_carryOut_90 : decode cX2_carryOut 90 = .ok (.iaload, 1) := by decide +kernel
theorem dX2_carryOut_91 : decode cX2_carryOut 91 = .ok (.iconst (-1), 1) := by decide +kernel
theorem dX2_carryOut_92 : decode cX2_carryOut 92 = .ok (.if_icmp .eq 20, 3) := by decide +kernel
theorem dX2_carryOut_95 : decode cX2_carryOut 95 = .ok (.aload_n 0, 1) := by decide +kernel
theorem dX2_carryOut_96 : decode cX2_carryOut 96 = .ok (.getfield 32, 3) := by decide +kernel
theorem dX2_carryOut_99 : decode cX2_carryOut 99 = .ok (.iload_n 1, 1) := by decide +kernel
theorem dX2_carryOut_100 : decode cX2_carryOut 100 = .ok (.aload_n 0, 1) := by decide +kernel
theorem dX2_carryOut_101 : decode cX2_carryOut 101 = .ok (.getfield 19, 3) := by decide +kernel
theorem dX2_carryOut_104 : decode cX2_carryOut 104 = .ok (.iload_n 3, 1) := by decide +kernel
theorem dX2_carryOut_105 : decode cX2_carryOut 105 = .ok (.iaload, 1) := by decide +kernel
theorem dX2_carryOut_106 : decode cX2_carryOut 106 = .ok (.invokevirtual 100, 3) := by decide +kernel
theorem dX2_carryOut_109 : decode cX2_carryOut 109 = .ok (.ifCond .eq 10, 3) := by decide +kernel
theorem dX2_carryOut_112 : decode cX2_carryOut 112 = .ok (.aload_n 0, 1) := by decide +kernel
theorem dX2_carryOut_113 : decode cX2_carryOut 113 = .ok (.getfield 19, 3) := by decide +kernel
theorem dX2_carryOut_116 : decode cX2_carryOut 116 = .ok (.iload_n 3, 1) := by decide +kernel
theorem dX2_carryOut_117 : decode cX2_carryOut 117 = .ok (.iload_n 1, 1) := by decide +kernel
theorem dX2_carryOut_118 : decode cX2_carryOut 118 = .ok (.iastore, 1) := by decide +kernel
theorem dX2_carryOut_119 : decode cX2_carryOut 119 = .ok (.return_, 1) := by decide +kernel
theorem dX2_isAlive_0 : decode cX2_isAlive 0 = .ok (.aload_n 0, 1) := by decide +kernel
theorem dX2_isAlive_1 : decode cX2_isAlive 1 = .ok (.iload_n 1, 1) := by decide +kernel
theorem dX2_isAlive_2 : decode cX2_isAlive 2 = .ok (.invokevirtual 59, 3) := by decide +kernel
theorem dX2_isAlive_5 : decode cX2_isAlive 5 = .ok (.ifCond .eq 35, 3) := by decide +kernel
theorem dX2_isAlive_8 : decode cX2_isAlive 8 = .ok (.aload_n 0, 1) := by decide +kernel
theorem dX2_isAlive_9 : decode cX2_isAlive 9 = .ok (.getfield 19, 3) := by decide +kernel
theorem dX2_isAlive_12 : decode cX2_isAlive 12 = .ok (.iload_n 1, 1) := by decide +kernel
theorem dX2_isAlive_13 : decode cX2_isAlive 13 = .ok (.iaload, 1) := by decide +kernel
theorem dX2_isAlive_14 : decode cX2_isAlive 14 = .ok (.iconst (-1), 1) := by decide +kernel
theorem dX2_isAlive_15 : decode cX2_isAlive 15 = .ok (.if_icmp .eq 21, 3) := by decide +kernel
theorem dX2_isAlive_18 : decode cX2_isAlive 18 = .ok (.aload_n 0, 1) := by decide +kernel
theorem dX2_isAlive_19 : decode cX2_isAlive 19 = .ok (.getfield 32, 3) := by decide +kernel
theorem dX2_isAlive_22 : decode cX2_isAlive 22 = .ok (.getfield 53, 3) := by decide +kernel
theorem dX2_isAlive_25 : decode cX2_isAlive 25 = .ok (.aload_n 0, 1) := by decide +kernel
theorem dX2_isAlive_26 : decode cX2_isAlive 26 = .ok (.getfield 19, 3) := by decide +kernel
theorem dX2_isAlive_29 : decode cX2_isAlive 29 = .ok (.iload_n 1, 1) := by decide +kernel
theorem dX2_isAlive_30 : decode cX2_isAlive 30 = .ok (.iaload, 1) := by decide +kernel
theorem dX2_isAlive_31 : decode cX2_isAlive 31 = .ok (.iaload, 1) := by decide +kernel
theorem dX2_isAlive_32 : decode cX2_isAlive 32 = .ok (.iconst 1, 1) := by decide +kernel
theorem dX2_isAlive_33 : decode cX2_isAlive 33 = .ok (.if_icmp .eq 7, 3) := by decide +kernel
theorem dX2_isAlive_36 : decode cX2_isAlive 36 = .ok (.iconst 1, 1) := by decide +kernel
theorem dX2_isAlive_37 : decode cX2_isAlive 37 = .ok (.goto 4, 3) := by decide +kernel
theorem dX2_isAlive_40 : decode cX2_isAlive 40 = .ok (.iconst 0, 1) := by decide +kernel
theorem dX2_isAlive_41 : decode cX2_isAlive 41 = .ok (.ireturn, 1) := by decide +kernel
theorem dX2_aliveAmongFirst_0 : decode cX2_aliveAmongFirst 0 = .ok (.iconst 0, 1) := by decide +kernel
theorem dX2_aliveAmongFirst_1 : decode cX2_aliveAmongFirst 1 = .ok (.istore_n 2, 1) := by decide +kernel
theorem dX2_aliveAmongFirst_2 : decode cX2_aliveAmongFirst 2 = .ok (.iconst 0, 1) := by decide +kernel
theorem dX2_aliveAmongFirst_3 : decode cX2_aliveAmongFirst 3 = .ok (.istore_n 3, 1) := by decide +kernel
theorem dX2_aliveAmongFirst_4 : decode cX2_aliveAmongFirst 4 = .ok (.iload_n 3, 1) := by decide +kernel
theorem dX2_aliveAmongFirst_5 : decode cX2_aliveAmongFirst 5 = .ok (.iload_n 1, 1) := by decide +kernel
theorem dX2_aliveAmongFirst_6 : decode cX2_aliveAmongFirst 6 = .ok (.if_icmp .ge 28, 3) := by decide +kernel
theorem dX2_aliveAmongFirst_9 : decode cX2_aliveAmongFirst 9 = .ok (.aload_n 0, 1) := by decide +kernel
theorem dX2_aliveAmongFirst_10 : decode cX2_aliveAmongFirst 10 = .ok (.aload_n 0, 1) := by decide +kernel
theorem dX2_aliveAmongFirst_11 : decode cX2_aliveAmongFirst 11 = .ok (.getfield 36, 3) := by decide +kernel
theorem dX2_aliveAmongFirst_14 : decode cX2_aliveAmongFirst 14 = .ok (.getfield 104, 3) := by decide +kernel
theorem dX2_aliveAmongFirst_17 : decode cX2_aliveAmongFirst 17 = .ok (.iload_n 3, 1) := by decide +kernel
theorem dX2_aliveAmongFirst_18 : decode cX2_aliveAmongFirst 18 = .ok (.iaload, 1) := by decide +kernel
theorem dX2_aliveAmongFirst_19 : decode cX2_aliveAmongFirst 19 = .ok (.invokevirtual 109, 3) := by decide +kernel
theorem dX2_aliveAmongFirst_22 : decode cX2_aliveAmongFirst 22 = .ok (.ifCond .eq 6, 3) := by decide +kernel
theorem dX2_aliveAmongFirst_25 : decode cX2_aliveAmongFirst 25 = .ok (.iinc 2 1, 3) := by decide +kernel
theorem dX2_aliveAmongFirst_28 : decode cX2_aliveAmongFirst 28 = .ok (.iinc 3 1, 3) := by decide +kernel
theorem dX2_aliveAmongFirst_31 : decode cX2_aliveAmongFirst 31 = .ok (.goto (-27), 3) := by decide +kernel
theorem dX2_aliveAmongFirst_34 : decode cX2_aliveAmongFirst 34 = .ok (.iload_n 2, 1) := by decide +kernel
theorem dX2_aliveAmongFirst_35 : decode cX2_aliveAmongFirst 35 = .ok (.ireturn, 1) := by decide +kernel
theorem dX2_textLength_0 : decode cX2_textLength 0 = .ok (.aload_n 0, 1) := by decide +kernel
theorem dX2_textLength_1 : decode cX2_textLength 1 = .ok (.aload_n 0, 1) := by decide +kernel
theorem dX2_textLength_2 : decode cX2_textLength 2 = .ok (.getfield 36, 3) := by decide +kernel
theorem dX2_textLength_5 : decode cX2_textLength 5 = .ok (.getfield 112, 3) := by decide +kernel
theorem dX2_textLength_8 : decode cX2_textLength 8 = .ok (.invokevirtual 113, 3) := by decide +kernel
theorem dX2_textLength_11 : decode cX2_textLength 11 = .ok (.ireturn, 1) := by decide +kernel
theorem dX2_hasGap_0 : decode cX2_hasGap 0 = .ok (.iload_n 1, 1) := by decide +kernel
theorem dX2_hasGap_1 : decode cX2_hasGap 1 = .ok (.ifCond .lt 15, 3) := by decide +kernel
theorem dX2_hasGap_4 : decode cX2_hasGap 4 = .ok (.iload_n 1, 1) := by decide +kernel
theorem dX2_hasGap_5 : decode cX2_hasGap 5 = .ok (.aload_n 0, 1) := by decide +kernel
theorem dX2_hasGap_6 : decode cX2_hasGap 6 = .ok (.invokevirtual 117, 3) := by decide +kernel
theorem dX2_hasGap_9 : decode cX2_hasGap 9 = .ok (.if_icmp .gt 7, 3) := by decide +kernel
theorem dX2_hasGap_12 : decode cX2_hasGap 12 = .ok (.iconst 1, 1) := by decide +kernel
theorem dX2_hasGap_13 : decode cX2_hasGap 13 = .ok (.goto 4, 3) := by decide +kernel
theorem dX2_hasGap_16 : decode cX2_hasGap 16 = .ok (.iconst 0, 1) := by decide +kernel
theorem dX2_hasGap_17 : decode cX2_hasGap 17 = .ok (.ireturn, 1) := by decide +kernel
theorem dX2_signAt_0 : decode cX2_signAt 0 = .ok (.iload_n 1, 1) := by decide +kernel
theorem dX2_signAt_1 : decode cX2_signAt 1 = .ok (.istore_n 2, 1) := by decide +kernel
theorem dX2_signAt_2 : decode cX2_signAt 2 = .ok (.iconst 0, 1) := by decide +kernel
theorem dX2_signAt_3 : decode cX2_signAt 3 = .ok (.istore_n 3, 1) := by decide +kernel
theorem dX2_signAt_4 : decode cX2_signAt 4 = .ok (.iload_n 3, 1) := by decide +kernel
theorem dX2_signAt_5 : decode cX2_signAt 5 = .ok (.aload_n 0, 1) := by decide +kernel
theorem dX2_signAt_6 : decode cX2_signAt 6 = .ok (.getfield 36, 3) := by decide +kernel
theorem dX2_signAt_9 : decode cX2_signAt 9 = .ok (.getfield 112, 3) := by decide +kernel
theorem dX2_signAt_12 : decode cX2_signAt 12 = .ok (.if_icmp .ge 46, 3) := by decide +kernel
theorem dX2_signAt_15 : decode cX2_signAt 15 = .ok (.iload_n 2, 1) := by decide +kernel
theorem dX2_signAt_16 : decode cX2_signAt 16 = .ok (.ifCond .lt 42, 3) := by decide +kernel
theorem dX2_signAt_19 : decode cX2_signAt 19 = .ok (.aload_n 0, 1) := by decide +kernel
theorem dX2_signAt_20 : decode cX2_signAt 20 = .ok (.aload_n 0, 1) := by decide +kernel
theorem dX2_signAt_21 : decode cX2_signAt 21 = .ok (.getfield 36, 3) := by decide +kernel
theorem dX2_signAt_24 : decode cX2_signAt 24 = .ok (.getfield 104, 3) := by decide +kernel
theorem dX2_signAt_27 : decode cX2_signAt 27 = .ok (.iload_n 3, 1) := by decide +kernel
theorem dX2_signAt_28 : decode cX2_signAt 28 = .ok (.iaload, 1) := by decide +kernel
theorem dX2_signAt_29 : decode cX2_signAt 29 = .ok (.invokevirtual 109, 3) := by decide +kernel
theorem dX2_signAt_32 : decode cX2_signAt 32 = .ok (.ifCond .eq 20, 3) := by decide +kernel
theorem dX2_signAt_35 : decode cX2_signAt 35 = .ok (.iload_n 2, 1) := by decide +kernel
theorem dX2_signAt_36 : decode cX2_signAt 36 = .ok (.ifCond .ne 13, 3) := by decide +kernel
theorem dX2_signAt_39 : decode cX2_signAt 39 = .ok (.aload_n 0, 1) := by decide +kernel
theorem dX2_signAt_40 : decode cX2_signAt 40 = .ok (.getfield 36, 3) := by decide +kernel
theorem dX2_signAt_43 : decode cX2_signAt 43 = .ok (.getfield 104, 3) := by decide +kernel
theorem dX2_signAt_46 : decode cX2_signAt 46 = .ok (.iload_n 3, 1) := by decide +kernel
theorem dX2_signAt_47 : decode cX2_signAt 47 = .ok (.iaload, 1) := by decide +kernel
theorem dX2_signAt_48 : decode cX2_signAt 48 = .ok (.ireturn, 1) := by decide +kernel
theorem dX2_signAt_49 : decode cX2_signAt 49 = .ok (.iinc 2 (-1), 3) := by decide +kernel
theorem dX2_signAt_52 : decode cX2_signAt 52 = .ok (.iinc 3 1, 3) := by decide +kernel
theorem dX2_signAt_55 : decode cX2_signAt 55 = .ok (.goto (-51), 3) := by decide +kernel
theorem dX2_signAt_58 : decode cX2_signAt 58 = .ok (.iconst (-1), 1) := by decide +kernel
theorem dX2_signAt_59 : decode cX2_signAt 59 = .ok (.ireturn, 1) := by decide +kernel
theorem dX2_signBefore_0 : decode cX2_signBefore 0 = .ok (.iload_n 1, 1) := by decide +kernel
theorem dX2_signBefore_1 : decode cX2_signBefore 1 = .ok (.ifCond .gt 7, 3) := by decide +kernel
theorem dX2_signBefore_4 : decode cX2_signBefore 4 = .ok (.iconst (-1), 1) := by decide +kernel
theorem dX2_signBefore_5 : decode cX2_signBefore 5 = .ok (.goto 10, 3) := by decide +kernel
theorem dX2_signBefore_8 : decode cX2_signBefore 8 = .ok (.aload_n 0, 1) := by decide +kernel
theorem dX2_signBefore_9 : decode cX2_signBefore 9 = .ok (.iload_n 1, 1) := by decide +kernel
theorem dX2_signBefore_10 : decode cX2_signBefore 10 = .ok (.iconst 1, 1) := by decide +kernel
theorem dX2_signBefore_11 : decode cX2_signBefore 11 = .ok (.isub, 1) := by decide +kernel
theorem dX2_signBefore_12 : decode cX2_signBefore 12 = .ok (.invokevirtual 120, 3) := by decide +kernel
theorem dX2_signBefore_15 : decode cX2_signBefore 15 = .ok (.ireturn, 1) := by decide +kernel
theorem dX2_nextBehind_0 : decode cX2_nextBehind 0 = .ok (.iload_n 1, 1) := by decide +kernel
theorem dX2_nextBehind_1 : decode cX2_nextBehind 1 = .ok (.iconst (-1), 1) := by decide +kernel
theorem dX2_nextBehind_2 : decode cX2_nextBehind 2 = .ok (.if_icmp .ne 7, 3) := by decide +kernel
theorem dX2_nextBehind_5 : decode cX2_nextBehind 5 = .ok (.iconst 0, 1) := by decide +kernel
theorem dX2_nextBehind_6 : decode cX2_nextBehind 6 = .ok (.goto 14, 3) := by decide +kernel
theorem dX2_nextBehind_9 : decode cX2_nextBehind 9 = .ok (.aload_n 0, 1) := by decide +kernel
theorem dX2_nextBehind_10 : decode cX2_nextBehind 10 = .ok (.getfield 36, 3) := by decide +kernel
theorem dX2_nextBehind_13 : decode cX2_nextBehind 13 = .ok (.getfield 123, 3) := by decide +kernel
theorem dX2_nextBehind_16 : decode cX2_nextBehind 16 = .ok (.iload_n 1, 1) := by decide +kernel
theorem dX2_nextBehind_17 : decode cX2_nextBehind 17 = .ok (.iaload, 1) := by decide +kernel
theorem dX2_nextBehind_18 : decode cX2_nextBehind 18 = .ok (.iconst 1, 1) := by decide +kernel
theorem dX2_nextBehind_19 : decode cX2_nextBehind 19 = .ok (.iadd, 1) := by decide +kernel
theorem dX2_nextBehind_20 : decode cX2_nextBehind 20 = .ok (.istore_n 2, 1) := by decide +kernel
theorem dX2_nextBehind_21 : decode cX2_nextBehind 21 = .ok (.iload_n 2, 1) := by decide +kernel
theorem dX2_nextBehind_22 : decode cX2_nextBehind 22 = .ok (.aload_n 0, 1) := by decide +kernel
theorem dX2_nextBehind_23 : decode cX2_nextBehind 23 = .ok (.getfield 36, 3) := by decide +kernel
theorem dX2_nextBehind_26 : decode cX2_nextBehind 26 = .ok (.getfield 112, 3) := by decide +kernel
theorem dX2_nextBehind_29 : decode cX2_nextBehind 29 = .ok (.if_icmp .ge 35, 3) := by decide +kernel
theorem dX2_nextBehind_32 : decode cX2_nextBehind 32 = .ok (.aload_n 0, 1) := by decide +kernel
theorem dX2_nextBehind_33 : decode cX2_nextBehind 33 = .ok (.aload_n 0, 1) := by decide +kernel
theorem dX2_nextBehind_34 : decode cX2_nextBehind 34 = .ok (.getfield 36, 3) := by decide +kernel
theorem dX2_nextBehind_37 : decode cX2_nextBehind 37 = .ok (.getfield 104, 3) := by decide +kernel
theorem dX2_nextBehind_40 : decode cX2_nextBehind 40 = .ok (.iload_n 2, 1) := by decide +kernel
theorem dX2_nextBehind_41 : decode cX2_nextBehind 41 = .ok (.iaload, 1) := by decide +kernel
theorem dX2_nextBehind_42 : decode cX2_nextBehind 42 = .ok (.invokevirtual 59, 3) := by decide +kernel
theorem dX2_nextBehind_45 : decode cX2_nextBehind 45 = .ok (.ifCond .eq 13, 3) := by decide +kernel
theorem dX2_nextBehind_48 : decode cX2_nextBehind 48 = .ok (.aload_n 0, 1) := by decide +kernel
theorem dX2_nextBehind_49 : decode cX2_nextBehind 49 = .ok (.getfield 36, 3) := by decide +kernel
theorem dX2_nextBehind_52 : decode cX2_nextBehind 52 = .ok (.getfield 104, 3) := by decide +kernel
theorem dX2_nextBehind_55 : decode cX2_nextBehind 55 = .ok (.iload_n 2, 1) := by decide +kernel
theorem dX2_nextBehind_56 : decode cX2_nextBehind 56 = .ok (.iaload, 1) := by decide +kernel
theorem dX2_nextBehind_57 : decode cX2_nextBehind 57 = .ok (.ireturn, 1) := by decide +kernel
theorem dX2_nextBehind_58 : decode cX2_nextBehind 58 = .ok (.iinc 2 1, 3) := by decide +kernel
theorem dX2_nextBehind_61 : decode cX2_nextBehind 61 = .ok (.goto (-40), 3) := by decide +kernel
theorem dX2_nextBehind_64 : decode cX2_nextBehind 64 = .ok (.iconst (-1), 1) := by decide +kernel
theorem dX2_nextBehind_65 : decode cX2_nextBehind 65 = .ok (.ireturn, 1) := by decide +kernel
theorem dX2_cursorPlace_0 : decode cX2_cursorPlace 0 = .ok (.aload_n 0, 1) := by decide +kernel
theorem dX2_cursorPlace_1 : decode cX2_cursorPlace 1 = .ok (.getfield 22, 3) := by decide +kernel
theorem dX2_cursorPlace_4 : decode cX2_cursorPlace 4 = .ok (.iload_n 1, 1) := by decide +kernel
theorem dX2_cursorPlace_5 : decode cX2_cursorPlace 5 = .ok (.iaload, 1) := by decide +kernel
theorem dX2_cursorPlace_6 : decode cX2_cursorPlace 6 = .ok (.istore_n 2, 1) := by decide +kernel
theorem dX2_cursorPlace_7 : decode cX2_cursorPlace 7 = .ok (.iload_n 2, 1) := by decide +kernel
theorem dX2_cursorPlace_8 : decode cX2_cursorPlace 8 = .ok (.iconst (-1), 1) := by decide +kernel
theorem dX2_cursorPlace_9 : decode cX2_cursorPlace 9 = .ok (.if_icmp .ne 7, 3) := by decide +kernel
theorem dX2_cursorPlace_12 : decode cX2_cursorPlace 12 = .ok (.iconst 0, 1) := by decide +kernel
theorem dX2_cursorPlace_13 : decode cX2_cursorPlace 13 = .ok (.goto 18, 3) := by decide +kernel
theorem dX2_cursorPlace_16 : decode cX2_cursorPlace 16 = .ok (.aload_n 0, 1) := by decide +kernel
theorem dX2_cursorPlace_17 : decode cX2_cursorPlace 17 = .ok (.aload_n 0, 1) := by decide +kernel
theorem dX2_cursorPlace_18 : decode cX2_cursorPlace 18 = .ok (.getfield 36, 3) := by decide +kernel
theorem dX2_cursorPlace_21 : decode cX2_cursorPlace 21 = .ok (.getfield 123, 3) := by decide +kernel
theorem dX2_cursorPlace_24 : decode cX2_cursorPlace 24 = .ok (.iload_n 2, 1) := by decide +kernel
theorem dX2_cursorPlace_25 : decode cX2_cursorPlace 25 = .ok (.iaload, 1) := by decide +kernel
theorem dX2_cursorPlace_26 : decode cX2_cursorPlace 26 = .ok (.iconst 1, 1) := by decide +kernel
theorem dX2_cursorPlace_27 : decode cX2_cursorPlace 27 = .ok (.iadd, 1) := by decide +kernel
theorem dX2_cursorPlace_28 : decode cX2_cursorPlace 28 = .ok (.invokevirtual 113, 3) := by decide +kernel
theorem dX2_cursorPlace_31 : decode cX2_cursorPlace 31 = .ok (.ireturn, 1) := by decide +kernel
theorem dX2_kindsOf_0 : decode cX2_kindsOf 0 = .ok (.iconst 0, 1) := by decide +kernel
theorem dX2_kindsOf_1 : decode cX2_kindsOf 1 = .ok (.istore_n 2, 1) := by decide +kernel
theorem dX2_kindsOf_2 : decode cX2_kindsOf 2 = .ok (.iload_n 2, 1) := by decide +kernel
theorem dX2_kindsOf_3 : decode cX2_kindsOf 3 = .ok (.bipush 8, 2) := by decide +kernel
theorem dX2_kindsOf_5 : decode cX2_kindsOf 5 = .ok (.if_icmp .ge 16, 3) := by decide +kernel
theorem dX2_kindsOf_8 : decode cX2_kindsOf 8 = .ok (.aload_n 0, 1) := by decide +kernel
theorem dX2_kindsOf_9 : decode cX2_kindsOf 9 = .ok (.getfield 25, 3) := by decide +kernel
theorem dX2_kindsOf_12 : decode cX2_kindsOf 12 = .ok (.iload_n 2, 1) := by decide +kernel
theorem dX2_kindsOf_13 : decode cX2_kindsOf 13 = .ok (.iconst (-1), 1) := by decide +kernel
theorem dX2_kindsOf_14 : decode cX2_kindsOf 14 = .ok (.iastore, 1) := by decide +kernel
theorem dX2_kindsOf_15 : decode cX2_kindsOf 15 = .ok (.iinc 2 1, 3) := by decide +kernel
theorem dX2_kindsOf_18 : decode cX2_kindsOf 18 = .ok (.goto (-16), 3) := by decide +kernel
theorem dX2_kindsOf_21 : decode cX2_kindsOf 21 = .ok (.iconst 0, 1) := by decide +kernel
theorem dX2_kindsOf_22 : decode cX2_kindsOf 22 = .ok (.istore_n 2, 1) := by decide +kernel
theorem dX2_kindsOf_23 : decode cX2_kindsOf 23 = .ok (.iload_n 2, 1) := by decide +kernel
theorem dX2_kindsOf_24 : decode cX2_kindsOf 24 = .ok (.aload_n 0, 1) := by decide +kernel
theorem dX2_kindsOf_25 : decode cX2_kindsOf 25 = .ok (.getfield 32, 3) := by decide +kernel
theorem dX2_kindsOf_28 : decode cX2_kindsOf 28 = .ok (.getfield 126, 3) := by decide +kernel
theorem dX2_kindsOf_31 : decode cX2_kindsOf 31 = .ok (.if_icmp .ge 79, 3) := by decide +kernel
theorem dX2_kindsOf_34 : decode cX2_kindsOf 34 = .ok (.aload_n 0, 1) := by decide +kernel
theorem dX2_kindsOf_35 : decode cX2_kindsOf 35 = .ok (.getfield 32, 3) := by decide +kernel
theorem dX2_kindsOf_38 : decode cX2_kindsOf 38 = .ok (.getfield 129, 3) := by decide +kernel
theorem dX2_kindsOf_41 : decode cX2_kindsOf 41 = .ok (.iload_n 2, 1) := by decide +kernel
theorem dX2_kindsOf_42 : decode cX2_kindsOf 42 = .ok (.iaload, 1) := by decide +kernel
theorem dX2_kindsOf_43 : decode cX2_kindsOf 43 = .ok (.istore_n 3, 1) := by decide +kernel
theorem dX2_kindsOf_44 : decode cX2_kindsOf 44 = .ok (.aload_n 0, 1) := by decide +kernel
theorem dX2_kindsOf_45 : decode cX2_kindsOf 45 = .ok (.getfield 32, 3) := by decide +kernel
theorem dX2_kindsOf_48 : decode cX2_kindsOf 48 = .ok (.getfield 132, 3) := by decide +kernel
theorem dX2_kindsOf_51 : decode cX2_kindsOf 51 = .ok (.iload_n 3, 1) := by decide +kernel
theorem dX2_kindsOf_52 : decode cX2_kindsOf 52 = .ok (.iaload, 1) := by decide +kernel
theorem dX2_kindsOf_53 : decode cX2_kindsOf 53 = .ok (.bipush 8, 2) := by decide +kernel
theorem dX2_kindsOf_55 : decode cX2_kindsOf 55 = .ok (.irem, 1) := by decide +kernel
theorem dX2_kindsOf_56 : decode cX2_kindsOf 56 = .ok (.istore 4, 2) := by decide +kernel
theorem dX2_kindsOf_58 : decode cX2_kindsOf 58 = .ok (.aload_n 0, 1) := by decide +kernel
theorem dX2_kindsOf_59 : decode cX2_kindsOf 59 = .ok (.iload_n 1, 1) := by decide +kernel
theorem dX2_kindsOf_60 : decode cX2_kindsOf 60 = .ok (.iload_n 3, 1) := by decide +kernel
theorem dX2_kindsOf_61 : decode cX2_kindsOf 61 = .ok (.invokevirtual 135, 3) := by decide +kernel
theorem dX2_kindsOf_64 : decode cX2_kindsOf 64 = .ok (.ifCond .eq 40, 3) := by decide +kernel
theorem dX2_kindsOf_67 : decode cX2_kindsOf 67 = .ok (.aload_n 0, 1) := by decide +kernel
theorem dX2_kindsOf_68 : decode cX2_kindsOf 68 = .ok (.getfield 25, 3) := by decide +kernel
theorem dX2_kindsOf_71 : decode cX2_kindsOf 71 = .ok (.iload 4, 2) := by decide +kernel
theorem dX2_kindsOf_73 : decode cX2_kindsOf 73 = .ok (.iaload, 1) := by decide +kernel
theorem dX2_kindsOf_74 : decode cX2_kindsOf 74 = .ok (.iconst (-1), 1) := by decide +kernel
theorem dX2_kindsOf_75 : decode cX2_kindsOf 75 = .ok (.if_icmp .eq 21, 3) := by decide +kernel
theorem dX2_kindsOf_78 : decode cX2_kindsOf 78 = .ok (.aload_n 0, 1) := by decide +kernel
theorem dX2_kindsOf_79 : decode cX2_kindsOf 79 = .ok (.getfield 32, 3) := by decide +kernel
theorem dX2_kindsOf_82 : decode cX2_kindsOf 82 = .ok (.iload_n 3, 1) := by decide +kernel
theorem dX2_kindsOf_83 : decode cX2_kindsOf 83 = .ok (.aload_n 0, 1) := by decide +kernel
theorem dX2_kindsOf_84 : decode cX2_kindsOf 84 = .ok (.getfield 25, 3) := by decide +kernel
theorem dX2_kindsOf_87 : decode cX2_kindsOf 87 = .ok (.iload 4, 2) := by decide +kernel
theorem dX2_kindsOf_89 : decode cX2_kindsOf 89 = .ok (.iaload, 1) := by decide +kernel
theorem dX2_kindsOf_90 : decode cX2_kindsOf 90 = .ok (.invokevirtual 100, 3) := by decide +kernel
theorem dX2_kindsOf_93 : decode cX2_kindsOf 93 = .ok (.ifCond .eq 11, 3) := by decide +kernel
theorem dX2_kindsOf_96 : decode cX2_kindsOf 96 = .ok (.aload_n 0, 1) := by decide +kernel
theorem dX2_kindsOf_97 : decode cX2_kindsOf 97 = .ok (.getfield 25, 3) := by decide +kernel
theorem dX2_kindsOf_100 : decode cX2_kindsOf 100 = .ok (.iload 4, 2) := by decide +kernel
theorem dX2_kindsOf_102 : decode cX2_kindsOf 102 = .ok (.iload_n 3, 1) := by decide +kernel
theorem dX2_kindsOf_103 : decode cX2_kindsOf 103 = .ok (.iastore, 1) := by decide +kernel
theorem dX2_kindsOf_104 : decode cX2_kindsOf 104 = .ok (.iinc 2 1, 3) := by decide +kernel
theorem dX2_kindsOf_107 : decode cX2_kindsOf 107 = .ok (.goto (-84), 3) := by decide +kernel
theorem dX2_kindsOf_110 : decode cX2_kindsOf 110 = .ok (.aload_n 0, 1) := by decide +kernel
theorem dX2_kindsOf_111 : decode cX2_kindsOf 111 = .ok (.invokevirtual 138, 3) := by decide +kernel
theorem dX2_kindsOf_114 : decode cX2_kindsOf 114 = .ok (.ireturn, 1) := by decide +kernel
theorem dX2_isMarkedBy_0 : decode cX2_isMarkedBy 0 = .ok (.aload_n 0, 1) := by decide +kernel
theorem dX2_isMarkedBy_1 : decode cX2_isMarkedBy 1 = .ok (.getfield 36, 3) := by decide +kernel
theorem dX2_isMarkedBy_4 : decode cX2_isMarkedBy 4 = .ok (.getfield 123, 3) := by decide +kernel
theorem dX2_isMarkedBy_7 : decode cX2_isMarkedBy 7 = .ok (.iload_n 1, 1) := by decide +kernel
theorem dX2_isMarkedBy_8 : decode cX2_isMarkedBy 8 = .ok (.iaload, 1) := by decide +kernel
theorem dX2_isMarkedBy_9 : decode cX2_isMarkedBy 9 = .ok (.istore_n 3, 1) := by decide +kernel
theorem dX2_isMarkedBy_10 : decode cX2_isMarkedBy 10 = .ok (.aload_n 0, 1) := by decide +kernel
theorem dX2_isMarkedBy_11 : decode cX2_isMarkedBy 11 = .ok (.iload_n 2, 1) := by decide +kernel
theorem dX2_isMarkedBy_12 : decode cX2_isMarkedBy 12 = .ok (.invokevirtual 59, 3) := by decide +kernel
theorem dX2_isMarkedBy_15 : decode cX2_isMarkedBy 15 = .ok (.ifCond .eq 49, 3) := by decide +kernel
theorem dX2_isMarkedBy_18 : decode cX2_isMarkedBy 18 = .ok (.aload_n 0, 1) := by decide +kernel
theorem dX2_isMarkedBy_19 : decode cX2_isMarkedBy 19 = .ok (.getfield 36, 3) := by decide +kernel
theorem dX2_isMarkedBy_22 : decode cX2_isMarkedBy 22 = .ok (.getfield 123, 3) := by decide +kernel
theorem dX2_isMarkedBy_25 : decode cX2_isMarkedBy 25 = .ok (.aload_n 0, 1) := by decide +kernel
theorem dX2_isMarkedBy_26 : decode cX2_isMarkedBy 26 = .ok (.getfield 32, 3) := by decide +kernel
theorem dX2_isMarkedBy_29 : decode cX2_isMarkedBy 29 = .ok (.getfield 56, 3) := by decide +kernel
theorem dX2_isMarkedBy_32 : decode cX2_isMarkedBy 32 = .ok (.iload_n 2, 1) := by decide +kernel
theorem dX2_isMarkedBy_33 : decode cX2_isMarkedBy 33 = .ok (.iaload, 1) := by decide +kernel
theorem dX2_isMarkedBy_34 : decode cX2_isMarkedBy 34 = .ok (.iaload, 1) := by decide +kernel
theorem dX2_isMarkedBy_35 : decode cX2_isMarkedBy 35 = .ok (.iload_n 3, 1) := by decide +kernel
theorem dX2_isMarkedBy_36 : decode cX2_isMarkedBy 36 = .ok (.if_icmp .gt 28, 3) := by decide +kernel
theorem dX2_isMarkedBy_39 : decode cX2_isMarkedBy 39 = .ok (.iload_n 3, 1) := by decide +kernel
theorem dX2_isMarkedBy_40 : decode cX2_isMarkedBy 40 = .ok (.aload_n 0, 1) := by decide +kernel
theorem dX2_isMarkedBy_41 : decode cX2_isMarkedBy 41 = .ok (.getfield 36, 3) := by decide +kernel
theorem dX2_isMarkedBy_44 : decode cX2_isMarkedBy 44 = .ok (.getfield 123, 3) := by decide +kernel
theorem dX2_isMarkedBy_47 : decode cX2_isMarkedBy 47 = .ok (.aload_n 0, 1) := by decide +kernel
theorem dX2_isMarkedBy_48 : decode cX2_isMarkedBy 48 = .ok (.getfield 32, 3) := by decide +kernel
theorem dX2_isMarkedBy_51 : decode cX2_isMarkedBy 51 = .ok (.getfield 63, 3) := by decide +kernel
theorem dX2_isMarkedBy_54 : decode cX2_isMarkedBy 54 = .ok (.iload_n 2, 1) := by decide +kernel
theorem dX2_isMarkedBy_55 : decode cX2_isMarkedBy 55 = .ok (.iaload, 1) := by decide +kernel
theorem dX2_isMarkedBy_56 : decode cX2_isMarkedBy 56 = .ok (.iaload, 1) := by decide +kernel
theorem dX2_isMarkedBy_57 : decode cX2_isMarkedBy 57 = .ok (.if_icmp .gt 7, 3) := by decide +kernel
theorem dX2_isMarkedBy_60 : decode cX2_isMarkedBy 60 = .ok (.iconst 1, 1) := by decide +kernel
theorem dX2_isMarkedBy_61 : decode cX2_isMarkedBy 61 = .ok (.goto 4, 3) := by decide +kernel
theorem dX2_isMarkedBy_64 : decode cX2_isMarkedBy 64 = .ok (.iconst 0, 1) := by decide +kernel
theorem dX2_isMarkedBy_65 : decode cX2_isMarkedBy 65 = .ok (.ireturn, 1) := by decide +kernel
theorem dX2_bitsOfLatest_0 : decode cX2_bitsOfLatest 0 = .ok (.iconst 0, 1) := by decide +kernel
theorem dX2_bitsOfLatest_1 : decode cX2_bitsOfLatest 1 = .ok (.istore_n 1, 1) := by decide +kernel
theorem dX2_bitsOfLatest_2 : decode cX2_bitsOfLatest 2 = .ok (.iconst 0, 1) := by decide +kernel
theorem dX2_bitsOfLatest_3 : decode cX2_bitsOfLatest 3 = .ok (.istore_n 2, 1) := by decide +kernel
theorem dX2_bitsOfLatest_4 : decode cX2_bitsOfLatest 4 = .ok (.iload_n 2, 1) := by decide +kernel
theorem dX2_bitsOfLatest_5 : decode cX2_bitsOfLatest 5 = .ok (.bipush 8, 2) := by decide +kernel
theorem dX2_bitsOfLatest_7 : decode cX2_bitsOfLatest 7 = .ok (.if_icmp .ge 41, 3) := by decide +kernel
theorem dX2_bitsOfLatest_10 : decode cX2_bitsOfLatest 10 = .ok (.aload_n 0, 1) := by decide +kernel
theorem dX2_bitsOfLatest_11 : decode cX2_bitsOfLatest 11 = .ok (.getfield 25, 3) := by decide +kernel
theorem dX2_bitsOfLatest_14 : decode cX2_bitsOfLatest 14 = .ok (.iload_n 2, 1) := by decide +kernel
theorem dX2_bitsOfLatest_15 : decode cX2_bitsOfLatest 15 = .ok (.iaload, 1) := by decide +kernel
theorem dX2_bitsOfLatest_16 : decode cX2_bitsOfLatest 16 = .ok (.istore_n 3, 1) := by decide +kernel
theorem dX2_bitsOfLatest_17 : decode cX2_bitsOfLatest 17 = .ok (.iload_n 3, 1) := by decide +kernel
theorem dX2_bitsOfLatest_18 : decode cX2_bitsOfLatest 18 = .ok (.iconst (-1), 1) := by decide +kernel
theorem dX2_bitsOfLatest_19 : decode cX2_bitsOfLatest 19 = .ok (.if_icmp .eq 23, 3) := by decide +kernel
theorem dX2_bitsOfLatest_22 : decode cX2_bitsOfLatest 22 = .ok (.aload_n 0, 1) := by decide +kernel
theorem dX2_bitsOfLatest_23 : decode cX2_bitsOfLatest 23 = .ok (.getfield 32, 3) := by decide +kernel
theorem dX2_bitsOfLatest_26 : decode cX2_bitsOfLatest 26 = .ok (.getfield 132, 3) := by decide +kernel
theorem dX2_bitsOfLatest_29 : decode cX2_bitsOfLatest 29 = .ok (.iload_n 3, 1) := by decide +kernel
theorem dX2_bitsOfLatest_30 : decode cX2_bitsOfLatest 30 = .ok (.iaload, 1) := by decide +kernel
theorem dX2_bitsOfLatest_31 : decode cX2_bitsOfLatest 31 = .ok (.bipush 8, 2) := by decide +kernel
theorem dX2_bitsOfLatest_33 : decode cX2_bitsOfLatest 33 = .ok (.if_icmp .lt 9, 3) := by decide +kernel
theorem dX2_bitsOfLatest_36 : decode cX2_bitsOfLatest 36 = .ok (.iload_n 1, 1) := by decide +kernel
theorem dX2_bitsOfLatest_37 : decode cX2_bitsOfLatest 37 = .ok (.iconst 1, 1) := by decide +kernel
theorem dX2_bitsOfLatest_38 : decode cX2_bitsOfLatest 38 = .ok (.iload_n 2, 1) := by decide +kernel
theorem dX2_bitsOfLatest_39 : decode cX2_bitsOfLatest 39 = .ok (.ishl, 1) := by decide +kernel
theorem dX2_bitsOfLatest_40 : decode cX2_bitsOfLatest 40 = .ok (.ior, 1) := by decide +kernel
theorem dX2_bitsOfLatest_41 : decode cX2_bitsOfLatest 41 = .ok (.istore_n 1, 1) := by decide +kernel
theorem dX2_bitsOfLatest_42 : decode cX2_bitsOfLatest 42 = .ok (.iinc 2 1, 3) := by decide +kernel
theorem dX2_bitsOfLatest_45 : decode cX2_bitsOfLatest 45 = .ok (.goto (-41), 3) := by decide +kernel
theorem dX2_bitsOfLatest_48 : decode cX2_bitsOfLatest 48 = .ok (.iload_n 1, 1) := by decide +kernel
theorem dX2_bitsOfLatest_49 : decode cX2_bitsOfLatest 49 = .ok (.ireturn, 1) := by decide +kernel
theorem dX3_init_0 : decode cX3_init 0 = .ok (.aload_n 0, 1) := by decide +kernel
theorem dX3_init_1 : decode cX3_init 1 = .ok (.invokespecial 3, 3) := by decide +kernel
theorem dX3_init_4 : decode cX3_init 4 = .ok (.aload_n 0, 1) := by decide +kernel
theorem dX3_init_5 : decode cX3_init 5 = .ok (.sipush 300, 3) := by decide +kernel
theorem dX3_init_8 : decode cX3_init 8 = .ok (.newarray .int, 2) := by decide +kernel
theorem dX3_init_10 : decode cX3_init 10 = .ok (.putfield 9, 3) := by decide +kernel
theorem dX3_init_13 : decode cX3_init 13 = .ok (.aload_n 0, 1) := by decide +kernel
theorem dX3_init_14 : decode cX3_init 14 = .ok (.sipush 300, 3) := by decide +kernel
theorem dX3_init_17 : decode cX3_init 17 = .ok (.newarray .int, 2) := by decide +kernel
theorem dX3_init_19 : decode cX3_init 19 = .ok (.putfield 15, 3) := by decide +kernel
theorem dX3_init_22 : decode cX3_init 22 = .ok (.return_, 1) := by decide +kernel
theorem dX3_holds_0 : decode cX3_holds 0 = .ok (.iload_n 1, 1) := by decide +kernel
theorem dX3_holds_1 : decode cX3_holds 1 = .ok (.ifCond .lt 15, 3) := by decide +kernel
theorem dX3_holds_4 : decode cX3_holds 4 = .ok (.iload_n 1, 1) := by decide +kernel
theorem dX3_holds_5 : decode cX3_holds 5 = .ok (.aload_n 0, 1) := by decide +kernel
theorem dX3_holds_6 : decode cX3_holds 6 = .ok (.getfield 18, 3) := by decide +kernel
theorem dX3_holds_9 : decode cX3_holds 9 = .ok (.if_icmp .ge 7, 3) := by decide +kernel
theorem dX3_holds_12 : decode cX3_holds 12 = .ok (.iconst 1, 1) := by decide +kernel
theorem dX3_holds_13 : decode cX3_holds 13 = .ok (.goto 4, 3) := by decide +kernel
theorem dX3_holds_16 : decode cX3_holds 16 = .ok (.iconst 0, 1) := by decide +kernel
theorem dX3_holds_17 : decode cX3_holds 17 = .ok (.ireturn, 1) := by decide +kernel
theorem dX3_isFull_0 : decode cX3_isFull 0 = .ok (.aload_n 0, 1) := by decide +kernel
theorem dX3_isFull_1 : decode cX3_isFull 1 = .ok (.getfield 18, 3) := by decide +kernel
theorem dX3_isFull_4 : decode cX3_isFull 4 = .ok (.sipush 300, 3) := by decide +kernel
theorem dX3_isFull_7 : decode cX3_isFull 7 = .ok (.if_icmp .lt 7, 3) := by decide +kernel
theorem dX3_isFull_10 : decode cX3_isFull 10 = .ok (.iconst 1, 1) := by decide +kernel
theorem dX3_isFull_11 : decode cX3_isFull 11 = .ok (.goto 4, 3) := by decide +kernel
theorem dX3_isFull_14 : decode cX3_isFull 14 = .ok (.iconst 0, 1) := by decide +kernel
theorem dX3_isFull_15 : decode cX3_isFull 15 = .ok (.ireturn, 1) := by decide +kernel
theorem dX3_send_0 : decode cX3_send 0 = .ok (.aload_n 0, 1) := by decide +kernel
theorem dX3_send_1 : decode cX3_send 1 = .ok (.invokevirtual 22, 3) := by decide +kernel
theorem dX3_send_4 : decode cX3_send 4 = .ok (.ifCond .eq 14, 3) := by decide +kernel
theorem dX3_send_7 : decode cX3_send 7 = .ok (.aload_n 0, 1) := by decide +kernel
theorem dX3_send_8 : decode cX3_send 8 = .ok (.dup, 1) := by decide +kernel
theorem dX3_send_9 : decode cX3_send 9 = .ok (.getfield 26, 3) := by decide +kernel
theorem dX3_send_12 : decode cX3_send 12 = .ok (.iconst 1, 1) := by decide +kernel
theorem dX3_send_13 : decode cX3_send 13 = .ok (.iadd, 1) := by decide +kernel
theorem dX3_send_14 : decode cX3_send 14 = .ok (.putfield 26, 3) := by decide +kernel
theorem dX3_send_17 : decode cX3_send 17 = .ok (.return_, 1) := by decide +kernel
theorem dX3_send_18 : decode cX3_send 18 = .ok (.aload_n 0, 1) := by decide +kernel
theorem dX3_send_19 : decode cX3_send 19 = .ok (.getfield 9, 3) := by decide +kernel
theorem dX3_send_22 : decode cX3_send 22 = .ok (.aload_n 0, 1) := by decide +kernel
theorem dX3_send_23 : decode cX3_send 23 = .ok (.getfield 18, 3) := by decide +kernel
theorem dX3_send_26 : decode cX3_send 26 = .ok (.iload_n 1, 1) := by decide +kernel
theorem dX3_send_27 : decode cX3_send 27 = .ok (.iastore, 1) := by decide +kernel
theorem dX3_send_28 : decode cX3_send 28 = .ok (.aload_n 0, 1) := by decide +kernel
theorem dX3_send_29 : decode cX3_send 29 = .ok (.getfield 15, 3) := by decide +kernel
theorem dX3_send_32 : decode cX3_send 32 = .ok (.aload_n 0, 1) := by decide +kernel
theorem dX3_send_33 : decode cX3_send 33 = .ok (.getfield 18, 3) := by decide +kernel
theorem dX3_send_36 : decode cX3_send 36 = .ok (.iload_n 2, 1) := by decide +kernel
theorem dX3_send_37 : decode cX3_send 37 = .ok (.iastore, 1) := by decide +kernel
theorem dX3_send_38 : decode cX3_send 38 = .ok (.aload_n 0, 1) := by decide +kernel
theorem dX3_send_39 : decode cX3_send 39 = .ok (.dup, 1) := by decide +kernel
theorem dX3_send_40 : decode cX3_send 40 = .ok (.getfield 18, 3) := by decide +kernel
theorem dX3_send_43 : decode cX3_send 43 = .ok (.iconst 1, 1) := by decide +kernel
theorem dX3_send_44 : decode cX3_send 44 = .ok (.iadd, 1) := by decide +kernel
theorem dX3_send_45 : decode cX3_send 45 = .ok (.putfield 18, 3) := by decide +kernel
theorem dX3_send_48 : decode cX3_send 48 = .ok (.return_, 1) := by decide +kernel
theorem dX3_drop_0 : decode cX3_drop 0 = .ok (.aload_n 0, 1) := by decide +kernel
theorem dX3_drop_1 : decode cX3_drop 1 = .ok (.dup, 1) := by decide +kernel
theorem dX3_drop_2 : decode cX3_drop 2 = .ok (.getfield 18, 3) := by decide +kernel
theorem dX3_drop_5 : decode cX3_drop 5 = .ok (.iconst 1, 1) := by decide +kernel
theorem dX3_drop_6 : decode cX3_drop 6 = .ok (.isub, 1) := by decide +kernel
theorem dX3_drop_7 : decode cX3_drop 7 = .ok (.putfield 18, 3) := by decide +kernel
theorem dX3_drop_10 : decode cX3_drop 10 = .ok (.iload_n 1, 1) := by decide +kernel
theorem dX3_drop_11 : decode cX3_drop 11 = .ok (.istore_n 2, 1) := by decide +kernel
theorem dX3_drop_12 : decode cX3_drop 12 = .ok (.iload_n 2, 1) := by decide +kernel
theorem dX3_drop_13 : decode cX3_drop 13 = .ok (.aload_n 0, 1) := by decide +kernel
theorem dX3_drop_14 : decode cX3_drop 14 = .ok (.getfield 18, 3) := by decide +kernel
theorem dX3_drop_17 : decode cX3_drop 17 = .ok (.if_icmp .ge 37, 3) := by decide +kernel
theorem dX3_drop_20 : decode cX3_drop 20 = .ok (.aload_n 0, 1) := by decide +kernel
theorem dX3_drop_21 : decode cX3_drop 21 = .ok (.getfield 9, 3) := by decide +kernel
theorem dX3_drop_24 : decode cX3_drop 24 = .ok (.iload_n 2, 1) := by decide +kernel
theorem dX3_drop_25 : decode cX3_drop 25 = .ok (.aload_n 0, 1) := by decide +kernel
theorem dX3_drop_26 : decode cX3_drop 26 = .ok (.getfield 9, 3) := by decide +kernel
theorem dX3_drop_29 : decode cX3_drop 29 = .ok (.iload_n 2, 1) := by decide +kernel
theorem dX3_drop_30 : decode cX3_drop 30 = .ok (.iconst 1, 1) := by decide +kernel
theorem dX3_drop_31 : decode cX3_drop 31 = .ok (.iadd, 1) := by decide +kernel
theorem dX3_drop_32 : decode cX3_drop 32 = .ok (.iaload, 1) := by decide +kernel
theorem dX3_drop_33 : decode cX3_drop 33 = .ok (.iastore, 1) := by decide +kernel
theorem dX3_drop_34 : decode cX3_drop 34 = .ok (.aload_n 0, 1) := by decide +kernel
theorem dX3_drop_35 : decode cX3_drop 35 = .ok (.getfield 15, 3) := by decide +kernel
theorem dX3_drop_38 : decode cX3_drop 38 = .ok (.iload_n 2, 1) := by decide +kernel
theorem dX3_drop_39 : decode cX3_drop 39 = .ok (.aload_n 0, 1) := by decide +kernel
theorem dX3_drop_40 : decode cX3_drop 40 = .ok (.getfield 15, 3) := by decide +kernel
theorem dX3_drop_43 : decode cX3_drop 43 = .ok (.iload_n 2, 1) := by decide +kernel
theorem dX3_drop_44 : decode cX3_drop 44 = .ok (.iconst 1, 1) := by decide +kernel
theorem dX3_drop_45 : decode cX3_drop 45 = .ok (.iadd, 1) := by decide +kernel
theorem dX3_drop_46 : decode cX3_drop 46 = .ok (.iaload, 1) := by decide +kernel
theorem dX3_drop_47 : decode cX3_drop 47 = .ok (.iastore, 1) := by decide +kernel
theorem dX3_drop_48 : decode cX3_drop 48 = .ok (.iinc 2 1, 3) := by decide +kernel
theorem dX3_drop_51 : decode cX3_drop 51 = .ok (.goto (-39), 3) := by decide +kernel
theorem dX3_drop_54 : decode cX3_drop 54 = .ok (.return_, 1) := by decide +kernel
end
section
/-! BASE: numbers as Int, a world by numbered cells, rows over it. -/
/-- an Int32 by its number -/
def jI (x : Int) : Int32 := Int32.ofInt x
theorem jI_toInt {x : Int} (h1 : -2147483648 ≤ x) (h2 : x < 2147483648) : (jI x).toInt = x := Int32.toInt_ofInt_of_le (by omega) (by omega)
theorem jI_of (x : Int32) : jI x.toInt = x := Int32.ofInt_toInt x
theorem jI_lo (x : Int32) : -2147483648 ≤ x.toInt := by have := Int32.le_toInt x; omega
theorem jI_hi (x : Int32) : x.toInt < 2147483648 := by have := Int32.toInt_lt x; omega
theorem jI_add (x y : Int) : jI x + jI y = jI (x + y) := (Int32.ofInt_add x y).symm
theorem jI_sub (x y : Int) : jI x - jI y = jI (x - y) := (Int32.ofInt_sub x y).symm
theorem jI_mul (x y : Int) : jI x * jI y = jI (x * y) := (Int32.ofInt_mul x y).symm
theorem jI_neg (x : Int) : -jI x = jI (-x) := (Int32.ofInt_neg x).symm
theorem jI_0 : jI 0 = 0 := rfl
theorem jI_lt {x y : Int} (a1 : -2147483648 ≤ x) (a2 : x < 2147483648) (b1 : -2147483648 ≤ y) (b2 : y < 2147483648) : jI x < jI y ↔ x < y := by
  rw [Int32.lt_iff_toInt_lt, jI_toInt a1 a2, jI_toInt b1 b2]
theorem jI_le {x y : Int} (a1 : -2147483648 ≤ x) (a2 : x < 2147483648) (b1 : -2147483648 ≤ y) (b2 : y < 2147483648) : jI x ≤ jI y ↔ x ≤ y := by
  rw [Int32.le_iff_toInt_le, jI_toInt a1 a2, jI_toInt b1 b2]
theorem jI_eq {x y : Int} (a1 : -2147483648 ≤ x) (a2 : x < 2147483648) (b1 : -2147483648 ≤ y) (b2 : y < 2147483648) : jI x = jI y ↔ x = y := by
  rw [← Int32.toInt_inj, jI_toInt a1 a2, jI_toInt b1 b2]
theorem jI_clamp {x : Int} (h0 : 0 ≤ x) (h2 : x < 2147483648) : (jI x).toNatClampNeg = x.toNat := by
  rw [← Int32.toNat_toInt, jI_toInt (by omega) h2]
theorem jI_in {x : Int} {n : Nat} (h0 : 0 ≤ x) (h : x < n) (hn : n < 2147483648) : vp_in (jI x) n := by
  rw [vp_in_iff, jI_toInt (by omega) (by omega)]
  exact ⟨h0, h⟩
theorem jI_nI (n : Nat) : jI (n : Int) = nI n := Int32.ofInt_eq_ofNat
theorem jI_toNat {x : Int} (h : 0 ≤ x) : jI x = nI x.toNat := by
  rw [← jI_nI, Int.toNat_of_nonneg h]
theorem jI_mod (x : Int) : jI x = jI (x % 4294967296) := by
  rw [← Int32.toInt_inj]
  unfold jI
  rw [Int32.toInt_ofInt, Int32.toInt_ofInt]
  exact (Int.emod_bmod x 4294967296).symm
/-- a truth as a number -/
def bI : Bool → Int
  | true => 1
  | false => 0
theorem bI_t : bI true = 1 := rfl
theorem bI_f : bI false = 0 := rfl
theorem bI_01 (b : Bool) : 0 ≤ bI b ∧ bI b ≤ 1 := by cases b <;> decide
theorem bI_ne (b : Bool) : bI b ≠ 0 ↔ b = true := by cases b <;> decide
theorem bI_eq (b : Bool) : bI b = 0 ↔ b = false := by cases b <;> decide
theorem jb_eq (b : Bool) : jI (bI b) = 0 ↔ b = false := by cases b <;> decide
theorem jb_ne (b : Bool) : ¬ jI (bI b) = 0 ↔ b = true := by cases b <;> decide
theorem jb_nar (b : Bool) : narrow .boolean (.int (jI (bI b))) = .int (jI (bI b)) := by cases b <;> decide
theorem jb_vnar (b : Bool) : vp_nar .boolean (jI (bI b)) = jI (bI b) := by cases b <;> decide

/-- what a world holds: cell k, number i -/
abbrev Zt : Type := Nat → Nat → Int
def zu (σ : Zt) (k i : Nat) (v : Int) : Zt := fun k' => if k' = k then (fun j => if j = i then v else σ k j) else σ k'
theorem zu_same (σ : Zt) (k i : Nat) (v : Int) : zu σ k i v k i = v := by simp [zu]
theorem zu_row (σ : Zt) (k i : Nat) (v : Int) : zu σ k i v k = fun j => if j = i then v else σ k j := by simp [zu]
theorem zu_ne {σ : Zt} {k k' i : Nat} {v : Int} (h : k' ≠ k) : zu σ k i v k' = σ k' := by simp [zu, h]
theorem zu_nj {σ : Zt} {k i j : Nat} {v : Int} (h : j ≠ i) : zu σ k i v k j = σ k j := by simp [zu, h]
/-- the world by numbers: cell k lies at a k and holds what the layout says of its row -/
def zw (N : Nat) (lay : Nat → (Nat → Int) → va_E) (a : Nat → Nat) (σ : Zt) : va_W := (List.range N).map (fun k => (a k, lay k (σ k)))
theorem zw_get {N : Nat} {lay : Nat → (Nat → Int) → va_E} {a : Nat → Nat} {σ : Zt} {k : Nat} (h : k < N) : (zw N lay a σ)[k]? = some (a k, lay k (σ k)) := by
  simp [zw, h]
theorem zw_len {N : Nat} {lay : Nat → (Nat → Int) → va_E} {a : Nat → Nat} {σ : Zt} : (zw N lay a σ).length = N := by simp [zw]
theorem zw_none {N : Nat} {lay : Nat → (Nat → Int) → va_E} {a : Nat → Nat} {σ : Zt} {k : Nat} (h : ¬ k < N) : (zw N lay a σ)[k]? = none := by
  rw [List.getElem?_eq_none_iff, zw_len]; omega
theorem zw_inv {N : Nat} {lay : Nat → (Nat → Int) → va_E} {a : Nat → Nat} {σ : Zt} {k : Nat} {q : Nat × va_E} (h : (zw N lay a σ)[k]? = some q) : k < N ∧ q = (a k, lay k (σ k)) := by
  by_cases hk : k < N
  · rw [zw_get hk] at h
    exact ⟨hk, (Option.some.inj h).symm⟩
  · rw [zw_none hk] at h
    cases h
theorem zw_set {N : Nat} {lay : Nat → (Nat → Int) → va_E} {a : Nat → Nat} {σ : Zt} {k i : Nat} {v : Int} {e : va_E} (h : k < N) (he : lay k (fun j => if j = i then v else σ k j) = e) : (zw N lay a σ).set k (a k, e) = zw N lay a (zu σ k i v) := by
  apply List.ext_getElem?
  intro j
  rw [List.getElem?_set]
  by_cases hj : k = j
  · subst hj
    rw [if_pos rfl, if_pos (by rw [zw_len]; exact h), zw_get h, zu_row, he]
  · rw [if_neg hj]
    by_cases hN : j < N
    · rw [zw_get hN, zw_get hN, zu_ne (fun q => hj q.symm)]
    · rw [zw_none hN, zw_none hN]
/-- the world's constants: classes and arrays as the tables have them; the addresses are apart, and in A -/
def zx (D : va_G) (cl : List vw_C) (tys : List (ClassId × FieldType)) (A : Nat → Prop) (a : Nat → Nat) (N : Nat) (s : State) : Prop :=
  va_K D cl tys s ∧ (∀ i j, i < N → j < N → a i = a j → i = j) ∧ (∀ i, i < N → A (a i)) ∧ ∀ q, s.heap.size ≤ q → A q
theorem zw_D {A : Nat → Prop} {a : Nat → Nat} {N : Nat} {lay : Nat → (Nat → Int) → va_E} {σ : Zt} (h1 : ∀ i j, i < N → j < N → a i = a j → i = j) (h2 : ∀ i, i < N → A (a i)) : va_D A (zw N lay a σ) := by
  refine ⟨fun i j p q hi hj e => ?_, fun k q hk => ?_⟩
  · obtain ⟨i1, rfl⟩ := zw_inv hi
    obtain ⟨j1, rfl⟩ := zw_inv hj
    exact h1 i j i1 j1 e
  · obtain ⟨k1, rfl⟩ := zw_inv hk
    exact h2 k k1
theorem zx.D {D : va_G} {cl : List vw_C} {tys : List (ClassId × FieldType)} {A : Nat → Prop} {a : Nat → Nat} {N : Nat} {s : State} {lay : Nat → (Nat → Int) → va_E} (h : zx D cl tys A a N s) (σ : Zt) : va_D A (zw N lay a σ) := zw_D h.2.1 h.2.2.1
theorem zw_Dinv {A : Nat → Prop} {a : Nat → Nat} {N : Nat} {lay : Nat → (Nat → Int) → va_E} {σ : Zt} (h : va_D A (zw N lay a σ)) : (∀ i j, i < N → j < N → a i = a j → i = j) ∧ ∀ i, i < N → A (a i) :=
  ⟨fun i j hi hj e => h.1 i j _ _ (zw_get hi) (zw_get hj) e, fun i hi => h.2 i _ (zw_get hi)⟩
theorem zw_A {a : Nat → Nat} {N sz : Nat} {lay : Nat → (Nat → Int) → va_E} {σ : Zt} {q : Nat} : va_A (zw N lay a σ) sz q ↔ (∃ k, k < N ∧ q = a k) ∨ sz ≤ q := by
  constructor
  · rintro (⟨k, e, h⟩ | h)
    · obtain ⟨k1, h2⟩ := zw_inv h
      exact Or.inl ⟨k, k1, (Prod.mk.inj h2).1⟩
    · exact Or.inr h
  · rintro (⟨k, k1, rfl⟩ | h)
    · exact Or.inl ⟨k, _, zw_get k1⟩
    · exact Or.inr h
/-- a contract over the world: an answer that is an int -/
def zc (l : Launch) (D : va_G) (cl : List vw_C) (tys : List (ClassId × FieldType)) (N : Nat) (lay : Nat → (Nat → Int) → va_E) (a : Nat → Nat) (y : MethodName) (ws : List Cond) (rm : Room) (av : List Value) (σ : Zt) (post : Int32 → Zt → Prop) : Prop :=
  ∀ sz : Nat, Met l y ws rm (va_Pc av (fun U => U.heap.size = sz ∧ va_P D cl (zw N lay a σ) U.heap ∧ va_K D cl tys U ∧ va_D (fun _ => True) (zw N lay a σ)))
    (va_Qi post (fun (u : Zt) t => va_P D cl (zw N lay a u) t.heap) (va_A (zw N lay a σ) sz)) 0 0 (va_A (zw N lay a σ) sz)
/-- no answer -/
def zv (l : Launch) (D : va_G) (cl : List vw_C) (tys : List (ClassId × FieldType)) (N : Nat) (lay : Nat → (Nat → Int) → va_E) (a : Nat → Nat) (y : MethodName) (ws : List Cond) (rm : Room) (av : List Value) (σ : Zt) (post : Zt → Prop) : Prop :=
  ∀ sz : Nat, Met l y ws rm (va_Pc av (fun U => U.heap.size = sz ∧ va_P D cl (zw N lay a σ) U.heap ∧ va_K D cl tys U ∧ va_D (fun _ => True) (zw N lay a σ)))
    (va_Qv post (fun (u : Zt) t => va_P D cl (zw N lay a u) t.heap) (va_A (zw N lay a σ) sz)) 0 0 (va_A (zw N lay a σ) sz)
/-- the method's constants -/
def zk (p : Program) (s : State) (m : MethodId) (args : Array Value) (meth : Method) (c : Code) (cc : ByteArray) (nL : Nat) (ret : Option FieldType) (Ts : List Cond) (own : String) : Prop :=
  CallFix p m c cc nL s args Ts own ∧ meth.sig.returnType = ret ∧ meth.locks = false
theorem zk.ts {p : Program} {s : State} {m : MethodId} {args : Array Value} {meth : Method} {c : Code} {cc : ByteArray} {nL : Nat} {ret : Option FieldType} {Ts : List Cond} {own : String} (C : zk p s m args meth c cc nL ret Ts own) : ∀ w ∈ Ts, w.before args s = true := C.1.2.2.2.2
theorem zk.tb {p : Program} {s : State} {m : MethodId} {args : Array Value} {meth : Method} {c : Code} {cc : ByteArray} {nL : Nat} {ret : Option FieldType} {c0 : Cond} {own : String} (C : zk p s m args meth c cc nL ret (c0 :: zt) own) {w : Cond} (h : w ∈ zt) : w.before args s = true := C.1.2.2.2.2 w (List.mem_cons_of_mem _ h)
theorem zmem {c0 : Cond} {l : List Cond} (h : ∀ w ∈ l, w ∈ zt) : ∀ w ∈ l, w ∈ c0 :: zt := fun w q => List.mem_cons_of_mem _ (h w q)
/-- words of a call: an object's method, a static one -/
theorem zgV {c0 c1 : Cond} {own Cn : String} {idx : Nat} {y : MethodName} (h1 : Cond.methodLink own idx y ∈ zt) (h2 : Cond.instanceMethod y ∈ zt) (h3 : Cond.selects Cn y y ∈ zt) (h4 : Cond.initialized Cn ∈ zt) (h5 : c1 ∈ zt) : GoodIn (c0 :: zt) (wsV own idx Cn y (c1 :: zt)) := by
  have k : ∀ w ∈ wsV own idx Cn y (c1 :: zt), w ∈ zt := by
    intro w hw
    simp only [wsV, List.mem_append, List.mem_cons, List.not_mem_nil, or_false] at hw
    rcases hw with (rfl | rfl | rfl | rfl) | rfl | hw <;> assumption
  exact fun w hw => ⟨List.mem_cons_of_mem _ (k w hw), zt_good (k w hw)⟩
theorem zgS {c0 c1 : Cond} {own : String} {idx : Nat} {y : MethodName} (h1 : Cond.methodLink own idx y ∈ zt) (h2 : Cond.static y ∈ zt) (h4 : Cond.initialized own ∈ zt) (h5 : c1 ∈ zt) : GoodIn (c0 :: zt) (wsS own idx y (c1 :: zt)) := by
  have k : ∀ w ∈ wsS own idx y (c1 :: zt), w ∈ zt := by
    intro w hw
    simp only [wsS, List.mem_append, List.mem_cons, List.not_mem_nil, or_false] at hw
    rcases hw with (rfl | rfl | rfl) | rfl | hw <;> assumption
  exact fun w hw => ⟨List.mem_cons_of_mem _ (k w hw), zt_good (k w hw)⟩
theorem zgI {c0 c1 : Cond} (h5 : c1 ∈ zt) : GoodIn (c0 :: zt) (c1 :: zt) := by
  have k : ∀ w ∈ c1 :: zt, w ∈ zt := fun w hw => (List.mem_cons.mp hw).elim (fun e => e ▸ h5) id
  exact fun w hw => ⟨List.mem_cons_of_mem _ (k w hw), zt_good (k w hw)⟩
section ZG
variable {p : Program} {l : Launch} {e : Env} {R : Room} {s : State} {m : MethodId} {args : Array Value} {below : List Frame} {meth : Method} {c : Code} {H : Heap} {locs : List Loc} {cells slots : Nat} {Q : State → Prop}
variable {cc : ByteArray} {pc : Nat} {ls : Array Slot} {rest : List Value} {nL : Nat} {ret : Option FieldType} {Ts : List Cond} {own : String}
variable {D : va_G} {cl : List vw_C} {tys : List (ClassId × FieldType)} {A : Nat → Prop} {a : Nat → Nat} {N : Nat} {lay : Nat → (Nat → Int) → va_E} {σ : Zt}
theorem zg_iconst {n : Int} (C : zk p s m args meth c cc nL ret Ts own) (hdg : decode cc pc = .ok (.iconst n, 1))
    (k : W p l e R s m args below meth c H locs cells slots Q (F0 m (pc + 1) ls (.int (jI n) :: rest))) : W p l e R s m args below meth c H locs cells slots Q (F0 m pc ls rest) := lv_iconst C.1.1 C.1.2.1 hdg rfl k
theorem zg_bipush {n : Int} (C : zk p s m args meth c cc nL ret Ts own) (hdg : decode cc pc = .ok (.bipush n, 2)) (hv : (Int8.ofInt n).toInt32 = jI n)
    (k : W p l e R s m args below meth c H locs cells slots Q (F0 m (pc + 2) ls (.int (jI n) :: rest))) : W p l e R s m args below meth c H locs cells slots Q (F0 m pc ls rest) := lv_bipush C.1.1 C.1.2.1 hdg hv k
theorem zg_sipush {n : Int} (C : zk p s m args meth c cc nL ret Ts own) (hdg : decode cc pc = .ok (.sipush n, 3)) (hv : (Int16.ofInt n).toInt32 = jI n)
    (k : W p l e R s m args below meth c H locs cells slots Q (F0 m (pc + 3) ls (.int (jI n) :: rest))) : W p l e R s m args below meth c H locs cells slots Q (F0 m pc ls rest) := lv_sipush C.1.1 C.1.2.1 hdg hv k
theorem zg_iadd {x y : Int} (C : zk p s m args meth c cc nL ret Ts own) (hdg : decode cc pc = .ok (.iadd, 1))
    (k : W p l e R s m args below meth c H locs cells slots Q (F0 m (pc + 1) ls (.int (jI (x + y)) :: rest))) : W p l e R s m args below meth c H locs cells slots Q (F0 m pc ls (.int (jI y) :: .int (jI x) :: rest)) := lv_iadd C.1.1 C.1.2.1 hdg (by rw [jI_add]; exact k)
theorem zg_isub {x y : Int} (C : zk p s m args meth c cc nL ret Ts own) (hdg : decode cc pc = .ok (.isub, 1))
    (k : W p l e R s m args below meth c H locs cells slots Q (F0 m (pc + 1) ls (.int (jI (x - y)) :: rest))) : W p l e R s m args below meth c H locs cells slots Q (F0 m pc ls (.int (jI y) :: .int (jI x) :: rest)) := lv_isub C.1.1 C.1.2.1 hdg (by rw [jI_sub]; exact k)
theorem zg_imul {x y : Int} (C : zk p s m args meth c cc nL ret Ts own) (hdg : decode cc pc = .ok (.imul, 1))
    (k : W p l e R s m args below meth c H locs cells slots Q (F0 m (pc + 1) ls (.int (jI (x * y)) :: rest))) : W p l e R s m args below meth c H locs cells slots Q (F0 m pc ls (.int (jI y) :: .int (jI x) :: rest)) := lv_imul C.1.1 C.1.2.1 hdg (by rw [jI_mul]; exact k)
theorem zg_irem {x y : Int} (C : zk p s m args meth c cc nL ret Ts own) (x0 : 0 ≤ x) (x1 : x < 2147483648) (y0 : 0 < y) (y1 : y < 2147483648) (hdg : decode cc pc = .ok (.irem, 1))
    (k : W p l e R s m args below meth c H locs cells slots Q (F0 m (pc + 1) ls (.int (jI (x % y)) :: rest))) : W p l e R s m args below meth c H locs cells slots Q (F0 m pc ls (.int (jI y) :: .int (jI x) :: rest)) := by
  have h1 : jI (x % y) = jI x - jI x / jI y * jI y := by
    rw [jI_toNat x0, jI_toNat (Int.le_of_lt y0), pk_rem (by omega) (by omega) (by omega), jI_toNat (Int.emod_nonneg x (by omega)), Int.toNat_emod x0 (Int.le_of_lt y0)]
  rw [h1] at k
  exact lv_irem C.1.1 C.1.2.1 hdg (fun h => by rw [← jI_0, jI_eq (by omega) y1 (by omega) (by omega)] at h; omega) k
theorem zg_iushr {x z : Int} (C : zk p s m args meth c cc nL ret Ts own) (n : Nat) (hs : (((jI z).toUInt32 &&& Int32.toUInt32 31).toBitVec % 32).toNat = n) (hdg : decode cc pc = .ok (.iushr, 1))
    (k : W p l e R s m args below meth c H locs cells slots Q (F0 m (pc + 1) ls (.int (jI (x % 4294967296 / 2 ^ n)) :: rest))) : W p l e R s m args below meth c H locs cells slots Q (F0 m pc ls (.int (jI z) :: .int (jI x) :: rest)) := by
  have h0 : 0 ≤ x % 4294967296 := Int.emod_nonneg x (by omega)
  have h1 : x % 4294967296 < 4294967296 := Int.emod_lt_of_pos x (by omega)
  refine lv_iushr C.1.1 C.1.2.1 hdg ?_ k
  rw [jI_mod x, jI_toNat h0, pk_ushrN (by omega) (jI z) n hs, ← jI_nI]
  congr 1
  rw [Int.natCast_ediv, Int.toNat_of_nonneg h0]
  simp
theorem zg_iand {x z : Int} (C : zk p s m args meth c cc nL ret Ts own) (n : Nat) (hs : (jI z).toBitVec.toNat = 2 ^ n - 1) (x0 : 0 ≤ x) (x1 : x < 2147483648) (hdg : decode cc pc = .ok (.iand, 1))
    (k : W p l e R s m args below meth c H locs cells slots Q (F0 m (pc + 1) ls (.int (jI (x % 2 ^ n)) :: rest))) : W p l e R s m args below meth c H locs cells slots Q (F0 m pc ls (.int (jI z) :: .int (jI x) :: rest)) := by
  refine lv_iand C.1.1 C.1.2.1 hdg ?_
  rw [jI_toNat x0, pk_andN (by omega) n hs, ← jI_nI]
  have h2 : ((x.toNat % 2 ^ n : Nat) : Int) = x % 2 ^ n := by
    rw [Int.natCast_emod, Int.toNat_of_nonneg x0]; simp
  rw [h2]
  exact k
theorem zg_shl {x z : Int} (C : zk p s m args meth c cc nL ret Ts own) (n : Nat) (hs : ((jI z &&& 31).toBitVec.smod 32).toNat = n) (x0 : 0 ≤ x) (x1 : x * 2 ^ n < 4294967296) (hdg : decode cc pc = .ok (.ishl, 1))
    (k : W p l e R s m args below meth c H locs cells slots Q (F0 m (pc + 1) ls (.int (jI (x * 2 ^ n)) :: rest))) : W p l e R s m args below meth c H locs cells slots Q (F0 m pc ls (.int (jI z) :: .int (jI x) :: rest)) := by
  refine lv_ishl C.1.1 C.1.2.1 hdg ?_
  have h3 : ((x.toNat * 2 ^ n : Nat) : Int) = x * 2 ^ n := by
    rw [Int.natCast_mul, Int.toNat_of_nonneg x0]; simp
  rw [jI_toNat x0, pk_shlN (jI z &&& 31) n hs (by omega), ← jI_nI, h3]
  exact k
theorem zg_or {x y : Int} (C : zk p s m args meth c cc nL ret Ts own) (n : Nat) (w : Int) (w0 : 0 ≤ w) (hx : x = w * 2 ^ n) (hy0 : 0 ≤ y) (hy1 : y < 2 ^ n) (hb : x + y < 2147483648) (hdg : decode cc pc = .ok (.ior, 1))
    (k : W p l e R s m args below meth c H locs cells slots Q (F0 m (pc + 1) ls (.int (jI (x + y)) :: rest))) : W p l e R s m args below meth c H locs cells slots Q (F0 m pc ls (.int (jI y) :: .int (jI x) :: rest)) := by
  refine lv_ior C.1.1 C.1.2.1 hdg ?_
  have hp : (0 : Int) < 2 ^ n := Int.pow_pos (by omega)
  have x0 : 0 ≤ x := by rw [hx]; exact Int.mul_nonneg w0 (Int.le_of_lt hp)
  have e1 : x.toNat = 2 ^ n * w.toNat := by
    have h : ((x.toNat : Nat) : Int) = ((2 ^ n * w.toNat : Nat) : Int) := by
      rw [Int.toNat_of_nonneg x0, Int.natCast_mul, Int.toNat_of_nonneg w0, hx, Int.mul_comm]; simp
    exact Int.ofNat.inj h
  have e2 : y.toNat < 2 ^ n := by
    have h : ((y.toNat : Nat) : Int) < ((2 ^ n : Nat) : Int) := by
      rw [Int.toNat_of_nonneg hy0]; simpa using hy1
    exact Int.ofNat_lt.mp h
  have h1 : jI x ||| jI y = jI (x + y) := by
    rw [jI_toNat x0, jI_toNat hy0, jI_toNat (by omega), Int.toNat_add x0 hy0, e1, Nat.two_pow_add_eq_or_of_lt e2]
    apply Int32.toBitVec_inj.mp
    show (BitVec.ofNat 32 _) ||| (BitVec.ofNat 32 _) = BitVec.ofNat 32 _
    rw [BitVec.ofNat_or]
  rw [h1]
  exact k
theorem zg_orr {x y : Int} (C : zk p s m args meth c cc nL ret Ts own) (n : Nat) (w : Int) (w0 : 0 ≤ w) (hy : y = w * 2 ^ n) (hx0 : 0 ≤ x) (hx1 : x < 2 ^ n) (hb : x + y < 2147483648) (hdg : decode cc pc = .ok (.ior, 1))
    (k : W p l e R s m args below meth c H locs cells slots Q (F0 m (pc + 1) ls (.int (jI (x + y)) :: rest))) : W p l e R s m args below meth c H locs cells slots Q (F0 m pc ls (.int (jI y) :: .int (jI x) :: rest)) := by
  refine lv_ior C.1.1 C.1.2.1 hdg ?_
  have hp : (0 : Int) < 2 ^ n := Int.pow_pos (by omega)
  have y0 : 0 ≤ y := by rw [hy]; exact Int.mul_nonneg w0 (Int.le_of_lt hp)
  have e1 : y.toNat = 2 ^ n * w.toNat := by
    have h : ((y.toNat : Nat) : Int) = ((2 ^ n * w.toNat : Nat) : Int) := by
      rw [Int.toNat_of_nonneg y0, Int.natCast_mul, Int.toNat_of_nonneg w0, hy, Int.mul_comm]; simp
    exact Int.ofNat.inj h
  have e2 : x.toNat < 2 ^ n := by
    have h : ((x.toNat : Nat) : Int) < ((2 ^ n : Nat) : Int) := by
      rw [Int.toNat_of_nonneg hx0]; simpa using hx1
    exact Int.ofNat_lt.mp h
  have h1 : jI x ||| jI y = jI (x + y) := by
    rw [jI_toNat hx0, jI_toNat y0, jI_toNat (by omega), Int.toNat_add hx0 y0, e1, Nat.add_comm, Nat.two_pow_add_eq_or_of_lt e2, Nat.or_comm]
    apply Int32.toBitVec_inj.mp
    show (BitVec.ofNat 32 _) ||| (BitVec.ofNat 32 _) = BitVec.ofNat 32 _
    rw [BitVec.ofNat_or]
  rw [h1]
  exact k
-- branches
theorem zg_ifeqB {b : Bool} {off : Int} {tgt : Nat} (C : zk p s m args meth c cc nL ret Ts own) (hdg : decode cc pc = .ok (.ifCond .eq off, 3)) (ht : (pc : Int) + off = (tgt : Int))
    (kt : b = false → W p l e R s m args below meth c H locs cells slots Q (F0 m tgt ls rest)) (kf : b = true → W p l e R s m args below meth c H locs cells slots Q (F0 m (pc + 3) ls rest)) : W p l e R s m args below meth c H locs cells slots Q (F0 m pc ls (.int (jI (bI b)) :: rest)) :=
  lv_if_eq C.1.1 C.1.2.1 hdg ht (fun h => kt ((jb_eq b).mp h)) (fun h => kf ((jb_ne b).mp h))
theorem zg_ifneB {b : Bool} {off : Int} {tgt : Nat} (C : zk p s m args meth c cc nL ret Ts own) (hdg : decode cc pc = .ok (.ifCond .ne off, 3)) (ht : (pc : Int) + off = (tgt : Int))
    (kt : b = true → W p l e R s m args below meth c H locs cells slots Q (F0 m tgt ls rest)) (kf : b = false → W p l e R s m args below meth c H locs cells slots Q (F0 m (pc + 3) ls rest)) : W p l e R s m args below meth c H locs cells slots Q (F0 m pc ls (.int (jI (bI b)) :: rest)) :=
  lv_if_ne C.1.1 C.1.2.1 hdg ht (fun h => kt ((jb_ne b).mp h)) (fun h => kf ((jb_eq b).mp h))
theorem zg_icmp_eq {x y : Int} {off : Int} {tgt : Nat} (C : zk p s m args meth c cc nL ret Ts own) (x1 : -2147483648 ≤ x) (x2 : x < 2147483648) (y1 : -2147483648 ≤ y) (y2 : y < 2147483648) (hdg : decode cc pc = .ok (.if_icmp .eq off, 3)) (ht : (pc : Int) + off = (tgt : Int))
    (kt : x = y → W p l e R s m args below meth c H locs cells slots Q (F0 m tgt ls rest)) (kf : x ≠ y → W p l e R s m args below meth c H locs cells slots Q (F0 m (pc + 3) ls rest)) : W p l e R s m args below meth c H locs cells slots Q (F0 m pc ls (.int (jI y) :: .int (jI x) :: rest)) :=
  lv_icmp_eq C.1.1 C.1.2.1 hdg ht (fun h => kt ((jI_eq x1 x2 y1 y2).mp h)) (fun h => kf (fun q => h (by rw [q])))
theorem zg_if_eq {x : Int} {off : Int} {tgt : Nat} (C : zk p s m args meth c cc nL ret Ts own) (x1 : -2147483648 ≤ x) (x2 : x < 2147483648) (hdg : decode cc pc = .ok (.ifCond .eq off, 3)) (ht : (pc : Int) + off = (tgt : Int))
    (kt : x = 0 → W p l e R s m args below meth c H locs cells slots Q (F0 m tgt ls rest)) (kf : x ≠ 0 → W p l e R s m args below meth c H locs cells slots Q (F0 m (pc + 3) ls rest)) : W p l e R s m args below meth c H locs cells slots Q (F0 m pc ls (.int (jI x) :: rest)) :=
  lv_if_eq C.1.1 C.1.2.1 hdg ht (fun h => kt ((jI_eq x1 x2 (by omega) (by omega)).mp h)) (fun h => kf (fun q => h (by rw [q]; rfl)))
theorem zg_icmp_ne {x y : Int} {off : Int} {tgt : Nat} (C : zk p s m args meth c cc nL ret Ts own) (x1 : -2147483648 ≤ x) (x2 : x < 2147483648) (y1 : -2147483648 ≤ y) (y2 : y < 2147483648) (hdg : decode cc pc = .ok (.if_icmp .ne off, 3)) (ht : (pc : Int) + off = (tgt : Int))
    (kt : x ≠ y → W p l e R s m args below meth c H locs cells slots Q (F0 m tgt ls rest)) (kf : x = y → W p l e R s m args below meth c H locs cells slots Q (F0 m (pc + 3) ls rest)) : W p l e R s m args below meth c H locs cells slots Q (F0 m pc ls (.int (jI y) :: .int (jI x) :: rest)) :=
  lv_icmp_ne C.1.1 C.1.2.1 hdg ht (fun h => kt (fun q => h (by rw [q]))) (fun h => kf ((jI_eq x1 x2 y1 y2).mp h))
theorem zg_if_ne {x : Int} {off : Int} {tgt : Nat} (C : zk p s m args meth c cc nL ret Ts own) (x1 : -2147483648 ≤ x) (x2 : x < 2147483648) (hdg : decode cc pc = .ok (.ifCond .ne off, 3)) (ht : (pc : Int) + off = (tgt : Int))
    (kt : x ≠ 0 → W p l e R s m args below meth c H locs cells slots Q (F0 m tgt ls rest)) (kf : x = 0 → W p l e R s m args below meth c H locs cells slots Q (F0 m (pc + 3) ls rest)) : W p l e R s m args below meth c H locs cells slots Q (F0 m pc ls (.int (jI x) :: rest)) :=
  lv_if_ne C.1.1 C.1.2.1 hdg ht (fun h => kt (fun q => h (by rw [q]; rfl))) (fun h => kf ((jI_eq x1 x2 (by omega) (by omega)).mp h))
theorem zg_icmp_lt {x y : Int} {off : Int} {tgt : Nat} (C : zk p s m args meth c cc nL ret Ts own) (x1 : -2147483648 ≤ x) (x2 : x < 2147483648) (y1 : -2147483648 ≤ y) (y2 : y < 2147483648) (hdg : decode cc pc = .ok (.if_icmp .lt off, 3)) (ht : (pc : Int) + off = (tgt : Int))
    (kt : x < y → W p l e R s m args below meth c H locs cells slots Q (F0 m tgt ls rest)) (kf : y ≤ x → W p l e R s m args below meth c H locs cells slots Q (F0 m (pc + 3) ls rest)) : W p l e R s m args below meth c H locs cells slots Q (F0 m pc ls (.int (jI y) :: .int (jI x) :: rest)) :=
  lv_icmp_lt C.1.1 C.1.2.1 hdg ht (fun h => kt ((jI_lt x1 x2 y1 y2).mp h)) (fun h => kf (Int.not_lt.mp (fun q => h ((jI_lt x1 x2 y1 y2).mpr q))))
theorem zg_if_lt {x : Int} {off : Int} {tgt : Nat} (C : zk p s m args meth c cc nL ret Ts own) (x1 : -2147483648 ≤ x) (x2 : x < 2147483648) (hdg : decode cc pc = .ok (.ifCond .lt off, 3)) (ht : (pc : Int) + off = (tgt : Int))
    (kt : x < 0 → W p l e R s m args below meth c H locs cells slots Q (F0 m tgt ls rest)) (kf : 0 ≤ x → W p l e R s m args below meth c H locs cells slots Q (F0 m (pc + 3) ls rest)) : W p l e R s m args below meth c H locs cells slots Q (F0 m pc ls (.int (jI x) :: rest)) :=
  lv_if_lt C.1.1 C.1.2.1 hdg ht (fun h => kt ((jI_lt x1 x2 (by omega) (by omega)).mp h)) (fun h => kf (Int.not_lt.mp (fun q => h ((jI_lt x1 x2 (by omega) (by omega)).mpr q))))
theorem zg_icmp_ge {x y : Int} {off : Int} {tgt : Nat} (C : zk p s m args meth c cc nL ret Ts own) (x1 : -2147483648 ≤ x) (x2 : x < 2147483648) (y1 : -2147483648 ≤ y) (y2 : y < 2147483648) (hdg : decode cc pc = .ok (.if_icmp .ge off, 3)) (ht : (pc : Int) + off = (tgt : Int))
    (kt : y ≤ x → W p l e R s m args below meth c H locs cells slots Q (F0 m tgt ls rest)) (kf : x < y → W p l e R s m args below meth c H locs cells slots Q (F0 m (pc + 3) ls rest)) : W p l e R s m args below meth c H locs cells slots Q (F0 m pc ls (.int (jI y) :: .int (jI x) :: rest)) :=
  lv_icmp_ge C.1.1 C.1.2.1 hdg ht (fun h => kt ((jI_le y1 y2 x1 x2).mp h)) (fun h => kf (Int.not_le.mp (fun q => h ((jI_le y1 y2 x1 x2).mpr q))))
theorem zg_if_ge {x : Int} {off : Int} {tgt : Nat} (C : zk p s m args meth c cc nL ret Ts own) (x1 : -2147483648 ≤ x) (x2 : x < 2147483648) (hdg : decode cc pc = .ok (.ifCond .ge off, 3)) (ht : (pc : Int) + off = (tgt : Int))
    (kt : 0 ≤ x → W p l e R s m args below meth c H locs cells slots Q (F0 m tgt ls rest)) (kf : x < 0 → W p l e R s m args below meth c H locs cells slots Q (F0 m (pc + 3) ls rest)) : W p l e R s m args below meth c H locs cells slots Q (F0 m pc ls (.int (jI x) :: rest)) :=
  lv_if_ge C.1.1 C.1.2.1 hdg ht (fun h => kt ((jI_le (by omega) (by omega) x1 x2).mp h)) (fun h => kf (Int.not_le.mp (fun q => h ((jI_le (by omega) (by omega) x1 x2).mpr q))))
theorem zg_icmp_gt {x y : Int} {off : Int} {tgt : Nat} (C : zk p s m args meth c cc nL ret Ts own) (x1 : -2147483648 ≤ x) (x2 : x < 2147483648) (y1 : -2147483648 ≤ y) (y2 : y < 2147483648) (hdg : decode cc pc = .ok (.if_icmp .gt off, 3)) (ht : (pc : Int) + off = (tgt : Int))
    (kt : y < x → W p l e R s m args below meth c H locs cells slots Q (F0 m tgt ls rest)) (kf : x ≤ y → W p l e R s m args below meth c H locs cells slots Q (F0 m (pc + 3) ls rest)) : W p l e R s m args below meth c H locs cells slots Q (F0 m pc ls (.int (jI y) :: .int (jI x) :: rest)) :=
  lv_icmp_gt C.1.1 C.1.2.1 hdg ht (fun h => kt ((jI_lt y1 y2 x1 x2).mp h)) (fun h => kf (Int.not_lt.mp (fun q => h ((jI_lt y1 y2 x1 x2).mpr q))))
theorem zg_if_gt {x : Int} {off : Int} {tgt : Nat} (C : zk p s m args meth c cc nL ret Ts own) (x1 : -2147483648 ≤ x) (x2 : x < 2147483648) (hdg : decode cc pc = .ok (.ifCond .gt off, 3)) (ht : (pc : Int) + off = (tgt : Int))
    (kt : 0 < x → W p l e R s m args below meth c H locs cells slots Q (F0 m tgt ls rest)) (kf : x ≤ 0 → W p l e R s m args below meth c H locs cells slots Q (F0 m (pc + 3) ls rest)) : W p l e R s m args below meth c H locs cells slots Q (F0 m pc ls (.int (jI x) :: rest)) :=
  lv_if_gt C.1.1 C.1.2.1 hdg ht (fun h => kt ((jI_lt (by omega) (by omega) x1 x2).mp h)) (fun h => kf (Int.not_lt.mp (fun q => h ((jI_lt (by omega) (by omega) x1 x2).mpr q))))
theorem zg_icmp_le {x y : Int} {off : Int} {tgt : Nat} (C : zk p s m args meth c cc nL ret Ts own) (x1 : -2147483648 ≤ x) (x2 : x < 2147483648) (y1 : -2147483648 ≤ y) (y2 : y < 2147483648) (hdg : decode cc pc = .ok (.if_icmp .le off, 3)) (ht : (pc : Int) + off = (tgt : Int))
    (kt : x ≤ y → W p l e R s m args below meth c H locs cells slots Q (F0 m tgt ls rest)) (kf : y < x → W p l e R s m args below meth c H locs cells slots Q (F0 m (pc + 3) ls rest)) : W p l e R s m args below meth c H locs cells slots Q (F0 m pc ls (.int (jI y) :: .int (jI x) :: rest)) :=
  lv_icmp_le C.1.1 C.1.2.1 hdg ht (fun h => kt ((jI_le x1 x2 y1 y2).mp h)) (fun h => kf (Int.not_le.mp (fun q => h ((jI_le x1 x2 y1 y2).mpr q))))
theorem zg_if_le {x : Int} {off : Int} {tgt : Nat} (C : zk p s m args meth c cc nL ret Ts own) (x1 : -2147483648 ≤ x) (x2 : x < 2147483648) (hdg : decode cc pc = .ok (.ifCond .le off, 3)) (ht : (pc : Int) + off = (tgt : Int))
    (kt : x ≤ 0 → W p l e R s m args below meth c H locs cells slots Q (F0 m tgt ls rest)) (kf : 0 < x → W p l e R s m args below meth c H locs cells slots Q (F0 m (pc + 3) ls rest)) : W p l e R s m args below meth c H locs cells slots Q (F0 m pc ls (.int (jI x) :: rest)) :=
  lv_if_le C.1.1 C.1.2.1 hdg ht (fun h => kt ((jI_le x1 x2 (by omega) (by omega)).mp h)) (fun h => kf (Int.not_le.mp (fun q => h ((jI_le x1 x2 (by omega) (by omega)).mpr q))))
theorem zg_tswO {x : Int} {dflt lo hi : Int} {offs : Array Int} {len tgt : Nat} (C : zk p s m args meth c cc nL ret Ts own) (x1 : -2147483648 ≤ x) (x2 : x < 2147483648) (hdg : decode cc pc = .ok (.tableswitch dflt lo hi offs, len)) (h : x < lo ∨ hi < x) (ht : (pc : Int) + dflt = (tgt : Int))
    (k : W p l e R s m args below meth c H locs cells slots Q (F0 m tgt ls rest)) : W p l e R s m args below meth c H locs cells slots Q (F0 m pc ls (.int (jI x) :: rest)) := lv_tableOut C.1.1 C.1.2.1 hdg (by rw [jI_toInt x1 x2]; exact h) ht k
theorem zg_tswI {x v : Int} {dflt lo hi off : Int} {offs : Array Int} {len tgt : Nat} (C : zk p s m args meth c cc nL ret Ts own) (hx : x = v) (x1 : -2147483648 ≤ v) (x2 : v < 2147483648) (hdg : decode cc pc = .ok (.tableswitch dflt lo hi offs, len)) (h1 : ¬ v < lo) (h2 : ¬ hi < v) (ho : offs[(v - lo).toNat]? = some off) (ht : (pc : Int) + off = (tgt : Int))
    (k : W p l e R s m args below meth c H locs cells slots Q (F0 m tgt ls rest)) : W p l e R s m args below meth c H locs cells slots Q (F0 m pc ls (.int (jI x) :: rest)) := by
  subst hx
  exact lv_tableIn C.1.1 C.1.2.1 hdg (by rw [jI_toInt x1 x2]; exact h1) (by rw [jI_toInt x1 x2]; exact h2) (by rw [jI_toInt x1 x2]; exact ho) ht k
-- loads and stores of locals: the kit's own rows, by C
theorem zg_iload_n {k : Fin 4} {i : Nat} {x : Int32} (C : zk p s m args meth c cc nL ret Ts own) (hdg : decode cc pc = .ok (.iload_n k, 1)) (hi : (k : Nat) = i) (hl : ls[i]? = some (.val (.int x)))
    (kk : W p l e R s m args below meth c H locs cells slots Q (F0 m (pc + 1) ls (.int x :: rest))) : W p l e R s m args below meth c H locs cells slots Q (F0 m pc ls rest) := lv_iload_n C.1.1 C.1.2.1 hdg hi hl kk
theorem zg_iload {i : Nat} {x : Int32} (C : zk p s m args meth c cc nL ret Ts own) (hdg : decode cc pc = .ok (.iload i, 2)) (hl : ls[i]? = some (.val (.int x)))
    (kk : W p l e R s m args below meth c H locs cells slots Q (F0 m (pc + 2) ls (.int x :: rest))) : W p l e R s m args below meth c H locs cells slots Q (F0 m pc ls rest) := lv_iload C.1.1 C.1.2.1 hdg hl kk
theorem zg_aload_n {k : Fin 4} {i x : Nat} (C : zk p s m args meth c cc nL ret Ts own) (hdg : decode cc pc = .ok (.aload_n k, 1)) (hi : (k : Nat) = i) (hl : ls[i]? = some (.val (.ref x)))
    (kk : W p l e R s m args below meth c H locs cells slots Q (F0 m (pc + 1) ls (.ref x :: rest))) : W p l e R s m args below meth c H locs cells slots Q (F0 m pc ls rest) := lv_aload_n C.1.1 C.1.2.1 hdg hi hl kk
theorem zg_aload {i x : Nat} (C : zk p s m args meth c cc nL ret Ts own) (hdg : decode cc pc = .ok (.aload i, 2)) (hl : ls[i]? = some (.val (.ref x)))
    (kk : W p l e R s m args below meth c H locs cells slots Q (F0 m (pc + 2) ls (.ref x :: rest))) : W p l e R s m args below meth c H locs cells slots Q (F0 m pc ls rest) := lv_aload C.1.1 C.1.2.1 hdg hl kk
theorem zg_istore_n {k : Fin 4} {i : Nat} {x : Int32} {lv lv' : List (Nat × Value)} (C : zk p s m args meth c cc nL ret Ts own) (hdg : decode cc pc = .ok (.istore_n k, 1)) (hi : (k : Nat) = i) (h : lv_has ls nL lv) (hn : i < nL) (hl : (i, Value.int x) :: lv.filter (fun q => !(q.1 == i) && !(q.1 + 1 == i && q.2.category == 2)) = lv')
    (kk : ∀ ls' : Array Slot, lv_has ls' nL lv' → W p l e R s m args below meth c H locs cells slots Q (F0 m (pc + 1) ls' rest)) : W p l e R s m args below meth c H locs cells slots Q (F0 m pc ls (.int x :: rest)) := lv_istore_n C.1.1 C.1.2.1 hdg hi h hn hl kk
theorem zg_istore {i : Nat} {x : Int32} {lv lv' : List (Nat × Value)} (C : zk p s m args meth c cc nL ret Ts own) (hdg : decode cc pc = .ok (.istore i, 2)) (h : lv_has ls nL lv) (hn : i < nL) (hl : (i, Value.int x) :: lv.filter (fun q => !(q.1 == i) && !(q.1 + 1 == i && q.2.category == 2)) = lv')
    (kk : ∀ ls' : Array Slot, lv_has ls' nL lv' → W p l e R s m args below meth c H locs cells slots Q (F0 m (pc + 2) ls' rest)) : W p l e R s m args below meth c H locs cells slots Q (F0 m pc ls (.int x :: rest)) := lv_istore C.1.1 C.1.2.1 hdg h hn hl kk
theorem zg_astore_n {k : Fin 4} {i x : Nat} {lv lv' : List (Nat × Value)} (C : zk p s m args meth c cc nL ret Ts own) (hdg : decode cc pc = .ok (.astore_n k, 1)) (hi : (k : Nat) = i) (h : lv_has ls nL lv) (hn : i < nL) (hl : (i, Value.ref x) :: lv.filter (fun q => !(q.1 == i) && !(q.1 + 1 == i && q.2.category == 2)) = lv')
    (kk : ∀ ls' : Array Slot, lv_has ls' nL lv' → W p l e R s m args below meth c H locs cells slots Q (F0 m (pc + 1) ls' rest)) : W p l e R s m args below meth c H locs cells slots Q (F0 m pc ls (.ref x :: rest)) := lv_astore_n C.1.1 C.1.2.1 hdg hi h hn hl kk
theorem zg_astore {i x : Nat} {lv lv' : List (Nat × Value)} (C : zk p s m args meth c cc nL ret Ts own) (hdg : decode cc pc = .ok (.astore i, 2)) (h : lv_has ls nL lv) (hn : i < nL) (hl : (i, Value.ref x) :: lv.filter (fun q => !(q.1 == i) && !(q.1 + 1 == i && q.2.category == 2)) = lv')
    (kk : ∀ ls' : Array Slot, lv_has ls' nL lv' → W p l e R s m args below meth c H locs cells slots Q (F0 m (pc + 2) ls' rest)) : W p l e R s m args below meth c H locs cells slots Q (F0 m pc ls (.ref x :: rest)) := lv_astore C.1.1 C.1.2.1 hdg h hn hl kk
theorem zg_iinc {i k : Nat} {n x : Int} {lv lv' : List (Nat × Value)} (C : zk p s m args meth c cc nL ret Ts own) (hdg : decode cc pc = .ok (.iinc i n, 3)) (h : lv_has ls nL lv) (hk : lv[k]? = some (i, .int (jI x))) (hn : i < nL) (hl : (i, Value.int (jI (x + n))) :: lv.filter (fun q => !(q.1 == i) && !(q.1 + 1 == i && q.2.category == 2)) = lv')
    (kk : ∀ ls' : Array Slot, lv_has ls' nL lv' → W p l e R s m args below meth c H locs cells slots Q (F0 m (pc + 3) ls' rest)) : W p l e R s m args below meth c H locs cells slots Q (F0 m pc ls rest) := lv_iinc C.1.1 C.1.2.1 hdg h hk (jI_add x n) hn hl kk
theorem zg_dup {v : Value} (C : zk p s m args meth c cc nL ret Ts own) (hdg : decode cc pc = .ok (.dup, 1)) (hv : v.category = 1)
    (k : W p l e R s m args below meth c H locs cells slots Q (F0 m (pc + 1) ls (v :: v :: rest))) : W p l e R s m args below meth c H locs cells slots Q (F0 m pc ls (v :: rest)) := lv_dup C.1.1 C.1.2.1 hdg hv k
theorem zg_pop {v : Value} (C : zk p s m args meth c cc nL ret Ts own) (hdg : decode cc pc = .ok (.pop, 1)) (hv : v.category = 1)
    (k : W p l e R s m args below meth c H locs cells slots Q (F0 m (pc + 1) ls rest)) : W p l e R s m args below meth c H locs cells slots Q (F0 m pc ls (v :: rest)) := lv_pop C.1.1 C.1.2.1 hdg hv k
theorem zg_dup2 {v w : Value} (C : zk p s m args meth c cc nL ret Ts own) (hdg : decode cc pc = .ok (.dup2, 1)) (hv : v.category = 1) (hw : w.category = 1)
    (k : W p l e R s m args below meth c H locs cells slots Q (F0 m (pc + 1) ls (v :: w :: v :: w :: rest))) : W p l e R s m args below meth c H locs cells slots Q (F0 m pc ls (v :: w :: rest)) := lv_dup2_11 C.1.1 C.1.2.1 hdg hv hw k
theorem zg_goto {off : Int} {tgt : Nat} (C : zk p s m args meth c cc nL ret Ts own) (hdg : decode cc pc = .ok (.goto off, 3)) (ht : (pc : Int) + off = (tgt : Int)) (k : W p l e R s m args below meth c H locs cells slots Q (F0 m tgt ls rest)) : W p l e R s m args below meth c H locs cells slots Q (F0 m pc ls rest) := lv_goto C.1.1 C.1.2.1 hdg ht k
theorem zg_ldc {index : Nat} {v : Int} {v' : Int32} (C : zk p s m args meth c cc nL ret Ts own) (hconst : (Jvm.Cond.constant own index v').before args s = true) (hv : v' = jI v) (hdg : decode cc pc = .ok (.ldc index, 2)) (k : W p l e R s m args below meth c H locs cells slots Q (F0 m (pc + 2) ls (.int (jI v) :: rest))) : W p l e R s m args below meth c H locs cells slots Q (F0 m pc ls rest) := lv_ldc C.1.1 C.1.2.1 C.1.2.2.2.1 hconst hdg (by rw [hv]; exact k)
-- fields
theorem zg_get {k ci j index M : Nat} {fs : List Value} {ref Cn : String} {T : u_T} {v : Value} (C : zk p s m args meth c cc nL ret Ts own) (X : zx D cl tys A a N s) (hP : va_P D cl (zw N lay a σ) H) (hk : k < N) (hlay : lay k (σ k) = .inr (ci, fs)) (hc : cl[ci]? = some (Cn, T, M)) (hin : ∀ w ∈ u_ws Cn T M, w ∈ Ts) (hj : j < M)
    (hlink : (Cond.fieldLink own index ref (T j).2.1 (T j).2.2.1).before args s = true) (hsame : ∀ x, s.fieldFound? (T j).1 (T j).2.1 (T j).2.2.1 = some x → s.fieldFound? ref (T j).2.1 (T j).2.2.1 = some x) (hv : fs[j]? = some v) (hdg : decode cc pc = .ok (.getfield index, 3))
    (kk : W p l e R s m args below meth c H locs cells slots Q (F0 m (pc + 3) ls (v :: rest))) : W p l e R s m args below meth c H locs cells slots Q (F0 m pc ls (.ref (a k) :: rest)) :=
  va_get C.1.1 C.1.2.1 C.1.2.2.2.2 hin C.1.2.2.2.1 X.1 hP k (by rw [zw_get hk, hlay]) hc j hj hlink hsame hv hdg kk
theorem zg_put {k ci j index M : Nat} {fs : List Value} {ref Cn : String} {T : u_T} {v : Int} (C : zk p s m args meth c cc nL ret Ts own) (X : zx D cl tys A a N s) (hP : va_P D cl (zw N lay a σ) H) (hS : va_S A s.heap H locs) (hk : k < N) (hlay : lay k (σ k) = .inr (ci, fs)) (hc : cl[ci]? = some (Cn, T, M)) (hin : ∀ w ∈ u_ws Cn T M, w ∈ Ts)
    (ty0 : Nat → FieldType) (hty : ∀ k, k < M → parseFieldDescriptor (T k).2.2.1 = some (ty0 k)) (hnm : ∀ a, a < M → ∀ b, b < M → a ≠ b → (T a).2.1 ≠ (T b).2.1) (hj : j < M)
    (hlink : (Cond.fieldLink own index ref (T j).2.1 (T j).2.2.1).before args s = true) (hsame : ∀ x, s.fieldFound? (T j).1 (T j).2.1 (T j).2.2.1 = some x → s.fieldFound? ref (T j).2.1 (T j).2.2.1 = some x) (hfin : (T j).2.2.2 = false) (hd : parseFieldDescriptor (T j).2.2.1 = some .int) (hl : j < fs.length)
    (hset : lay k (fun i => if i = j then v else σ k i) = .inr (ci, fs.set j (.int (jI v)))) (hdg : decode cc pc = .ok (.putfield index, 3))
    (kk : ∀ (H1 : Heap) (locs1 : List Loc), va_P D cl (zw N lay a (zu σ k j v)) H1 → va_S A s.heap H1 locs1 → W p l e R s m args below meth c H1 locs1 cells slots Q (F0 m (pc + 3) ls rest)) : W p l e R s m args below meth c H locs cells slots Q (F0 m pc ls (.int (jI v) :: .ref (a k) :: rest)) :=
  va_put C.1.1 C.1.2.1 C.1.2.2.2.2 hin ty0 hty hnm C.1.2.2.2.1 X.1 hP (X.D σ) hS k (by rw [zw_get hk, hlay]) hc j hj hlink hsame hfin hd rfl rfl hl hdg
    (fun H1 locs1 hP1 _ hS1 => kk H1 locs1 (by rw [zw_set hk hset] at hP1; exact hP1) hS1)
-- arrays of ints and of truths
theorem zg_iald {k n t0 : Nat} {cA : ClassId} {i : Int} (C : zk p s m args meth c cc nL ret Ts own) (X : zx D cl tys A a N s) (hP : va_P D cl (zw N lay a σ) H) (hk : k < N) (hlay : lay k (σ k) = .inl (cA, n, .inl (fun j => jI (σ k j)))) (ht : tys[t0]? = some (cA, .int)) (hn : n < 2147483648) (i0 : 0 ≤ i) (i1 : i < n) (hdg : decode cc pc = .ok (.iaload, 1))
    (kk : W p l e R s m args below meth c H locs cells slots Q (F0 m (pc + 1) ls (.int (jI (σ k i.toNat)) :: rest))) : W p l e R s m args below meth c H locs cells slots Q (F0 m pc ls (.int (jI i) :: .ref (a k) :: rest)) :=
  va_iald C.1.1 C.1.2.1 X.1 hP k t0 (by rw [zw_get hk, hlay]) ht (jI_in i0 i1 hn) hdg (by rw [jI_clamp i0 (by omega)]; exact kk)
theorem zg_zald {k n t0 : Nat} {cA : ClassId} {i : Int} (C : zk p s m args meth c cc nL ret Ts own) (X : zx D cl tys A a N s) (hP : va_P D cl (zw N lay a σ) H) (hk : k < N) (hlay : lay k (σ k) = .inl (cA, n, .inl (fun j => jI (σ k j)))) (ht : tys[t0]? = some (cA, .boolean)) (hn : n < 2147483648) (i0 : 0 ≤ i) (i1 : i < n) (hdg : decode cc pc = .ok (.baload, 1))
    (kk : W p l e R s m args below meth c H locs cells slots Q (F0 m (pc + 1) ls (.int (jI (σ k i.toNat)) :: rest))) : W p l e R s m args below meth c H locs cells slots Q (F0 m pc ls (.int (jI i) :: .ref (a k) :: rest)) :=
  va_zald C.1.1 C.1.2.1 X.1 hP k t0 (by rw [zw_get hk, hlay]) ht (jI_in i0 i1 hn) hdg (by rw [jI_clamp i0 (by omega)]; exact kk)
theorem zg_upd {f : Nat → Int} {i : Nat} {v : Int} : upd (fun j => jI (f j)) i (jI v) = fun j => jI (if j = i then v else f j) := by
  funext j
  simp only [upd]
  split <;> rfl
theorem zg_iast {k n t0 : Nat} {cA : ClassId} {i v : Int} (C : zk p s m args meth c cc nL ret Ts own) (X : zx D cl tys A a N s) (hP : va_P D cl (zw N lay a σ) H) (hS : va_S A s.heap H locs) (hk : k < N) (hlay : ∀ x, lay k x = .inl (cA, n, .inl (fun j => jI (x j)))) (ht : tys[t0]? = some (cA, .int)) (hn : n < 2147483648) (i0 : 0 ≤ i) (i1 : i < n) (hdg : decode cc pc = .ok (.iastore, 1))
    (kk : ∀ (H1 : Heap) (locs1 : List Loc), va_P D cl (zw N lay a (zu σ k i.toNat v)) H1 → va_S A s.heap H1 locs1 → W p l e R s m args below meth c H1 locs1 cells slots Q (F0 m (pc + 1) ls rest)) : W p l e R s m args below meth c H locs cells slots Q (F0 m pc ls (.int (jI v) :: .int (jI i) :: .ref (a k) :: rest)) :=
  va_iast C.1.1 C.1.2.1 X.1 hP (X.D σ) hS k t0 (by rw [zw_get hk, hlay]) ht (jI_in i0 i1 hn) hdg
    (fun H1 locs1 hP1 _ hS1 => kk H1 locs1 (by rw [jI_clamp i0 (by omega), zg_upd, zw_set (i := i.toNat) (v := v) hk (hlay _)] at hP1; exact hP1) hS1)
theorem zg_zast {k n t0 : Nat} {cA : ClassId} {i : Int} {b : Bool} (C : zk p s m args meth c cc nL ret Ts own) (X : zx D cl tys A a N s) (hP : va_P D cl (zw N lay a σ) H) (hS : va_S A s.heap H locs) (hk : k < N) (hlay : ∀ x, lay k x = .inl (cA, n, .inl (fun j => jI (x j)))) (ht : tys[t0]? = some (cA, .boolean)) (hn : n < 2147483648) (i0 : 0 ≤ i) (i1 : i < n) (hdg : decode cc pc = .ok (.bastore, 1))
    (kk : ∀ (H1 : Heap) (locs1 : List Loc), va_P D cl (zw N lay a (zu σ k i.toNat (bI b))) H1 → va_S A s.heap H1 locs1 → W p l e R s m args below meth c H1 locs1 cells slots Q (F0 m (pc + 1) ls rest)) : W p l e R s m args below meth c H locs cells slots Q (F0 m pc ls (.int (jI (bI b)) :: .int (jI i) :: .ref (a k) :: rest)) :=
  va_zast C.1.1 C.1.2.1 X.1 hP (X.D σ) hS k t0 (by rw [zw_get hk, hlay]) ht (jI_in i0 i1 hn) hdg
    (fun H1 locs1 hP1 _ hS1 => kk H1 locs1 (by rw [jI_clamp i0 (by omega), jb_vnar, zg_upd, zw_set (i := i.toNat) (v := bI b) hk (hlay _)] at hP1; exact hP1) hS1)
theorem zg_aald {k n t0 : Nat} {cA : ClassId} {i : Int} {f : Nat → Option Nat} {Cn : String} {r : Nat} (C : zk p s m args meth c cc nL ret Ts own) (X : zx D cl tys A a N s) (hP : va_P D cl (zw N lay a σ) H) (hk : k < N) (hlay : lay k (σ k) = .inl (cA, n, .inr (.inr (.inr (.inr f))))) (ht : tys[t0]? = some (cA, .object Cn)) (hn : n < 2147483648) (i0 : 0 ≤ i) (i1 : i < n) (hf : f i.toNat = some r) (hdg : decode cc pc = .ok (.aaload, 1))
    (kk : W p l e R s m args below meth c H locs cells slots Q (F0 m (pc + 1) ls (.ref r :: rest))) : W p l e R s m args below meth c H locs cells slots Q (F0 m pc ls (.int (jI i) :: .ref (a k) :: rest)) :=
  va_aldq C.1.1 C.1.2.1 X.1 hP k t0 (by rw [zw_get hk, hlay]) ht (jI_in i0 i1 hn) hdg (by rw [jI_clamp i0 (by omega), hf]; exact kk)
-- Math
theorem zg_mmax {index : Nat} {x y : Int} (C : zk p s m args meth c cc nL ret Ts own) (x1 : -2147483648 ≤ x) (x2 : x < 2147483648) (y1 : -2147483648 ≤ y) (y2 : y < 2147483648) (hls : ls.size = nL) (h1 : Cond.methodLink own index Lib.Math.max.name ∈ Ts) (h2 : Cond.static Lib.Math.max.name ∈ Ts) (h3 : Cond.initialized "java/lang/Math" ∈ Ts) (h4 : Cond.code Lib.Math.max.name Lib.Math.max.code 2 (some .int) ∈ Ts)
    (hframes : 1 ≤ R.frames) (hlocals : (rest.map fun v => v.category).sum + 13 ≤ R.locals) (hc : cells ≤ R.cells) (hs : slots ≤ R.slots) (hdg : decode cc pc = .ok (.invokestatic index, 3))
    (kk : W p l e R s m args below meth c H locs cells slots Q (F0 m (pc + 3) ls (.int (jI (max x y)) :: rest))) : W p l e R s m args below meth c H locs cells slots Q (F0 m pc ls (.int (jI y) :: .int (jI x) :: rest)) := by
  have e1 : (if jI x < jI y then jI y else jI x) = jI (max x y) := by
    by_cases h : x < y
    · rw [if_pos ((jI_lt x1 x2 y1 y2).mpr h), show max x y = y by omega]
    · rw [if_neg (fun q => h ((jI_lt x1 x2 y1 y2).mp q)), show max x y = x by omega]
  exact va_mmax C.1.1 C.1.2.1 (C.1.2.2.1.trans hls.symm) C.1.2.2.2.1 (C.ts _ h1) (C.ts _ h2) (C.ts _ h3) (C.ts _ h4) hframes hlocals hc hs hdg (by rw [e1]; exact kk)
theorem zg_mmin {index : Nat} {x y : Int} (C : zk p s m args meth c cc nL ret Ts own) (x1 : -2147483648 ≤ x) (x2 : x < 2147483648) (y1 : -2147483648 ≤ y) (y2 : y < 2147483648) (hls : ls.size = nL) (h1 : Cond.methodLink own index Lib.Math.min.name ∈ Ts) (h2 : Cond.static Lib.Math.min.name ∈ Ts) (h3 : Cond.initialized "java/lang/Math" ∈ Ts) (h4 : Cond.code Lib.Math.min.name Lib.Math.min.code 2 (some .int) ∈ Ts)
    (hframes : 1 ≤ R.frames) (hlocals : (rest.map fun v => v.category).sum + 13 ≤ R.locals) (hc : cells ≤ R.cells) (hs : slots ≤ R.slots) (hdg : decode cc pc = .ok (.invokestatic index, 3))
    (kk : W p l e R s m args below meth c H locs cells slots Q (F0 m (pc + 3) ls (.int (jI (min x y)) :: rest))) : W p l e R s m args below meth c H locs cells slots Q (F0 m pc ls (.int (jI y) :: .int (jI x) :: rest)) := by
  have e1 : (if jI y < jI x then jI y else jI x) = jI (min x y) := by
    by_cases h : y < x
    · rw [if_pos ((jI_lt y1 y2 x1 x2).mpr h), show min x y = y by omega]
    · rw [if_neg (fun q => h ((jI_lt y1 y2 x1 x2).mp q)), show min x y = x by omega]
  exact va_mmin C.1.1 C.1.2.1 (C.1.2.2.1.trans hls.symm) C.1.2.2.2.1 (C.ts _ h1) (C.ts _ h2) (C.ts _ h3) (C.ts _ h4) hframes hlocals hc hs hdg (by rw [e1]; exact kk)
-- ends
theorem zg_iret {r : Int32} {u : Zt} {post : Int32 → Zt → Prop} (C : zk p s m args meth c cc nL (some .int) Ts own) (hP : va_P D cl (zw N lay a u) H) (hS : va_S A s.heap H locs) (hdg : decode cc pc = .ok (.ireturn, 1)) (hq : post r u) :
    W p l e R s m args below meth c H locs 0 0 (MQ below (va_Qi post (fun (u : Zt) t => va_P D cl (zw N lay a u) t.heap) A) args s 0 0 A) (F0 m pc ls [.int r]) :=
  W.iret C.1.1 C.1.2.1 C.2.1 (fun t ht hW => ⟨⟨r, u, rfl, hq, by show va_P D cl (zw N lay a u) t.heap; rw [ht]; exact hP⟩, hS.F ht⟩) hS.2.2 hdg C.2.2
theorem zg_zret {b : Bool} {u : Zt} {post : Int32 → Zt → Prop} (C : zk p s m args meth c cc nL (some .boolean) Ts own) (hP : va_P D cl (zw N lay a u) H) (hS : va_S A s.heap H locs) (hdg : decode cc pc = .ok (.ireturn, 1)) (hq : post (jI (bI b)) u) :
    W p l e R s m args below meth c H locs 0 0 (MQ below (va_Qi post (fun (u : Zt) t => va_P D cl (zw N lay a u) t.heap) A) args s 0 0 A) (F0 m pc ls [.int (jI (bI b))]) :=
  W.zret C.1.1 C.1.2.1 C.2.1 (jb_nar b) (fun t ht hW => ⟨⟨_, u, rfl, hq, by show va_P D cl (zw N lay a u) t.heap; rw [ht]; exact hP⟩, hS.F ht⟩) hS.2.2 hdg C.2.2
theorem zg_vret {u : Zt} {post : Zt → Prop} (C : zk p s m args meth c cc nL none Ts own) (hP : va_P D cl (zw N lay a u) H) (hS : va_S A s.heap H locs) (hdg : decode cc pc = .ok (.return_, 1)) (hq : post u) :
    W p l e R s m args below meth c H locs 0 0 (MQ below (va_Qv post (fun (u : Zt) t => va_P D cl (zw N lay a u) t.heap) A) args s 0 0 A) (F0 m pc ls []) :=
  W.vret C.1.1 C.1.2.1 C.2.1 (fun t ht hW => ⟨⟨u, rfl, hq, by show va_P D cl (zw N lay a u) t.heap; rw [ht]; exact hP⟩, hS.F ht⟩) hS.2.2 hdg C.2.2
end ZG
section ZE
variable {l : Launch} {D : va_G} {cl : List vw_C} {tys : List (ClassId × FieldType)} {a : Nat → Nat} {N : Nat} {lay : Nat → (Nat → Int) → va_E} {σ : Zt} {y : MethodName} {ws ws' : List Cond} {rm : Room} {av : List Value}
theorem zx_of {s : State} (hK : va_K D cl tys s) (hD : va_D (fun _ => True) (zw N lay a σ)) : zx D cl tys (va_A (zw N lay a σ) s.heap.size) a N s :=
  ⟨hK, (zw_Dinv hD).1, fun i hi => zw_A.mpr (Or.inl ⟨i, hi, rfl⟩), fun q h => zw_A.mpr (Or.inr h)⟩
/-- a contract out of a walk -/
theorem zc_of {post : Int32 → Zt → Prop} {cc : ByteArray} {maxL : Nat} {ret : Option FieldType} {own : String} (hy : plainName y.cls = true) (hw : ws = Cond.code y cc maxL ret :: ws') (ho : y.cls = own) (hlen : (lg_sl av).length ≤ maxL) {lv : List (Nat × Value)} (hlv : lv_args 0 av = lv)
    (body : ∀ (p : Program) (e : Env) (s : State) (m : MethodId) (below : List Frame) (meth : Method) (c : Code) (A : Nat → Prop) (ls : Array Slot), zk p s m av.toArray meth c cc maxL ret ws own → zx D cl tys A a N s → va_P D cl (zw N lay a σ) s.heap → va_S A s.heap s.heap [] → lv_has ls maxL lv →
      W p l e rm s m av.toArray below meth c s.heap [] 0 0 (MQ below (va_Qi post (fun (u : Zt) t => va_P D cl (zw N lay a u) t.heap) A) av.toArray s 0 0 A) (F0 m 0 ls [])) : zc l D cl tys N lay a y ws rm av σ post := by
  intro sz
  refine Met.ofW (cc := cc) (maxL := maxL) (ret := ret) hy hw ?_
  intro p e s m args below meth c s₁ B hml hv
  obtain ⟨rfl, hsz, hP, hK, hD0⟩ := hv
  subst hsz
  have hown : s.vm.findClass own = some m.cls := by rw [← ho]; exact findClass_of_methodNamed B.named
  have hl := lv_entry av (n := maxL) hlen
  rw [lg_entry_eq]
  generalize (lg_sl av ++ List.replicate (maxL - (lg_sl av).length) Slot.unset).toArray = ls at hl ⊢
  rw [hlv] at hl
  exact body p e s m below meth c _ ls ⟨⟨B.exec, B.bytes, hml, hown, atoms_spec (ws := ws) B.pre⟩, B.returns, B.notSynchronized⟩ (zx_of hK hD0) hP va_S.rf hl
theorem zv_of {post : Zt → Prop} {cc : ByteArray} {maxL : Nat} {own : String} (hy : plainName y.cls = true) (hw : ws = Cond.code y cc maxL none :: ws') (ho : y.cls = own) (hlen : (lg_sl av).length ≤ maxL) {lv : List (Nat × Value)} (hlv : lv_args 0 av = lv)
    (body : ∀ (p : Program) (e : Env) (s : State) (m : MethodId) (below : List Frame) (meth : Method) (c : Code) (A : Nat → Prop) (ls : Array Slot), zk p s m av.toArray meth c cc maxL none ws own → zx D cl tys A a N s → va_P D cl (zw N lay a σ) s.heap → va_S A s.heap s.heap [] → lv_has ls maxL lv →
      W p l e rm s m av.toArray below meth c s.heap [] 0 0 (MQ below (va_Qv post (fun (u : Zt) t => va_P D cl (zw N lay a u) t.heap) A) av.toArray s 0 0 A) (F0 m 0 ls [])) : zv l D cl tys N lay a y ws rm av σ post := by
  intro sz
  refine Met.ofW (cc := cc) (maxL := maxL) (ret := none) hy hw ?_
  intro p e s m args below meth c s₁ B hml hv
  obtain ⟨rfl, hsz, hP, hK, hD0⟩ := hv
  subst hsz
  have hown : s.vm.findClass own = some m.cls := by rw [← ho]; exact findClass_of_methodNamed B.named
  have hl := lv_entry av (n := maxL) hlen
  rw [lg_entry_eq]
  generalize (lg_sl av ++ List.replicate (maxL - (lg_sl av).length) Slot.unset).toArray = ls at hl ⊢
  rw [hlv] at hl
  exact body p e s m below meth c _ ls ⟨⟨B.exec, B.bytes, hml, hown, atoms_spec (ws := ws) B.pre⟩, B.returns, B.notSynchronized⟩ (zx_of hK hD0) hP va_S.rf hl
end ZE
section ZC
variable {p : Program} {l : Launch} {e : Env} {R : Room} {s : State} {m : MethodId} {args : Array Value} {below : List Frame} {meth : Method} {c : Code} {H : Heap} {locs : List Loc} {cells slots : Nat} {Q : State → Prop}
variable {cc : ByteArray} {pc : Nat} {ls : Array Slot} {rest st0 : List Value} {nL : Nat} {ret : Option FieldType} {Ts : List Cond} {own : String}
variable {D : va_G} {cl : List vw_C} {tys : List (ClassId × FieldType)} {A : Nat → Prop} {a : Nat → Nat} {N : Nat} {lay : Nat → (Nat → Int) → va_E} {σ : Zt}
variable {y : MethodName} {bytes : ByteArray} {maxL n index : Nat} {ret' : Option FieldType} {ws : List Cond} {rm : Room} {As : List Value} {Cn : String}
theorem zpre {av : List Value} {sz : Nat} : FrameBlind (va_Pc av (fun U => U.heap.size = sz ∧ va_P D cl (zw N lay a σ) U.heap ∧ va_K D cl tys U ∧ va_D (fun _ => True) (zw N lay a σ))) := fun b U g mk q => by
  obtain ⟨q0, q1, qP, qK, qD⟩ := q
  exact ⟨q0, q1, qP, va_K.moved (u := U) (U := U.calling g mk b) (Vm.Alike.refl U.vm) qK, qD⟩
theorem zfree (X : zx D cl tys A a N s) (hS : va_S A s.heap H locs) : ∀ q, va_A (zw N lay a σ) H.size q → A q := fun q h => by
  rcases zw_A.mp h with ⟨k, hk, rfl⟩ | h
  · exact X.2.2.1 k hk
  · exact X.2.2.2 q (Nat.le_trans hS.1 h)
theorem zstart (X : zx D cl tys A a N s) (hP : va_P D cl (zw N lay a σ) H) {av : List Value} : ∀ U : State, U.heap = H → s.WarmedH U.vm → va_Pc av (fun U => U.heap.size = H.size ∧ va_P D cl (zw N lay a σ) U.heap ∧ va_K D cl tys U ∧ va_D (fun _ => True) (zw N lay a σ)) av.toArray U := fun U hU hW =>
  ⟨rfl, by rw [hU], by rw [hU]; exact hP, va_K.moved hW.alike X.1, zw_D X.2.1 (fun _ _ => trivial)⟩
/-- a call of a method of an object of the world: an int comes back -/
theorem zg_callV {k ci : Nat} {fs : List Value} {q : vw_C} {post : Int32 → Zt → Prop} (C : zk p s m args meth c cc nL ret Ts own) (X : zx D cl tys A a N s) (hP : va_P D cl (zw N lay a σ) H) (hS : va_S A s.heap H locs) (hM : zc l D cl tys N lay a y ws rm (.ref (a k) :: As) σ post)
    (cw : CallW R s args own Cn index y bytes maxL ret' ws rm 0 0 n) (hk : k < N) (hlay : lay k (σ k) = .inr (ci, fs)) (hc : cl[ci]? = some q) (hq : q.1 = Cn) (hn : As.length = n) (hsize : ls.size = nL) (hst : st0 = As.reverse ++ .ref (a k) :: rest) (hW : (rest.map fun v => v.category).sum ≤ 8) (hdg : decode cc pc = .ok (.invokevirtual index, 3)) (hf : cells ≤ R.cells ∧ slots ≤ R.slots)
    (kk : ∀ (r : Int32) (u : Zt) (H1 : Heap) (locs1 : List Loc), post r u → va_P D cl (zw N lay a u) H1 → va_S A s.heap H1 locs1 → W p l e R s m args below meth c H1 locs1 cells slots Q (F0 m (pc + 3) ls (.int r :: rest))) : W p l e R s m args below meth c H locs cells slots Q (F0 m pc ls st0) := by
  refine va_calli (va_runV C.1 (hM H.size) cw ⟨zpre, by rw [← hq]; exact va_recv X.1 hP hc (by rw [zw_get hk, hlay]), zstart X hP⟩ rfl hn hsize hst (lv_room hW) hdg hf) hS (fun q _ h => zfree X hS q h) (zfree X hS) (fun r u t H1 locs1 ht hvm hw hB hz1 hk1 hS => ?_)
  rw [ht] at hB
  exact kk r u H1 locs1 hw hB hS
theorem zg_callVv {k ci : Nat} {fs : List Value} {q : vw_C} {post : Zt → Prop} (C : zk p s m args meth c cc nL ret Ts own) (X : zx D cl tys A a N s) (hP : va_P D cl (zw N lay a σ) H) (hS : va_S A s.heap H locs) (hM : zv l D cl tys N lay a y ws rm (.ref (a k) :: As) σ post)
    (cw : CallW R s args own Cn index y bytes maxL ret' ws rm 0 0 n) (hk : k < N) (hlay : lay k (σ k) = .inr (ci, fs)) (hc : cl[ci]? = some q) (hq : q.1 = Cn) (hn : As.length = n) (hsize : ls.size = nL) (hst : st0 = As.reverse ++ .ref (a k) :: rest) (hW : (rest.map fun v => v.category).sum ≤ 8) (hdg : decode cc pc = .ok (.invokevirtual index, 3)) (hf : cells ≤ R.cells ∧ slots ≤ R.slots)
    (kk : ∀ (u : Zt) (H1 : Heap) (locs1 : List Loc), post u → va_P D cl (zw N lay a u) H1 → va_S A s.heap H1 locs1 → W p l e R s m args below meth c H1 locs1 cells slots Q (F0 m (pc + 3) ls rest)) : W p l e R s m args below meth c H locs cells slots Q (F0 m pc ls st0) := by
  refine va_callv (va_runV C.1 (hM H.size) cw ⟨zpre, by rw [← hq]; exact va_recv X.1 hP hc (by rw [zw_get hk, hlay]), zstart X hP⟩ rfl hn hsize hst (lv_room hW) hdg hf) hS (fun q _ h => zfree X hS q h) (zfree X hS) (fun u t H1 locs1 ht hvm hw hB hz1 hk1 hS => ?_)
  rw [ht] at hB
  exact kk u H1 locs1 hw hB hS
theorem zg_callS {post : Int32 → Zt → Prop} (C : zk p s m args meth c cc nL ret Ts own) (X : zx D cl tys A a N s) (hP : va_P D cl (zw N lay a σ) H) (hS : va_S A s.heap H locs) (hM : zc l D cl tys N lay a y ws rm As σ post)
    (cw : CallB R s args own index y bytes maxL ret' ws rm 0 0 n ∧ (Cond.static y).before args s = true) (hn : As.length = n) (hsize : ls.size = nL) (hst : st0 = As.reverse ++ rest) (hW : (rest.map fun v => v.category).sum ≤ 8) (hdg : decode cc pc = .ok (.invokestatic index, 3)) (hf : cells ≤ R.cells ∧ slots ≤ R.slots)
    (kk : ∀ (r : Int32) (u : Zt) (H1 : Heap) (locs1 : List Loc), post r u → va_P D cl (zw N lay a u) H1 → va_S A s.heap H1 locs1 → W p l e R s m args below meth c H1 locs1 cells slots Q (F0 m (pc + 3) ls (.int r :: rest))) : W p l e R s m args below meth c H locs cells slots Q (F0 m pc ls st0) := by
  refine va_calli (va_runS C.1 (hM H.size) cw ⟨zpre, zstart X hP⟩ rfl hn hsize hst (lv_room hW) hdg hf) hS (fun q _ h => zfree X hS q h) (zfree X hS) (fun r u t H1 locs1 ht hvm hw hB hz1 hk1 hS => ?_)
  rw [ht] at hB
  exact kk r u H1 locs1 hw hB hS
end ZC
end
section
/-! WORLD of the class: its cells by numbers, their layout, the ranges of their numbers. Laid by program. -/
abbrev tyS (cI cZ cR : ClassId) : List (ClassId × FieldType) := [(cI, .int), (cZ, .boolean), (cR, .object "SignRow$Replica")]
def laySF (cI cZ cR : ClassId) (a : Nat → Nat) (k : Nat) (x : Nat → Int) : va_E := match k with
  | 0 => .inr (4, [.ref (a 1), .ref (a 11), .ref (a 16), .ref (a 19)])
  | 1 => .inr (0, [.ref (a 2), .ref (a 3), .ref (a 4), .ref (a 5), .ref (a 6), .ref (a 7), .ref (a 8), .ref (a 9), .ref (a 10), .int (jI (x 9)), .int (jI (x 10))])
  | 2 => .inl (cI, 400, .inl (fun j => jI (x j)))
  | 3 => .inl (cI, 400, .inl (fun j => jI (x j)))
  | 4 => .inl (cI, 400, .inl (fun j => jI (x j)))
  | 5 => .inl (cI, 400, .inl (fun j => jI (x j)))
  | 6 => .inl (cI, 400, .inl (fun j => jI (x j)))
  | 7 => .inl (cI, 400, .inl (fun j => jI (x j)))
  | 8 => .inl (cI, 400, .inl (fun j => jI (x j)))
  | 9 => .inl (cZ, 400, .inl (fun j => jI (x j)))
  | 10 => .inl (cI, 400, .inl (fun j => jI (x j)))
  | 11 => .inr (1, [.ref (a 12), .ref (a 13), .ref (a 14), .ref (a 15), .int (jI (x 4))])
  | 12 => .inl (cI, 4800, .inl (fun j => jI (x j)))
  | 13 => .inl (cI, 400, .inl (fun j => jI (x j)))
  | 14 => .inl (cI, 400, .inl (fun j => jI (x j)))
  | 15 => .inl (cI, 400, .inl (fun j => jI (x j)))
  | 16 => .inr (3, [.ref (a 17), .ref (a 18), .int (jI (x 2)), .int (jI (x 3))])
  | 17 => .inl (cI, 300, .inl (fun j => jI (x j)))
  | 18 => .inl (cI, 300, .inl (fun j => jI (x j)))
  | _ => .inl (cR, 6, .inr (.inr (.inr (.inr (fun j => some (a (20 + 6 * j)))))))
def laySR (cI cZ cR : ClassId) (a : Nat → Nat) (r k : Nat) (x : Nat → Int) : va_E := match k with
  | 0 => .inr (2, [.int (jI (x 0)), .ref (a 1), .ref (a 11), .int (jI (x 3)), .int (jI (x 4)), .int (jI (x 5)), .int (jI (x 6)), .ref (a (21 + 6 * r)), .ref (a (22 + 6 * r)), .ref (a (23 + 6 * r)), .ref (a (24 + 6 * r)), .ref (a (25 + 6 * r))])
  | 1 => .inl (cI, 6, .inl (fun j => jI (x j)))
  | 2 => .inl (cZ, 400, .inl (fun j => jI (x j)))
  | 3 => .inl (cI, 400, .inl (fun j => jI (x j)))
  | 4 => .inl (cI, 4, .inl (fun j => jI (x j)))
  | _ => .inl (cI, 8, .inl (fun j => jI (x j)))
def layS (cI cZ cR : ClassId) (a : Nat → Nat) (k : Nat) (x : Nat → Int) : va_E := if k < 20 then laySF cI cZ cR a k x else laySR cI cZ cR a ((k - 20) / 6) ((k - 20) % 6) x
theorem lyS_0 {cI cZ cR : ClassId} {a : Nat → Nat} {x : Nat → Int} : layS cI cZ cR a 0 x = .inr (4, [.ref (a 1), .ref (a 11), .ref (a 16), .ref (a 19)]) := rfl
theorem lyS_1 {cI cZ cR : ClassId} {a : Nat → Nat} {x : Nat → Int} : layS cI cZ cR a 1 x = .inr (0, [.ref (a 2), .ref (a 3), .ref (a 4), .ref (a 5), .ref (a 6), .ref (a 7), .ref (a 8), .ref (a 9), .ref (a 10), .int (jI (x 9)), .int (jI (x 10))]) := rfl
theorem lyS_2 {cI cZ cR : ClassId} {a : Nat → Nat} {x : Nat → Int} : layS cI cZ cR a 2 x = .inl (cI, 400, .inl (fun j => jI (x j))) := rfl
theorem lyS_3 {cI cZ cR : ClassId} {a : Nat → Nat} {x : Nat → Int} : layS cI cZ cR a 3 x = .inl (cI, 400, .inl (fun j => jI (x j))) := rfl
theorem lyS_4 {cI cZ cR : ClassId} {a : Nat → Nat} {x : Nat → Int} : layS cI cZ cR a 4 x = .inl (cI, 400, .inl (fun j => jI (x j))) := rfl
theorem lyS_5 {cI cZ cR : ClassId} {a : Nat → Nat} {x : Nat → Int} : layS cI cZ cR a 5 x = .inl (cI, 400, .inl (fun j => jI (x j))) := rfl
theorem lyS_6 {cI cZ cR : ClassId} {a : Nat → Nat} {x : Nat → Int} : layS cI cZ cR a 6 x = .inl (cI, 400, .inl (fun j => jI (x j))) := rfl
theorem lyS_7 {cI cZ cR : ClassId} {a : Nat → Nat} {x : Nat → Int} : layS cI cZ cR a 7 x = .inl (cI, 400, .inl (fun j => jI (x j))) := rfl
theorem lyS_8 {cI cZ cR : ClassId} {a : Nat → Nat} {x : Nat → Int} : layS cI cZ cR a 8 x = .inl (cI, 400, .inl (fun j => jI (x j))) := rfl
theorem lyS_9 {cI cZ cR : ClassId} {a : Nat → Nat} {x : Nat → Int} : layS cI cZ cR a 9 x = .inl (cZ, 400, .inl (fun j => jI (x j))) := rfl
theorem lyS_10 {cI cZ cR : ClassId} {a : Nat → Nat} {x : Nat → Int} : layS cI cZ cR a 10 x = .inl (cI, 400, .inl (fun j => jI (x j))) := rfl
theorem lyS_11 {cI cZ cR : ClassId} {a : Nat → Nat} {x : Nat → Int} : layS cI cZ cR a 11 x = .inr (1, [.ref (a 12), .ref (a 13), .ref (a 14), .ref (a 15), .int (jI (x 4))]) := rfl
theorem lyS_12 {cI cZ cR : ClassId} {a : Nat → Nat} {x : Nat → Int} : layS cI cZ cR a 12 x = .inl (cI, 4800, .inl (fun j => jI (x j))) := rfl
theorem lyS_13 {cI cZ cR : ClassId} {a : Nat → Nat} {x : Nat → Int} : layS cI cZ cR a 13 x = .inl (cI, 400, .inl (fun j => jI (x j))) := rfl
theorem lyS_14 {cI cZ cR : ClassId} {a : Nat → Nat} {x : Nat → Int} : layS cI cZ cR a 14 x = .inl (cI, 400, .inl (fun j => jI (x j))) := rfl
theorem lyS_15 {cI cZ cR : ClassId} {a : Nat → Nat} {x : Nat → Int} : layS cI cZ cR a 15 x = .inl (cI, 400, .inl (fun j => jI (x j))) := rfl
theorem lyS_16 {cI cZ cR : ClassId} {a : Nat → Nat} {x : Nat → Int} : layS cI cZ cR a 16 x = .inr (3, [.ref (a 17), .ref (a 18), .int (jI (x 2)), .int (jI (x 3))]) := rfl
theorem lyS_17 {cI cZ cR : ClassId} {a : Nat → Nat} {x : Nat → Int} : layS cI cZ cR a 17 x = .inl (cI, 300, .inl (fun j => jI (x j))) := rfl
theorem lyS_18 {cI cZ cR : ClassId} {a : Nat → Nat} {x : Nat → Int} : layS cI cZ cR a 18 x = .inl (cI, 300, .inl (fun j => jI (x j))) := rfl
theorem lyS_19 {cI cZ cR : ClassId} {a : Nat → Nat} {x : Nat → Int} : layS cI cZ cR a 19 x = .inl (cR, 6, .inr (.inr (.inr (.inr (fun j => some (a (20 + 6 * j))))))) := rfl
theorem hkS_20 {r : Nat} (hr : r < 6) : 20 + 6 * r < 56 := by omega
theorem lyS_20 {cI cZ cR : ClassId} {a : Nat → Nat} {x : Nat → Int} {r : Nat} (_ : r < 6) : layS cI cZ cR a (20 + 6 * r) x = .inr (2, [.int (jI (x 0)), .ref (a 1), .ref (a 11), .int (jI (x 3)), .int (jI (x 4)), .int (jI (x 5)), .int (jI (x 6)), .ref (a (21 + 6 * r)), .ref (a (22 + 6 * r)), .ref (a (23 + 6 * r)), .ref (a (24 + 6 * r)), .ref (a (25 + 6 * r))]) := by
  unfold layS
  rw [if_neg (by omega), show (20 + 6 * r - 20) / 6 = r by omega, show (20 + 6 * r - 20) % 6 = 0 by omega]
  rfl
theorem hkS_21 {r : Nat} (hr : r < 6) : 21 + 6 * r < 56 := by omega
theorem lyS_21 {cI cZ cR : ClassId} {a : Nat → Nat} {x : Nat → Int} {r : Nat} (_ : r < 6) : layS cI cZ cR a (21 + 6 * r) x = .inl (cI, 6, .inl (fun j => jI (x j))) := by
  unfold layS
  rw [if_neg (by omega), show (21 + 6 * r - 20) / 6 = r by omega, show (21 + 6 * r - 20) % 6 = 1 by omega]
  rfl
theorem hkS_22 {r : Nat} (hr : r < 6) : 22 + 6 * r < 56 := by omega
theorem lyS_22 {cI cZ cR : ClassId} {a : Nat → Nat} {x : Nat → Int} {r : Nat} (_ : r < 6) : layS cI cZ cR a (22 + 6 * r) x = .inl (cZ, 400, .inl (fun j => jI (x j))) := by
  unfold layS
  rw [if_neg (by omega), show (22 + 6 * r - 20) / 6 = r by omega, show (22 + 6 * r - 20) % 6 = 2 by omega]
  rfl
theorem hkS_23 {r : Nat} (hr : r < 6) : 23 + 6 * r < 56 := by omega
theorem lyS_23 {cI cZ cR : ClassId} {a : Nat → Nat} {x : Nat → Int} {r : Nat} (_ : r < 6) : layS cI cZ cR a (23 + 6 * r) x = .inl (cI, 400, .inl (fun j => jI (x j))) := by
  unfold layS
  rw [if_neg (by omega), show (23 + 6 * r - 20) / 6 = r by omega, show (23 + 6 * r - 20) % 6 = 3 by omega]
  rfl
theorem hkS_24 {r : Nat} (hr : r < 6) : 24 + 6 * r < 56 := by omega
theorem lyS_24 {cI cZ cR : ClassId} {a : Nat → Nat} {x : Nat → Int} {r : Nat} (_ : r < 6) : layS cI cZ cR a (24 + 6 * r) x = .inl (cI, 4, .inl (fun j => jI (x j))) := by
  unfold layS
  rw [if_neg (by omega), show (24 + 6 * r - 20) / 6 = r by omega, show (24 + 6 * r - 20) % 6 = 4 by omega]
  rfl
theorem hkS_25 {r : Nat} (hr : r < 6) : 25 + 6 * r < 56 := by omega
theorem lyS_25 {cI cZ cR : ClassId} {a : Nat → Nat} {x : Nat → Int} {r : Nat} (_ : r < 6) : layS cI cZ cR a (25 + 6 * r) x = .inl (cI, 8, .inl (fun j => jI (x j))) := by
  unfold layS
  rw [if_neg (by omega), show (25 + 6 * r - 20) / 6 = r by omega, show (25 + 6 * r - 20) % 6 = 5 by omega]
  rfl
def okSF (k i : Nat) (v : Int) : Prop := match k with
  | 1 => if i = 9 then 0 ≤ v ∧ v < 401 else if i = 10 then 0 ≤ v ∧ v < 401 else True
  | 2 => 0 ≤ v ∧ v < 6
  | 3 => 0 ≤ v ∧ v < 401
  | 4 => 0 ≤ v ∧ v < 401
  | 5 => 0 ≤ v ∧ v < 4
  | 6 => 0 ≤ v ∧ v < 127
  | 7 => 0 ≤ v ∧ v < 400
  | 8 => 0 ≤ v ∧ v < 400
  | 9 => 0 ≤ v ∧ v < 2
  | 10 => 0 ≤ v ∧ v < 400
  | 11 => if i = 4 then 0 ≤ v ∧ v < 401 else True
  | 12 => 0 ≤ v ∧ v < 16777216
  | 13 => 0 ≤ v ∧ v < 13
  | 14 => 0 ≤ v ∧ v < 400
  | 15 => 0 ≤ v ∧ v < 400
  | 16 => if i = 2 then 0 ≤ v ∧ v < 301 else True
  | 17 => 0 ≤ v ∧ v < 400
  | 18 => 0 ≤ v ∧ v < 6
  | _ => True
def okSR (r : Int) (k i : Nat) (v : Int) : Prop := match k with
  | 0 => if i = 0 then r ≤ v ∧ v < r + 1 else if i = 4 then 0 ≤ v ∧ v < 401 else if i = 6 then 0 ≤ v ∧ v < 401 else True
  | 1 => 0 ≤ v ∧ v < 401
  | 2 => 0 ≤ v ∧ v < 2
  | 3 => -1 ≤ v ∧ v < 400
  | 4 => -1 ≤ v ∧ v < 400
  | 5 => -1 ≤ v ∧ v < 400
  | _ => True
def okS (k i : Nat) (v : Int) : Prop := if k < 20 then okSF k i v else okSR (((k - 20) / 6 : Nat) : Int) ((k - 20) % 6) i v
def rgS (σ : Zt) : Prop := ∀ k i, okS k i (σ k i)
theorem rgS_zu {σ : Zt} {k i : Nat} {v : Int} (h : rgS σ) (hv : okS k i v) : rgS (zu σ k i v) := by
  intro k2 i2
  by_cases hk : k2 = k
  · subst hk
    rw [zu_row]
    by_cases hi : i2 = i
    · subst hi; simpa using hv
    · simpa [hi] using h k2 i2
  · rw [zu_ne hk]; exact h k2 i2
theorem okS_20 {r : Nat} {i : Nat} {v : Int} : okS (20 + 6 * r) i v = okSR (r : Int) 0 i v := by
  unfold okS
  rw [if_neg (by omega), show (20 + 6 * r - 20) / 6 = r by omega, show (20 + 6 * r - 20) % 6 = 0 by omega]
theorem okS_21 {r : Nat} {i : Nat} {v : Int} : okS (21 + 6 * r) i v = okSR (r : Int) 1 i v := by
  unfold okS
  rw [if_neg (by omega), show (21 + 6 * r - 20) / 6 = r by omega, show (21 + 6 * r - 20) % 6 = 1 by omega]
theorem okS_22 {r : Nat} {i : Nat} {v : Int} : okS (22 + 6 * r) i v = okSR (r : Int) 2 i v := by
  unfold okS
  rw [if_neg (by omega), show (22 + 6 * r - 20) / 6 = r by omega, show (22 + 6 * r - 20) % 6 = 2 by omega]
theorem okS_23 {r : Nat} {i : Nat} {v : Int} : okS (23 + 6 * r) i v = okSR (r : Int) 3 i v := by
  unfold okS
  rw [if_neg (by omega), show (23 + 6 * r - 20) / 6 = r by omega, show (23 + 6 * r - 20) % 6 = 3 by omega]
theorem okS_24 {r : Nat} {i : Nat} {v : Int} : okS (24 + 6 * r) i v = okSR (r : Int) 4 i v := by
  unfold okS
  rw [if_neg (by omega), show (24 + 6 * r - 20) / 6 = r by omega, show (24 + 6 * r - 20) % 6 = 4 by omega]
theorem okS_25 {r : Nat} {i : Nat} {v : Int} : okS (25 + 6 * r) i v = okSR (r : Int) 5 i v := by
  unfold okS
  rw [if_neg (by omega), show (25 + 6 * r - 20) / 6 = r by omega, show (25 + 6 * r - 20) % 6 = 5 by omega]
theorem rgS_1_9 {σ : Zt} (h : rgS σ) : 0 ≤ σ 1 9 ∧ σ 1 9 < 401 := h 1 9
theorem rzS_1_9 {σ : Zt} (h : rgS σ) {v : Int} (h1 : 0 ≤ v) (h2 : v < 401) : rgS (zu σ 1 9 v) := rgS_zu h ⟨h1, h2⟩
theorem rgS_1_10 {σ : Zt} (h : rgS σ) : 0 ≤ σ 1 10 ∧ σ 1 10 < 401 := h 1 10
theorem rzS_1_10 {σ : Zt} (h : rgS σ) {v : Int} (h1 : 0 ≤ v) (h2 : v < 401) : rgS (zu σ 1 10 v) := rgS_zu h ⟨h1, h2⟩
theorem rgS_2 {σ : Zt} (h : rgS σ) (i : Nat) : 0 ≤ σ 2 i ∧ σ 2 i < 6 := h 2 i
theorem rzS_2 {σ : Zt} (h : rgS σ) {i : Nat} {v : Int} (h1 : 0 ≤ v) (h2 : v < 6) : rgS (zu σ 2 i v) := rgS_zu h ⟨h1, h2⟩
theorem rgS_3 {σ : Zt} (h : rgS σ) (i : Nat) : 0 ≤ σ 3 i ∧ σ 3 i < 401 := h 3 i
theorem rzS_3 {σ : Zt} (h : rgS σ) {i : Nat} {v : Int} (h1 : 0 ≤ v) (h2 : v < 401) : rgS (zu σ 3 i v) := rgS_zu h ⟨h1, h2⟩
theorem rgS_4 {σ : Zt} (h : rgS σ) (i : Nat) : 0 ≤ σ 4 i ∧ σ 4 i < 401 := h 4 i
theorem rzS_4 {σ : Zt} (h : rgS σ) {i : Nat} {v : Int} (h1 : 0 ≤ v) (h2 : v < 401) : rgS (zu σ 4 i v) := rgS_zu h ⟨h1, h2⟩
theorem rgS_5 {σ : Zt} (h : rgS σ) (i : Nat) : 0 ≤ σ 5 i ∧ σ 5 i < 4 := h 5 i
theorem rzS_5 {σ : Zt} (h : rgS σ) {i : Nat} {v : Int} (h1 : 0 ≤ v) (h2 : v < 4) : rgS (zu σ 5 i v) := rgS_zu h ⟨h1, h2⟩
theorem rgS_6 {σ : Zt} (h : rgS σ) (i : Nat) : 0 ≤ σ 6 i ∧ σ 6 i < 127 := h 6 i
theorem rzS_6 {σ : Zt} (h : rgS σ) {i : Nat} {v : Int} (h1 : 0 ≤ v) (h2 : v < 127) : rgS (zu σ 6 i v) := rgS_zu h ⟨h1, h2⟩
theorem rgS_7 {σ : Zt} (h : rgS σ) (i : Nat) : 0 ≤ σ 7 i ∧ σ 7 i < 400 := h 7 i
theorem rzS_7 {σ : Zt} (h : rgS σ) {i : Nat} {v : Int} (h1 : 0 ≤ v) (h2 : v < 400) : rgS (zu σ 7 i v) := rgS_zu h ⟨h1, h2⟩
theorem rgS_8 {σ : Zt} (h : rgS σ) (i : Nat) : 0 ≤ σ 8 i ∧ σ 8 i < 400 := h 8 i
theorem rzS_8 {σ : Zt} (h : rgS σ) {i : Nat} {v : Int} (h1 : 0 ≤ v) (h2 : v < 400) : rgS (zu σ 8 i v) := rgS_zu h ⟨h1, h2⟩
theorem rgS_9 {σ : Zt} (h : rgS σ) (i : Nat) : 0 ≤ σ 9 i ∧ σ 9 i < 2 := h 9 i
theorem rzS_9 {σ : Zt} (h : rgS σ) {i : Nat} {v : Int} (h1 : 0 ≤ v) (h2 : v < 2) : rgS (zu σ 9 i v) := rgS_zu h ⟨h1, h2⟩
theorem rgS_10 {σ : Zt} (h : rgS σ) (i : Nat) : 0 ≤ σ 10 i ∧ σ 10 i < 400 := h 10 i
theorem rzS_10 {σ : Zt} (h : rgS σ) {i : Nat} {v : Int} (h1 : 0 ≤ v) (h2 : v < 400) : rgS (zu σ 10 i v) := rgS_zu h ⟨h1, h2⟩
theorem rgS_11_4 {σ : Zt} (h : rgS σ) : 0 ≤ σ 11 4 ∧ σ 11 4 < 401 := h 11 4
theorem rzS_11_4 {σ : Zt} (h : rgS σ) {v : Int} (h1 : 0 ≤ v) (h2 : v < 401) : rgS (zu σ 11 4 v) := rgS_zu h ⟨h1, h2⟩
theorem rgS_12 {σ : Zt} (h : rgS σ) (i : Nat) : 0 ≤ σ 12 i ∧ σ 12 i < 16777216 := h 12 i
theorem rzS_12 {σ : Zt} (h : rgS σ) {i : Nat} {v : Int} (h1 : 0 ≤ v) (h2 : v < 16777216) : rgS (zu σ 12 i v) := rgS_zu h ⟨h1, h2⟩
theorem rgS_13 {σ : Zt} (h : rgS σ) (i : Nat) : 0 ≤ σ 13 i ∧ σ 13 i < 13 := h 13 i
theorem rzS_13 {σ : Zt} (h : rgS σ) {i : Nat} {v : Int} (h1 : 0 ≤ v) (h2 : v < 13) : rgS (zu σ 13 i v) := rgS_zu h ⟨h1, h2⟩
theorem rgS_14 {σ : Zt} (h : rgS σ) (i : Nat) : 0 ≤ σ 14 i ∧ σ 14 i < 400 := h 14 i
theorem rzS_14 {σ : Zt} (h : rgS σ) {i : Nat} {v : Int} (h1 : 0 ≤ v) (h2 : v < 400) : rgS (zu σ 14 i v) := rgS_zu h ⟨h1, h2⟩
theorem rgS_15 {σ : Zt} (h : rgS σ) (i : Nat) : 0 ≤ σ 15 i ∧ σ 15 i < 400 := h 15 i
theorem rzS_15 {σ : Zt} (h : rgS σ) {i : Nat} {v : Int} (h1 : 0 ≤ v) (h2 : v < 400) : rgS (zu σ 15 i v) := rgS_zu h ⟨h1, h2⟩
theorem rgS_16_2 {σ : Zt} (h : rgS σ) : 0 ≤ σ 16 2 ∧ σ 16 2 < 301 := h 16 2
theorem rzS_16_2 {σ : Zt} (h : rgS σ) {v : Int} (h1 : 0 ≤ v) (h2 : v < 301) : rgS (zu σ 16 2 v) := rgS_zu h ⟨h1, h2⟩
theorem rzS_16_3 {σ : Zt} (h : rgS σ) {v : Int} : rgS (zu σ 16 3 v) := rgS_zu h trivial
theorem rgS_17 {σ : Zt} (h : rgS σ) (i : Nat) : 0 ≤ σ 17 i ∧ σ 17 i < 400 := h 17 i
theorem rzS_17 {σ : Zt} (h : rgS σ) {i : Nat} {v : Int} (h1 : 0 ≤ v) (h2 : v < 400) : rgS (zu σ 17 i v) := rgS_zu h ⟨h1, h2⟩
theorem rgS_18 {σ : Zt} (h : rgS σ) (i : Nat) : 0 ≤ σ 18 i ∧ σ 18 i < 6 := h 18 i
theorem rzS_18 {σ : Zt} (h : rgS σ) {i : Nat} {v : Int} (h1 : 0 ≤ v) (h2 : v < 6) : rgS (zu σ 18 i v) := rgS_zu h ⟨h1, h2⟩
theorem rgS_20_0 {σ : Zt} (h : rgS σ) {r : Nat} (_ : r < 6) : (r : Int) ≤ σ (20 + 6 * r) 0 ∧ σ (20 + 6 * r) 0 < (r : Int) + 1 := by
  have h9 := h (20 + 6 * r) 0
  rw [okS_20] at h9
  exact h9
theorem rzS_20_0 {σ : Zt} (h : rgS σ) {r : Nat} (_ : r < 6) {v : Int} (h1 : (r : Int) ≤ v) (h2 : v < (r : Int) + 1) : rgS (zu σ (20 + 6 * r) 0 v) := rgS_zu h (by rw [okS_20]; exact ⟨h1, h2⟩)
theorem rzS_20_3 {σ : Zt} (h : rgS σ) {r : Nat} (_ : r < 6) {v : Int} : rgS (zu σ (20 + 6 * r) 3 v) := rgS_zu h (by rw [okS_20]; exact trivial)
theorem rgS_20_4 {σ : Zt} (h : rgS σ) {r : Nat} (_ : r < 6) : 0 ≤ σ (20 + 6 * r) 4 ∧ σ (20 + 6 * r) 4 < 401 := by
  have h9 := h (20 + 6 * r) 4
  rw [okS_20] at h9
  exact h9
theorem rzS_20_4 {σ : Zt} (h : rgS σ) {r : Nat} (_ : r < 6) {v : Int} (h1 : 0 ≤ v) (h2 : v < 401) : rgS (zu σ (20 + 6 * r) 4 v) := rgS_zu h (by rw [okS_20]; exact ⟨h1, h2⟩)
theorem rzS_20_5 {σ : Zt} (h : rgS σ) {r : Nat} (_ : r < 6) {v : Int} : rgS (zu σ (20 + 6 * r) 5 v) := rgS_zu h (by rw [okS_20]; exact trivial)
theorem rgS_20_6 {σ : Zt} (h : rgS σ) {r : Nat} (_ : r < 6) : 0 ≤ σ (20 + 6 * r) 6 ∧ σ (20 + 6 * r) 6 < 401 := by
  have h9 := h (20 + 6 * r) 6
  rw [okS_20] at h9
  exact h9
theorem rzS_20_6 {σ : Zt} (h : rgS σ) {r : Nat} (_ : r < 6) {v : Int} (h1 : 0 ≤ v) (h2 : v < 401) : rgS (zu σ (20 + 6 * r) 6 v) := rgS_zu h (by rw [okS_20]; exact ⟨h1, h2⟩)
theorem rgS_21 {σ : Zt} (h : rgS σ) {r : Nat} (_ : r < 6) (i : Nat) : 0 ≤ σ (21 + 6 * r) i ∧ σ (21 + 6 * r) i < 401 := by
  have h9 := h (21 + 6 * r) i
  rw [okS_21] at h9
  exact h9
theorem rzS_21 {σ : Zt} (h : rgS σ) {r : Nat} (_ : r < 6) {i : Nat} {v : Int} (h1 : 0 ≤ v) (h2 : v < 401) : rgS (zu σ (21 + 6 * r) i v) := rgS_zu h (by rw [okS_21]; exact ⟨h1, h2⟩)
theorem rgS_22 {σ : Zt} (h : rgS σ) {r : Nat} (_ : r < 6) (i : Nat) : 0 ≤ σ (22 + 6 * r) i ∧ σ (22 + 6 * r) i < 2 := by
  have h9 := h (22 + 6 * r) i
  rw [okS_22] at h9
  exact h9
theorem rzS_22 {σ : Zt} (h : rgS σ) {r : Nat} (_ : r < 6) {i : Nat} {v : Int} (h1 : 0 ≤ v) (h2 : v < 2) : rgS (zu σ (22 + 6 * r) i v) := rgS_zu h (by rw [okS_22]; exact ⟨h1, h2⟩)
theorem rgS_23 {σ : Zt} (h : rgS σ) {r : Nat} (_ : r < 6) (i : Nat) : -1 ≤ σ (23 + 6 * r) i ∧ σ (23 + 6 * r) i < 400 := by
  have h9 := h (23 + 6 * r) i
  rw [okS_23] at h9
  exact h9
theorem rzS_23 {σ : Zt} (h : rgS σ) {r : Nat} (_ : r < 6) {i : Nat} {v : Int} (h1 : -1 ≤ v) (h2 : v < 400) : rgS (zu σ (23 + 6 * r) i v) := rgS_zu h (by rw [okS_23]; exact ⟨h1, h2⟩)
theorem rgS_24 {σ : Zt} (h : rgS σ) {r : Nat} (_ : r < 6) (i : Nat) : -1 ≤ σ (24 + 6 * r) i ∧ σ (24 + 6 * r) i < 400 := by
  have h9 := h (24 + 6 * r) i
  rw [okS_24] at h9
  exact h9
theorem rzS_24 {σ : Zt} (h : rgS σ) {r : Nat} (_ : r < 6) {i : Nat} {v : Int} (h1 : -1 ≤ v) (h2 : v < 400) : rgS (zu σ (24 + 6 * r) i v) := rgS_zu h (by rw [okS_24]; exact ⟨h1, h2⟩)
theorem rgS_25 {σ : Zt} (h : rgS σ) {r : Nat} (_ : r < 6) (i : Nat) : -1 ≤ σ (25 + 6 * r) i ∧ σ (25 + 6 * r) i < 400 := by
  have h9 := h (25 + 6 * r) i
  rw [okS_25] at h9
  exact h9
theorem rzS_25 {σ : Zt} (h : rgS σ) {r : Nat} (_ : r < 6) {i : Nat} {v : Int} (h1 : -1 ≤ v) (h2 : v < 400) : rgS (zu σ (25 + 6 * r) i v) := rgS_zu h (by rw [okS_25]; exact ⟨h1, h2⟩)
end
section
/-! SPEC: what the class's methods do, as functions of its numbers. Rows: 1 Deeds, 2 owner 3 number 4 time 5 sort 6 value 7 from 8 to 9 mayUndo 10 marks; 11 Paths, 12 levels 13 depth 14 order 15 rank; 16 Way, 17 what 18 toWhom; 19 replicas; of replica r from 20 + 6 r on: itself, doneOf, waits, fate, cursors, latestMark. -/
def kFull (σ : Zt) : Bool := decide (400 ≤ σ 1 10)
def kDid (σ : Zt) (r : Nat) (d : Int) : Bool := decide (σ 3 d.toNat ≤ σ (21 + 6 * r) (σ 2 d.toNat).toNat)
def kReady (σ : Zt) (r : Nat) (d : Int) : Bool := decide (σ 3 d.toNat - 1 = σ (21 + 6 * r) (σ 2 d.toNat).toNat) && (decide (σ 5 d.toNat = 0) || (kDid σ r (σ 7 d.toNat) && kDid σ r (σ 8 d.toNat)))
def kLater (σ : Zt) (d e : Int) : Bool := decide (σ 4 e.toNat < σ 4 d.toNat) || (decide (σ 4 d.toNat = σ 4 e.toNat) && decide (σ 2 e.toNat < σ 2 d.toNat))
def kAlive (σ : Zt) (r : Nat) (d : Int) : Bool := kDid σ r d && (decide (σ (23 + 6 * r) d.toNat = -1) || decide (σ 5 (σ (23 + 6 * r) d.toNat).toNat ≠ 1))
/-- the living among the first n by paths -/
def kCnt (σ : Zt) (r : Nat) : Nat → Int
  | 0 => 0
  | n + 1 => kCnt σ r n + bI (kAlive σ r (σ 14 n))
def kLen (σ : Zt) (r : Nat) : Int := kCnt σ r (σ 11 4).toNat
def kGap (σ : Zt) (r : Nat) (q : Int) : Bool := decide (0 ≤ q) && decide (q ≤ kLen σ r)
def kAt (σ : Zt) (r : Nat) : Nat → Nat → Int → Int
  | 0, _, _ => -1
  | n + 1, i, left => if left < 0 then -1 else if kAlive σ r (σ 14 i) = true then (if left = 0 then σ 14 i else kAt σ r n (i + 1) (left - 1)) else kAt σ r n (i + 1) left
def kSignAt (σ : Zt) (r : Nat) (q : Int) : Int := kAt σ r (σ 11 4).toNat 0 q
def kBefore (σ : Zt) (r : Nat) (q : Int) : Int := if q ≤ 0 then -1 else kSignAt σ r (q - 1)
def kNext (σ : Zt) (r : Nat) : Nat → Nat → Int
  | 0, _ => -1
  | n + 1, i => if kDid σ r (σ 14 i) = true then σ 14 i else kNext σ r n (i + 1)
def kBehind (σ : Zt) (r : Nat) (d : Int) : Int := if d = -1 then kNext σ r (σ 11 4).toNat 0 else kNext σ r (σ 11 4 - (σ 15 d.toNat + 1)).toNat (σ 15 d.toNat + 1).toNat
def kCur (σ : Zt) (r : Nat) (q : Int) : Int := if σ (24 + 6 * r) q.toNat = -1 then 0 else kCnt σ r (σ 15 (σ (24 + 6 * r) q.toNat).toNat + 1).toNat
def kLast (σ : Zt) (w : Int) : Nat → Int
  | 0 => -1
  | n + 1 => if σ 9 n ≠ 0 ∧ σ 2 n = w then (n : Int) else kLast σ w n
def kFirst (σ : Zt) (r : Nat) : Nat → Nat → Int
  | 0, _ => -1
  | n + 1, i => if σ (22 + 6 * r) i ≠ 0 ∧ kReady σ r i = true then (i : Int) else kFirst σ r n (i + 1)
def kSum (f : Nat → Int) : Nat → Int
  | 0 => 0
  | n + 1 => kSum f n + f n
def kAll (σ : Zt) (r : Nat) : Int := kSum (σ (21 + 6 * r)) 6
/-- deed d is done at r -/
def kCarry0 (σ : Zt) (r : Nat) (d : Int) : Zt := zu (zu σ (21 + 6 * r) (σ 2 d.toNat).toNat (σ (21 + 6 * r) (σ 2 d.toNat).toNat + 1)) (20 + 6 * r) 4 (max (σ (20 + 6 * r) 4) (σ 4 d.toNat))
def kCarry (σ : Zt) (r : Nat) (d : Int) : Zt :=
  if σ 5 d.toNat = 0 then zu (kCarry0 σ r d) (20 + 6 * r) 5 (σ (20 + 6 * r) 5 + 1)
  else if σ 5 d.toNat = 3 then kCarry0 σ r d
  else if σ (23 + 6 * r) (σ 7 d.toNat).toNat = -1 ∨ kLater σ d (σ (23 + 6 * r) (σ 7 d.toNat).toNat) = true then zu (kCarry0 σ r d) (23 + 6 * r) (σ 7 d.toNat).toNat d
  else kCarry0 σ r d
def kUnwait (σ : Zt) (r : Nat) (d : Int) : Zt := zu (zu σ (22 + 6 * r) d.toNat 0) (20 + 6 * r) 6 (σ (20 + 6 * r) 6 - 1)
def kWaited (r : Nat) : Nat → Zt → Zt
  | 0, σ => σ
  | n + 1, σ => if σ (20 + 6 * r) 6 ≤ 0 then σ else if kFirst σ r (σ 1 10).toNat 0 = -1 then σ else kWaited r n (kCarry (kUnwait σ r (kFirst σ r (σ 1 10).toNat 0)) r (kFirst σ r (σ 1 10).toNat 0))
def kRecR (σ : Zt) (r : Nat) (d : Int) : Int := if kDid σ r d = true ∨ σ (22 + 6 * r) d.toNat ≠ 0 then 0 else if kReady σ r d = true then 1 else 2
def kRecS (σ : Zt) (r : Nat) (d : Int) : Zt := if kDid σ r d = true ∨ σ (22 + 6 * r) d.toNat ≠ 0 then σ else if kReady σ r d = true then kWaited r 400 (kCarry σ r d) else zu (zu σ (22 + 6 * r) d.toNat 1) (20 + 6 * r) 6 (σ (20 + 6 * r) 6 + 1)
/-- levels of paths -/
def kLevel (σ : Zt) (d k : Int) : Int := if d = -1 ∨ σ 13 d.toNat < k then 0 else σ 12 (d * 12 + k - 1).toNat
def kDigit (x : Int) : Int := x / 4096
def kSite (x : Int) : Int := x / 512 % 8
def kCount (x : Int) : Int := x % 512
def kMake (d q n : Int) : Int := d * 4096 + q * 512 + n
def kBase (k : Int) : Int := 2 ^ (min (k + 3) 12).toNat
-- loops, step by step
theorem kLast_hit {σ : Zt} {w d : Int} (h0 : 0 ≤ d) (h1 : σ 9 d.toNat ≠ 0) (h2 : σ 2 d.toNat = w) : kLast σ w (d + 1).toNat = d := by
  rw [show (d + 1).toNat = d.toNat + 1 by omega, kLast, if_pos ⟨h1, h2⟩]; omega
theorem kLast_step {σ : Zt} {w d : Int} (h0 : 0 ≤ d) (h : ¬ (σ 9 d.toNat ≠ 0 ∧ σ 2 d.toNat = w)) : kLast σ w (d + 1).toNat = kLast σ w (d + -1 + 1).toNat := by
  rw [show (d + 1).toNat = d.toNat + 1 by omega, kLast, if_neg h, show (d + -1 + 1).toNat = d.toNat by omega]
theorem kLast_end {σ : Zt} {w d : Int} (h : d < 0) : kLast σ w (d + 1).toNat = -1 := by
  rw [show (d + 1).toNat = 0 by omega, kLast]
theorem kLast_rg (σ : Zt) (w : Int) (n : Nat) : -1 ≤ kLast σ w n ∧ kLast σ w n < n := by
  induction n with
  | zero => simp [kLast]
  | succ n ih => rw [kLast]; split <;> omega
theorem kAt_end {σ : Zt} {r : Nat} {t i q : Int} (h : t ≤ i) : kAt σ r (t - i).toNat i.toNat q = -1 := by
  rw [show (t - i).toNat = 0 by omega, kAt]
theorem kAt_neg {σ : Zt} {r : Nat} {t i q : Int} (h : i < t) (hq : q < 0) : kAt σ r (t - i).toNat i.toNat q = -1 := by
  rw [show (t - i).toNat = (t - (i + 1)).toNat + 1 by omega, kAt, if_pos hq]
theorem kAt_hit {σ : Zt} {r : Nat} {t i q : Int} (h : i < t) (ha : kAlive σ r (σ 14 i.toNat) = true) (hq : q = 0) : kAt σ r (t - i).toNat i.toNat q = σ 14 i.toNat := by
  rw [show (t - i).toNat = (t - (i + 1)).toNat + 1 by omega, kAt, if_neg (by omega), if_pos ha, if_pos hq]
theorem kAt_down {σ : Zt} {r : Nat} {t i q : Int} (h0 : 0 ≤ i) (h : i < t) (ha : kAlive σ r (σ 14 i.toNat) = true) (hq : 0 ≤ q) (hq0 : q ≠ 0) : kAt σ r (t - i).toNat i.toNat q = kAt σ r (t - (i + 1)).toNat (i + 1).toNat (q + -1) := by
  rw [show (t - i).toNat = (t - (i + 1)).toNat + 1 by omega, kAt, if_neg (by omega), if_pos ha, if_neg hq0, show (i + 1).toNat = i.toNat + 1 by omega, show q - 1 = q + -1 by omega]
theorem kAt_skip {σ : Zt} {r : Nat} {t i q : Int} (h0 : 0 ≤ i) (h : i < t) (ha : kAlive σ r (σ 14 i.toNat) = false) (hq : 0 ≤ q) : kAt σ r (t - i).toNat i.toNat q = kAt σ r (t - (i + 1)).toNat (i + 1).toNat q := by
  rw [show (t - i).toNat = (t - (i + 1)).toNat + 1 by omega, kAt, if_neg (by omega), if_neg (by rw [ha]; decide), show (i + 1).toNat = i.toNat + 1 by omega]
theorem kAt_rg {σ : Zt} (h : rgS σ) (r : Nat) : ∀ (n i : Nat) (q : Int), -1 ≤ kAt σ r n i q ∧ kAt σ r n i q < 400 := by
  intro n
  induction n with
  | zero => intro i q; simp [kAt]
  | succ n ih =>
    intro i q
    have b := rgS_14 h i
    rw [kAt]
    split
    · omega
    · split
      · split
        · omega
        · exact ih _ _
      · exact ih _ _
theorem kSignAt_rg {σ : Zt} (h : rgS σ) (r : Nat) (q : Int) : -1 ≤ kSignAt σ r q ∧ kSignAt σ r q < 400 := kAt_rg h r _ _ _
theorem kBefore_rg {σ : Zt} (h : rgS σ) (r : Nat) (q : Int) : -1 ≤ kBefore σ r q ∧ kBefore σ r q < 400 := by
  unfold kBefore
  split
  · omega
  · exact kSignAt_rg h r _
theorem kCnt_step {σ : Zt} {r : Nat} {i : Int} (h0 : 0 ≤ i) : kCnt σ r (i + 1).toNat = kCnt σ r i.toNat + bI (kAlive σ r (σ 14 i.toNat)) := by
  rw [show (i + 1).toNat = i.toNat + 1 by omega, kCnt]
theorem kCnt_rg (σ : Zt) (r : Nat) (n : Nat) : 0 ≤ kCnt σ r n ∧ kCnt σ r n ≤ n := by
  induction n with
  | zero => simp [kCnt]
  | succ n ih =>
    have b := bI_01 (kAlive σ r (σ 14 n))
    rw [kCnt]; omega
theorem kLen_rg {σ : Zt} (h : rgS σ) (r : Nat) : 0 ≤ kLen σ r ∧ kLen σ r ≤ 400 := by
  have b := kCnt_rg σ r (σ 11 4).toNat
  have b2 := rgS_11_4 h
  unfold kLen; omega
theorem kNext_end {σ : Zt} {r : Nat} {t i : Int} (h : t ≤ i) : kNext σ r (t - i).toNat i.toNat = -1 := by
  rw [show (t - i).toNat = 0 by omega, kNext]
theorem kNext_hit {σ : Zt} {r : Nat} {t i : Int} (h : i < t) (ha : kDid σ r (σ 14 i.toNat) = true) : kNext σ r (t - i).toNat i.toNat = σ 14 i.toNat := by
  rw [show (t - i).toNat = (t - (i + 1)).toNat + 1 by omega, kNext, if_pos ha]
theorem kNext_step {σ : Zt} {r : Nat} {t i : Int} (h0 : 0 ≤ i) (h : i < t) (ha : kDid σ r (σ 14 i.toNat) = false) : kNext σ r (t - i).toNat i.toNat = kNext σ r (t - (i + 1)).toNat (i + 1).toNat := by
  rw [show (t - i).toNat = (t - (i + 1)).toNat + 1 by omega, kNext, if_neg (by rw [ha]; decide), show (i + 1).toNat = i.toNat + 1 by omega]
theorem kNext_rg {σ : Zt} (h : rgS σ) (r : Nat) : ∀ (n i : Nat), -1 ≤ kNext σ r n i ∧ kNext σ r n i < 400 := by
  intro n
  induction n with
  | zero => intro i; simp [kNext]
  | succ n ih =>
    intro i
    have b := rgS_14 h i
    rw [kNext]
    split
    · omega
    · exact ih _
theorem kBehind_rg {σ : Zt} (h : rgS σ) (r : Nat) (d : Int) : -1 ≤ kBehind σ r d ∧ kBehind σ r d < 400 := by
  unfold kBehind
  split <;> exact kNext_rg h r _ _
theorem kFirst_end {σ : Zt} {r : Nat} {t i : Int} (h : t ≤ i) : kFirst σ r (t - i).toNat i.toNat = -1 := by
  rw [show (t - i).toNat = 0 by omega, kFirst]
theorem kFirst_hit {σ : Zt} {r : Nat} {t i : Int} (h0 : 0 ≤ i) (h : i < t) (h1 : σ (22 + 6 * r) i.toNat ≠ 0) (ha : kReady σ r i = true) : kFirst σ r (t - i).toNat i.toNat = i := by
  rw [show (t - i).toNat = (t - (i + 1)).toNat + 1 by omega, kFirst, if_pos ⟨h1, by rw [Int.toNat_of_nonneg h0]; exact ha⟩, Int.toNat_of_nonneg h0]
theorem kFirst_step {σ : Zt} {r : Nat} {t i : Int} (h0 : 0 ≤ i) (h : i < t) (ha : ¬ (σ (22 + 6 * r) i.toNat ≠ 0 ∧ kReady σ r i = true)) : kFirst σ r (t - i).toNat i.toNat = kFirst σ r (t - (i + 1)).toNat (i + 1).toNat := by
  rw [show (t - i).toNat = (t - (i + 1)).toNat + 1 by omega, kFirst, if_neg (by rw [Int.toNat_of_nonneg h0]; exact ha), show (i + 1).toNat = i.toNat + 1 by omega]
theorem kFirst_rg (σ : Zt) (r : Nat) : ∀ (n i : Nat), -1 ≤ kFirst σ r n i ∧ kFirst σ r n i < (i + n : Nat) := by
  intro n
  induction n with
  | zero => intro i; simp [kFirst]; omega
  | succ n ih =>
    intro i
    have := ih (i + 1)
    rw [kFirst]
    split <;> omega
theorem kSum_step {f : Nat → Int} {i : Int} (h0 : 0 ≤ i) : kSum f (i + 1).toNat = kSum f i.toNat + f i.toNat := by
  rw [show (i + 1).toNat = i.toNat + 1 by omega, kSum]
-- what writes
def kCoinS (σ : Zt) (r : Nat) : Zt := zu σ (20 + 6 * r) 3 (σ (20 + 6 * r) 3 * 1664525 + 1013904223)
def kCoin (σ : Zt) (r : Nat) : Int := (σ (20 + 6 * r) 3 * 1664525 + 1013904223) % 4294967296 / 65536
def kSend (σ : Zt) (d q : Int) : Zt := if 300 ≤ σ 16 2 then zu σ 16 3 (σ 16 3 + 1) else zu (zu (zu σ 17 (σ 16 2).toNat d) 18 (σ 16 2).toNat q) 16 2 (σ 16 2 + 1)
def kDrop : Nat → Nat → Zt → Zt
  | 0, _, σ => σ
  | n + 1, j, σ => kDrop n (j + 1) (zu (zu σ 17 j (σ 17 (j + 1))) 18 j (σ 18 (j + 1)))
def kDropS (σ : Zt) (i : Int) : Zt := kDrop (σ 16 2 - 1 - i).toNat i.toNat (zu σ 16 2 (σ 16 2 - 1))
def kAdd0 (σ : Zt) (w n t q v f g : Int) : Zt := zu (zu (zu (zu (zu (zu (zu (zu σ 2 (σ 1 10).toNat w) 3 (σ 1 10).toNat n) 4 (σ 1 10).toNat t) 5 (σ 1 10).toNat q) 6 (σ 1 10).toNat v) 7 (σ 1 10).toNat f) 8 (σ 1 10).toNat g) 9 (σ 1 10).toNat (bI (decide (q = 0) || decide (q = 1)))
def kAdd (σ : Zt) (w n t q v f g : Int) : Zt := zu (if q = 3 then zu (zu (kAdd0 σ w n t q v f g) 10 (σ 1 9).toNat (σ 1 10)) 1 9 (σ 1 9 + 1) else kAdd0 σ w n t q v f g) 1 10 (σ 1 10 + 1)
def kSendTo (d : Int) (r : Nat) : Nat → Int → Zt → Zt
  | 0, _, σ => σ
  | n + 1, q, σ => kSendTo d r n (q + 1) (if q = (r : Int) then σ else kSend σ d q)
def kPerform (σ : Zt) (r : Nat) (q v f g : Int) : Zt := kSendTo (σ 1 10) r 6 0 (kCarry (kAdd σ r (σ (21 + 6 * r) r + 1) (σ (20 + 6 * r) 4 + 1) q v f g) r (σ 1 10))
def kLastD (k lo hi co : Int) : Int := if k % 2 = 1 then lo + (1 + co % min 10 (hi - lo - 1)) else hi - (1 + co % min 10 (hi - lo - 1))
def kInner (x y : Int) (r : Nat) (n : Int) : Int := if x ≠ 0 then x else if kDigit y = 0 then y else kMake 0 r n
def kHigh (σ : Zt) (b k : Int) : Int := if b = -1 then kBase k else kDigit (kLevel σ b k)
def kFind (r : Nat) (fr be : Int) : Nat → Int → Int → Zt → Bool × Zt
  | 0, _, _, σ => (false, σ)
  | n + 1, k, b, σ =>
    if 1 < kHigh σ b k - kDigit (kLevel σ be k) then
      (true, zu (zu (kCoinS σ r) 12 (fr * 12 + k - 1).toNat (kMake (kLastD k (kDigit (kLevel σ be k)) (kHigh σ b k) (kCoin σ r)) r (σ (21 + 6 * r) r + 1))) 13 fr.toNat k)
    else kFind r fr be n (k + 1) (if kLevel (zu σ 12 (fr * 12 + k - 1).toNat (kInner (kLevel σ be k) (kLevel σ b k) r (σ (21 + 6 * r) r + 1))) b k = kInner (kLevel σ be k) (kLevel σ b k) r (σ (21 + 6 * r) r + 1) then b else -1)
      (zu σ 12 (fr * 12 + k - 1).toNat (kInner (kLevel σ be k) (kLevel σ b k) r (σ (21 + 6 * r) r + 1)))
def kIsBe (σ : Zt) (d f : Int) : Nat → Int → Bool
  | 0, _ => false
  | n + 1, k => if kLevel σ d k = kLevel σ f k then kIsBe σ d f n (k + 1) else decide (kLevel σ d k < kLevel σ f k)
def kGoal (σ : Zt) (f : Int) : Nat → Int → Int
  | 0, g => g
  | n + 1, g => if kIsBe σ (σ 14 g.toNat) f 12 1 = true then kGoal σ f n (g + 1) else g
def kShift : Nat → Int → Zt → Zt
  | 0, _, σ => σ
  | n + 1, i, σ => kShift n (i - 1) (zu (zu σ 14 i.toNat (σ 14 (i - 1).toNat)) 15 (σ 14 (i - 1).toNat).toNat i)
def kGoalOf (σ : Zt) (fr be : Int) : Int := if be = -1 then kGoal σ fr (σ 11 4).toNat 0 else kGoal σ fr (σ 11 4 - (σ 15 be.toNat + 1)).toNat (σ 15 be.toNat + 1)
def kInsert (σ : Zt) (fr be : Int) : Zt := zu (zu (zu (kShift (σ 11 4 - kGoalOf σ fr be).toNat (σ 11 4) σ) 14 (kGoalOf σ fr be).toNat fr) 15 fr.toNat (kGoalOf σ fr be)) 11 4 (σ 11 4 + 1)
-- ranges are kept
theorem kCoin_rg (σ : Zt) (r : Nat) : 0 ≤ kCoin σ r ∧ kCoin σ r < 65536 := by
  unfold kCoin; omega
theorem kCoinS_rg {σ : Zt} {r : Nat} (h : rgS σ) (hr : r < 6) : rgS (kCoinS σ r) := rzS_20_3 h hr
theorem kSend_rg {σ : Zt} {d q : Int} (h : rgS σ) (d0 : 0 ≤ d) (d1 : d < 400) (q0 : 0 ≤ q) (q1 : q < 6) : rgS (kSend σ d q) := by
  have b := rgS_16_2 h
  unfold kSend
  split
  · exact rzS_16_3 h
  · exact rzS_16_2 (rzS_18 (rzS_17 h d0 d1) q0 q1) (by omega) (by omega)
theorem kDrop_rg : ∀ (n j : Nat) (τ : Zt), rgS τ → rgS (kDrop n j τ) := by
  intro n
  induction n with
  | zero => intro j τ h; exact h
  | succ n ih =>
    intro j τ h
    rw [kDrop]
    have b1 := rgS_17 h (j + 1)
    have b2 := rgS_18 h (j + 1)
    exact ih _ _ (rzS_18 (rzS_17 h b1.1 b1.2) b2.1 b2.2)
theorem kDropS_rg {σ : Zt} {i : Int} (h : rgS σ) (i0 : 0 ≤ i) (i1 : i < σ 16 2) : rgS (kDropS σ i) := by
  have b := rgS_16_2 h
  exact kDrop_rg _ _ _ (rzS_16_2 h (by omega) (by omega))
theorem kDrop_end {τ : Zt} {t j : Int} (h : t ≤ j) : kDrop (t - j).toNat j.toNat τ = τ := by
  rw [show (t - j).toNat = 0 by omega, kDrop]
theorem kDrop_step {τ : Zt} {t j : Int} (h0 : 0 ≤ j) (h : j < t) : kDrop (t - j).toNat j.toNat τ = kDrop (t - (j + 1)).toNat (j + 1).toNat (zu (zu τ 17 j.toNat (τ 17 (j + 1).toNat)) 18 j.toNat (τ 18 (j + 1).toNat)) := by
  rw [show (t - j).toNat = (t - (j + 1)).toNat + 1 by omega, kDrop, show (j + 1).toNat = j.toNat + 1 by omega]
theorem kCarry0_rg {σ : Zt} {r : Nat} {d : Int} (h : rgS σ) (hr : r < 6) (dn : σ (21 + 6 * r) (σ 2 d.toNat).toNat < 400) : rgS (kCarry0 σ r d) := by
  have b1 := rgS_21 h hr (σ 2 d.toNat).toNat
  have b2 := rgS_20_4 h hr
  have b3 := rgS_4 h d.toNat
  exact rzS_20_4 (rzS_21 h hr (by omega) (by omega)) hr (by omega) (by omega)
theorem kCarry_rg {σ : Zt} {r : Nat} {d : Int} (h : rgS σ) (hr : r < 6) (d0 : 0 ≤ d) (d1 : d < 400) (dn : σ (21 + 6 * r) (σ 2 d.toNat).toNat < 400) : rgS (kCarry σ r d) := by
  have h0 := kCarry0_rg h hr dn
  unfold kCarry
  split
  · exact rzS_20_5 h0 hr
  · split
    · exact h0
    · split
      · exact rzS_23 h0 hr (by omega) (by omega)
      · exact h0
theorem kReady_dn {σ : Zt} {r : Nat} {d : Int} (h : rgS σ) (hd : kReady σ r d = true) : σ (21 + 6 * r) (σ 2 d.toNat).toNat < 400 := by
  have b := rgS_3 h d.toNat
  simp only [kReady, Bool.and_eq_true, decide_eq_true_eq] at hd
  omega
theorem kFirst_is {σ : Zt} {r : Nat} : ∀ (n i : Nat), kFirst σ r n i ≠ -1 → σ (22 + 6 * r) (kFirst σ r n i).toNat ≠ 0 ∧ kReady σ r (kFirst σ r n i) = true := by
  intro n
  induction n with
  | zero => intro i h; exact absurd rfl h
  | succ n ih =>
    intro i h
    rw [kFirst] at h ⊢
    split
    · rename_i q; exact q
    · rename_i q
      rw [if_neg q] at h
      exact ih _ h
theorem kUnwait_rg {σ : Zt} {r : Nat} {d : Int} (h : rgS σ) (hr : r < 6) (hw : 0 < σ (20 + 6 * r) 6) : rgS (kUnwait σ r d) := by
  have b := rgS_20_6 h hr
  exact rzS_20_6 (rzS_22 h hr (by omega) (by omega)) hr (by omega) (by omega)
theorem kBase_rg {k : Int} (h1 : 1 ≤ k) (h2 : k ≤ 12) : 16 ≤ kBase k ∧ kBase k ≤ 4096 := by
  have h : k = 1 ∨ k = 2 ∨ k = 3 ∨ k = 4 ∨ k = 5 ∨ k = 6 ∨ k = 7 ∨ k = 8 ∨ k = 9 ∨ k = 10 ∨ k = 11 ∨ k = 12 := by omega
  rcases h with h | h | h | h | h | h | h | h | h | h | h | h <;> subst h <;> decide
theorem sh_amt {z : Int} (h0 : 0 ≤ z) (h1 : z < 32) : ((jI z &&& 31).toBitVec.smod 32).toNat = z.toNat := by
  rw [jI_toNat h0]
  exact (by decide : ∀ n : Nat, n < 32 → ((nI n &&& 31).toBitVec.smod 32).toNat = n) _ (by omega)
theorem kLevel_rg {σ : Zt} (h : rgS σ) (d k : Int) : 0 ≤ kLevel σ d k ∧ kLevel σ d k < 16777216 := by
  have b := rgS_12 h (d * 12 + k - 1).toNat
  unfold kLevel
  split <;> omega
theorem kDigit_rg {x : Int} (h0 : 0 ≤ x) (h1 : x < 16777216) : 0 ≤ kDigit x ∧ kDigit x < 4096 := by unfold kDigit; omega
theorem kMake_rg {d q n : Int} (a1 : 0 ≤ d) (a2 : d < 4096) (b1 : 0 ≤ q) (b2 : q < 8) (c1 : 0 ≤ n) (c2 : n < 512) : 0 ≤ kMake d q n ∧ kMake d q n < 16777216 := by unfold kMake; omega
theorem kLastD_rg {k lo hi co : Int} (h0 : 0 ≤ lo) (h1 : lo + 1 < hi) (h2 : hi ≤ 4096) (c0 : 0 ≤ co) : lo < kLastD k lo hi co ∧ kLastD k lo hi co < hi := by
  have m0 : 0 < min 10 (hi - lo - 1) := by omega
  have e0 := Int.emod_nonneg co (show min 10 (hi - lo - 1) ≠ 0 by omega)
  have e1 := Int.emod_lt_of_pos co m0
  unfold kLastD
  split <;> omega
theorem kInner_rg {x y n : Int} {r : Nat} (hr : r < 6) (x0 : 0 ≤ x) (x1 : x < 16777216) (y0 : 0 ≤ y) (y1 : y < 16777216) (n0 : 0 ≤ n) (n1 : n < 512) : 0 ≤ kInner x y r n ∧ kInner x y r n < 16777216 := by
  unfold kInner
  split
  · omega
  · split
    · omega
    · exact kMake_rg (by omega) (by omega) (by omega) (by omega) n0 n1
theorem kHigh_rg {σ : Zt} (h : rgS σ) {b k : Int} (h1 : 1 ≤ k) (h2 : k ≤ 12) : 0 ≤ kHigh σ b k ∧ kHigh σ b k ≤ 4096 := by
  have a := kBase_rg h1 h2
  have l := kLevel_rg h b k
  have d := kDigit_rg l.1 l.2
  unfold kHigh
  split <;> omega
theorem kIsBe_end {σ : Zt} {d f k : Int} (h : 12 < k) : kIsBe σ d f (13 - k).toNat k = false := by
  rw [show (13 - k).toNat = 0 by omega, kIsBe]
theorem kIsBe_same {σ : Zt} {d f k : Int} (h : k ≤ 12) (e : kLevel σ d k = kLevel σ f k) : kIsBe σ d f (13 - k).toNat k = kIsBe σ d f (13 - (k + 1)).toNat (k + 1) := by
  rw [show (13 - k).toNat = (13 - (k + 1)).toNat + 1 by omega, kIsBe, if_pos e]
theorem kIsBe_tell {σ : Zt} {d f k : Int} (h : k ≤ 12) (e : kLevel σ d k ≠ kLevel σ f k) : kIsBe σ d f (13 - k).toNat k = decide (kLevel σ d k < kLevel σ f k) := by
  rw [show (13 - k).toNat = (13 - (k + 1)).toNat + 1 by omega, kIsBe, if_neg e]
theorem kGoal_end {σ : Zt} {f t g : Int} (h : t ≤ g) : kGoal σ f (t - g).toNat g = g := by
  rw [show (t - g).toNat = 0 by omega, kGoal]
theorem kGoal_stop {σ : Zt} {f t g : Int} (h : g < t) (e : kIsBe σ (σ 14 g.toNat) f 12 1 = false) : kGoal σ f (t - g).toNat g = g := by
  rw [show (t - g).toNat = (t - (g + 1)).toNat + 1 by omega, kGoal, if_neg (by rw [e]; decide)]
theorem kGoal_step {σ : Zt} {f t g : Int} (h : g < t) (e : kIsBe σ (σ 14 g.toNat) f 12 1 = true) : kGoal σ f (t - g).toNat g = kGoal σ f (t - (g + 1)).toNat (g + 1) := by
  rw [show (t - g).toNat = (t - (g + 1)).toNat + 1 by omega, kGoal, if_pos e]
theorem kGoal_rg {σ : Zt} {f : Int} : ∀ (n : Nat) (g : Int), g ≤ kGoal σ f n g ∧ kGoal σ f n g ≤ g + n := by
  intro n
  induction n with
  | zero => intro g; simp [kGoal]
  | succ n ih =>
    intro g
    have := ih (g + 1)
    rw [kGoal]
    split <;> omega
theorem kShift_end {τ : Zt} {i g : Int} (h : i ≤ g) : kShift (i - g).toNat i τ = τ := by
  rw [show (i - g).toNat = 0 by omega, kShift]
theorem kShift_step {τ : Zt} {i g : Int} (h : g < i) : kShift (i - g).toNat i τ = kShift (i + -1 - g).toNat (i + -1) (zu (zu τ 14 i.toNat (τ 14 (i - 1).toNat)) 15 (τ 14 (i - 1).toNat).toNat i) := by
  rw [show (i - g).toNat = (i + -1 - g).toNat + 1 by omega, kShift, show i + -1 = i - 1 by omega]
def kIsR (x : Int) : Bool := decide (0 ≤ x) && decide (x < 6)
theorem kIsR_t {x : Int} (h : kIsR x = true) : 0 ≤ x ∧ x < 6 := by simpa [kIsR] using h
theorem kIsR_f {x : Int} (h : kIsR x = false) : x < 0 ∨ 6 ≤ x := by simp [kIsR] at h; omega
def kIsC (x : Int) : Bool := decide (0 ≤ x) && decide (x < 4)
theorem kIsC_t {x : Int} (h : kIsC x = true) : 0 ≤ x ∧ x < 4 := by simpa [kIsC] using h
theorem kIsC_f {x : Int} (h : kIsC x = false) : x < 0 ∨ 4 ≤ x := by simp [kIsC] at h; omega
def kIsB (x : Int) : Bool := decide (32 ≤ x) && decide (x ≤ 126)
theorem kIsB_t {x : Int} (h : kIsB x = true) : 32 ≤ x ∧ x ≤ 126 := by simpa [kIsB] using h
theorem kIsB_f {x : Int} (h : kIsB x = false) : x < 32 ∨ 126 < x := by simp [kIsB] at h; omega
theorem kFull_f {σ : Zt} (h : kFull σ = false) : σ 1 10 < 400 := by simp [kFull] at h; omega
def kHolds (σ : Zt) (x : Int) : Bool := decide (0 ≤ x) && decide (x < σ 16 2)
theorem kHolds_t {σ : Zt} {x : Int} (h : kHolds σ x = true) : 0 ≤ x ∧ x < σ 16 2 := by simpa [kHolds] using h
def kWayF (σ : Zt) : Bool := decide (300 ≤ σ 16 2)
theorem kWayF_t {σ : Zt} (h : kWayF σ = true) : 300 ≤ σ 16 2 := by simpa [kWayF] using h
theorem kWayF_f {σ : Zt} (h : kWayF σ = false) : σ 16 2 < 300 := by simp [kWayF] at h; omega
theorem kGap_t {σ : Zt} {r : Nat} {q : Int} (h : kGap σ r q = true) : 0 ≤ q ∧ q ≤ kLen σ r := by simpa [kGap] using h
theorem kAdd0_rg {σ : Zt} {w t z q v f g : Int} (h : rgS σ) (w0 : 0 ≤ w) (w1 : w < 6) (t0 : 0 ≤ t) (t1 : t < 401) (z0 : 0 ≤ z) (z1 : z < 401) (q0 : 0 ≤ q) (q1 : q < 4) (v0 : 0 ≤ v) (v1 : v < 127) (f0 : 0 ≤ f) (f1 : f < 400) (g0 : 0 ≤ g) (g1 : g < 400) : rgS (kAdd0 σ w t z q v f g) := by
  have b := bI_01 (decide (q = 0) || decide (q = 1))
  exact rzS_9 (rzS_8 (rzS_7 (rzS_6 (rzS_5 (rzS_4 (rzS_3 (rzS_2 h w0 w1) t0 t1) z0 z1) q0 q1) v0 v1) f0 f1) g0 g1) (by omega) (by omega)
theorem kAdd_rg {σ : Zt} {w t z q v f g : Int} (h : rgS σ) (tt : σ 1 10 < 400) (tm : σ 1 9 < 400) (w0 : 0 ≤ w) (w1 : w < 6) (t0 : 0 ≤ t) (t1 : t < 401) (z0 : 0 ≤ z) (z1 : z < 401) (q0 : 0 ≤ q) (q1 : q < 4) (v0 : 0 ≤ v) (v1 : v < 127) (f0 : 0 ≤ f) (f1 : f < 400) (g0 : 0 ≤ g) (g1 : g < 400) : rgS (kAdd σ w t z q v f g) := by
  have b1 := rgS_1_10 h
  have b2 := rgS_1_9 h
  have h0 := kAdd0_rg h w0 w1 t0 t1 z0 z1 q0 q1 v0 v1 f0 f1 g0 g1
  unfold kAdd
  split
  · exact rzS_1_10 (rzS_1_9 (rzS_10 h0 (by omega) (by omega)) (by omega) (by omega)) (by omega) (by omega)
  · exact rzS_1_10 h0 (by omega) (by omega)
theorem kWaited_end {r : Nat} {i : Int} {τ : Zt} (h : 400 ≤ i) : kWaited r (400 - i).toNat τ = τ := by
  rw [show (400 - i).toNat = 0 by omega, kWaited]
theorem kWaited_stop {r : Nat} {i : Int} {τ : Zt} (h : τ (20 + 6 * r) 6 ≤ 0) : kWaited r (400 - i).toNat τ = τ := by
  cases (400 - i).toNat with
  | zero => rw [kWaited]
  | succ n => rw [kWaited, if_pos h]
theorem kWaited_none {r : Nat} {i : Int} {τ : Zt} (h : 0 < τ (20 + 6 * r) 6) (hd : kFirst τ r (τ 1 10).toNat 0 = -1) : kWaited r (400 - i).toNat τ = τ := by
  cases (400 - i).toNat with
  | zero => rw [kWaited]
  | succ n => rw [kWaited, if_neg (by omega), if_pos hd]
theorem kWaited_step {r : Nat} {i : Int} {τ : Zt} (hi : i < 400) (h : 0 < τ (20 + 6 * r) 6) (hd : kFirst τ r (τ 1 10).toNat 0 ≠ -1) : kWaited r (400 - i).toNat τ = kWaited r (400 - (i + 1)).toNat (kCarry (kUnwait τ r (kFirst τ r (τ 1 10).toNat 0)) r (kFirst τ r (τ 1 10).toNat 0)) := by
  rw [show (400 - i).toNat = (400 - (i + 1)).toNat + 1 by omega, kWaited, if_neg (by omega), if_neg hd]
theorem kWaited_rg {r : Nat} (hr : r < 6) : ∀ (n : Nat) (τ : Zt), rgS τ → rgS (kWaited r n τ) := by
  intro n
  induction n with
  | zero => intro τ h; exact h
  | succ n ih =>
    intro τ h
    have b := rgS_1_10 h
    have f := kFirst_rg τ r (τ 1 10).toNat 0
    rw [kWaited]
    split
    · exact h
    · split
      · exact h
      · rename_i h1 h2
        have h9 := kReady_dn h (kFirst_is (σ := τ) _ _ h2).2
        refine ih _ (kCarry_rg (kUnwait_rg h hr (by omega)) hr (by omega) (by omega) ?_)
        unfold kUnwait
        simp (disch := omega) only [zu_ne]
        exact h9
theorem kRecS_rg {σ : Zt} {r : Nat} {d : Int} (h : rgS σ) (hr : r < 6) (d0 : 0 ≤ d) (d1 : d < 400) (wt : kDid σ r d = false → σ (22 + 6 * r) d.toNat = 0 → σ (20 + 6 * r) 6 < 400) : rgS (kRecS σ r d) := by
  have b := rgS_20_6 h hr
  unfold kRecS
  split
  · exact h
  · rename_i h1
    split
    · rename_i h2
      exact kWaited_rg hr 400 _ (kCarry_rg h hr d0 d1 (kReady_dn h h2))
    · have h3 := wt (by grind) (by grind)
      exact rzS_20_6 (rzS_22 h hr (by omega) (by omega)) hr (by omega) (by omega)
theorem kAdd_own {σ : Zt} {w t z q v f g : Int} : (kAdd σ w t z q v f g) 2 (σ 1 10).toNat = w := by
  unfold kAdd kAdd0
  split <;> simp [zu]
theorem kAdd_rep {σ : Zt} {w t z q v f g : Int} {k : Nat} (h : 20 ≤ k) : (kAdd σ w t z q v f g) k = σ k := by
  unfold kAdd kAdd0
  split <;> simp (disch := omega) only [zu_ne]
theorem kSendTo_end {d : Int} {r : Nat} {j : Int} {τ : Zt} (h : 6 ≤ j) : kSendTo d r (6 - j).toNat j τ = τ := by
  rw [show (6 - j).toNat = 0 by omega, kSendTo]
theorem kSendTo_skip {d : Int} {r : Nat} {j : Int} {τ : Zt} (h : j < 6) (e : j = (r : Int)) : kSendTo d r (6 - j).toNat j τ = kSendTo d r (6 - (j + 1)).toNat (j + 1) τ := by
  rw [show (6 - j).toNat = (6 - (j + 1)).toNat + 1 by omega, kSendTo, if_pos e]
theorem kSendTo_go {d : Int} {r : Nat} {j : Int} {τ : Zt} (h : j < 6) (e : j ≠ (r : Int)) : kSendTo d r (6 - j).toNat j τ = kSendTo d r (6 - (j + 1)).toNat (j + 1) (kSend τ d j) := by
  rw [show (6 - j).toNat = (6 - (j + 1)).toNat + 1 by omega, kSendTo, if_neg e]
theorem kSendTo_rg {d : Int} (d0 : 0 ≤ d) (d1 : d < 400) {r : Nat} : ∀ (n : Nat) (j : Int) (τ : Zt), 0 ≤ j → j + n ≤ 6 → rgS τ → rgS (kSendTo d r n j τ) := by
  intro n
  induction n with
  | zero => intro j τ _ _ h; exact h
  | succ n ih =>
    intro j τ h0 h1 h
    rw [kSendTo]
    refine ih _ _ (by omega) (by omega) ?_
    split
    · exact h
    · exact kSend_rg h d0 d1 (by omega) (by omega)
theorem kPerform_rg {σ : Zt} {r : Nat} {q v f g : Int} (h : rgS σ) (hr : r < 6) (tt : σ 1 10 < 400) (tm : σ 1 9 < 400) (dn : σ (21 + 6 * r) r < 400) (tr : σ (20 + 6 * r) 4 < 400) (q0 : 0 ≤ q) (q1 : q < 4) (v0 : 0 ≤ v) (v1 : v < 127) (f0 : 0 ≤ f) (f1 : f < 400) (g0 : 0 ≤ g) (g1 : g < 400) : rgS (kPerform σ r q v f g) := by
  have b := rgS_1_10 h
  have b1 := rgS_21 h hr r
  have b2 := rgS_20_4 h hr
  have h1 : rgS (kAdd σ r (σ (21 + 6 * r) r + 1) (σ (20 + 6 * r) 4 + 1) q v f g) := kAdd_rg h tt tm (by omega) (by omega) (by omega) (by omega) (by omega) (by omega) q0 q1 v0 v1 f0 f1 g0 g1
  refine kSendTo_rg (by omega) (by omega) 6 0 _ (by omega) (by omega) (kCarry_rg h1 hr (by omega) (by omega) ?_)
  rw [kAdd_own, kAdd_rep (by omega)]
  simpa using dn
theorem kHigh_no {σ : Zt} {b k : Int} (h : b = -1) : kHigh σ b k = kBase k := by unfold kHigh; rw [if_pos h]
theorem kHigh_b {σ : Zt} {b k : Int} (h : b ≠ -1) : kHigh σ b k = kDigit (kLevel σ b k) := by unfold kHigh; rw [if_neg h]
theorem kFind_end {r : Nat} {fr be b k : Int} {τ : Zt} (h : 12 < k) : kFind r fr be (13 - k).toNat k b τ = (false, τ) := by
  rw [show (13 - k).toNat = 0 by omega, kFind]
theorem kFind_hit {r : Nat} {fr be b k : Int} {τ : Zt} (h : k ≤ 12) (hh : 1 < kHigh τ b k - kDigit (kLevel τ be k)) : kFind r fr be (13 - k).toNat k b τ =
    (true, zu (zu (kCoinS τ r) 12 (fr * 12 + k - 1).toNat (kMake (kLastD k (kDigit (kLevel τ be k)) (kHigh τ b k) (kCoin τ r)) r (τ (21 + 6 * r) r + 1))) 13 fr.toNat k) := by
  rw [show (13 - k).toNat = (13 - (k + 1)).toNat + 1 by omega, kFind, if_pos hh]
theorem kFind_keep {r : Nat} {fr be b k : Int} {τ : Zt} (h : k ≤ 12) (hh : ¬ 1 < kHigh τ b k - kDigit (kLevel τ be k))
    (e : kLevel (zu τ 12 (fr * 12 + k - 1).toNat (kInner (kLevel τ be k) (kLevel τ b k) r (τ (21 + 6 * r) r + 1))) b k = (zu τ 12 (fr * 12 + k - 1).toNat (kInner (kLevel τ be k) (kLevel τ b k) r (τ (21 + 6 * r) r + 1))) 12 (fr * 12 + k - 1).toNat) :
    kFind r fr be (13 - k).toNat k b τ = kFind r fr be (13 - (k + 1)).toNat (k + 1) b (zu τ 12 (fr * 12 + k - 1).toNat (kInner (kLevel τ be k) (kLevel τ b k) r (τ (21 + 6 * r) r + 1))) := by
  rw [show (13 - k).toNat = (13 - (k + 1)).toNat + 1 by omega, kFind, if_neg hh]
  rw [zu_same] at e
  rw [if_pos e]
theorem kFind_free {r : Nat} {fr be b k : Int} {τ : Zt} (h : k ≤ 12) (hh : ¬ 1 < kHigh τ b k - kDigit (kLevel τ be k))
    (e : kLevel (zu τ 12 (fr * 12 + k - 1).toNat (kInner (kLevel τ be k) (kLevel τ b k) r (τ (21 + 6 * r) r + 1))) b k ≠ (zu τ 12 (fr * 12 + k - 1).toNat (kInner (kLevel τ be k) (kLevel τ b k) r (τ (21 + 6 * r) r + 1))) 12 (fr * 12 + k - 1).toNat) :
    kFind r fr be (13 - k).toNat k b τ = kFind r fr be (13 - (k + 1)).toNat (k + 1) (-1) (zu τ 12 (fr * 12 + k - 1).toNat (kInner (kLevel τ be k) (kLevel τ b k) r (τ (21 + 6 * r) r + 1))) := by
  rw [show (13 - k).toNat = (13 - (k + 1)).toNat + 1 by omega, kFind, if_neg hh]
  rw [zu_same] at e
  rw [if_neg e]
theorem kFind_rg {r : Nat} {fr be : Int} (hr : r < 6) (fr0 : 0 ≤ fr) (fr1 : fr < 400) : ∀ (n : Nat) (k b : Int) (τ : Zt), 1 ≤ k → k + n ≤ 13 → rgS τ → τ (21 + 6 * r) r < 400 → rgS (kFind r fr be n k b τ).2 := by
  intro n
  induction n with
  | zero => intro k b τ _ _ h _; exact h
  | succ n ih =>
    intro k b τ h0 h1 h hd
    have c0 := rgS_21 h hr r
    have l1 := kLevel_rg h be k
    have l2 := kLevel_rg h b k
    have d1 := kDigit_rg l1.1 l1.2
    have g1 := kHigh_rg h (b := b) (k := k) (by omega) (by omega)
    have co := kCoin_rg τ r
    rw [kFind]
    split
    · have la := kLastD_rg (k := k) (lo := kDigit (kLevel τ be k)) (hi := kHigh τ b k) (co := kCoin τ r) (by omega) (by omega) (by omega) (by omega)
      have mk := kMake_rg (d := kLastD k (kDigit (kLevel τ be k)) (kHigh τ b k) (kCoin τ r)) (q := (r : Int)) (n := τ (21 + 6 * r) r + 1) (by omega) (by omega) (by omega) (by omega) (by omega) (by omega)
      exact rzS_13 (rzS_12 (kCoinS_rg h hr) mk.1 mk.2) (by omega) (by omega)
    · have mk := kInner_rg (x := kLevel τ be k) (y := kLevel τ b k) (r := r) (n := τ (21 + 6 * r) r + 1) hr l1.1 l1.2 l2.1 l2.2 (by omega) (by omega)
      refine ih _ _ _ (by omega) (by omega) (rzS_12 h mk.1 mk.2) ?_
      rw [zu_ne (by omega)]
      exact hd
theorem kGoalOf_rg {σ : Zt} {fr be : Int} (h : rgS σ) (bk : be = -1 ∨ σ 15 be.toNat < σ 11 4) : 0 ≤ kGoalOf σ fr be ∧ kGoalOf σ fr be ≤ σ 11 4 := by
  have b := rgS_11_4 h
  have c := rgS_15 h be.toNat
  unfold kGoalOf
  split
  · have := kGoal_rg (σ := σ) (f := fr) (σ 11 4).toNat 0
    omega
  · rename_i q
    have := kGoal_rg (σ := σ) (f := fr) (σ 11 4 - (σ 15 be.toNat + 1)).toNat (σ 15 be.toNat + 1)
    omega
theorem kShift_rg : ∀ (n : Nat) (i : Int) (τ : Zt), n ≤ i → 0 ≤ i → i < 400 → rgS τ → rgS (kShift n i τ) := by
  intro n
  induction n with
  | zero => intro i τ _ _ _ h; exact h
  | succ n ih =>
    intro i τ hn h0 h1 h
    have b := rgS_14 h (i - 1).toNat
    rw [kShift]
    exact ih _ _ (by omega) (by omega) (by omega) (rzS_15 (rzS_14 h b.1 b.2) h0 h1)
theorem kInsert_rg {σ : Zt} {fr be : Int} (h : rgS σ) (fr0 : 0 ≤ fr) (fr1 : fr < 400) (pp : σ 11 4 < 400) (bk : be = -1 ∨ σ 15 be.toNat < σ 11 4) : rgS (kInsert σ fr be) := by
  have b := rgS_11_4 h
  have g := kGoalOf_rg (fr := fr) h bk
  exact rzS_11_4 (rzS_15 (rzS_14 (kShift_rg _ _ _ (by omega) (by omega) (by omega) h) fr0 fr1) (by omega) (by omega)) (by omega) (by omega)
end
section
/-! SPEC, further: what stays, a sign that is put, kinds, what the public methods answer -/
theorem kFind_fr {r : Nat} {fr be : Int} {q : Nat} (h1 : q ≠ 12) (h2 : q ≠ 13) (h3 : q ≠ 20 + 6 * r) : ∀ (n : Nat) (k b : Int) (τ : Zt), (kFind r fr be n k b τ).2 q = τ q := by
  intro n
  induction n with
  | zero => intro k b τ; rfl
  | succ n ih =>
    intro k b τ
    rw [kFind]
    split
    · dsimp only; rw [zu_ne h2, zu_ne h1]; exact zu_ne h3
    · rw [ih, zu_ne h1]
theorem kFind_fr2 {r : Nat} {fr be : Int} {j : Nat} (h : j ≠ 3) : ∀ (n : Nat) (k b : Int) (τ : Zt), (kFind r fr be n k b τ).2 (20 + 6 * r) j = τ (20 + 6 * r) j := by
  intro n
  induction n with
  | zero => intro k b τ; rfl
  | succ n ih =>
    intro k b τ
    rw [kFind]
    split
    · dsimp only; rw [zu_ne (show 20 + 6 * r ≠ 13 by omega), zu_ne (show 20 + 6 * r ≠ 12 by omega)]; exact zu_nj h
    · rw [ih, zu_ne (show 20 + 6 * r ≠ 12 by omega)]
theorem kShift_fr {q : Nat} (h1 : q ≠ 14) (h2 : q ≠ 15) : ∀ (n : Nat) (i : Int) (τ : Zt), kShift n i τ q = τ q := by
  intro n
  induction n with
  | zero => intro i τ; rfl
  | succ n ih => intro i τ; rw [kShift, ih, zu_ne h2, zu_ne h1]
theorem kInsert_fr {σ : Zt} {fr be : Int} {q : Nat} (h0 : q ≠ 11) (h1 : q ≠ 14) (h2 : q ≠ 15) : kInsert σ fr be q = σ q := by
  unfold kInsert
  rw [zu_ne h0, zu_ne h2, zu_ne h1, kShift_fr h1 h2]
def kPutF (σ : Zt) (r : Nat) (q : Int) : Bool × Zt := kFind r (σ 1 10) (kBefore σ r q) 12 1 (kBehind σ r (kBefore σ r q)) σ
def kPutR (σ : Zt) (r : Nat) (q : Int) : Int := if kFull σ = true then -104 else if (kPutF σ r q).1 = true then σ 1 10 else -104
def kPutS (σ : Zt) (r : Nat) (q v : Int) : Zt := if kFull σ = true then σ else if (kPutF σ r q).1 = true then kPerform (kInsert (kPutF σ r q).2 (σ 1 10) (kBefore σ r q)) r 0 v (σ 1 10) (σ 1 10) else (kPutF σ r q).2
theorem kPutS_rg {σ : Zt} {r : Nat} {q v : Int} (h : rgS σ) (hr : r < 6) (v0 : 0 ≤ v) (v1 : v < 127) (tm : σ 1 9 ≤ σ 1 10) (pt : σ 11 4 ≤ σ 1 10) (dn : σ (21 + 6 * r) r ≤ σ 1 10) (tr : σ (20 + 6 * r) 4 ≤ σ 1 10) (bk : kBefore σ r q = -1 ∨ σ 15 (kBefore σ r q).toNat < σ 11 4) : rgS (kPutS σ r q v) := by
  have b := rgS_1_10 h
  unfold kPutS
  split
  · exact h
  · rename_i hf
    have hf := kFull_f (by simpa using hf)
    have e1 : ∀ j, (kPutF σ r q).2 1 j = σ 1 j := fun j => congrFun (kFind_fr (by omega) (by omega) (by omega) _ _ _ _) j
    have e2 : ∀ j, (kPutF σ r q).2 11 j = σ 11 j := fun j => congrFun (kFind_fr (by omega) (by omega) (by omega) _ _ _ _) j
    have e3 : ∀ j, (kPutF σ r q).2 15 j = σ 15 j := fun j => congrFun (kFind_fr (by omega) (by omega) (by omega) _ _ _ _) j
    have e4 : ∀ j, (kPutF σ r q).2 (21 + 6 * r) j = σ (21 + 6 * r) j := fun j => congrFun (kFind_fr (by omega) (by omega) (by omega) _ _ _ _) j
    have e5 : (kPutF σ r q).2 (20 + 6 * r) 4 = σ (20 + 6 * r) 4 := kFind_fr2 (by omega) _ _ _ _
    have h1 : rgS (kPutF σ r q).2 := kFind_rg hr (by omega) (by omega) 12 1 _ _ (by omega) (by omega) h (by omega)
    split
    · have h2 := kInsert_rg (fr := σ 1 10) (be := kBefore σ r q) h1 (by omega) (by omega) (by rw [e2]; omega) (by rw [e2, e3]; exact bk)
      refine kPerform_rg h2 hr ?_ ?_ ?_ ?_ (by omega) (by omega) v0 v1 (by omega) (by omega) (by omega) (by omega)
      · rw [kInsert_fr (by omega) (by omega) (by omega), e1]; omega
      · rw [kInsert_fr (by omega) (by omega) (by omega), e1]; omega
      · rw [kInsert_fr (by omega) (by omega) (by omega), e4]; omega
      · rw [kInsert_fr (by omega) (by omega) (by omega), e5]; omega
    · exact h1
-- kinds
def kMarked (σ : Zt) (r : Nat) (z d : Int) : Bool := kDid σ r d && (decide (σ 15 (σ 7 d.toNat).toNat ≤ σ 15 z.toNat) && decide (σ 15 z.toNat ≤ σ 15 (σ 8 d.toNat).toNat))
/-- of the first n marks the latest of a kind that is over a sign -/
def kLm (σ : Zt) (r : Nat) (z : Int) : Nat → Nat → Int
  | 0, _ => -1
  | n + 1, k => if k = (σ 6 (σ 10 n).toNat % 8).toNat ∧ kMarked σ r z (σ 10 n) = true ∧ (kLm σ r z n k = -1 ∨ kLater σ (σ 10 n) (kLm σ r z n k) = true) then σ 10 n else kLm σ r z n k
def kBits (σ : Zt) (f : Nat → Int) : Nat → Int
  | 0 => 0
  | n + 1 => if f n ≠ -1 ∧ 8 ≤ σ 6 (f n).toNat then kBits σ f n + 2 ^ n else kBits σ f n
def kKinds (σ : Zt) (r : Nat) (z : Int) : Int := kBits σ (kLm σ r z (σ 1 9).toNat) 8
/-- the same but for the rows that are used again -/
def zq (σ τ : Zt) : Prop := rgS τ ∧ ∀ k, k < 20 ∨ k % 6 ≠ 1 → τ k = σ k
theorem zq_rf {σ : Zt} (h : rgS σ) : zq σ σ := ⟨h, fun _ _ => rfl⟩
theorem zq_tr {σ τ ρ : Zt} (h1 : zq σ τ) (h2 : zq τ ρ) : zq σ ρ := ⟨h2.1, fun k h => (h2.2 k h).trans (h1.2 k h)⟩
theorem zq_did {σ τ : Zt} (h : zq σ τ) {r : Nat} : kDid τ r = kDid σ r := by
  funext d
  unfold kDid
  rw [h.2 3 (by omega), h.2 2 (by omega), h.2 (21 + 6 * r) (by omega)]
theorem zq_later {σ τ : Zt} (h : zq σ τ) : kLater τ = kLater σ := by
  funext d f
  unfold kLater
  rw [h.2 4 (by omega), h.2 2 (by omega)]
theorem zq_alive {σ τ : Zt} (h : zq σ τ) {r : Nat} : kAlive τ r = kAlive σ r := by
  funext d
  unfold kAlive
  rw [zq_did h, h.2 5 (by omega), h.2 (23 + 6 * r) (by omega)]
theorem zq_marked {σ τ : Zt} (h : zq σ τ) {r : Nat} : kMarked τ r = kMarked σ r := by
  funext z d
  unfold kMarked
  rw [zq_did h, h.2 15 (by omega), h.2 7 (by omega), h.2 8 (by omega)]
theorem zq_lm {σ τ : Zt} (h : zq σ τ) {r : Nat} {z : Int} : ∀ n k, kLm τ r z n k = kLm σ r z n k := by
  intro n
  induction n with
  | zero => intro k; rfl
  | succ n ih => intro k; rw [kLm, kLm, ih, h.2 6 (by omega), h.2 10 (by omega), zq_marked h, zq_later h]
theorem zq_bits {σ τ : Zt} (h : zq σ τ) {f : Nat → Int} : ∀ n, kBits τ f n = kBits σ f n := by
  intro n
  induction n with
  | zero => rfl
  | succ n ih => rw [kBits, kBits, ih, h.2 6 (by omega)]
theorem kBits_congr {σ : Zt} {f g : Nat → Int} : ∀ n, (∀ j, j < n → f j = g j) → kBits σ f n = kBits σ g n := by
  intro n
  induction n with
  | zero => intro _; rfl
  | succ n ih => intro h; rw [kBits, kBits, ih (fun j hj => h j (by omega)), h n (by omega)]
theorem zq_kinds {σ τ : Zt} (h : zq σ τ) {r : Nat} : kKinds τ r = kKinds σ r := by
  funext z
  unfold kKinds
  rw [h.2 1 (by omega), zq_bits h]
  exact kBits_congr _ (fun j _ => zq_lm h _ _)
theorem pw_8 {i : Int} (h0 : 0 ≤ i) (h1 : i < 8) : 0 < (2 : Int) ^ i.toNat ∧ (2 : Int) ^ i.toNat ≤ 128 ∧ (2 : Int) ^ (i + 1).toNat = 2 * (2 : Int) ^ i.toNat := by
  have h : i = 0 ∨ i = 1 ∨ i = 2 ∨ i = 3 ∨ i = 4 ∨ i = 5 ∨ i = 6 ∨ i = 7 := by omega
  rcases h with h | h | h | h | h | h | h | h <;> subst h <;> decide
theorem kBits_rg {σ : Zt} {f : Nat → Int} : ∀ n, 0 ≤ kBits σ f n ∧ kBits σ f n < 2 ^ n := by
  intro n
  induction n with
  | zero => simp [kBits]
  | succ n ih =>
    rw [kBits, Int.pow_succ]
    split <;> omega
theorem kKinds_rg (σ : Zt) (r : Nat) (z : Int) : 0 ≤ kKinds σ r z ∧ kKinds σ r z < 256 := by
  have := kBits_rg (σ := σ) (f := kLm σ r z (σ 1 9).toNat) 8
  unfold kKinds
  omega
theorem kBits_step {σ : Zt} {f : Nat → Int} {i : Int} (h0 : 0 ≤ i) : kBits σ f (i + 1).toNat = if f i.toNat ≠ -1 ∧ 8 ≤ σ 6 (f i.toNat).toNat then kBits σ f i.toNat + 2 ^ i.toNat else kBits σ f i.toNat := by
  rw [show (i + 1).toNat = i.toNat + 1 by omega, kBits]
theorem kLm_step {σ : Zt} {r : Nat} {z i : Int} {k : Nat} (h0 : 0 ≤ i) : kLm σ r z (i + 1).toNat k = if k = (σ 6 (σ 10 i.toNat).toNat % 8).toNat ∧ kMarked σ r z (σ 10 i.toNat) = true ∧ (kLm σ r z i.toNat k = -1 ∨ kLater σ (σ 10 i.toNat) (kLm σ r z i.toNat k) = true) then σ 10 i.toNat else kLm σ r z i.toNat k := by
  rw [show (i + 1).toNat = i.toNat + 1 by omega, kLm]
theorem zq_zu {σ τ : Zt} {r i : Nat} {v : Int} (h : zq σ τ) (hR : rgS (zu τ (25 + 6 * r) i v)) : zq σ (zu τ (25 + 6 * r) i v) :=
  ⟨hR, fun k hk => (zu_ne (by omega)).trans (h.2 k hk)⟩
theorem lm_init {τ : Zt} {r : Nat} {i : Int} (i0 : 0 ≤ i) (hL : ∀ k : Nat, k < i.toNat → τ (25 + 6 * r) k = -1) : ∀ k : Nat, k < (i + 1).toNat → zu τ (25 + 6 * r) i.toNat (-1) (25 + 6 * r) k = -1 := by
  intro k hk
  by_cases h : k = i.toNat
  · rw [h, zu_same]
  · rw [zu_nj h]; exact hL k (by omega)
theorem lm_keep {σ τ : Zt} {r : Nat} {z i : Int} (i0 : 0 ≤ i) (hz : zq σ τ) (hL : ∀ k : Nat, k < 8 → τ (25 + 6 * r) k = kLm σ r z i.toNat k)
    (h : ¬ (kMarked τ r z (τ 10 i.toNat) = true ∧ (τ (25 + 6 * r) (τ 6 (τ 10 i.toNat).toNat % 8).toNat = -1 ∨ kLater τ (τ 10 i.toNat) (τ (25 + 6 * r) (τ 6 (τ 10 i.toNat).toNat % 8).toNat) = true))) : ∀ k : Nat, k < 8 → τ (25 + 6 * r) k = kLm σ r z (i + 1).toNat k := by
  intro k hk
  rw [zq_marked hz, zq_later hz, hz.2 10 (by omega), hz.2 6 (by omega)] at h
  rw [kLm_step i0, if_neg, hL k hk]
  rintro ⟨e, h1, h2⟩
  rw [← e, hL k hk] at h
  exact h ⟨h1, h2⟩
theorem lm_put {σ τ : Zt} {r : Nat} {z i : Int} (i0 : 0 ≤ i) (hz : zq σ τ) (hL : ∀ k : Nat, k < 8 → τ (25 + 6 * r) k = kLm σ r z i.toNat k)
    (h1 : kMarked τ r z (τ 10 i.toNat) = true) (h2 : τ (25 + 6 * r) (τ 6 (τ 10 i.toNat).toNat % 8).toNat = -1 ∨ kLater τ (τ 10 i.toNat) (τ (25 + 6 * r) (τ 6 (τ 10 i.toNat).toNat % 8).toNat) = true) : ∀ k : Nat, k < 8 → zu τ (25 + 6 * r) (τ 6 (τ 10 i.toNat).toNat % 8).toNat (τ 10 i.toNat) (25 + 6 * r) k = kLm σ r z (i + 1).toNat k := by
  intro k hk
  rw [zq_marked hz, hz.2 10 (by omega)] at h1
  rw [zq_later hz, hz.2 10 (by omega), hz.2 6 (by omega)] at h2
  rw [hz.2 10 (by omega), hz.2 6 (by omega), kLm_step i0]
  by_cases e : k = (σ 6 (σ 10 i.toNat).toNat % 8).toNat
  · rw [if_pos ⟨e, h1, by rw [← hL k hk, e]; exact h2⟩, e, zu_same]
  · rw [zu_nj e, if_neg (fun q => e q.1), hL k hk]
def kAlike (σ : Zt) (r t : Nat) (z : Int) : Bool := decide (kAlive σ r z = kAlive σ t z) && (!kAlive σ r z || decide (kKinds σ r z = kKinds σ t z))
theorem bI_inj {a b : Bool} : bI a = bI b ↔ a = b := by cases a <;> cases b <;> decide
theorem kAlike_ne {σ : Zt} {r t : Nat} {z : Int} (h : bI (kAlive σ r z) ≠ bI (kAlive σ t z)) : false = kAlike σ r t z := by
  unfold kAlike
  rw [decide_eq_false (fun q => h (bI_inj.mpr q)), Bool.false_and]
theorem kAlike_dead {σ : Zt} {r t : Nat} {z : Int} (h : bI (kAlive σ r z) = bI (kAlive σ t z)) (h1 : kAlive σ r z = false) : true = kAlike σ r t z := by
  unfold kAlike
  rw [decide_eq_true (bI_inj.mp h), h1]
  rfl
theorem kAlike_same {σ : Zt} {r t : Nat} {z : Int} (h : bI (kAlive σ r z) = bI (kAlive σ t z)) (h1 : kAlive σ r z = true) (h2 : kKinds σ r z = kKinds σ t z) : true = kAlike σ r t z := by
  unfold kAlike
  rw [decide_eq_true (bI_inj.mp h), h1, decide_eq_true h2]
  rfl
theorem kAlike_diff {σ : Zt} {r t : Nat} {z : Int} (h : bI (kAlive σ r z) = bI (kAlive σ t z)) (h1 : kAlive σ r z = true) (h2 : kKinds σ r z ≠ kKinds σ t z) : false = kAlike σ r t z := by
  unfold kAlike
  rw [decide_eq_true (bI_inj.mp h), h1, decide_eq_false h2]
  rfl
end
section
/-! SPEC, the public methods -/
/-- what a method's steps need of the numbers -/
def kPre (σ : Zt) : Prop := σ 1 9 ≤ σ 1 10 ∧ σ 11 4 ≤ σ 1 10 ∧ (∀ r : Nat, r < 6 → σ (21 + 6 * r) r ≤ σ 1 10 ∧ σ (20 + 6 * r) 4 ≤ σ 1 10) ∧ (∀ i : Nat, (i : Int) < σ 11 4 → σ 15 (σ 14 i).toNat < σ 11 4) ∧
  (∀ r : Nat, r < 6 → ∀ d : Int, 0 ≤ d → d < σ 1 10 → kDid σ r d = false → σ (22 + 6 * r) d.toNat = 0 → σ (20 + 6 * r) 6 < 400) ∧ ∀ i : Nat, (i : Int) < σ 16 2 → σ 17 i < σ 1 10
theorem kAt_is {σ : Zt} {r : Nat} : ∀ (n i : Nat) (q : Int), kAt σ r n i q = -1 ∨ ∃ j : Nat, i ≤ j ∧ j < i + n ∧ kAt σ r n i q = σ 14 j ∧ kAlive σ r (σ 14 j) = true := by
  intro n
  induction n with
  | zero => intro i q; exact Or.inl rfl
  | succ n ih =>
    intro i q
    rw [kAt]
    split
    · exact Or.inl rfl
    · split
      · rename_i ha
        split
        · exact Or.inr ⟨i, by omega, by omega, rfl, ha⟩
        · rcases ih (i + 1) (q - 1) with h | ⟨j, h1, h2, h3, h4⟩
          · exact Or.inl h
          · exact Or.inr ⟨j, by omega, by omega, h3, h4⟩
      · rcases ih (i + 1) q with h | ⟨j, h1, h2, h3, h4⟩
        · exact Or.inl h
        · exact Or.inr ⟨j, by omega, by omega, h3, h4⟩
theorem kSignAt_is {σ : Zt} (h : rgS σ) (r : Nat) (q : Int) : kSignAt σ r q = -1 ∨ ∃ j : Nat, (j : Int) < σ 11 4 ∧ kSignAt σ r q = σ 14 j ∧ kAlive σ r (σ 14 j) = true := by
  have b := rgS_11_4 h
  rcases kAt_is (σ := σ) (r := r) (σ 11 4).toNat 0 q with h1 | ⟨j, h1, h2, h3, h4⟩
  · exact Or.inl h1
  · exact Or.inr ⟨j, by omega, h3, h4⟩
theorem kSignAt_bk {σ : Zt} (h : rgS σ) (hp : kPre σ) (r : Nat) (q : Int) : kSignAt σ r q = -1 ∨ σ 15 (kSignAt σ r q).toNat < σ 11 4 := by
  rcases kSignAt_is h r q with h1 | ⟨j, h1, h2, -⟩
  · exact Or.inl h1
  · exact Or.inr (by rw [h2]; exact hp.2.2.2.1 j h1)
theorem kBefore_bk {σ : Zt} (h : rgS σ) (hp : kPre σ) (r : Nat) (q : Int) : kBefore σ r q = -1 ∨ σ 15 (kBefore σ r q).toNat < σ 11 4 := by
  unfold kBefore
  split
  · exact Or.inl rfl
  · exact kSignAt_bk h hp r _
def kStrR (σ : Zt) (x : Int) : Int := if kIsR x = true then σ (20 + 6 * x.toNat) 3 else -101
def kStrS (σ : Zt) (x v : Int) : Zt := if kIsR x = true then zu σ (20 + 6 * x.toNat) 3 v else σ
def kTypR (σ : Zt) (x q v : Int) : Int := if kIsR x = true then (if kGap σ x.toNat q = true then (if kIsB v = true then kPutR σ x.toNat q else -102) else -102) else -101
def kTypS (σ : Zt) (x q v : Int) : Zt := if kIsR x = true then (if kGap σ x.toNat q = true then (if kIsB v = true then kPutS σ x.toNat q v else σ) else σ) else σ
def kEraR (σ : Zt) (x q : Int) : Int := if kIsR x = true then (if kSignAt σ x.toNat q = -1 then -102 else if kFull σ = true then -104 else σ 1 10) else -101
def kEraS (σ : Zt) (x q : Int) : Zt := if kIsR x = true then (if kSignAt σ x.toNat q = -1 then σ else if kFull σ = true then σ else kPerform σ x.toNat 1 0 (kSignAt σ x.toNat q) (kSignAt σ x.toNat q)) else σ
def kULast (σ : Zt) (x : Int) : Int := kLast σ x (σ 1 10).toNat
def kUndR (σ : Zt) (x : Int) : Int := if kIsR x = true then (if kULast σ x = -1 then -103 else if kFull σ = true then -104 else σ 1 10) else -101
def kUndS (σ : Zt) (x : Int) : Zt := if kIsR x = true then (if kULast σ x = -1 then σ else if kFull σ = true then σ else
  zu (zu (kPerform σ x.toNat (if σ 5 (kULast σ x).toNat = 0 then 1 else 2) 0 (σ 7 (kULast σ x).toNat) (σ 7 (kULast σ x).toNat)) 9 (kULast σ x).toNat 0) 9 (σ 1 10).toNat 0) else σ
def kMarB (σ : Zt) (x f t k : Int) : Bool := decide (kSignAt σ x.toNat f ≠ -1) && (decide (kSignAt σ x.toNat t ≠ -1) && (decide (f ≤ t) && (decide (0 ≤ k) && decide (k < 8))))
def kMarR (σ : Zt) (x f t k : Int) : Int := if kIsR x = true then (if kMarB σ x f t k = true then (if kFull σ = true then -104 else σ 1 10) else -102) else -101
def kMarS (σ : Zt) (x f t k : Int) (on : Bool) : Zt := if kIsR x = true then (if kMarB σ x f t k = true then (if kFull σ = true then σ else kPerform σ x.toNat 3 (if on = true then k + 8 else k) (kSignAt σ x.toNat f) (kSignAt σ x.toNat t)) else σ) else σ
theorem kDrop_fr {q : Nat} (h1 : q ≠ 17) (h2 : q ≠ 18) : ∀ (n j : Nat) (τ : Zt), kDrop n j τ q = τ q := by
  intro n
  induction n with
  | zero => intro j τ; rfl
  | succ n ih => intro j τ; rw [kDrop, ih, zu_ne h2, zu_ne h1]
theorem kDropS_fr {σ : Zt} {i : Int} {q : Nat} (h0 : q ≠ 16) (h1 : q ≠ 17) (h2 : q ≠ 18) : kDropS σ i q = σ q := by
  unfold kDropS
  rw [kDrop_fr h1 h2, zu_ne h0]
theorem kDropS_16 {σ : Zt} {i : Int} : kDropS σ i 16 2 = σ 16 2 - 1 := by
  unfold kDropS
  rw [kDrop_fr (by omega) (by omega), zu_same]
def kDelR (σ : Zt) (i : Int) : Int := if kHolds σ i = true then kRecR (kDropS σ i) (σ 18 i.toNat).toNat (σ 17 i.toNat) else -101
def kDelS (σ : Zt) (i : Int) : Zt := if kHolds σ i = true then kRecS (kDropS σ i) (σ 18 i.toNat).toNat (σ 17 i.toNat) else σ
def kLosR (σ : Zt) (i : Int) : Int := if kHolds σ i = true then σ 16 2 - 1 else -101
def kLosS (σ : Zt) (i : Int) : Zt := if kHolds σ i = true then kDropS σ i else σ
def kRepR (σ : Zt) (i : Int) : Int := if kHolds σ i = true then (if kWayF σ = true then -104 else σ 16 2 + 1) else -101
def kRepS (σ : Zt) (i : Int) : Zt := if kHolds σ i = true then (if kWayF σ = true then σ else kSend σ (σ 17 i.toNat) (σ 18 i.toNat)) else σ
def kLenR (σ : Zt) (x : Int) : Int := if kIsR x = true then kLen σ x.toNat else -101
def kCurR (σ : Zt) (x k q : Int) : Int := if kIsR x = true then (if kIsC k = true then (if kGap σ x.toNat q = true then kCur σ x.toNat k else -102) else -102) else -101
def kCurS (σ : Zt) (x k q : Int) : Zt := if kIsR x = true then (if kIsC k = true then (if kGap σ x.toNat q = true then zu σ (24 + 6 * x.toNat) k.toNat (kBefore σ x.toNat q) else σ) else σ) else σ
def kAtR (σ : Zt) (x k : Int) : Int := if kIsR x = true then (if kIsC k = true then kCur σ x.toNat k else -102) else -101
def kAboR (σ : Zt) (x y w : Int) : Int := if kIsR x = true then (if w = 0 then (if kIsR y = true then σ (21 + 6 * x.toNat) y.toNat else -101) else if w = 1 then σ (20 + 6 * x.toNat) 6 else if w = 2 then σ (20 + 6 * x.toNat) 4 else if w = 3 then σ (20 + 6 * x.toNat) 5 else -102) else -101
def kSame (σ : Zt) (r t : Nat) : Nat → Nat → Int
  | 0, _ => 1
  | n + 1, i => if kAlike σ r t (σ 14 i) = true then kSame σ r t n (i + 1) else 0
def kSamR (σ : Zt) (x y : Int) : Int := if kIsR x = true then (if kIsR y = true then kSame σ x.toNat y.toNat (σ 11 4).toNat 0 else -101) else -101
def kDeeR (σ : Zt) (d w : Int) : Int := if 0 ≤ d ∧ d < σ 1 10 then (if w = 0 then σ 2 d.toNat else if w = 1 then σ 3 d.toNat else if w = 2 then σ 4 d.toNat else if w = 3 then σ 5 d.toNat else if w = 4 then σ 6 d.toNat else if w = 5 then σ 7 d.toNat else -102) else -101
def kMesR (σ : Zt) (i w : Int) : Int := if kHolds σ i = true then (if w = 0 then σ 17 i.toNat else if w = 1 then σ 18 i.toNat else -102) else -101
def kCouR (σ : Zt) (w : Int) : Int := if w = 0 then σ 1 10 else if w = 1 then σ 16 2 else if w = 2 then σ 16 3 else -102
theorem kSame_end {σ : Zt} {r t : Nat} {p i : Int} (h : p ≤ i) : kSame σ r t (p - i).toNat i.toNat = 1 := by
  rw [show (p - i).toNat = 0 by omega, kSame]
theorem kSame_no {σ : Zt} {r t : Nat} {p i : Int} (h : i < p) (ha : kAlike σ r t (σ 14 i.toNat) = false) : kSame σ r t (p - i).toNat i.toNat = 0 := by
  rw [show (p - i).toNat = (p - (i + 1)).toNat + 1 by omega, kSame, if_neg (by rw [ha]; decide)]
theorem kSame_go {σ : Zt} {r t : Nat} {p i : Int} (h0 : 0 ≤ i) (h : i < p) (ha : kAlike σ r t (σ 14 i.toNat) = true) : kSame σ r t (p - i).toNat i.toNat = kSame σ r t (p - (i + 1)).toNat (i + 1).toNat := by
  rw [show (p - i).toNat = (p - (i + 1)).toNat + 1 by omega, kSame, if_pos ha, show (i + 1).toNat = i.toNat + 1 by omega]
theorem zq_alike {σ τ : Zt} (h : zq σ τ) {r t : Nat} {z : Int} : kAlike τ r t z = kAlike σ r t z := by
  unfold kAlike
  rw [zq_alive h, zq_alive h, zq_kinds h, zq_kinds h]
/-- paste: so many came, and the state -/
def kPas (x q n : Int) : Nat → Int → Int → Zt → Int × Zt
  | 0, _, _, σ => (n, σ)
  | m + 1, k, v, σ => if kPutR σ x.toNat (q + k) = -104 then (k, kPutS σ x.toNat (q + k) v) else kPas x q n m (k + 1) (if v = 126 then 32 else v + 1) (kPutS σ x.toNat (q + k) v)
def kPasB (σ : Zt) (x q n v : Int) : Bool := kGap σ x.toNat q && (decide (1 ≤ n) && (decide (n ≤ 20) && kIsB v))
def kPasR (σ : Zt) (x q n v : Int) : Int := if kIsR x = true then (if kPasB σ x q n v = true then (kPas x q n n.toNat 0 v σ).1 else -102) else -101
def kPasS (σ : Zt) (x q n v : Int) : Zt := if kIsR x = true then (if kPasB σ x q n v = true then (kPas x q n n.toNat 0 v σ).2 else σ) else σ
theorem kPas_end {x q n k v : Int} {τ : Zt} (h : n ≤ k) : kPas x q n (n - k).toNat k v τ = (n, τ) := by
  rw [show (n - k).toNat = 0 by omega, kPas]
theorem kPas_room {x q n k v : Int} {τ : Zt} (h : k < n) (e : kPutR τ x.toNat (q + k) = -104) : kPas x q n (n - k).toNat k v τ = (k, kPutS τ x.toNat (q + k) v) := by
  rw [show (n - k).toNat = (n - (k + 1)).toNat + 1 by omega, kPas, if_pos e]
theorem kPas_go {x q n k v : Int} {τ : Zt} (h : k < n) (e : kPutR τ x.toNat (q + k) ≠ -104) : kPas x q n (n - k).toNat k v τ = kPas x q n (n - (k + 1)).toNat (k + 1) (if v = 126 then 32 else v + 1) (kPutS τ x.toNat (q + k) v) := by
  rw [show (n - k).toNat = (n - (k + 1)).toNat + 1 by omega, kPas, if_neg e]
theorem kPutR_rg {σ : Zt} (h : rgS σ) (r : Nat) (q : Int) : -104 ≤ kPutR σ r q ∧ kPutR σ r q ≤ 400 := by
  have b := rgS_1_10 h
  unfold kPutR
  split
  · omega
  · split <;> omega
/-- sync, from deed d on -/
def kSyn (r t : Nat) : Nat → Int → Zt → Zt
  | 0, _, σ => σ
  | m + 1, d, σ => kSyn r t m (d + 1) (if kDid σ t d = true then kRecS σ r d else σ)
def kSynT (σ : Zt) (x y : Int) : Zt := kSyn x.toNat y.toNat (σ 1 10).toNat 0 σ
def kSynR (σ : Zt) (x y : Int) : Int := if kIsR x = true then (if kIsR y = true then kAll (kSynT σ x y) x.toNat - kAll σ x.toNat else -101) else -101
def kSynS (σ : Zt) (x y : Int) : Zt := if kIsR x = true then (if kIsR y = true then kSynT σ x y else σ) else σ
theorem kSyn_end {r t : Nat} {p d : Int} {τ : Zt} (h : p ≤ d) : kSyn r t (p - d).toNat d τ = τ := by
  rw [show (p - d).toNat = 0 by omega, kSyn]
theorem kSyn_go {r t : Nat} {p d : Int} {τ : Zt} (h : d < p) (e : kDid τ t d = true) : kSyn r t (p - d).toNat d τ = kSyn r t (p - (d + 1)).toNat (d + 1) (kRecS τ r d) := by
  rw [show (p - d).toNat = (p - (d + 1)).toNat + 1 by omega, kSyn, if_pos e]
theorem kSyn_skip {r t : Nat} {p d : Int} {τ : Zt} (h : d < p) (e : kDid τ t d = false) : kSyn r t (p - d).toNat d τ = kSyn r t (p - (d + 1)).toNat (d + 1) τ := by
  rw [show (p - d).toNat = (p - (d + 1)).toNat + 1 by omega, kSyn, if_neg (by rw [e]; decide)]
theorem kCarry_fr {σ : Zt} {r : Nat} {d : Int} {q : Nat} (h : q < 20) : kCarry σ r d q = σ q := by
  unfold kCarry kCarry0
  split
  · rw [zu_ne (by omega), zu_ne (by omega), zu_ne (by omega)]
  · split
    · rw [zu_ne (by omega), zu_ne (by omega)]
    · split
      · rw [zu_ne (by omega), zu_ne (by omega), zu_ne (by omega)]
      · rw [zu_ne (by omega), zu_ne (by omega)]
theorem kWaited_fr {r : Nat} {q : Nat} (h : q < 20) : ∀ (n : Nat) (τ : Zt), kWaited r n τ q = τ q := by
  intro n
  induction n with
  | zero => intro τ; rfl
  | succ n ih =>
    intro τ
    rw [kWaited]
    split
    · rfl
    · split
      · rfl
      · rw [ih, kCarry_fr h]
        unfold kUnwait
        rw [zu_ne (by omega), zu_ne (by omega)]
theorem kRecS_fr {σ : Zt} {r : Nat} {d : Int} {q : Nat} (h : q < 20) : kRecS σ r d q = σ q := by
  unfold kRecS
  split
  · rfl
  · split
    · rw [kWaited_fr h, kCarry_fr h]
    · rw [zu_ne (by omega), zu_ne (by omega)]
theorem kSend_16 {σ : Zt} {d q : Int} (h : σ 16 2 < 300) : kSend σ d q 16 2 = σ 16 2 + 1 := by
  unfold kSend
  rw [if_neg (by omega), zu_same]
end
section
/-! WHAT HOLDS of the class's numbers between calls, and how the reference's numbers go with them -/
def gA (κ : Zt) : Prop := (∀ r q : Nat, r < 6 → q < 6 → κ (21 + 6 * r) q ≤ κ (21 + 6 * q) q) ∧ ∀ r : Nat, r < 6 → κ (21 + 6 * r) r ≤ κ 1 10 ∧ κ (20 + 6 * r) 4 ≤ κ 1 10
def gB (κ : Zt) : Prop := ∀ d : Nat, (d : Int) < κ 1 10 → 1 ≤ κ 3 d ∧ κ 3 d ≤ κ (21 + 6 * (κ 2 d).toNat) (κ 2 d).toNat ∧ κ 4 d ≤ κ 1 10 ∧ 1 ≤ κ 4 d
def gC (κ : Zt) : Prop := ∀ d f : Nat, (d : Int) < κ 1 10 → (f : Int) < κ 1 10 → κ 2 d = κ 2 f → κ 3 d = κ 3 f → d = f
def gD (κ : Zt) : Prop := ∀ d : Nat, (d : Int) < κ 1 10 → κ 7 d ≤ d ∧ κ 8 d ≤ d ∧ κ 5 (κ 7 d).toNat = 0 ∧ κ 5 (κ 8 d).toNat = 0 ∧ (κ 5 d ≠ 3 → κ 8 d = κ 7 d) ∧ (κ 5 d = 0 → κ 7 d = d)
def gE (κ : Zt) : Prop := κ 11 4 ≤ κ 1 10 ∧ (∀ i : Nat, (i : Int) < κ 11 4 → κ 14 i < κ 1 10 ∧ κ 5 (κ 14 i).toNat = 0 ∧ κ 15 (κ 14 i).toNat = i) ∧ ∀ d : Nat, (d : Int) < κ 1 10 → κ 5 d = 0 → κ 15 d < κ 11 4 ∧ κ 14 (κ 15 d).toNat = d
def gF (κ : Zt) : Prop := ∀ r : Nat, r < 6 → (∀ d : Nat, κ (22 + 6 * r) d ≠ 0 → (d : Int) < κ 1 10 ∧ κ 2 d ≠ r ∧ kDid κ r d = false) ∧ κ (20 + 6 * r) 6 = kSum (κ (22 + 6 * r)) 400
def gR (κ : Zt) (r : Nat) : Prop := ∀ d : Nat, κ (22 + 6 * r) d ≠ 0 → kReady κ r d = false
def gG (κ : Zt) : Prop := κ 1 9 ≤ κ 1 10 ∧ (∀ i : Nat, (i : Int) < κ 1 9 → κ 10 i < κ 1 10 ∧ κ 5 (κ 10 i).toNat = 3) ∧ (∀ i j : Nat, i < j → (j : Int) < κ 1 9 → κ 10 i < κ 10 j) ∧ ∀ d : Nat, (d : Int) < κ 1 10 → κ 5 d = 3 → ∃ i : Nat, (i : Int) < κ 1 9 ∧ κ 10 i = d
def gH (κ : Zt) : Prop := ∀ i : Nat, (i : Int) < κ 16 2 → κ 17 i < κ 1 10
/-- a path: its levels are there, the last one is its own -/
def gI (κ : Zt) : Prop := (∀ d : Nat, (d : Int) < κ 1 10 → κ 5 d = 0 → 1 ≤ κ 13 d ∧ (∀ k : Int, 1 ≤ k → k ≤ κ 13 d → 1 ≤ kCount (kLevel κ d k)) ∧ 1 ≤ kDigit (kLevel κ d (κ 13 d)) ∧ kSite (kLevel κ d (κ 13 d)) = κ 2 d ∧ kCount (kLevel κ d (κ 13 d)) = κ 3 d) ∧
  (∀ d : Nat, κ 1 10 ≤ d → κ 13 d = 0) ∧ ∀ i j : Nat, i < j → (j : Int) < κ 11 4 → kIsBe κ (κ 14 i) (κ 14 j) 12 1 = true
def gJ (κ : Zt) : Prop := ∀ r : Nat, r < 6 → κ (20 + 6 * r) 5 = kSum (fun d => bI (decide (κ 5 d = 0) && kDid κ r d)) (κ 1 10).toNat
def gK (κ : Zt) : Prop := ∀ r : Nat, r < 6 → ∀ k : Nat, k < 4 → κ (24 + 6 * r) k = -1 ∨ (0 ≤ κ (24 + 6 * r) k ∧ κ (24 + 6 * r) k < κ 1 10 ∧ κ 5 (κ (24 + 6 * r) k).toNat = 0)
def gL (κ : Zt) : Prop := ∀ r : Nat, r < 6 → ∀ d : Nat, κ (23 + 6 * r) d < κ 1 10 ∨ κ (23 + 6 * r) d = -1
/-- all but that nothing waits that can be done -/
def kMid (κ : Zt) : Prop := rgS κ ∧ gA κ ∧ gB κ ∧ gC κ ∧ gD κ ∧ gE κ ∧ gF κ ∧ gG κ ∧ gH κ ∧ gI κ ∧ gJ κ ∧ gK κ ∧ gL κ
def kGood (κ : Zt) : Prop := kMid κ ∧ ∀ r : Nat, r < 6 → gR κ r
theorem kMid.rg {κ : Zt} (h : kMid κ) : rgS κ := h.1
theorem kMid.a {κ : Zt} (h : kMid κ) : gA κ := h.2.1
theorem kMid.b {κ : Zt} (h : kMid κ) : gB κ := h.2.2.1
theorem kMid.c {κ : Zt} (h : kMid κ) : gC κ := h.2.2.2.1
theorem kMid.d {κ : Zt} (h : kMid κ) : gD κ := h.2.2.2.2.1
theorem kMid.e {κ : Zt} (h : kMid κ) : gE κ := h.2.2.2.2.2.1
theorem kMid.f {κ : Zt} (h : kMid κ) : gF κ := h.2.2.2.2.2.2.1
theorem kMid.g {κ : Zt} (h : kMid κ) : gG κ := h.2.2.2.2.2.2.2.1
theorem kMid.h {κ : Zt} (h : kMid κ) : gH κ := h.2.2.2.2.2.2.2.2.1
theorem kMid.i {κ : Zt} (h : kMid κ) : gI κ := h.2.2.2.2.2.2.2.2.2.1
theorem kMid.j {κ : Zt} (h : kMid κ) : gJ κ := h.2.2.2.2.2.2.2.2.2.2.1
theorem kMid.k {κ : Zt} (h : kMid κ) : gK κ := h.2.2.2.2.2.2.2.2.2.2.2.1
theorem kMid.l {κ : Zt} (h : kMid κ) : gL κ := h.2.2.2.2.2.2.2.2.2.2.2.2
theorem kSum_le {f : Nat → Int} : ∀ n, (∀ j, 0 ≤ f j ∧ f j ≤ 1) → 0 ≤ kSum f n ∧ kSum f n ≤ n := by
  intro n h
  induction n with
  | zero => simp [kSum]
  | succ n ih => have := h n; rw [kSum]; omega
theorem kSum_lt {f : Nat → Int} : ∀ n, (∀ j, 0 ≤ f j ∧ f j ≤ 1) → ∀ k, k < n → f k = 0 → kSum f n < n := by
  intro n h
  induction n with
  | zero => intro k hk; omega
  | succ n ih =>
    intro k hk h0
    rw [kSum]
    have hn := h n
    by_cases e : k = n
    · subst e; have := kSum_le k h; omega
    · have := ih k (by omega) h0; omega
theorem kGood_pre {κ : Zt} (h : kMid κ) : kPre κ := by
  refine ⟨h.g.1, h.e.1, fun r hr => h.a.2 r hr, fun i hi => ?_, fun r hr d d0 d1 _ hw => ?_, h.h⟩
  · rw [(h.e.2.1 i hi).2.2]; exact hi
  · have b := rgS_1_10 h.rg
    rw [(h.f r hr).2]
    exact kSum_lt 400 (fun j => by have := rgS_22 h.rg hr j; omega) d.toNat (by omega) hw
/-- the reference's numbers: 0 itself; whose 1 number 2 time 3 sort 4 told 5 one 6 two 7 undone 8 undoes 9 levels 10 digits 11 sites 12 counts 13 sorted 14 rank 15 done 16 waits 17 latest 18 doneOf 19 greatest 20 streams 21 cursors 22 wayDeed 23 wayTo 24 digit 25 site 26 count 27 -/
def RR (κ μ : Zt) : Prop :=
  (μ 0 1 = κ 1 10 ∧ μ 0 15 = κ 11 4 ∧ μ 0 25 = κ 16 2 ∧ μ 0 28 = κ 16 3) ∧
  (μ 1 = κ 2 ∧ μ 2 = κ 3 ∧ μ 3 = κ 4 ∧ μ 4 = κ 5 ∧ μ 5 = κ 6 ∧ μ 6 = κ 7 ∧ μ 10 = κ 13 ∧ μ 14 = κ 14 ∧ μ 15 = κ 15 ∧ μ 23 = κ 17 ∧ μ 24 = κ 18) ∧
  (∀ d : Nat, κ 5 d = 3 → μ 7 d = κ 8 d) ∧
  (∀ d : Nat, (d : Int) < κ 1 10 → (κ 9 d ≠ 0 ↔ (κ 5 d = 0 ∨ κ 5 d = 1) ∧ μ 8 d = 0 ∧ μ 9 d = 0)) ∧
  (∀ d k : Nat, (k : Int) < κ 13 d → κ 12 (d * 12 + k) = kMake (μ 11 (d * 12 + k)) (μ 12 (d * 12 + k)) (μ 13 (d * 12 + k))) ∧
  (∀ r : Nat, r < 6 → (∀ d : Nat, (d : Int) < κ 1 10 → μ 16 (400 * r + d) = bI (kDid κ r d)) ∧ (∀ d : Nat, d < 400 → μ 17 (400 * r + d) = κ (22 + 6 * r) d ∧ μ 18 (400 * r + d) = κ (23 + 6 * r) d) ∧
    (∀ q : Nat, q < 6 → μ 19 (6 * r + q) = κ (21 + 6 * r) q) ∧ μ 20 r = κ (20 + 6 * r) 4 ∧ μ 21 r = κ (20 + 6 * r) 3 ∧ ∀ k : Nat, k < 4 → μ 22 (4 * r + k) = κ (24 + 6 * r) k)
section RRS
variable {κ μ : Zt}
theorem rr_0_1 (h : RR κ μ) : μ 0 1 = κ 1 10 := h.1.1
theorem rr_0_15 (h : RR κ μ) : μ 0 15 = κ 11 4 := h.1.2.1
theorem rr_0_25 (h : RR κ μ) : μ 0 25 = κ 16 2 := h.1.2.2.1
theorem rr_0_28 (h : RR κ μ) : μ 0 28 = κ 16 3 := h.1.2.2.2
theorem rr_1 (h : RR κ μ) : μ 1 = κ 2 := h.2.1.1
theorem rr_2 (h : RR κ μ) : μ 2 = κ 3 := h.2.1.2.1
theorem rr_3 (h : RR κ μ) : μ 3 = κ 4 := h.2.1.2.2.1
theorem rr_4 (h : RR κ μ) : μ 4 = κ 5 := h.2.1.2.2.2.1
theorem rr_5 (h : RR κ μ) : μ 5 = κ 6 := h.2.1.2.2.2.2.1
theorem rr_6 (h : RR κ μ) : μ 6 = κ 7 := h.2.1.2.2.2.2.2.1
theorem rr_10 (h : RR κ μ) : μ 10 = κ 13 := h.2.1.2.2.2.2.2.2.1
theorem rr_14 (h : RR κ μ) : μ 14 = κ 14 := h.2.1.2.2.2.2.2.2.2.1
theorem rr_15 (h : RR κ μ) : μ 15 = κ 15 := h.2.1.2.2.2.2.2.2.2.2.1
theorem rr_23 (h : RR κ μ) : μ 23 = κ 17 := h.2.1.2.2.2.2.2.2.2.2.2.1
theorem rr_24 (h : RR κ μ) : μ 24 = κ 18 := h.2.1.2.2.2.2.2.2.2.2.2.2
theorem rr_16 (h : RR κ μ) {x d : Int} (x0 : 0 ≤ x) (x1 : x < 6) (d0 : 0 ≤ d) (d1 : d < κ 1 10) : μ 16 (400 * x + d).toNat = bI (kDid κ x.toNat d) := by
  rw [show (400 * x + d).toNat = 400 * x.toNat + d.toNat by omega, (h.2.2.2.2.2 x.toNat (by omega)).1 d.toNat (by omega), Int.toNat_of_nonneg d0]
theorem rr_17 (h : RR κ μ) {x d : Int} (x0 : 0 ≤ x) (x1 : x < 6) (d0 : 0 ≤ d) (d1 : d < 400) : μ 17 (400 * x + d).toNat = κ (22 + 6 * x.toNat) d.toNat := by
  rw [show (400 * x + d).toNat = 400 * x.toNat + d.toNat by omega]
  exact ((h.2.2.2.2.2 x.toNat (by omega)).2.1 d.toNat (by omega)).1
theorem rr_18 (h : RR κ μ) {x d : Int} (x0 : 0 ≤ x) (x1 : x < 6) (d0 : 0 ≤ d) (d1 : d < 400) : μ 18 (400 * x + d).toNat = κ (23 + 6 * x.toNat) d.toNat := by
  rw [show (400 * x + d).toNat = 400 * x.toNat + d.toNat by omega]
  exact ((h.2.2.2.2.2 x.toNat (by omega)).2.1 d.toNat (by omega)).2
theorem rr_19 (h : RR κ μ) {x d : Int} (x0 : 0 ≤ x) (x1 : x < 6) (d0 : 0 ≤ d) (d1 : d < 6) : μ 19 (6 * x + d).toNat = κ (21 + 6 * x.toNat) d.toNat := by
  rw [show (6 * x + d).toNat = 6 * x.toNat + d.toNat by omega]
  exact (h.2.2.2.2.2 x.toNat (by omega)).2.2.1 d.toNat (by omega)
theorem rr_20 (h : RR κ μ) {x : Int} (x0 : 0 ≤ x) (x1 : x < 6) : μ 20 x.toNat = κ (20 + 6 * x.toNat) 4 := (h.2.2.2.2.2 x.toNat (by omega)).2.2.2.1
theorem rr_21 (h : RR κ μ) {x : Int} (x0 : 0 ≤ x) (x1 : x < 6) : μ 21 x.toNat = κ (20 + 6 * x.toNat) 3 := (h.2.2.2.2.2 x.toNat (by omega)).2.2.2.2.1
theorem rr_22 (h : RR κ μ) {x d : Int} (x0 : 0 ≤ x) (x1 : x < 6) (d0 : 0 ≤ d) (d1 : d < 4) : μ 22 (4 * x + d).toNat = κ (24 + 6 * x.toNat) d.toNat := by
  rw [show (4 * x + d).toNat = 4 * x.toNat + d.toNat by omega]
  exact (h.2.2.2.2.2 x.toNat (by omega)).2.2.2.2.2 d.toNat (by omega)
end RRS
end
section
set_option maxHeartbeats 4000000 in
set_option maxRecDepth 100000 in
theorem kX0_isFull (l : Launch) {D : va_G} {a : Nat → Nat} {cI cZ cR : ClassId} (σ : Zt) (hR : rgS σ) : zc l D vwCl (tyS cI cZ cR) 56 (layS cI cZ cR a) a yX0_isFull wsX0_isFull ({ frames := 0, cells := 0, slots := 0, locals := 0 }) [.ref (a 1)] σ (fun r_ u_ => r_ = jI (bI (kFull σ)) ∧ u_ = σ) := by
  refine zc_of (cc := cX0_isFull) (maxL := 1) (ret := some .boolean) (own := RX0) (by decide) rfl rfl (Nat.le_of_ble_eq_true rfl) rfl ?_
  intro p e s m below meth c A ls C X hP hS hl
  refine zg_aload_n C dX0_isFull_0 rfl (lv_at hl 0 rfl) ?_
  refine zg_get (j := 10) C X hP (by decide) lyS_1 rfl (zmem uwX0) (by decide) (C.tb flX0_40) (fun _ h9 => h9) rfl dX0_isFull_1 ?_
  have b_1 := rgS_1_10 hR
  refine zg_sipush C dX0_isFull_4 (by decide) ?_
  refine zg_icmp_lt (tgt := 14) C (by omega) (by omega) (by omega) (by omega) dX0_isFull_7 (by decide) (fun c_2 => ?_) (fun c_2 => ?_)
  · refine zg_iconst C dX0_isFull_14 ?_
    refine zg_zret (b := false) C hP hS dX0_isFull_15 ?_
    exact ⟨congrArg (fun b => jI (bI b)) (by grind [kFull]), rfl⟩
  · refine zg_iconst C dX0_isFull_10 ?_
    refine zg_goto (tgt := 15) C dX0_isFull_11 (by decide) ?_
    refine zg_zret (b := true) C hP hS dX0_isFull_15 ?_
    exact ⟨congrArg (fun b => jI (bI b)) (by grind [kFull]), rfl⟩
set_option maxHeartbeats 4000000 in
set_option maxRecDepth 100000 in
theorem kX0_isLater (l : Launch) {D : va_G} {a : Nat → Nat} {cI cZ cR : ClassId} (σ : Zt) (hR : rgS σ) (d : Int) (f : Int) (d0 : 0 ≤ d) (d1 : d < 400) (f0 : 0 ≤ f) (f1 : f < 400) : zc l D vwCl (tyS cI cZ cR) 56 (layS cI cZ cR a) a yX0_isLater wsX0_isLater ({ frames := 0, cells := 0, slots := 0, locals := 0 }) [.ref (a 1), .int (jI d), .int (jI f)] σ (fun r_ u_ => r_ = jI (bI (kLater σ d f)) ∧ u_ = σ) := by
  refine zc_of (cc := cX0_isLater) (maxL := 3) (ret := some .boolean) (own := RX0) (by decide) rfl rfl (Nat.le_of_ble_eq_true rfl) rfl ?_
  intro p e s m below meth c A ls C X hP hS hl
  refine zg_aload_n C dX0_isLater_0 rfl (lv_at hl 0 rfl) ?_
  refine zg_get (j := 2) C X hP (by decide) lyS_1 rfl (zmem uwX0) (by decide) (C.tb flX0_18) (fun _ h9 => h9) rfl dX0_isLater_1 ?_
  refine zg_iload_n C dX0_isLater_4 rfl (lv_at hl 1 rfl) ?_
  refine zg_iald (t0 := 0) C X hP (by decide) lyS_4 rfl (by decide) (by omega) (by omega) dX0_isLater_5 ?_
  have b_1 := rgS_4 hR ((d).toNat)
  refine zg_aload_n C dX0_isLater_6 rfl (lv_at hl 0 rfl) ?_
  refine zg_get (j := 2) C X hP (by decide) lyS_1 rfl (zmem uwX0) (by decide) (C.tb flX0_18) (fun _ h9 => h9) rfl dX0_isLater_7 ?_
  refine zg_iload_n C dX0_isLater_10 rfl (lv_at hl 2 rfl) ?_
  refine zg_iald (t0 := 0) C X hP (by decide) lyS_4 rfl (by decide) (by omega) (by omega) dX0_isLater_11 ?_
  have b_2 := rgS_4 hR ((f).toNat)
  refine zg_icmp_gt (tgt := 45) C (by omega) (by omega) (by omega) (by omega) dX0_isLater_12 (by decide) (fun c_3 => ?_) (fun c_3 => ?_)
  · refine zg_iconst C dX0_isLater_45 ?_
    refine zg_goto (tgt := 50) C dX0_isLater_46 (by decide) ?_
    refine zg_zret (b := true) C hP hS dX0_isLater_50 ?_
    exact ⟨congrArg (fun b => jI (bI b)) (by grind [kLater]), rfl⟩
  · refine zg_aload_n C dX0_isLater_15 rfl (lv_at hl 0 rfl) ?_
    refine zg_get (j := 2) C X hP (by decide) lyS_1 rfl (zmem uwX0) (by decide) (C.tb flX0_18) (fun _ h9 => h9) rfl dX0_isLater_16 ?_
    refine zg_iload_n C dX0_isLater_19 rfl (lv_at hl 1 rfl) ?_
    refine zg_iald (t0 := 0) C X hP (by decide) lyS_4 rfl (by decide) (by omega) (by omega) dX0_isLater_20 ?_
    have b_4 := rgS_4 hR ((d).toNat)
    refine zg_aload_n C dX0_isLater_21 rfl (lv_at hl 0 rfl) ?_
    refine zg_get (j := 2) C X hP (by decide) lyS_1 rfl (zmem uwX0) (by decide) (C.tb flX0_18) (fun _ h9 => h9) rfl dX0_isLater_22 ?_
    refine zg_iload_n C dX0_isLater_25 rfl (lv_at hl 2 rfl) ?_
    refine zg_iald (t0 := 0) C X hP (by decide) lyS_4 rfl (by decide) (by omega) (by omega) dX0_isLater_26 ?_
    have b_5 := rgS_4 hR ((f).toNat)
    refine zg_icmp_ne (tgt := 49) C (by omega) (by omega) (by omega) (by omega) dX0_isLater_27 (by decide) (fun c_6 => ?_) (fun c_6 => ?_)
    · refine zg_iconst C dX0_isLater_49 ?_
      refine zg_zret (b := false) C hP hS dX0_isLater_50 ?_
      exact ⟨congrArg (fun b => jI (bI b)) (by grind [kLater]), rfl⟩
    · refine zg_aload_n C dX0_isLater_30 rfl (lv_at hl 0 rfl) ?_
      refine zg_get (j := 0) C X hP (by decide) lyS_1 rfl (zmem uwX0) (by decide) (C.tb flX0_9) (fun _ h9 => h9) rfl dX0_isLater_31 ?_
      refine zg_iload_n C dX0_isLater_34 rfl (lv_at hl 1 rfl) ?_
      refine zg_iald (t0 := 0) C X hP (by decide) lyS_2 rfl (by decide) (by omega) (by omega) dX0_isLater_35 ?_
      have b_7 := rgS_2 hR ((d).toNat)
      refine zg_aload_n C dX0_isLater_36 rfl (lv_at hl 0 rfl) ?_
      refine zg_get (j := 0) C X hP (by decide) lyS_1 rfl (zmem uwX0) (by decide) (C.tb flX0_9) (fun _ h9 => h9) rfl dX0_isLater_37 ?_
      refine zg_iload_n C dX0_isLater_40 rfl (lv_at hl 2 rfl) ?_
      refine zg_iald (t0 := 0) C X hP (by decide) lyS_2 rfl (by decide) (by omega) (by omega) dX0_isLater_41 ?_
      have b_8 := rgS_2 hR ((f).toNat)
      refine zg_icmp_le (tgt := 49) C (by omega) (by omega) (by omega) (by omega) dX0_isLater_42 (by decide) (fun c_9 => ?_) (fun c_9 => ?_)
      · refine zg_iconst C dX0_isLater_49 ?_
        refine zg_zret (b := false) C hP hS dX0_isLater_50 ?_
        exact ⟨congrArg (fun b => jI (bI b)) (by grind [kLater]), rfl⟩
      · refine zg_iconst C dX0_isLater_45 ?_
        refine zg_goto (tgt := 50) C dX0_isLater_46 (by decide) ?_
        refine zg_zret (b := true) C hP hS dX0_isLater_50 ?_
        exact ⟨congrArg (fun b => jI (bI b)) (by grind [kLater]), rfl⟩
set_option maxHeartbeats 4000000 in
set_option maxRecDepth 100000 in
theorem lpX0_lastToUndo_7 {l : Launch} {D : va_G} {a : Nat → Nat} {cI cZ cR : ClassId} {p : Program} {e : Env} {s : State} {m : MethodId} {below : List Frame} {meth : Method} {c : Code} {A : Nat → Prop} (σ : Zt) (hR : rgS σ) (w : Int) (w0 : 0 ≤ w) (w1 : w < 6)  (C : zk p s m ([.ref (a 1), .int (jI w)] : List Value).toArray meth c cX0_lastToUndo 3 (some .int) wsX0_lastToUndo RX0) (X : zx D vwCl (tyS cI cZ cR) A a 56 s) :
    ∀ (n : Nat) (d : Int) (H : Heap) (locs : List Loc) (ls : Array Slot), ((d + 1).toNat < n) → (-1 ≤ d) → (d < 400) → (kLast σ w (σ 1 10).toNat = kLast σ w (d + 1).toNat) → va_P D vwCl (zw 56 (layS cI cZ cR a) a σ) H → va_S A s.heap H locs → lv_has ls 3 [(0, .ref (a 1)), (1, .int (jI w)), (2, .int (jI d))] →
      W p l e ({ frames := 0, cells := 0, slots := 0, locals := 0 }) s m ([.ref (a 1), .int (jI w)] : List Value).toArray below meth c H locs 0 0 (MQ below (va_Qi (fun r_ u_ => r_ = jI (kLast σ w (σ 1 10).toNat) ∧ u_ = σ) (fun (u : Zt) t => va_P D vwCl (zw 56 (layS cI cZ cR a) a u) t.heap) A) ([.ref (a 1), .int (jI w)] : List Value).toArray s 0 0 A) (F0 m 7 ls []) := by
  intro n
  induction n with
  | zero =>
    intro d  H locs ls hn h0 h1 hE hP hS hl
    exact absurd hn (by omega)
  | succ n ih =>
    intro d  H locs ls hn h0 h1 hE hP hS hl
    refine zg_iload_n C dX0_lastToUndo_7 rfl (lv_at hl 2 rfl) ?_
    refine zg_if_lt (tgt := 38) C (by omega) (by omega) dX0_lastToUndo_8 (by decide) (fun c_1 => ?_) (fun c_1 => ?_)
    · refine zg_iconst C dX0_lastToUndo_38 ?_
      refine zg_iret C hP hS dX0_lastToUndo_39 ?_
      exact ⟨congrArg jI (by rw [hE, kLast_end (by omega)]), rfl⟩
    · refine zg_aload_n C dX0_lastToUndo_11 rfl (lv_at hl 0 rfl) ?_
      refine zg_get (j := 7) C X hP (by decide) lyS_1 rfl (zmem uwX0) (by decide) (C.tb flX0_33) (fun _ h9 => h9) rfl dX0_lastToUndo_12 ?_
      refine zg_iload_n C dX0_lastToUndo_15 rfl (lv_at hl 2 rfl) ?_
      refine zg_zald (t0 := 1) C X hP (by decide) lyS_9 rfl (by decide) (by omega) (by omega) dX0_lastToUndo_16 ?_
      have b_2 := rgS_9 hR ((d).toNat)
      refine zg_if_eq (tgt := 32) C (by omega) (by omega) dX0_lastToUndo_17 (by decide) (fun c_3 => ?_) (fun c_3 => ?_)
      · refine zg_iinc (k := 2) (lv' := [(2, .int (jI (d + -1))), (0, .ref (a 1)), (1, .int (jI w))]) C dX0_lastToUndo_32 hl rfl (by decide) rfl (fun ls hl => ?_)
        refine zg_goto (tgt := 7) C dX0_lastToUndo_35 (by decide) ?_
        exact ih (d + -1) _ _ _ (by omega) (by omega) (by omega) (hE.trans (kLast_step (by omega) (by grind))) hP hS (lv_sub hl [1, 2, 0] rfl)
      · refine zg_aload_n C dX0_lastToUndo_20 rfl (lv_at hl 0 rfl) ?_
        refine zg_get (j := 0) C X hP (by decide) lyS_1 rfl (zmem uwX0) (by decide) (C.tb flX0_9) (fun _ h9 => h9) rfl dX0_lastToUndo_21 ?_
        refine zg_iload_n C dX0_lastToUndo_24 rfl (lv_at hl 2 rfl) ?_
        refine zg_iald (t0 := 0) C X hP (by decide) lyS_2 rfl (by decide) (by omega) (by omega) dX0_lastToUndo_25 ?_
        have b_4 := rgS_2 hR ((d).toNat)
        refine zg_iload_n C dX0_lastToUndo_26 rfl (lv_at hl 1 rfl) ?_
        refine zg_icmp_ne (tgt := 32) C (by omega) (by omega) (by omega) (by omega) dX0_lastToUndo_27 (by decide) (fun c_5 => ?_) (fun c_5 => ?_)
        · refine zg_iinc (k := 2) (lv' := [(2, .int (jI (d + -1))), (0, .ref (a 1)), (1, .int (jI w))]) C dX0_lastToUndo_32 hl rfl (by decide) rfl (fun ls hl => ?_)
          refine zg_goto (tgt := 7) C dX0_lastToUndo_35 (by decide) ?_
          exact ih (d + -1) _ _ _ (by omega) (by omega) (by omega) (hE.trans (kLast_step (by omega) (by grind))) hP hS (lv_sub hl [1, 2, 0] rfl)
        · refine zg_iload_n C dX0_lastToUndo_30 rfl (lv_at hl 2 rfl) ?_
          refine zg_iret C hP hS dX0_lastToUndo_31 ?_
          exact ⟨congrArg jI (by rw [hE, kLast_hit (by omega) (by assumption) (by assumption)]), rfl⟩
set_option maxHeartbeats 4000000 in
set_option maxRecDepth 100000 in
theorem kX0_lastToUndo (l : Launch) {D : va_G} {a : Nat → Nat} {cI cZ cR : ClassId} (σ : Zt) (hR : rgS σ) (w : Int) (w0 : 0 ≤ w) (w1 : w < 6) : zc l D vwCl (tyS cI cZ cR) 56 (layS cI cZ cR a) a yX0_lastToUndo wsX0_lastToUndo ({ frames := 0, cells := 0, slots := 0, locals := 0 }) [.ref (a 1), .int (jI w)] σ (fun r_ u_ => r_ = jI (kLast σ w (σ 1 10).toNat) ∧ u_ = σ) := by
  refine zc_of (cc := cX0_lastToUndo) (maxL := 3) (ret := some .int) (own := RX0) (by decide) rfl rfl (Nat.le_of_ble_eq_true rfl) rfl ?_
  intro p e s m below meth c A ls C X hP hS hl
  refine zg_aload_n C dX0_lastToUndo_0 rfl (lv_at hl 0 rfl) ?_
  refine zg_get (j := 10) C X hP (by decide) lyS_1 rfl (zmem uwX0) (by decide) (C.tb flX0_40) (fun _ h9 => h9) rfl dX0_lastToUndo_1 ?_
  have b_6 := rgS_1_10 hR
  refine zg_iconst C dX0_lastToUndo_4 ?_
  refine zg_isub C dX0_lastToUndo_5 ?_
  refine zg_istore_n (lv' := [(2, .int (jI ((σ 1 10) - 1))), (0, .ref (a 1)), (1, .int (jI w))]) C dX0_lastToUndo_6 rfl hl (by decide) rfl (fun ls hl => ?_)
  exact lpX0_lastToUndo_7 σ hR w w0 w1 C X 401 ((σ 1 10) - 1) _ _ _ (by omega) (by omega) (by omega) (by rw [show σ 1 10 - 1 + 1 = σ 1 10 by omega]) hP hS (lv_sub hl [1, 2, 0] rfl)
set_option maxHeartbeats 4000000 in
set_option maxRecDepth 100000 in
theorem kX3_holds (l : Launch) {D : va_G} {a : Nat → Nat} {cI cZ cR : ClassId} (σ : Zt) (hR : rgS σ) (i : Int) (i0 : -2147483648 ≤ i) (i1 : i < 2147483648) : zc l D vwCl (tyS cI cZ cR) 56 (layS cI cZ cR a) a yX3_holds wsX3_holds ({ frames := 0, cells := 0, slots := 0, locals := 0 }) [.ref (a 16), .int (jI i)] σ (fun r_ u_ => r_ = jI (bI (kHolds σ i)) ∧ u_ = σ) := by
  refine zc_of (cc := cX3_holds) (maxL := 2) (ret := some .boolean) (own := RX3) (by decide) rfl rfl (Nat.le_of_ble_eq_true rfl) rfl ?_
  intro p e s m below meth c A ls C X hP hS hl
  refine zg_iload_n C dX3_holds_0 rfl (lv_at hl 1 rfl) ?_
  refine zg_if_lt (tgt := 16) C (by omega) (by omega) dX3_holds_1 (by decide) (fun c_1 => ?_) (fun c_1 => ?_)
  · refine zg_iconst C dX3_holds_16 ?_
    refine zg_zret (b := false) C hP hS dX3_holds_17 ?_
    exact ⟨congrArg (fun b => jI (bI b)) (by grind [kHolds]), rfl⟩
  · refine zg_iload_n C dX3_holds_4 rfl (lv_at hl 1 rfl) ?_
    refine zg_aload_n C dX3_holds_5 rfl (lv_at hl 0 rfl) ?_
    refine zg_get (j := 2) C X hP (by decide) lyS_16 rfl (zmem uwX3) (by decide) (C.tb flX3_18) (fun _ h9 => h9) rfl dX3_holds_6 ?_
    have b_2 := rgS_16_2 hR
    refine zg_icmp_ge (tgt := 16) C (by omega) (by omega) (by omega) (by omega) dX3_holds_9 (by decide) (fun c_3 => ?_) (fun c_3 => ?_)
    · refine zg_iconst C dX3_holds_16 ?_
      refine zg_zret (b := false) C hP hS dX3_holds_17 ?_
      exact ⟨congrArg (fun b => jI (bI b)) (by grind [kHolds]), rfl⟩
    · refine zg_iconst C dX3_holds_12 ?_
      refine zg_goto (tgt := 17) C dX3_holds_13 (by decide) ?_
      refine zg_zret (b := true) C hP hS dX3_holds_17 ?_
      exact ⟨congrArg (fun b => jI (bI b)) (by grind [kHolds]), rfl⟩
set_option maxHeartbeats 4000000 in
set_option maxRecDepth 100000 in
theorem kX3_isFull (l : Launch) {D : va_G} {a : Nat → Nat} {cI cZ cR : ClassId} (σ : Zt) (hR : rgS σ) : zc l D vwCl (tyS cI cZ cR) 56 (layS cI cZ cR a) a yX3_isFull wsX3_isFull ({ frames := 0, cells := 0, slots := 0, locals := 0 }) [.ref (a 16)] σ (fun r_ u_ => r_ = jI (bI (kWayF σ)) ∧ u_ = σ) := by
  refine zc_of (cc := cX3_isFull) (maxL := 1) (ret := some .boolean) (own := RX3) (by decide) rfl rfl (Nat.le_of_ble_eq_true rfl) rfl ?_
  intro p e s m below meth c A ls C X hP hS hl
  refine zg_aload_n C dX3_isFull_0 rfl (lv_at hl 0 rfl) ?_
  refine zg_get (j := 2) C X hP (by decide) lyS_16 rfl (zmem uwX3) (by decide) (C.tb flX3_18) (fun _ h9 => h9) rfl dX3_isFull_1 ?_
  have b_1 := rgS_16_2 hR
  refine zg_sipush C dX3_isFull_4 (by decide) ?_
  refine zg_icmp_lt (tgt := 14) C (by omega) (by omega) (by omega) (by omega) dX3_isFull_7 (by decide) (fun c_2 => ?_) (fun c_2 => ?_)
  · refine zg_iconst C dX3_isFull_14 ?_
    refine zg_zret (b := false) C hP hS dX3_isFull_15 ?_
    exact ⟨congrArg (fun b => jI (bI b)) (by grind [kWayF]), rfl⟩
  · refine zg_iconst C dX3_isFull_10 ?_
    refine zg_goto (tgt := 15) C dX3_isFull_11 (by decide) ?_
    refine zg_zret (b := true) C hP hS dX3_isFull_15 ?_
    exact ⟨congrArg (fun b => jI (bI b)) (by grind [kWayF]), rfl⟩
set_option maxHeartbeats 4000000 in
set_option maxRecDepth 100000 in
theorem kX2_nextNumber (l : Launch) {D : va_G} {a : Nat → Nat} {cI cZ cR : ClassId} (σ : Zt) (hR : rgS σ) (r : Nat) (hr : r < 6) : zc l D vwCl (tyS cI cZ cR) 56 (layS cI cZ cR a) a yX2_nextNumber wsX2_nextNumber ({ frames := 0, cells := 0, slots := 0, locals := 0 }) [.ref (a (20 + 6 * r))] σ (fun r_ u_ => r_ = jI (σ (21 + 6 * r) r + 1) ∧ u_ = σ) := by
  refine zc_of (cc := cX2_nextNumber) (maxL := 1) (ret := some .int) (own := RX2) (by decide) rfl rfl (Nat.le_of_ble_eq_true rfl) rfl ?_
  intro p e s m below meth c A ls C X hP hS hl
  refine zg_aload_n C dX2_nextNumber_0 rfl (lv_at hl 0 rfl) ?_
  refine zg_get (j := 7) C X hP (hkS_20 hr) (lyS_20 hr) rfl (zmem uwX2) (by decide) (C.tb flX2_9) (fun _ h9 => h9) rfl dX2_nextNumber_1 ?_
  refine zg_aload_n C dX2_nextNumber_4 rfl (lv_at hl 0 rfl) ?_
  refine zg_get (j := 0) C X hP (hkS_20 hr) (lyS_20 hr) rfl (zmem uwX2) (by decide) (C.tb flX2_28) (fun _ h9 => h9) rfl dX2_nextNumber_5 ?_
  have b_1 := rgS_20_0 hR hr
  refine zg_iald (t0 := 0) C X hP (hkS_21 hr) (lyS_21 hr) rfl (by decide) (by omega) (by omega) dX2_nextNumber_8 ?_
  have b_2 := rgS_21 hR hr ((σ (20 + 6 * r) 0).toNat)
  refine zg_iconst C dX2_nextNumber_9 ?_
  refine zg_iadd C dX2_nextNumber_10 ?_
  refine zg_iret C hP hS dX2_nextNumber_11 ?_
  exact ⟨congrArg jI (by rw [show (σ (20 + 6 * r) 0).toNat = r by omega]), rfl⟩
set_option maxHeartbeats 4000000 in
set_option maxRecDepth 100000 in
theorem lpX2_doneInAll_4 {l : Launch} {D : va_G} {a : Nat → Nat} {cI cZ cR : ClassId} {p : Program} {e : Env} {s : State} {m : MethodId} {below : List Frame} {meth : Method} {c : Code} {A : Nat → Prop} (σ : Zt) (hR : rgS σ) (r : Nat) (hr : r < 6)  (C : zk p s m ([.ref (a (20 + 6 * r))] : List Value).toArray meth c cX2_doneInAll 3 (some .int) wsX2_doneInAll RX2) (X : zx D vwCl (tyS cI cZ cR) A a 56 s) :
    ∀ (n : Nat) (al i : Int) (H : Heap) (locs : List Loc) (ls : Array Slot), ((6 - i).toNat < n) → (0 ≤ i) → (i ≤ 6) → (al = kSum (σ (21 + 6 * r)) i.toNat) → va_P D vwCl (zw 56 (layS cI cZ cR a) a σ) H → va_S A s.heap H locs → lv_has ls 3 [(0, .ref (a (20 + 6 * r))), (1, .int (jI al)), (2, .int (jI i))] →
      W p l e ({ frames := 0, cells := 0, slots := 0, locals := 0 }) s m ([.ref (a (20 + 6 * r))] : List Value).toArray below meth c H locs 0 0 (MQ below (va_Qi (fun r_ u_ => r_ = jI (kAll σ r) ∧ u_ = σ) (fun (u : Zt) t => va_P D vwCl (zw 56 (layS cI cZ cR a) a u) t.heap) A) ([.ref (a (20 + 6 * r))] : List Value).toArray s 0 0 A) (F0 m 4 ls []) := by
  intro n
  induction n with
  | zero =>
    intro al i  H locs ls hn h0 h1 hE hP hS hl
    exact absurd hn (by omega)
  | succ n ih =>
    intro al i  H locs ls hn h0 h1 hE hP hS hl
    refine zg_iload_n C dX2_doneInAll_4 rfl (lv_at hl 2 rfl) ?_
    refine zg_bipush C dX2_doneInAll_5 (by decide) ?_
    refine zg_icmp_ge (tgt := 25) C (by omega) (by omega) (by omega) (by omega) dX2_doneInAll_7 (by decide) (fun c_1 => ?_) (fun c_1 => ?_)
    · refine zg_iload_n C dX2_doneInAll_25 rfl (lv_at hl 1 rfl) ?_
      refine zg_iret C hP hS dX2_doneInAll_26 ?_
      exact ⟨congrArg jI (by rw [hE, show i.toNat = 6 by omega]; rfl), rfl⟩
    · refine zg_iload_n C dX2_doneInAll_10 rfl (lv_at hl 1 rfl) ?_
      refine zg_aload_n C dX2_doneInAll_11 rfl (lv_at hl 0 rfl) ?_
      refine zg_get (j := 7) C X hP (hkS_20 hr) (lyS_20 hr) rfl (zmem uwX2) (by decide) (C.tb flX2_9) (fun _ h9 => h9) rfl dX2_doneInAll_12 ?_
      refine zg_iload_n C dX2_doneInAll_15 rfl (lv_at hl 2 rfl) ?_
      refine zg_iald (t0 := 0) C X hP (hkS_21 hr) (lyS_21 hr) rfl (by decide) (by omega) (by omega) dX2_doneInAll_16 ?_
      have b_2 := rgS_21 hR hr ((i).toNat)
      refine zg_iadd C dX2_doneInAll_17 ?_
      refine zg_istore_n (lv' := [(1, .int (jI (al + (σ (21 + 6 * r) (i).toNat)))), (0, .ref (a (20 + 6 * r))), (2, .int (jI i))]) C dX2_doneInAll_18 rfl hl (by decide) rfl (fun ls hl => ?_)
      refine zg_iinc (k := 2) (lv' := [(2, .int (jI (i + 1))), (1, .int (jI (al + (σ (21 + 6 * r) (i).toNat)))), (0, .ref (a (20 + 6 * r)))]) C dX2_doneInAll_19 hl rfl (by decide) rfl (fun ls hl => ?_)
      refine zg_goto (tgt := 4) C dX2_doneInAll_22 (by decide) ?_
      exact ih (al + (σ (21 + 6 * r) (i).toNat)) (i + 1) _ _ _ (by omega) (by omega) (by omega) (by rw [kSum_step h0, hE]) hP hS (lv_sub hl [2, 1, 0] rfl)
set_option maxHeartbeats 4000000 in
set_option maxRecDepth 100000 in
theorem kX2_doneInAll (l : Launch) {D : va_G} {a : Nat → Nat} {cI cZ cR : ClassId} (σ : Zt) (hR : rgS σ) (r : Nat) (hr : r < 6) : zc l D vwCl (tyS cI cZ cR) 56 (layS cI cZ cR a) a yX2_doneInAll wsX2_doneInAll ({ frames := 0, cells := 0, slots := 0, locals := 0 }) [.ref (a (20 + 6 * r))] σ (fun r_ u_ => r_ = jI (kAll σ r) ∧ u_ = σ) := by
  refine zc_of (cc := cX2_doneInAll) (maxL := 3) (ret := some .int) (own := RX2) (by decide) rfl rfl (Nat.le_of_ble_eq_true rfl) rfl ?_
  intro p e s m below meth c A ls C X hP hS hl
  refine zg_iconst C dX2_doneInAll_0 ?_
  refine zg_istore_n (lv' := [(1, .int (jI 0)), (0, .ref (a (20 + 6 * r)))]) C dX2_doneInAll_1 rfl hl (by decide) rfl (fun ls hl => ?_)
  refine zg_iconst C dX2_doneInAll_2 ?_
  refine zg_istore_n (lv' := [(2, .int (jI 0)), (1, .int (jI 0)), (0, .ref (a (20 + 6 * r)))]) C dX2_doneInAll_3 rfl hl (by decide) rfl (fun ls hl => ?_)
  exact lpX2_doneInAll_4 σ hR r hr C X 7 0 0 _ _ _ (by omega) (by omega) (by omega) rfl hP hS (lv_sub hl [2, 1, 0] rfl)
set_option maxHeartbeats 4000000 in
set_option maxRecDepth 100000 in
theorem kX2_didDeed (l : Launch) {D : va_G} {a : Nat → Nat} {cI cZ cR : ClassId} (σ : Zt) (hR : rgS σ) (r : Nat) (hr : r < 6) (d : Int) (d0 : 0 ≤ d) (d1 : d < 400) : zc l D vwCl (tyS cI cZ cR) 56 (layS cI cZ cR a) a yX2_didDeed wsX2_didDeed ({ frames := 0, cells := 0, slots := 0, locals := 0 }) [.ref (a (20 + 6 * r)), .int (jI d)] σ (fun r_ u_ => r_ = jI (bI (kDid σ r d)) ∧ u_ = σ) := by
  refine zc_of (cc := cX2_didDeed) (maxL := 2) (ret := some .boolean) (own := RX2) (by decide) rfl rfl (Nat.le_of_ble_eq_true rfl) rfl ?_
  intro p e s m below meth c A ls C X hP hS hl
  refine zg_aload_n C dX2_didDeed_0 rfl (lv_at hl 0 rfl) ?_
  refine zg_get (j := 1) C X hP (hkS_20 hr) (lyS_20 hr) rfl (zmem uwX2) (by decide) (C.tb flX2_32) (fun _ h9 => h9) rfl dX2_didDeed_1 ?_
  refine zg_get (j := 1) C X hP (by decide) lyS_1 rfl (zmem uwX0) (by decide) (C.tb flX2_45) (fun _ h9 => h9) rfl dX2_didDeed_4 ?_
  refine zg_iload_n C dX2_didDeed_7 rfl (lv_at hl 1 rfl) ?_
  refine zg_iald (t0 := 0) C X hP (by decide) lyS_3 rfl (by decide) (by omega) (by omega) dX2_didDeed_8 ?_
  have b_1 := rgS_3 hR ((d).toNat)
  refine zg_aload_n C dX2_didDeed_9 rfl (lv_at hl 0 rfl) ?_
  refine zg_get (j := 7) C X hP (hkS_20 hr) (lyS_20 hr) rfl (zmem uwX2) (by decide) (C.tb flX2_9) (fun _ h9 => h9) rfl dX2_didDeed_10 ?_
  refine zg_aload_n C dX2_didDeed_13 rfl (lv_at hl 0 rfl) ?_
  refine zg_get (j := 1) C X hP (hkS_20 hr) (lyS_20 hr) rfl (zmem uwX2) (by decide) (C.tb flX2_32) (fun _ h9 => h9) rfl dX2_didDeed_14 ?_
  refine zg_get (j := 0) C X hP (by decide) lyS_1 rfl (zmem uwX0) (by decide) (C.tb flX2_50) (fun _ h9 => h9) rfl dX2_didDeed_17 ?_
  refine zg_iload_n C dX2_didDeed_20 rfl (lv_at hl 1 rfl) ?_
  refine zg_iald (t0 := 0) C X hP (by decide) lyS_2 rfl (by decide) (by omega) (by omega) dX2_didDeed_21 ?_
  have b_2 := rgS_2 hR ((d).toNat)
  refine zg_iald (t0 := 0) C X hP (hkS_21 hr) (lyS_21 hr) rfl (by decide) (by omega) (by omega) dX2_didDeed_22 ?_
  have b_3 := rgS_21 hR hr ((σ 2 (d).toNat).toNat)
  refine zg_icmp_gt (tgt := 30) C (by omega) (by omega) (by omega) (by omega) dX2_didDeed_23 (by decide) (fun c_4 => ?_) (fun c_4 => ?_)
  · refine zg_iconst C dX2_didDeed_30 ?_
    refine zg_zret (b := false) C hP hS dX2_didDeed_31 ?_
    exact ⟨congrArg (fun b => jI (bI b)) (by grind [kDid]), rfl⟩
  · refine zg_iconst C dX2_didDeed_26 ?_
    refine zg_goto (tgt := 31) C dX2_didDeed_27 (by decide) ?_
    refine zg_zret (b := true) C hP hS dX2_didDeed_31 ?_
    exact ⟨congrArg (fun b => jI (bI b)) (by grind [kDid]), rfl⟩
set_option maxHeartbeats 4000000 in
set_option maxRecDepth 100000 in
theorem kX2_isReady (l : Launch) {D : va_G} {a : Nat → Nat} {cI cZ cR : ClassId} (σ : Zt) (hR : rgS σ) (r : Nat) (hr : r < 6) (d : Int) (d0 : 0 ≤ d) (d1 : d < 400) : zc l D vwCl (tyS cI cZ cR) 56 (layS cI cZ cR a) a yX2_isReady wsX2_isReady ({ frames := 1, cells := 0, slots := 0, locals := 21 }) [.ref (a (20 + 6 * r)), .int (jI d)] σ (fun r_ u_ => r_ = jI (bI (kReady σ r d)) ∧ u_ = σ) := by
  refine zc_of (cc := cX2_isReady) (maxL := 2) (ret := some .boolean) (own := RX2) (by decide) rfl rfl (Nat.le_of_ble_eq_true rfl) rfl ?_
  intro p e s m below meth c A ls C X hP hS hl
  refine zg_aload_n C dX2_isReady_0 rfl (lv_at hl 0 rfl) ?_
  refine zg_get (j := 1) C X hP (hkS_20 hr) (lyS_20 hr) rfl (zmem uwX2) (by decide) (C.tb flX2_32) (fun _ h9 => h9) rfl dX2_isReady_1 ?_
  refine zg_get (j := 1) C X hP (by decide) lyS_1 rfl (zmem uwX0) (by decide) (C.tb flX2_45) (fun _ h9 => h9) rfl dX2_isReady_4 ?_
  refine zg_iload_n C dX2_isReady_7 rfl (lv_at hl 1 rfl) ?_
  refine zg_iald (t0 := 0) C X hP (by decide) lyS_3 rfl (by decide) (by omega) (by omega) dX2_isReady_8 ?_
  have b_1 := rgS_3 hR ((d).toNat)
  refine zg_iconst C dX2_isReady_9 ?_
  refine zg_isub C dX2_isReady_10 ?_
  refine zg_aload_n C dX2_isReady_11 rfl (lv_at hl 0 rfl) ?_
  refine zg_get (j := 7) C X hP (hkS_20 hr) (lyS_20 hr) rfl (zmem uwX2) (by decide) (C.tb flX2_9) (fun _ h9 => h9) rfl dX2_isReady_12 ?_
  refine zg_aload_n C dX2_isReady_15 rfl (lv_at hl 0 rfl) ?_
  refine zg_get (j := 1) C X hP (hkS_20 hr) (lyS_20 hr) rfl (zmem uwX2) (by decide) (C.tb flX2_32) (fun _ h9 => h9) rfl dX2_isReady_16 ?_
  refine zg_get (j := 0) C X hP (by decide) lyS_1 rfl (zmem uwX0) (by decide) (C.tb flX2_50) (fun _ h9 => h9) rfl dX2_isReady_19 ?_
  refine zg_iload_n C dX2_isReady_22 rfl (lv_at hl 1 rfl) ?_
  refine zg_iald (t0 := 0) C X hP (by decide) lyS_2 rfl (by decide) (by omega) (by omega) dX2_isReady_23 ?_
  have b_2 := rgS_2 hR ((d).toNat)
  refine zg_iald (t0 := 0) C X hP (hkS_21 hr) (lyS_21 hr) rfl (by decide) (by omega) (by omega) dX2_isReady_24 ?_
  have b_3 := rgS_21 hR hr ((σ 2 (d).toNat).toNat)
  refine zg_icmp_eq (tgt := 30) C (by omega) (by omega) (by omega) (by omega) dX2_isReady_25 (by decide) (fun c_4 => ?_) (fun c_4 => ?_)
  · refine zg_aload_n C dX2_isReady_30 rfl (lv_at hl 0 rfl) ?_
    refine zg_get (j := 1) C X hP (hkS_20 hr) (lyS_20 hr) rfl (zmem uwX2) (by decide) (C.tb flX2_32) (fun _ h9 => h9) rfl dX2_isReady_31 ?_
    refine zg_get (j := 3) C X hP (by decide) lyS_1 rfl (zmem uwX0) (by decide) (C.tb flX2_53) (fun _ h9 => h9) rfl dX2_isReady_34 ?_
    refine zg_iload_n C dX2_isReady_37 rfl (lv_at hl 1 rfl) ?_
    refine zg_iald (t0 := 0) C X hP (by decide) lyS_5 rfl (by decide) (by omega) (by omega) dX2_isReady_38 ?_
    have b_5 := rgS_5 hR ((d).toNat)
    refine zg_if_eq (tgt := 74) C (by omega) (by omega) dX2_isReady_39 (by decide) (fun c_6 => ?_) (fun c_6 => ?_)
    · refine zg_iconst C dX2_isReady_74 ?_
      refine zg_goto (tgt := 79) C dX2_isReady_75 (by decide) ?_
      refine zg_zret (b := true) C hP hS dX2_isReady_79 ?_
      exact ⟨congrArg (fun b => jI (bI b)) (by grind [kReady]), rfl⟩
    · refine zg_aload_n C dX2_isReady_42 rfl (lv_at hl 0 rfl) ?_
      refine zg_aload_n C dX2_isReady_43 rfl (lv_at hl 0 rfl) ?_
      refine zg_get (j := 1) C X hP (hkS_20 hr) (lyS_20 hr) rfl (zmem uwX2) (by decide) (C.tb flX2_32) (fun _ h9 => h9) rfl dX2_isReady_44 ?_
      refine zg_get (j := 5) C X hP (by decide) lyS_1 rfl (zmem uwX0) (by decide) (C.tb flX2_56) (fun _ h9 => h9) rfl dX2_isReady_47 ?_
      refine zg_iload_n C dX2_isReady_50 rfl (lv_at hl 1 rfl) ?_
      refine zg_iald (t0 := 0) C X hP (by decide) lyS_7 rfl (by decide) (by omega) (by omega) dX2_isReady_51 ?_
      have b_7 := rgS_7 hR ((d).toNat)
      refine zg_callV C X hP hS (kX2_didDeed l σ hR r hr (σ 7 (d).toNat) (by omega) (by omega)) (cwV 1 C.ts (zgV mlX2_59 imX2_didDeed slX2_didDeed iniX2 cdX2_didDeed) rfl rfl rfl (by decide +kernel) ⟨Nat.le_of_ble_eq_true rfl, Nat.le_of_ble_eq_true rfl⟩) (hkS_20 hr) (lyS_20 hr) rfl rfl rfl hl.1 rfl (Nat.le_of_ble_eq_true rfl) dX2_isReady_52 ⟨Nat.zero_le _, Nat.zero_le _⟩ (fun r_9 σ8 H locs q10 hP hS => ?_)
      obtain ⟨rfl, q10⟩ := q10
      rw [q10] at hP
      refine zg_ifeqB (tgt := 78) C dX2_isReady_55 (by decide) (fun c_11 => ?_) (fun c_11 => ?_)
      · refine zg_iconst C dX2_isReady_78 ?_
        refine zg_zret (b := false) C hP hS dX2_isReady_79 ?_
        exact ⟨congrArg (fun b => jI (bI b)) (by grind [kReady]), rfl⟩
      · refine zg_aload_n C dX2_isReady_58 rfl (lv_at hl 0 rfl) ?_
        refine zg_aload_n C dX2_isReady_59 rfl (lv_at hl 0 rfl) ?_
        refine zg_get (j := 1) C X hP (hkS_20 hr) (lyS_20 hr) rfl (zmem uwX2) (by decide) (C.tb flX2_32) (fun _ h9 => h9) rfl dX2_isReady_60 ?_
        refine zg_get (j := 6) C X hP (by decide) lyS_1 rfl (zmem uwX0) (by decide) (C.tb flX2_63) (fun _ h9 => h9) rfl dX2_isReady_63 ?_
        refine zg_iload_n C dX2_isReady_66 rfl (lv_at hl 1 rfl) ?_
        refine zg_iald (t0 := 0) C X hP (by decide) lyS_8 rfl (by decide) (by omega) (by omega) dX2_isReady_67 ?_
        have b_12 := rgS_8 hR ((d).toNat)
        refine zg_callV C X hP hS (kX2_didDeed l σ hR r hr (σ 8 (d).toNat) (by omega) (by omega)) (cwV 1 C.ts (zgV mlX2_59 imX2_didDeed slX2_didDeed iniX2 cdX2_didDeed) rfl rfl rfl (by decide +kernel) ⟨Nat.le_of_ble_eq_true rfl, Nat.le_of_ble_eq_true rfl⟩) (hkS_20 hr) (lyS_20 hr) rfl rfl rfl hl.1 rfl (Nat.le_of_ble_eq_true rfl) dX2_isReady_68 ⟨Nat.zero_le _, Nat.zero_le _⟩ (fun r_14 σ13 H locs q15 hP hS => ?_)
        obtain ⟨rfl, q15⟩ := q15
        rw [q15] at hP
        refine zg_ifeqB (tgt := 78) C dX2_isReady_71 (by decide) (fun c_16 => ?_) (fun c_16 => ?_)
        · refine zg_iconst C dX2_isReady_78 ?_
          refine zg_zret (b := false) C hP hS dX2_isReady_79 ?_
          exact ⟨congrArg (fun b => jI (bI b)) (by grind [kReady]), rfl⟩
        · refine zg_iconst C dX2_isReady_74 ?_
          refine zg_goto (tgt := 79) C dX2_isReady_75 (by decide) ?_
          refine zg_zret (b := true) C hP hS dX2_isReady_79 ?_
          exact ⟨congrArg (fun b => jI (bI b)) (by grind [kReady]), rfl⟩
  · refine zg_iconst C dX2_isReady_28 ?_
    refine zg_zret (b := false) C hP hS dX2_isReady_29 ?_
    exact ⟨congrArg (fun b => jI (bI b)) (by grind [kReady]), rfl⟩
set_option maxHeartbeats 4000000 in
set_option maxRecDepth 100000 in
theorem kX2_isAlive (l : Launch) {D : va_G} {a : Nat → Nat} {cI cZ cR : ClassId} (σ : Zt) (hR : rgS σ) (r : Nat) (hr : r < 6) (d : Int) (d0 : 0 ≤ d) (d1 : d < 400) : zc l D vwCl (tyS cI cZ cR) 56 (layS cI cZ cR a) a yX2_isAlive wsX2_isAlive ({ frames := 1, cells := 0, slots := 0, locals := 21 }) [.ref (a (20 + 6 * r)), .int (jI d)] σ (fun r_ u_ => r_ = jI (bI (kAlive σ r d)) ∧ u_ = σ) := by
  refine zc_of (cc := cX2_isAlive) (maxL := 2) (ret := some .boolean) (own := RX2) (by decide) rfl rfl (Nat.le_of_ble_eq_true rfl) rfl ?_
  intro p e s m below meth c A ls C X hP hS hl
  refine zg_aload_n C dX2_isAlive_0 rfl (lv_at hl 0 rfl) ?_
  refine zg_iload_n C dX2_isAlive_1 rfl (lv_at hl 1 rfl) ?_
  refine zg_callV C X hP hS (kX2_didDeed l σ hR r hr d (by omega) (by omega)) (cwV 1 C.ts (zgV mlX2_59 imX2_didDeed slX2_didDeed iniX2 cdX2_didDeed) rfl rfl rfl (by decide +kernel) ⟨Nat.le_of_ble_eq_true rfl, Nat.le_of_ble_eq_true rfl⟩) (hkS_20 hr) (lyS_20 hr) rfl rfl rfl hl.1 rfl (Nat.le_of_ble_eq_true rfl) dX2_isAlive_2 ⟨Nat.zero_le _, Nat.zero_le _⟩ (fun r_2 σ1 H locs q3 hP hS => ?_)
  obtain ⟨rfl, q3⟩ := q3
  rw [q3] at hP
  refine zg_ifeqB (tgt := 40) C dX2_isAlive_5 (by decide) (fun c_4 => ?_) (fun c_4 => ?_)
  · refine zg_iconst C dX2_isAlive_40 ?_
    refine zg_zret (b := false) C hP hS dX2_isAlive_41 ?_
    exact ⟨congrArg (fun b => jI (bI b)) (by grind [kAlive]), rfl⟩
  · refine zg_aload_n C dX2_isAlive_8 rfl (lv_at hl 0 rfl) ?_
    refine zg_get (j := 9) C X hP (hkS_20 hr) (lyS_20 hr) rfl (zmem uwX2) (by decide) (C.tb flX2_19) (fun _ h9 => h9) rfl dX2_isAlive_9 ?_
    refine zg_iload_n C dX2_isAlive_12 rfl (lv_at hl 1 rfl) ?_
    refine zg_iald (t0 := 0) C X hP (hkS_23 hr) (lyS_23 hr) rfl (by decide) (by omega) (by omega) dX2_isAlive_13 ?_
    have b_5 := rgS_23 hR hr ((d).toNat)
    refine zg_iconst C dX2_isAlive_14 ?_
    refine zg_icmp_eq (tgt := 36) C (by omega) (by omega) (by omega) (by omega) dX2_isAlive_15 (by decide) (fun c_6 => ?_) (fun c_6 => ?_)
    · refine zg_iconst C dX2_isAlive_36 ?_
      refine zg_goto (tgt := 41) C dX2_isAlive_37 (by decide) ?_
      refine zg_zret (b := true) C hP hS dX2_isAlive_41 ?_
      exact ⟨congrArg (fun b => jI (bI b)) (by grind [kAlive]), rfl⟩
    · refine zg_aload_n C dX2_isAlive_18 rfl (lv_at hl 0 rfl) ?_
      refine zg_get (j := 1) C X hP (hkS_20 hr) (lyS_20 hr) rfl (zmem uwX2) (by decide) (C.tb flX2_32) (fun _ h9 => h9) rfl dX2_isAlive_19 ?_
      refine zg_get (j := 3) C X hP (by decide) lyS_1 rfl (zmem uwX0) (by decide) (C.tb flX2_53) (fun _ h9 => h9) rfl dX2_isAlive_22 ?_
      refine zg_aload_n C dX2_isAlive_25 rfl (lv_at hl 0 rfl) ?_
      refine zg_get (j := 9) C X hP (hkS_20 hr) (lyS_20 hr) rfl (zmem uwX2) (by decide) (C.tb flX2_19) (fun _ h9 => h9) rfl dX2_isAlive_26 ?_
      refine zg_iload_n C dX2_isAlive_29 rfl (lv_at hl 1 rfl) ?_
      refine zg_iald (t0 := 0) C X hP (hkS_23 hr) (lyS_23 hr) rfl (by decide) (by omega) (by omega) dX2_isAlive_30 ?_
      have b_7 := rgS_23 hR hr ((d).toNat)
      refine zg_iald (t0 := 0) C X hP (by decide) lyS_5 rfl (by decide) (by omega) (by omega) dX2_isAlive_31 ?_
      have b_8 := rgS_5 hR ((σ (23 + 6 * r) (d).toNat).toNat)
      refine zg_iconst C dX2_isAlive_32 ?_
      refine zg_icmp_eq (tgt := 40) C (by omega) (by omega) (by omega) (by omega) dX2_isAlive_33 (by decide) (fun c_9 => ?_) (fun c_9 => ?_)
      · refine zg_iconst C dX2_isAlive_40 ?_
        refine zg_zret (b := false) C hP hS dX2_isAlive_41 ?_
        exact ⟨congrArg (fun b => jI (bI b)) (by grind [kAlive]), rfl⟩
      · refine zg_iconst C dX2_isAlive_36 ?_
        refine zg_goto (tgt := 41) C dX2_isAlive_37 (by decide) ?_
        refine zg_zret (b := true) C hP hS dX2_isAlive_41 ?_
        exact ⟨congrArg (fun b => jI (bI b)) (by grind [kAlive]), rfl⟩
set_option maxHeartbeats 4000000 in
set_option maxRecDepth 100000 in
theorem lpX2_aliveAmongFirst_4 {l : Launch} {D : va_G} {a : Nat → Nat} {cI cZ cR : ClassId} {p : Program} {e : Env} {s : State} {m : MethodId} {below : List Frame} {meth : Method} {c : Code} {A : Nat → Prop} (σ : Zt) (hR : rgS σ) (r : Nat) (hr : r < 6) (q : Int) (q0 : 0 ≤ q) (q1 : q ≤ 400)  (C : zk p s m ([.ref (a (20 + 6 * r)), .int (jI q)] : List Value).toArray meth c cX2_aliveAmongFirst 4 (some .int) wsX2_aliveAmongFirst RX2) (X : zx D vwCl (tyS cI cZ cR) A a 56 s) :
    ∀ (n : Nat) (al i : Int) (H : Heap) (locs : List Loc) (ls : Array Slot), ((q - i).toNat < n) → (0 ≤ i) → (i ≤ q) → (al = kCnt σ r i.toNat) → va_P D vwCl (zw 56 (layS cI cZ cR a) a σ) H → va_S A s.heap H locs → lv_has ls 4 [(0, .ref (a (20 + 6 * r))), (1, .int (jI q)), (2, .int (jI al)), (3, .int (jI i))] →
      W p l e ({ frames := 2, cells := 0, slots := 0, locals := 42 }) s m ([.ref (a (20 + 6 * r)), .int (jI q)] : List Value).toArray below meth c H locs 0 0 (MQ below (va_Qi (fun r_ u_ => r_ = jI (kCnt σ r (q).toNat) ∧ u_ = σ) (fun (u : Zt) t => va_P D vwCl (zw 56 (layS cI cZ cR a) a u) t.heap) A) ([.ref (a (20 + 6 * r)), .int (jI q)] : List Value).toArray s 0 0 A) (F0 m 4 ls []) := by
  intro n
  induction n with
  | zero =>
    intro al i  H locs ls hn h0 h1 hE hP hS hl
    exact absurd hn (by omega)
  | succ n ih =>
    intro al i  H locs ls hn h0 h1 hE hP hS hl
    refine zg_iload_n C dX2_aliveAmongFirst_4 rfl (lv_at hl 3 rfl) ?_
    refine zg_iload_n C dX2_aliveAmongFirst_5 rfl (lv_at hl 1 rfl) ?_
    refine zg_icmp_ge (tgt := 34) C (by omega) (by omega) (by omega) (by omega) dX2_aliveAmongFirst_6 (by decide) (fun c_1 => ?_) (fun c_1 => ?_)
    · refine zg_iload_n C dX2_aliveAmongFirst_34 rfl (lv_at hl 2 rfl) ?_
      refine zg_iret C hP hS dX2_aliveAmongFirst_35 ?_
      exact ⟨congrArg jI (by rw [hE, show i = q by omega]), rfl⟩
    · refine zg_aload_n C dX2_aliveAmongFirst_9 rfl (lv_at hl 0 rfl) ?_
      refine zg_aload_n C dX2_aliveAmongFirst_10 rfl (lv_at hl 0 rfl) ?_
      refine zg_get (j := 2) C X hP (hkS_20 hr) (lyS_20 hr) rfl (zmem uwX2) (by decide) (C.tb flX2_36) (fun _ h9 => h9) rfl dX2_aliveAmongFirst_11 ?_
      refine zg_get (j := 2) C X hP (by decide) lyS_11 rfl (zmem uwX1) (by decide) (C.tb flX2_104) (fun _ h9 => h9) rfl dX2_aliveAmongFirst_14 ?_
      refine zg_iload_n C dX2_aliveAmongFirst_17 rfl (lv_at hl 3 rfl) ?_
      refine zg_iald (t0 := 0) C X hP (by decide) lyS_14 rfl (by decide) (by omega) (by omega) dX2_aliveAmongFirst_18 ?_
      have b_2 := rgS_14 hR ((i).toNat)
      refine zg_callV C X hP hS (kX2_isAlive l σ hR r hr (σ 14 (i).toNat) (by omega) (by omega)) (cwV 1 C.ts (zgV mlX2_109 imX2_isAlive slX2_isAlive iniX2 cdX2_isAlive) rfl rfl rfl (by decide +kernel) ⟨Nat.le_of_ble_eq_true rfl, Nat.le_of_ble_eq_true rfl⟩) (hkS_20 hr) (lyS_20 hr) rfl rfl rfl hl.1 rfl (Nat.le_of_ble_eq_true rfl) dX2_aliveAmongFirst_19 ⟨Nat.zero_le _, Nat.zero_le _⟩ (fun r_4 σ3 H locs q5 hP hS => ?_)
      obtain ⟨rfl, q5⟩ := q5
      rw [q5] at hP
      refine zg_ifeqB (tgt := 28) C dX2_aliveAmongFirst_22 (by decide) (fun c_6 => ?_) (fun c_6 => ?_)
      · refine zg_iinc (k := 3) (lv' := [(3, .int (jI (i + 1))), (0, .ref (a (20 + 6 * r))), (1, .int (jI q)), (2, .int (jI al))]) C dX2_aliveAmongFirst_28 hl rfl (by decide) rfl (fun ls hl => ?_)
        refine zg_goto (tgt := 4) C dX2_aliveAmongFirst_31 (by decide) ?_
        exact ih al (i + 1) _ _ _ (by omega) (by omega) (by omega) (by rw [kCnt_step h0, hE]; simp [c_1, c_6, bI]) hP hS (lv_sub hl [1, 2, 3, 0] rfl)
      · refine zg_iinc (k := 2) (lv' := [(2, .int (jI (al + 1))), (0, .ref (a (20 + 6 * r))), (1, .int (jI q)), (3, .int (jI i))]) C dX2_aliveAmongFirst_25 hl rfl (by decide) rfl (fun ls hl => ?_)
        refine zg_iinc (k := 3) (lv' := [(3, .int (jI (i + 1))), (2, .int (jI (al + 1))), (0, .ref (a (20 + 6 * r))), (1, .int (jI q))]) C dX2_aliveAmongFirst_28 hl rfl (by decide) rfl (fun ls hl => ?_)
        refine zg_goto (tgt := 4) C dX2_aliveAmongFirst_31 (by decide) ?_
        exact ih (al + 1) (i + 1) _ _ _ (by omega) (by omega) (by omega) (by rw [kCnt_step h0, hE]; simp [c_1, c_6, bI]) hP hS (lv_sub hl [2, 3, 1, 0] rfl)
set_option maxHeartbeats 4000000 in
set_option maxRecDepth 100000 in
theorem kX2_aliveAmongFirst (l : Launch) {D : va_G} {a : Nat → Nat} {cI cZ cR : ClassId} (σ : Zt) (hR : rgS σ) (r : Nat) (hr : r < 6) (q : Int) (q0 : 0 ≤ q) (q1 : q ≤ 400) : zc l D vwCl (tyS cI cZ cR) 56 (layS cI cZ cR a) a yX2_aliveAmongFirst wsX2_aliveAmongFirst ({ frames := 2, cells := 0, slots := 0, locals := 42 }) [.ref (a (20 + 6 * r)), .int (jI q)] σ (fun r_ u_ => r_ = jI (kCnt σ r (q).toNat) ∧ u_ = σ) := by
  refine zc_of (cc := cX2_aliveAmongFirst) (maxL := 4) (ret := some .int) (own := RX2) (by decide) rfl rfl (Nat.le_of_ble_eq_true rfl) rfl ?_
  intro p e s m below meth c A ls C X hP hS hl
  refine zg_iconst C dX2_aliveAmongFirst_0 ?_
  refine zg_istore_n (lv' := [(2, .int (jI 0)), (0, .ref (a (20 + 6 * r))), (1, .int (jI q))]) C dX2_aliveAmongFirst_1 rfl hl (by decide) rfl (fun ls hl => ?_)
  refine zg_iconst C dX2_aliveAmongFirst_2 ?_
  refine zg_istore_n (lv' := [(3, .int (jI 0)), (2, .int (jI 0)), (0, .ref (a (20 + 6 * r))), (1, .int (jI q))]) C dX2_aliveAmongFirst_3 rfl hl (by decide) rfl (fun ls hl => ?_)
  exact lpX2_aliveAmongFirst_4 σ hR r hr q q0 q1 C X 401 0 0 _ _ _ (by omega) (by omega) (by omega) rfl hP hS (lv_sub hl [2, 3, 1, 0] rfl)
set_option maxHeartbeats 4000000 in
set_option maxRecDepth 100000 in
theorem kX2_textLength (l : Launch) {D : va_G} {a : Nat → Nat} {cI cZ cR : ClassId} (σ : Zt) (hR : rgS σ) (r : Nat) (hr : r < 6) : zc l D vwCl (tyS cI cZ cR) 56 (layS cI cZ cR a) a yX2_textLength wsX2_textLength ({ frames := 3, cells := 0, slots := 0, locals := 65 }) [.ref (a (20 + 6 * r))] σ (fun r_ u_ => r_ = jI (kLen σ r) ∧ u_ = σ) := by
  refine zc_of (cc := cX2_textLength) (maxL := 1) (ret := some .int) (own := RX2) (by decide) rfl rfl (Nat.le_of_ble_eq_true rfl) rfl ?_
  intro p e s m below meth c A ls C X hP hS hl
  refine zg_aload_n C dX2_textLength_0 rfl (lv_at hl 0 rfl) ?_
  refine zg_aload_n C dX2_textLength_1 rfl (lv_at hl 0 rfl) ?_
  refine zg_get (j := 2) C X hP (hkS_20 hr) (lyS_20 hr) rfl (zmem uwX2) (by decide) (C.tb flX2_36) (fun _ h9 => h9) rfl dX2_textLength_2 ?_
  refine zg_get (j := 4) C X hP (by decide) lyS_11 rfl (zmem uwX1) (by decide) (C.tb flX2_112) (fun _ h9 => h9) rfl dX2_textLength_5 ?_
  have b_1 := rgS_11_4 hR
  refine zg_callV C X hP hS (kX2_aliveAmongFirst l σ hR r hr (σ 11 4) (by omega) (by omega)) (cwV 1 C.ts (zgV mlX2_113 imX2_aliveAmongFirst slX2_aliveAmongFirst iniX2 cdX2_aliveAmongFirst) rfl rfl rfl (by decide +kernel) ⟨Nat.le_of_ble_eq_true rfl, Nat.le_of_ble_eq_true rfl⟩) (hkS_20 hr) (lyS_20 hr) rfl rfl rfl hl.1 rfl (Nat.le_of_ble_eq_true rfl) dX2_textLength_8 ⟨Nat.zero_le _, Nat.zero_le _⟩ (fun r_3 σ2 H locs q4 hP hS => ?_)
  obtain ⟨rfl, q4⟩ := q4
  have b_5 := kCnt_rg σ r ((σ 11 4)).toNat
  rw [q4] at hP
  refine zg_iret C hP hS dX2_textLength_11 ?_
  exact ⟨rfl, rfl⟩
set_option maxHeartbeats 4000000 in
set_option maxRecDepth 100000 in
theorem kX2_hasGap (l : Launch) {D : va_G} {a : Nat → Nat} {cI cZ cR : ClassId} (σ : Zt) (hR : rgS σ) (r : Nat) (hr : r < 6) (q : Int) (q0 : -2147483648 ≤ q) (q1 : q < 2147483648) : zc l D vwCl (tyS cI cZ cR) 56 (layS cI cZ cR a) a yX2_hasGap wsX2_hasGap ({ frames := 4, cells := 0, slots := 0, locals := 85 }) [.ref (a (20 + 6 * r)), .int (jI q)] σ (fun r_ u_ => r_ = jI (bI (kGap σ r q)) ∧ u_ = σ) := by
  refine zc_of (cc := cX2_hasGap) (maxL := 2) (ret := some .boolean) (own := RX2) (by decide) rfl rfl (Nat.le_of_ble_eq_true rfl) rfl ?_
  intro p e s m below meth c A ls C X hP hS hl
  refine zg_iload_n C dX2_hasGap_0 rfl (lv_at hl 1 rfl) ?_
  refine zg_if_lt (tgt := 16) C (by omega) (by omega) dX2_hasGap_1 (by decide) (fun c_1 => ?_) (fun c_1 => ?_)
  · refine zg_iconst C dX2_hasGap_16 ?_
    refine zg_zret (b := false) C hP hS dX2_hasGap_17 ?_
    exact ⟨congrArg (fun b => jI (bI b)) (by grind [kGap]), rfl⟩
  · refine zg_iload_n C dX2_hasGap_4 rfl (lv_at hl 1 rfl) ?_
    refine zg_aload_n C dX2_hasGap_5 rfl (lv_at hl 0 rfl) ?_
    refine zg_callV C X hP hS (kX2_textLength l σ hR r hr) (cwV 0 C.ts (zgV mlX2_117 imX2_textLength slX2_textLength iniX2 cdX2_textLength) rfl rfl rfl (by decide +kernel) ⟨Nat.le_of_ble_eq_true rfl, Nat.le_of_ble_eq_true rfl⟩) (hkS_20 hr) (lyS_20 hr) rfl rfl rfl hl.1 rfl (Nat.le_of_ble_eq_true rfl) dX2_hasGap_6 ⟨Nat.zero_le _, Nat.zero_le _⟩ (fun r_3 σ2 H locs q4 hP hS => ?_)
    obtain ⟨rfl, q4⟩ := q4
    have b_5 := kLen_rg hR r
    rw [q4] at hP
    refine zg_icmp_gt (tgt := 16) C (by omega) (by omega) (by omega) (by omega) dX2_hasGap_9 (by decide) (fun c_6 => ?_) (fun c_6 => ?_)
    · refine zg_iconst C dX2_hasGap_16 ?_
      refine zg_zret (b := false) C hP hS dX2_hasGap_17 ?_
      exact ⟨congrArg (fun b => jI (bI b)) (by grind [kGap]), rfl⟩
    · refine zg_iconst C dX2_hasGap_12 ?_
      refine zg_goto (tgt := 17) C dX2_hasGap_13 (by decide) ?_
      refine zg_zret (b := true) C hP hS dX2_hasGap_17 ?_
      exact ⟨congrArg (fun b => jI (bI b)) (by grind [kGap]), rfl⟩
set_option maxHeartbeats 4000000 in
set_option maxRecDepth 100000 in
theorem lpX2_signAt_4 {l : Launch} {D : va_G} {a : Nat → Nat} {cI cZ cR : ClassId} {p : Program} {e : Env} {s : State} {m : MethodId} {below : List Frame} {meth : Method} {c : Code} {A : Nat → Prop} (σ : Zt) (hR : rgS σ) (r : Nat) (hr : r < 6) (q : Int) (q0 : -2147483648 ≤ q) (q1 : q < 2147483648)  (C : zk p s m ([.ref (a (20 + 6 * r)), .int (jI q)] : List Value).toArray meth c cX2_signAt 4 (some .int) wsX2_signAt RX2) (X : zx D vwCl (tyS cI cZ cR) A a 56 s) :
    ∀ (n : Nat) (z i : Int) (H : Heap) (locs : List Loc) (ls : Array Slot), ((σ 11 4 - i).toNat < n) → (0 ≤ i) → (i ≤ 400) → (-2147483648 ≤ z) → (z < 2147483648) → (kSignAt σ r q = kAt σ r (σ 11 4 - i).toNat i.toNat z) → va_P D vwCl (zw 56 (layS cI cZ cR a) a σ) H → va_S A s.heap H locs → lv_has ls 4 [(0, .ref (a (20 + 6 * r))), (1, .int (jI q)), (2, .int (jI z)), (3, .int (jI i))] →
      W p l e ({ frames := 2, cells := 0, slots := 0, locals := 42 }) s m ([.ref (a (20 + 6 * r)), .int (jI q)] : List Value).toArray below meth c H locs 0 0 (MQ below (va_Qi (fun r_ u_ => r_ = jI (kSignAt σ r q) ∧ u_ = σ) (fun (u : Zt) t => va_P D vwCl (zw 56 (layS cI cZ cR a) a u) t.heap) A) ([.ref (a (20 + 6 * r)), .int (jI q)] : List Value).toArray s 0 0 A) (F0 m 4 ls []) := by
  intro n
  induction n with
  | zero =>
    intro z i  H locs ls hn h0 h1 z0 z1 hE hP hS hl
    exact absurd hn (by omega)
  | succ n ih =>
    intro z i  H locs ls hn h0 h1 z0 z1 hE hP hS hl
    refine zg_iload_n C dX2_signAt_4 rfl (lv_at hl 3 rfl) ?_
    refine zg_aload_n C dX2_signAt_5 rfl (lv_at hl 0 rfl) ?_
    refine zg_get (j := 2) C X hP (hkS_20 hr) (lyS_20 hr) rfl (zmem uwX2) (by decide) (C.tb flX2_36) (fun _ h9 => h9) rfl dX2_signAt_6 ?_
    refine zg_get (j := 4) C X hP (by decide) lyS_11 rfl (zmem uwX1) (by decide) (C.tb flX2_112) (fun _ h9 => h9) rfl dX2_signAt_9 ?_
    have b_1 := rgS_11_4 hR
    refine zg_icmp_ge (tgt := 58) C (by omega) (by omega) (by omega) (by omega) dX2_signAt_12 (by decide) (fun c_2 => ?_) (fun c_2 => ?_)
    · refine zg_iconst C dX2_signAt_58 ?_
      refine zg_iret C hP hS dX2_signAt_59 ?_
      exact ⟨congrArg jI (by rw [hE]; first | rw [kAt_end (by assumption)] | rw [kAt_neg (by assumption) (by assumption)]), rfl⟩
    · refine zg_iload_n C dX2_signAt_15 rfl (lv_at hl 2 rfl) ?_
      refine zg_if_lt (tgt := 58) C (by omega) (by omega) dX2_signAt_16 (by decide) (fun c_3 => ?_) (fun c_3 => ?_)
      · refine zg_iconst C dX2_signAt_58 ?_
        refine zg_iret C hP hS dX2_signAt_59 ?_
        exact ⟨congrArg jI (by rw [hE]; first | rw [kAt_end (by assumption)] | rw [kAt_neg (by assumption) (by assumption)]), rfl⟩
      · refine zg_aload_n C dX2_signAt_19 rfl (lv_at hl 0 rfl) ?_
        refine zg_aload_n C dX2_signAt_20 rfl (lv_at hl 0 rfl) ?_
        refine zg_get (j := 2) C X hP (hkS_20 hr) (lyS_20 hr) rfl (zmem uwX2) (by decide) (C.tb flX2_36) (fun _ h9 => h9) rfl dX2_signAt_21 ?_
        refine zg_get (j := 2) C X hP (by decide) lyS_11 rfl (zmem uwX1) (by decide) (C.tb flX2_104) (fun _ h9 => h9) rfl dX2_signAt_24 ?_
        refine zg_iload_n C dX2_signAt_27 rfl (lv_at hl 3 rfl) ?_
        refine zg_iald (t0 := 0) C X hP (by decide) lyS_14 rfl (by decide) (by omega) (by omega) dX2_signAt_28 ?_
        have b_4 := rgS_14 hR ((i).toNat)
        refine zg_callV C X hP hS (kX2_isAlive l σ hR r hr (σ 14 (i).toNat) (by omega) (by omega)) (cwV 1 C.ts (zgV mlX2_109 imX2_isAlive slX2_isAlive iniX2 cdX2_isAlive) rfl rfl rfl (by decide +kernel) ⟨Nat.le_of_ble_eq_true rfl, Nat.le_of_ble_eq_true rfl⟩) (hkS_20 hr) (lyS_20 hr) rfl rfl rfl hl.1 rfl (Nat.le_of_ble_eq_true rfl) dX2_signAt_29 ⟨Nat.zero_le _, Nat.zero_le _⟩ (fun r_6 σ5 H locs q7 hP hS => ?_)
        obtain ⟨rfl, q7⟩ := q7
        rw [q7] at hP
        refine zg_ifeqB (tgt := 52) C dX2_signAt_32 (by decide) (fun c_8 => ?_) (fun c_8 => ?_)
        · refine zg_iinc (k := 3) (lv' := [(3, .int (jI (i + 1))), (0, .ref (a (20 + 6 * r))), (1, .int (jI q)), (2, .int (jI z))]) C dX2_signAt_52 hl rfl (by decide) rfl (fun ls hl => ?_)
          refine zg_goto (tgt := 4) C dX2_signAt_55 (by decide) ?_
          exact ih z (i + 1) _ _ _ (by omega) (by omega) (by omega) (by omega) (by omega) (hE.trans (by first | exact kAt_down (by omega) (by assumption) (by assumption) (by assumption) (by assumption) | exact kAt_skip (by omega) (by assumption) (by assumption) (by assumption))) hP hS (lv_sub hl [1, 2, 3, 0] rfl)
        · refine zg_iload_n C dX2_signAt_35 rfl (lv_at hl 2 rfl) ?_
          refine zg_if_ne (tgt := 49) C (by omega) (by omega) dX2_signAt_36 (by decide) (fun c_9 => ?_) (fun c_9 => ?_)
          · refine zg_iinc (k := 2) (lv' := [(2, .int (jI (z + -1))), (0, .ref (a (20 + 6 * r))), (1, .int (jI q)), (3, .int (jI i))]) C dX2_signAt_49 hl rfl (by decide) rfl (fun ls hl => ?_)
            refine zg_iinc (k := 3) (lv' := [(3, .int (jI (i + 1))), (2, .int (jI (z + -1))), (0, .ref (a (20 + 6 * r))), (1, .int (jI q))]) C dX2_signAt_52 hl rfl (by decide) rfl (fun ls hl => ?_)
            refine zg_goto (tgt := 4) C dX2_signAt_55 (by decide) ?_
            exact ih (z + -1) (i + 1) _ _ _ (by omega) (by omega) (by omega) (by omega) (by omega) (hE.trans (by first | exact kAt_down (by omega) (by assumption) (by assumption) (by assumption) (by assumption) | exact kAt_skip (by omega) (by assumption) (by assumption) (by assumption))) hP hS (lv_sub hl [2, 3, 1, 0] rfl)
          · refine zg_aload_n C dX2_signAt_39 rfl (lv_at hl 0 rfl) ?_
            refine zg_get (j := 2) C X hP (hkS_20 hr) (lyS_20 hr) rfl (zmem uwX2) (by decide) (C.tb flX2_36) (fun _ h9 => h9) rfl dX2_signAt_40 ?_
            refine zg_get (j := 2) C X hP (by decide) lyS_11 rfl (zmem uwX1) (by decide) (C.tb flX2_104) (fun _ h9 => h9) rfl dX2_signAt_43 ?_
            refine zg_iload_n C dX2_signAt_46 rfl (lv_at hl 3 rfl) ?_
            refine zg_iald (t0 := 0) C X hP (by decide) lyS_14 rfl (by decide) (by omega) (by omega) dX2_signAt_47 ?_
            have b_10 := rgS_14 hR ((i).toNat)
            refine zg_iret C hP hS dX2_signAt_48 ?_
            exact ⟨congrArg jI (by rw [hE, kAt_hit (by assumption) (by assumption) (by assumption)]), rfl⟩
set_option maxHeartbeats 4000000 in
set_option maxRecDepth 100000 in
theorem kX2_signAt (l : Launch) {D : va_G} {a : Nat → Nat} {cI cZ cR : ClassId} (σ : Zt) (hR : rgS σ) (r : Nat) (hr : r < 6) (q : Int) (q0 : -2147483648 ≤ q) (q1 : q < 2147483648) : zc l D vwCl (tyS cI cZ cR) 56 (layS cI cZ cR a) a yX2_signAt wsX2_signAt ({ frames := 2, cells := 0, slots := 0, locals := 42 }) [.ref (a (20 + 6 * r)), .int (jI q)] σ (fun r_ u_ => r_ = jI (kSignAt σ r q) ∧ u_ = σ) := by
  refine zc_of (cc := cX2_signAt) (maxL := 4) (ret := some .int) (own := RX2) (by decide) rfl rfl (Nat.le_of_ble_eq_true rfl) rfl ?_
  intro p e s m below meth c A ls C X hP hS hl
  refine zg_iload_n C dX2_signAt_0 rfl (lv_at hl 1 rfl) ?_
  refine zg_istore_n (lv' := [(2, .int (jI q)), (0, .ref (a (20 + 6 * r))), (1, .int (jI q))]) C dX2_signAt_1 rfl hl (by decide) rfl (fun ls hl => ?_)
  refine zg_iconst C dX2_signAt_2 ?_
  refine zg_istore_n (lv' := [(3, .int (jI 0)), (2, .int (jI q)), (0, .ref (a (20 + 6 * r))), (1, .int (jI q))]) C dX2_signAt_3 rfl hl (by decide) rfl (fun ls hl => ?_)
  exact lpX2_signAt_4 σ hR r hr q q0 q1 C X 401 q 0 _ _ _ (by have := rgS_11_4 hR; omega) (by omega) (by omega) q0 q1 (by unfold kSignAt; rw [Int.sub_zero]; rfl) hP hS (lv_sub hl [2, 3, 1, 0] rfl)
set_option maxHeartbeats 4000000 in
set_option maxRecDepth 100000 in
theorem kX2_signBefore (l : Launch) {D : va_G} {a : Nat → Nat} {cI cZ cR : ClassId} (σ : Zt) (hR : rgS σ) (r : Nat) (hr : r < 6) (q : Int) (q0 : -2147483648 ≤ q) (q1 : q < 2147483648) : zc l D vwCl (tyS cI cZ cR) 56 (layS cI cZ cR a) a yX2_signBefore wsX2_signBefore ({ frames := 3, cells := 0, slots := 0, locals := 65 }) [.ref (a (20 + 6 * r)), .int (jI q)] σ (fun r_ u_ => r_ = jI (kBefore σ r q) ∧ u_ = σ) := by
  refine zc_of (cc := cX2_signBefore) (maxL := 2) (ret := some .int) (own := RX2) (by decide) rfl rfl (Nat.le_of_ble_eq_true rfl) rfl ?_
  intro p e s m below meth c A ls C X hP hS hl
  refine zg_iload_n C dX2_signBefore_0 rfl (lv_at hl 1 rfl) ?_
  refine zg_if_gt (tgt := 8) C (by omega) (by omega) dX2_signBefore_1 (by decide) (fun c_1 => ?_) (fun c_1 => ?_)
  · refine zg_aload_n C dX2_signBefore_8 rfl (lv_at hl 0 rfl) ?_
    refine zg_iload_n C dX2_signBefore_9 rfl (lv_at hl 1 rfl) ?_
    refine zg_iconst C dX2_signBefore_10 ?_
    refine zg_isub C dX2_signBefore_11 ?_
    refine zg_callV C X hP hS (kX2_signAt l σ hR r hr (q - 1) (by omega) (by omega)) (cwV 1 C.ts (zgV mlX2_120 imX2_signAt slX2_signAt iniX2 cdX2_signAt) rfl rfl rfl (by decide +kernel) ⟨Nat.le_of_ble_eq_true rfl, Nat.le_of_ble_eq_true rfl⟩) (hkS_20 hr) (lyS_20 hr) rfl rfl rfl hl.1 rfl (Nat.le_of_ble_eq_true rfl) dX2_signBefore_12 ⟨Nat.zero_le _, Nat.zero_le _⟩ (fun r_3 σ2 H locs q4 hP hS => ?_)
    obtain ⟨rfl, q4⟩ := q4
    have b_5 := kSignAt_rg hR r (q - 1)
    rw [q4] at hP
    refine zg_iret C hP hS dX2_signBefore_15 ?_
    exact ⟨congrArg jI (by grind [kBefore]), rfl⟩
  · refine zg_iconst C dX2_signBefore_4 ?_
    refine zg_goto (tgt := 15) C dX2_signBefore_5 (by decide) ?_
    refine zg_iret C hP hS dX2_signBefore_15 ?_
    exact ⟨congrArg jI (by grind [kBefore]), rfl⟩
set_option maxHeartbeats 4000000 in
set_option maxRecDepth 100000 in
theorem lpX2_nextBehind_21 {l : Launch} {D : va_G} {a : Nat → Nat} {cI cZ cR : ClassId} {p : Program} {e : Env} {s : State} {m : MethodId} {below : List Frame} {meth : Method} {c : Code} {A : Nat → Prop} (σ : Zt) (hR : rgS σ) (r : Nat) (hr : r < 6) (d : Int) (d0 : -1 ≤ d) (d1 : d < 400)  (C : zk p s m ([.ref (a (20 + 6 * r)), .int (jI d)] : List Value).toArray meth c cX2_nextBehind 3 (some .int) wsX2_nextBehind RX2) (X : zx D vwCl (tyS cI cZ cR) A a 56 s) :
    ∀ (n : Nat) (i : Int) (H : Heap) (locs : List Loc) (ls : Array Slot), ((401 - i).toNat < n) → (0 ≤ i) → (i ≤ 400) → (kBehind σ r d = kNext σ r (σ 11 4 - i).toNat i.toNat) → va_P D vwCl (zw 56 (layS cI cZ cR a) a σ) H → va_S A s.heap H locs → lv_has ls 3 [(0, .ref (a (20 + 6 * r))), (1, .int (jI d)), (2, .int (jI i))] →
      W p l e ({ frames := 1, cells := 0, slots := 0, locals := 21 }) s m ([.ref (a (20 + 6 * r)), .int (jI d)] : List Value).toArray below meth c H locs 0 0 (MQ below (va_Qi (fun r_ u_ => r_ = jI (kBehind σ r d) ∧ u_ = σ) (fun (u : Zt) t => va_P D vwCl (zw 56 (layS cI cZ cR a) a u) t.heap) A) ([.ref (a (20 + 6 * r)), .int (jI d)] : List Value).toArray s 0 0 A) (F0 m 21 ls []) := by
  intro n
  induction n with
  | zero =>
    intro i  H locs ls hn h0 h1 hE hP hS hl
    exact absurd hn (by omega)
  | succ n ih =>
    intro i  H locs ls hn h0 h1 hE hP hS hl
    refine zg_iload_n C dX2_nextBehind_21 rfl (lv_at hl 2 rfl) ?_
    refine zg_aload_n C dX2_nextBehind_22 rfl (lv_at hl 0 rfl) ?_
    refine zg_get (j := 2) C X hP (hkS_20 hr) (lyS_20 hr) rfl (zmem uwX2) (by decide) (C.tb flX2_36) (fun _ h9 => h9) rfl dX2_nextBehind_23 ?_
    refine zg_get (j := 4) C X hP (by decide) lyS_11 rfl (zmem uwX1) (by decide) (C.tb flX2_112) (fun _ h9 => h9) rfl dX2_nextBehind_26 ?_
    have b_1 := rgS_11_4 hR
    refine zg_icmp_ge (tgt := 64) C (by omega) (by omega) (by omega) (by omega) dX2_nextBehind_29 (by decide) (fun c_2 => ?_) (fun c_2 => ?_)
    · refine zg_iconst C dX2_nextBehind_64 ?_
      refine zg_iret C hP hS dX2_nextBehind_65 ?_
      exact ⟨congrArg jI (by rw [hE, kNext_end (by assumption)]), rfl⟩
    · refine zg_aload_n C dX2_nextBehind_32 rfl (lv_at hl 0 rfl) ?_
      refine zg_aload_n C dX2_nextBehind_33 rfl (lv_at hl 0 rfl) ?_
      refine zg_get (j := 2) C X hP (hkS_20 hr) (lyS_20 hr) rfl (zmem uwX2) (by decide) (C.tb flX2_36) (fun _ h9 => h9) rfl dX2_nextBehind_34 ?_
      refine zg_get (j := 2) C X hP (by decide) lyS_11 rfl (zmem uwX1) (by decide) (C.tb flX2_104) (fun _ h9 => h9) rfl dX2_nextBehind_37 ?_
      refine zg_iload_n C dX2_nextBehind_40 rfl (lv_at hl 2 rfl) ?_
      refine zg_iald (t0 := 0) C X hP (by decide) lyS_14 rfl (by decide) (by omega) (by omega) dX2_nextBehind_41 ?_
      have b_3 := rgS_14 hR ((i).toNat)
      refine zg_callV C X hP hS (kX2_didDeed l σ hR r hr (σ 14 (i).toNat) (by omega) (by omega)) (cwV 1 C.ts (zgV mlX2_59 imX2_didDeed slX2_didDeed iniX2 cdX2_didDeed) rfl rfl rfl (by decide +kernel) ⟨Nat.le_of_ble_eq_true rfl, Nat.le_of_ble_eq_true rfl⟩) (hkS_20 hr) (lyS_20 hr) rfl rfl rfl hl.1 rfl (Nat.le_of_ble_eq_true rfl) dX2_nextBehind_42 ⟨Nat.zero_le _, Nat.zero_le _⟩ (fun r_5 σ4 H locs q6 hP hS => ?_)
      obtain ⟨rfl, q6⟩ := q6
      rw [q6] at hP
      refine zg_ifeqB (tgt := 58) C dX2_nextBehind_45 (by decide) (fun c_7 => ?_) (fun c_7 => ?_)
      · refine zg_iinc (k := 2) (lv' := [(2, .int (jI (i + 1))), (0, .ref (a (20 + 6 * r))), (1, .int (jI d))]) C dX2_nextBehind_58 hl rfl (by decide) rfl (fun ls hl => ?_)
        refine zg_goto (tgt := 21) C dX2_nextBehind_61 (by decide) ?_
        exact ih (i + 1) _ _ _ (by omega) (by omega) (by omega) (hE.trans (kNext_step (by omega) (by assumption) (by assumption))) hP hS (lv_sub hl [1, 2, 0] rfl)
      · refine zg_aload_n C dX2_nextBehind_48 rfl (lv_at hl 0 rfl) ?_
        refine zg_get (j := 2) C X hP (hkS_20 hr) (lyS_20 hr) rfl (zmem uwX2) (by decide) (C.tb flX2_36) (fun _ h9 => h9) rfl dX2_nextBehind_49 ?_
        refine zg_get (j := 2) C X hP (by decide) lyS_11 rfl (zmem uwX1) (by decide) (C.tb flX2_104) (fun _ h9 => h9) rfl dX2_nextBehind_52 ?_
        refine zg_iload_n C dX2_nextBehind_55 rfl (lv_at hl 2 rfl) ?_
        refine zg_iald (t0 := 0) C X hP (by decide) lyS_14 rfl (by decide) (by omega) (by omega) dX2_nextBehind_56 ?_
        have b_8 := rgS_14 hR ((i).toNat)
        refine zg_iret C hP hS dX2_nextBehind_57 ?_
        exact ⟨congrArg jI (by rw [hE, kNext_hit (by assumption) (by assumption)]), rfl⟩
set_option maxHeartbeats 4000000 in
set_option maxRecDepth 100000 in
theorem kX2_nextBehind (l : Launch) {D : va_G} {a : Nat → Nat} {cI cZ cR : ClassId} (σ : Zt) (hR : rgS σ) (r : Nat) (hr : r < 6) (d : Int) (d0 : -1 ≤ d) (d1 : d < 400) : zc l D vwCl (tyS cI cZ cR) 56 (layS cI cZ cR a) a yX2_nextBehind wsX2_nextBehind ({ frames := 1, cells := 0, slots := 0, locals := 21 }) [.ref (a (20 + 6 * r)), .int (jI d)] σ (fun r_ u_ => r_ = jI (kBehind σ r d) ∧ u_ = σ) := by
  refine zc_of (cc := cX2_nextBehind) (maxL := 3) (ret := some .int) (own := RX2) (by decide) rfl rfl (Nat.le_of_ble_eq_true rfl) rfl ?_
  intro p e s m below meth c A ls C X hP hS hl
  refine zg_iload_n C dX2_nextBehind_0 rfl (lv_at hl 1 rfl) ?_
  refine zg_iconst C dX2_nextBehind_1 ?_
  refine zg_icmp_ne (tgt := 9) C (by omega) (by omega) (by omega) (by omega) dX2_nextBehind_2 (by decide) (fun c_9 => ?_) (fun c_9 => ?_)
  · refine zg_aload_n C dX2_nextBehind_9 rfl (lv_at hl 0 rfl) ?_
    refine zg_get (j := 2) C X hP (hkS_20 hr) (lyS_20 hr) rfl (zmem uwX2) (by decide) (C.tb flX2_36) (fun _ h9 => h9) rfl dX2_nextBehind_10 ?_
    refine zg_get (j := 3) C X hP (by decide) lyS_11 rfl (zmem uwX1) (by decide) (C.tb flX2_123) (fun _ h9 => h9) rfl dX2_nextBehind_13 ?_
    refine zg_iload_n C dX2_nextBehind_16 rfl (lv_at hl 1 rfl) ?_
    refine zg_iald (t0 := 0) C X hP (by decide) lyS_15 rfl (by decide) (by omega) (by omega) dX2_nextBehind_17 ?_
    have b_10 := rgS_15 hR ((d).toNat)
    refine zg_iconst C dX2_nextBehind_18 ?_
    refine zg_iadd C dX2_nextBehind_19 ?_
    refine zg_istore_n (lv' := [(2, .int (jI ((σ 15 (d).toNat) + 1))), (0, .ref (a (20 + 6 * r))), (1, .int (jI d))]) C dX2_nextBehind_20 rfl hl (by decide) rfl (fun ls hl => ?_)
    exact lpX2_nextBehind_21 σ hR r hr d d0 d1 C X 402 ((σ 15 (d).toNat) + 1) _ _ _ (by omega) (by omega) (by omega) (by unfold kBehind; first | rw [if_pos (by assumption), Int.sub_zero]; rfl | rw [if_neg (by assumption)]) hP hS (lv_sub hl [1, 2, 0] rfl)
  · refine zg_iconst C dX2_nextBehind_5 ?_
    refine zg_goto (tgt := 20) C dX2_nextBehind_6 (by decide) ?_
    refine zg_istore_n (lv' := [(2, .int (jI 0)), (0, .ref (a (20 + 6 * r))), (1, .int (jI d))]) C dX2_nextBehind_20 rfl hl (by decide) rfl (fun ls hl => ?_)
    exact lpX2_nextBehind_21 σ hR r hr d d0 d1 C X 402 0 _ _ _ (by omega) (by omega) (by omega) (by unfold kBehind; first | rw [if_pos (by assumption), Int.sub_zero]; rfl | rw [if_neg (by assumption)]) hP hS (lv_sub hl [1, 2, 0] rfl)
set_option maxHeartbeats 4000000 in
set_option maxRecDepth 100000 in
theorem kX2_cursorPlace (l : Launch) {D : va_G} {a : Nat → Nat} {cI cZ cR : ClassId} (σ : Zt) (hR : rgS σ) (r : Nat) (hr : r < 6) (q : Int) (q0 : 0 ≤ q) (q1 : q < 4) : zc l D vwCl (tyS cI cZ cR) 56 (layS cI cZ cR a) a yX2_cursorPlace wsX2_cursorPlace ({ frames := 3, cells := 0, slots := 0, locals := 65 }) [.ref (a (20 + 6 * r)), .int (jI q)] σ (fun r_ u_ => r_ = jI (kCur σ r q) ∧ u_ = σ) := by
  refine zc_of (cc := cX2_cursorPlace) (maxL := 3) (ret := some .int) (own := RX2) (by decide) rfl rfl (Nat.le_of_ble_eq_true rfl) rfl ?_
  intro p e s m below meth c A ls C X hP hS hl
  refine zg_aload_n C dX2_cursorPlace_0 rfl (lv_at hl 0 rfl) ?_
  refine zg_get (j := 10) C X hP (hkS_20 hr) (lyS_20 hr) rfl (zmem uwX2) (by decide) (C.tb flX2_22) (fun _ h9 => h9) rfl dX2_cursorPlace_1 ?_
  refine zg_iload_n C dX2_cursorPlace_4 rfl (lv_at hl 1 rfl) ?_
  refine zg_iald (t0 := 0) C X hP (hkS_24 hr) (lyS_24 hr) rfl (by decide) (by omega) (by omega) dX2_cursorPlace_5 ?_
  have b_1 := rgS_24 hR hr ((q).toNat)
  refine zg_istore_n (lv' := [(2, .int (jI (σ (24 + 6 * r) (q).toNat))), (0, .ref (a (20 + 6 * r))), (1, .int (jI q))]) C dX2_cursorPlace_6 rfl hl (by decide) rfl (fun ls hl => ?_)
  refine zg_iload_n C dX2_cursorPlace_7 rfl (lv_at hl 0 rfl) ?_
  refine zg_iconst C dX2_cursorPlace_8 ?_
  refine zg_icmp_ne (tgt := 16) C (by omega) (by omega) (by omega) (by omega) dX2_cursorPlace_9 (by decide) (fun c_2 => ?_) (fun c_2 => ?_)
  · refine zg_aload_n C dX2_cursorPlace_16 rfl (lv_at hl 1 rfl) ?_
    refine zg_aload_n C dX2_cursorPlace_17 rfl (lv_at hl 1 rfl) ?_
    refine zg_get (j := 2) C X hP (hkS_20 hr) (lyS_20 hr) rfl (zmem uwX2) (by decide) (C.tb flX2_36) (fun _ h9 => h9) rfl dX2_cursorPlace_18 ?_
    refine zg_get (j := 3) C X hP (by decide) lyS_11 rfl (zmem uwX1) (by decide) (C.tb flX2_123) (fun _ h9 => h9) rfl dX2_cursorPlace_21 ?_
    refine zg_iload_n C dX2_cursorPlace_24 rfl (lv_at hl 0 rfl) ?_
    refine zg_iald (t0 := 0) C X hP (by decide) lyS_15 rfl (by decide) (by omega) (by omega) dX2_cursorPlace_25 ?_
    have b_3 := rgS_15 hR ((σ (24 + 6 * r) (q).toNat).toNat)
    refine zg_iconst C dX2_cursorPlace_26 ?_
    refine zg_iadd C dX2_cursorPlace_27 ?_
    refine zg_callV C X hP hS (kX2_aliveAmongFirst l σ hR r hr ((σ 15 (σ (24 + 6 * r) (q).toNat).toNat) + 1) (by omega) (by omega)) (cwV 1 C.ts (zgV mlX2_113 imX2_aliveAmongFirst slX2_aliveAmongFirst iniX2 cdX2_aliveAmongFirst) rfl rfl rfl (by decide +kernel) ⟨Nat.le_of_ble_eq_true rfl, Nat.le_of_ble_eq_true rfl⟩) (hkS_20 hr) (lyS_20 hr) rfl rfl rfl hl.1 rfl (Nat.le_of_ble_eq_true rfl) dX2_cursorPlace_28 ⟨Nat.zero_le _, Nat.zero_le _⟩ (fun r_5 σ4 H locs q6 hP hS => ?_)
    obtain ⟨rfl, q6⟩ := q6
    have b_7 := kCnt_rg σ r (((σ 15 (σ (24 + 6 * r) (q).toNat).toNat) + 1)).toNat
    rw [q6] at hP
    refine zg_iret C hP hS dX2_cursorPlace_31 ?_
    exact ⟨congrArg jI (by grind [kCur]), rfl⟩
  · refine zg_iconst C dX2_cursorPlace_12 ?_
    refine zg_goto (tgt := 31) C dX2_cursorPlace_13 (by decide) ?_
    refine zg_iret C hP hS dX2_cursorPlace_31 ?_
    exact ⟨congrArg jI (by grind [kCur]), rfl⟩
set_option maxHeartbeats 4000000 in
set_option maxRecDepth 100000 in
theorem lpX2_firstReady_2 {l : Launch} {D : va_G} {a : Nat → Nat} {cI cZ cR : ClassId} {p : Program} {e : Env} {s : State} {m : MethodId} {below : List Frame} {meth : Method} {c : Code} {A : Nat → Prop} (σ : Zt) (hR : rgS σ) (r : Nat) (hr : r < 6)  (C : zk p s m ([.ref (a (20 + 6 * r))] : List Value).toArray meth c cX2_firstReady 2 (some .int) wsX2_firstReady RX2) (X : zx D vwCl (tyS cI cZ cR) A a 56 s) :
    ∀ (n : Nat) (i : Int) (H : Heap) (locs : List Loc) (ls : Array Slot), ((σ 1 10 - i).toNat < n) → (0 ≤ i) → (i ≤ 400) → (kFirst σ r (σ 1 10).toNat 0 = kFirst σ r (σ 1 10 - i).toNat i.toNat) → va_P D vwCl (zw 56 (layS cI cZ cR a) a σ) H → va_S A s.heap H locs → lv_has ls 2 [(0, .ref (a (20 + 6 * r))), (1, .int (jI i))] →
      W p l e ({ frames := 2, cells := 0, slots := 0, locals := 42 }) s m ([.ref (a (20 + 6 * r))] : List Value).toArray below meth c H locs 0 0 (MQ below (va_Qi (fun r_ u_ => r_ = jI (kFirst σ r (σ 1 10).toNat 0) ∧ u_ = σ) (fun (u : Zt) t => va_P D vwCl (zw 56 (layS cI cZ cR a) a u) t.heap) A) ([.ref (a (20 + 6 * r))] : List Value).toArray s 0 0 A) (F0 m 2 ls []) := by
  intro n
  induction n with
  | zero =>
    intro i  H locs ls hn h0 h1 hE hP hS hl
    exact absurd hn (by omega)
  | succ n ih =>
    intro i  H locs ls hn h0 h1 hE hP hS hl
    refine zg_iload_n C dX2_firstReady_2 rfl (lv_at hl 1 rfl) ?_
    refine zg_aload_n C dX2_firstReady_3 rfl (lv_at hl 0 rfl) ?_
    refine zg_get (j := 1) C X hP (hkS_20 hr) (lyS_20 hr) rfl (zmem uwX2) (by decide) (C.tb flX2_32) (fun _ h9 => h9) rfl dX2_firstReady_4 ?_
    refine zg_get (j := 10) C X hP (by decide) lyS_1 rfl (zmem uwX0) (by decide) (C.tb flX2_83) (fun _ h9 => h9) rfl dX2_firstReady_7 ?_
    have b_1 := rgS_1_10 hR
    refine zg_icmp_ge (tgt := 38) C (by omega) (by omega) (by omega) (by omega) dX2_firstReady_10 (by decide) (fun c_2 => ?_) (fun c_2 => ?_)
    · refine zg_iconst C dX2_firstReady_38 ?_
      refine zg_iret C hP hS dX2_firstReady_39 ?_
      exact ⟨congrArg jI (by rw [hE, kFirst_end (by assumption)]), rfl⟩
    · refine zg_aload_n C dX2_firstReady_13 rfl (lv_at hl 0 rfl) ?_
      refine zg_get (j := 8) C X hP (hkS_20 hr) (lyS_20 hr) rfl (zmem uwX2) (by decide) (C.tb flX2_15) (fun _ h9 => h9) rfl dX2_firstReady_14 ?_
      refine zg_iload_n C dX2_firstReady_17 rfl (lv_at hl 1 rfl) ?_
      refine zg_zald (t0 := 1) C X hP (hkS_22 hr) (lyS_22 hr) rfl (by decide) (by omega) (by omega) dX2_firstReady_18 ?_
      have b_3 := rgS_22 hR hr ((i).toNat)
      refine zg_if_eq (tgt := 32) C (by omega) (by omega) dX2_firstReady_19 (by decide) (fun c_4 => ?_) (fun c_4 => ?_)
      · refine zg_iinc (k := 1) (lv' := [(1, .int (jI (i + 1))), (0, .ref (a (20 + 6 * r)))]) C dX2_firstReady_32 hl rfl (by decide) rfl (fun ls hl => ?_)
        refine zg_goto (tgt := 2) C dX2_firstReady_35 (by decide) ?_
        exact ih (i + 1) _ _ _ (by omega) (by omega) (by omega) (hE.trans (kFirst_step (by omega) (by assumption) (by grind))) hP hS (lv_sub hl [1, 0] rfl)
      · refine zg_aload_n C dX2_firstReady_22 rfl (lv_at hl 0 rfl) ?_
        refine zg_iload_n C dX2_firstReady_23 rfl (lv_at hl 1 rfl) ?_
        refine zg_callV C X hP hS (kX2_isReady l σ hR r hr i (by omega) (by omega)) (cwV 1 C.ts (zgV mlX2_66 imX2_isReady slX2_isReady iniX2 cdX2_isReady) rfl rfl rfl (by decide +kernel) ⟨Nat.le_of_ble_eq_true rfl, Nat.le_of_ble_eq_true rfl⟩) (hkS_20 hr) (lyS_20 hr) rfl rfl rfl hl.1 rfl (Nat.le_of_ble_eq_true rfl) dX2_firstReady_24 ⟨Nat.zero_le _, Nat.zero_le _⟩ (fun r_6 σ5 H locs q7 hP hS => ?_)
        obtain ⟨rfl, q7⟩ := q7
        rw [q7] at hP
        refine zg_ifeqB (tgt := 32) C dX2_firstReady_27 (by decide) (fun c_8 => ?_) (fun c_8 => ?_)
        · refine zg_iinc (k := 1) (lv' := [(1, .int (jI (i + 1))), (0, .ref (a (20 + 6 * r)))]) C dX2_firstReady_32 hl rfl (by decide) rfl (fun ls hl => ?_)
          refine zg_goto (tgt := 2) C dX2_firstReady_35 (by decide) ?_
          exact ih (i + 1) _ _ _ (by omega) (by omega) (by omega) (hE.trans (kFirst_step (by omega) (by assumption) (by grind))) hP hS (lv_sub hl [1, 0] rfl)
        · refine zg_iload_n C dX2_firstReady_30 rfl (lv_at hl 1 rfl) ?_
          refine zg_iret C hP hS dX2_firstReady_31 ?_
          exact ⟨congrArg jI (by rw [hE, kFirst_hit (by assumption) (by assumption) (by assumption) (by assumption)]), rfl⟩
set_option maxHeartbeats 4000000 in
set_option maxRecDepth 100000 in
theorem kX2_firstReady (l : Launch) {D : va_G} {a : Nat → Nat} {cI cZ cR : ClassId} (σ : Zt) (hR : rgS σ) (r : Nat) (hr : r < 6) : zc l D vwCl (tyS cI cZ cR) 56 (layS cI cZ cR a) a yX2_firstReady wsX2_firstReady ({ frames := 2, cells := 0, slots := 0, locals := 42 }) [.ref (a (20 + 6 * r))] σ (fun r_ u_ => r_ = jI (kFirst σ r (σ 1 10).toNat 0) ∧ u_ = σ) := by
  refine zc_of (cc := cX2_firstReady) (maxL := 2) (ret := some .int) (own := RX2) (by decide) rfl rfl (Nat.le_of_ble_eq_true rfl) rfl ?_
  intro p e s m below meth c A ls C X hP hS hl
  refine zg_iconst C dX2_firstReady_0 ?_
  refine zg_istore_n (lv' := [(1, .int (jI 0)), (0, .ref (a (20 + 6 * r)))]) C dX2_firstReady_1 rfl hl (by decide) rfl (fun ls hl => ?_)
  exact lpX2_firstReady_2 σ hR r hr C X 401 0 _ _ _ (by have := rgS_1_10 hR; omega) (by omega) (by omega) (by rw [Int.sub_zero]; rfl) hP hS (lv_sub hl [1, 0] rfl)
end
section
set_option maxHeartbeats 4000000 in
set_option maxRecDepth 100000 in
theorem kX2_throwCoin (l : Launch) {D : va_G} {a : Nat → Nat} {cI cZ cR : ClassId} (σ : Zt) (hR : rgS σ) (r : Nat) (hr : r < 6) : zc l D vwCl (tyS cI cZ cR) 56 (layS cI cZ cR a) a yX2_throwCoin wsX2_throwCoin ({ frames := 0, cells := 0, slots := 0, locals := 0 }) [.ref (a (20 + 6 * r))] σ (fun r_ u_ => r_ = jI (kCoin σ r) ∧ u_ = kCoinS σ r) := by
  refine zc_of (cc := cX2_throwCoin) (maxL := 1) (ret := some .int) (own := RX2) (by decide) rfl rfl (Nat.le_of_ble_eq_true rfl) rfl ?_
  intro p e s m below meth c A ls C X hP hS hl
  refine zg_aload_n C dX2_throwCoin_0 rfl (lv_at hl 0 rfl) ?_
  refine zg_aload_n C dX2_throwCoin_1 rfl (lv_at hl 0 rfl) ?_
  refine zg_get (j := 3) C X hP (hkS_20 hr) (lyS_20 hr) rfl (zmem uwX2) (by decide) (C.tb flX2_40) (fun _ h9 => h9) rfl dX2_throwCoin_2 ?_
  refine zg_ldc (v := 1664525) C (C.tb knX2_43) rfl dX2_throwCoin_5 ?_
  refine zg_imul C dX2_throwCoin_7 ?_
  refine zg_ldc (v := 1013904223) C (C.tb knX2_44) rfl dX2_throwCoin_8 ?_
  refine zg_iadd C dX2_throwCoin_10 ?_
  refine zg_put (j := 3) (v := ((σ (20 + 6 * r) 3) * 1664525) + 1013904223) C X hP hS (hkS_20 hr) (lyS_20 hr) rfl (zmem uwX2) tyX2 tyX2_ok nmX2 (by decide) (C.tb flX2_40) (fun _ h9 => h9) rfl (by decide +kernel) (Nat.le_of_ble_eq_true rfl) (by rw [(lyS_20 hr)]; rfl) dX2_throwCoin_11 (fun H locs hP hS => ?_)
  obtain ⟨σ1, e2⟩ : ∃ z_ : Zt, z_ = zu σ (20 + 6 * r) 3 (((σ (20 + 6 * r) 3) * 1664525) + 1013904223) := ⟨_, rfl⟩
  rw [← e2] at hP
  have w_4 : σ1 (20 + 6 * r) 3 = ((σ (20 + 6 * r) 3) * 1664525) + 1013904223 := by rw [e2]; exact zu_same _ _ _ _
  have hR3 : rgS σ1 := by rw [e2]; exact rzS_20_3 hR hr
  refine zg_aload_n C dX2_throwCoin_14 rfl (lv_at hl 0 rfl) ?_
  refine zg_get (j := 3) C X hP (hkS_20 hr) (lyS_20 hr) rfl (zmem uwX2) (by decide) (C.tb flX2_40) (fun _ h9 => h9) rfl dX2_throwCoin_15 ?_
  refine zg_bipush C dX2_throwCoin_18 (by decide) ?_
  refine zg_iushr C 16 (by decide) dX2_throwCoin_20 ?_
  refine zg_iret C hP hS dX2_throwCoin_21 ?_
  subst e2
  refine ⟨congrArg jI ?_, rfl⟩
  rw [zu_same]
  rfl
set_option maxHeartbeats 4000000 in
set_option maxRecDepth 100000 in
theorem kX3_send (l : Launch) {D : va_G} {a : Nat → Nat} {cI cZ cR : ClassId} (σ : Zt) (hR : rgS σ) (d : Int) (q : Int) (d0 : 0 ≤ d) (d1 : d < 400) (q0 : 0 ≤ q) (q1 : q < 6) : zv l D vwCl (tyS cI cZ cR) 56 (layS cI cZ cR a) a yX3_send wsX3_send ({ frames := 1, cells := 0, slots := 0, locals := 20 }) [.ref (a 16), .int (jI d), .int (jI q)] σ (fun u_ => u_ = kSend σ d q) := by
  refine zv_of (cc := cX3_send) (maxL := 3) (own := RX3) (by decide) rfl rfl (Nat.le_of_ble_eq_true rfl) rfl ?_
  intro p e s m below meth c A ls C X hP hS hl
  refine zg_aload_n C dX3_send_0 rfl (lv_at hl 0 rfl) ?_
  refine zg_callV C X hP hS (kX3_isFull l σ hR) (cwV 0 C.ts (zgV mlX3_22 imX3_isFull slX3_isFull iniX3 cdX3_isFull) rfl rfl rfl (by decide +kernel) ⟨Nat.le_of_ble_eq_true rfl, Nat.le_of_ble_eq_true rfl⟩) (by decide) lyS_16 rfl rfl rfl hl.1 rfl (Nat.le_of_ble_eq_true rfl) dX3_send_1 ⟨Nat.zero_le _, Nat.zero_le _⟩ (fun r_2 σ1 H locs q3 hP hS => ?_)
  obtain ⟨rfl, q3⟩ := q3
  rw [q3] at hP
  refine zg_ifeqB (tgt := 18) C dX3_send_4 (by decide) (fun c_4 => ?_) (fun c_4 => ?_)
  · have b_5 := kWayF_f c_4
    refine zg_aload_n C dX3_send_18 rfl (lv_at hl 0 rfl) ?_
    refine zg_get (j := 0) C X hP (by decide) lyS_16 rfl (zmem uwX3) (by decide) (C.tb flX3_9) (fun _ h9 => h9) rfl dX3_send_19 ?_
    refine zg_aload_n C dX3_send_22 rfl (lv_at hl 0 rfl) ?_
    refine zg_get (j := 2) C X hP (by decide) lyS_16 rfl (zmem uwX3) (by decide) (C.tb flX3_18) (fun _ h9 => h9) rfl dX3_send_23 ?_
    have b_6 := rgS_16_2 hR
    refine zg_iload_n C dX3_send_26 rfl (lv_at hl 1 rfl) ?_
    refine zg_iast (t0 := 0) C X hP hS (by decide) (fun x => lyS_17) rfl (by decide) (by omega) (by omega) dX3_send_27 (fun H locs hP hS => ?_)
    obtain ⟨σ7, e8⟩ : ∃ z_ : Zt, z_ = zu σ 17 (σ 16 2).toNat d := ⟨_, rfl⟩
    rw [← e8] at hP
    have w_10 : σ7 17 (σ 16 2).toNat = d := by rw [e8]; exact zu_same _ _ _ _
    have w_11 : σ7 16 2 = σ 16 2 := by rw [e8]; first | exact congrFun (zu_ne (by omega)) _ | exact zu_nj (by omega)
    have hR9 : rgS σ7 := by rw [e8]; exact rzS_17 hR (by omega) (by omega)
    refine zg_aload_n C dX3_send_28 rfl (lv_at hl 0 rfl) ?_
    refine zg_get (j := 1) C X hP (by decide) lyS_16 rfl (zmem uwX3) (by decide) (C.tb flX3_15) (fun _ h9 => h9) rfl dX3_send_29 ?_
    refine zg_aload_n C dX3_send_32 rfl (lv_at hl 0 rfl) ?_
    refine zg_get (j := 2) C X hP (by decide) lyS_16 rfl (zmem uwX3) (by decide) (C.tb flX3_18) (fun _ h9 => h9) rfl dX3_send_33 ?_
    have b_12 := rgS_16_2 hR9
    refine zg_iload_n C dX3_send_36 rfl (lv_at hl 2 rfl) ?_
    refine zg_iast (t0 := 0) C X hP hS (by decide) (fun x => lyS_18) rfl (by decide) (by omega) (by omega) dX3_send_37 (fun H locs hP hS => ?_)
    obtain ⟨σ13, e14⟩ : ∃ z_ : Zt, z_ = zu σ7 18 (σ7 16 2).toNat q := ⟨_, rfl⟩
    rw [← e14] at hP
    have w_16 : σ13 18 (σ7 16 2).toNat = q := by rw [e14]; exact zu_same _ _ _ _
    have w_17 : σ13 16 2 = σ7 16 2 := by rw [e14]; first | exact congrFun (zu_ne (by omega)) _ | exact zu_nj (by omega)
    have hR15 : rgS σ13 := by rw [e14]; exact rzS_18 hR9 (by omega) (by omega)
    refine zg_aload_n C dX3_send_38 rfl (lv_at hl 0 rfl) ?_
    refine zg_dup C dX3_send_39 rfl ?_
    refine zg_get (j := 2) C X hP (by decide) lyS_16 rfl (zmem uwX3) (by decide) (C.tb flX3_18) (fun _ h9 => h9) rfl dX3_send_40 ?_
    have b_18 := rgS_16_2 hR15
    refine zg_iconst C dX3_send_43 ?_
    refine zg_iadd C dX3_send_44 ?_
    refine zg_put (j := 2) (v := (σ13 16 2) + 1) C X hP hS (by decide) lyS_16 rfl (zmem uwX3) tyX3 tyX3_ok nmX3 (by decide) (C.tb flX3_18) (fun _ h9 => h9) rfl (by decide +kernel) (Nat.le_of_ble_eq_true rfl) (by rw [lyS_16]; rfl) dX3_send_45 (fun H locs hP hS => ?_)
    obtain ⟨σ19, e20⟩ : ∃ z_ : Zt, z_ = zu σ13 16 2 ((σ13 16 2) + 1) := ⟨_, rfl⟩
    rw [← e20] at hP
    have w_22 : σ19 16 2 = (σ13 16 2) + 1 := by rw [e20]; exact zu_same _ _ _ _
    have hR21 : rgS σ19 := by rw [e20]; exact rzS_16_2 hR15 (by omega) (by omega)
    refine zg_vret C hP hS dX3_send_48 ?_
    subst e8 e14 e20
    rw [kSend, if_neg (by omega)]
    rfl
  · have b_23 := kWayF_t c_4
    refine zg_aload_n C dX3_send_7 rfl (lv_at hl 0 rfl) ?_
    refine zg_dup C dX3_send_8 rfl ?_
    refine zg_get (j := 3) C X hP (by decide) lyS_16 rfl (zmem uwX3) (by decide) (C.tb flX3_26) (fun _ h9 => h9) rfl dX3_send_9 ?_
    refine zg_iconst C dX3_send_12 ?_
    refine zg_iadd C dX3_send_13 ?_
    refine zg_put (j := 3) (v := (σ 16 3) + 1) C X hP hS (by decide) lyS_16 rfl (zmem uwX3) tyX3 tyX3_ok nmX3 (by decide) (C.tb flX3_26) (fun _ h9 => h9) rfl (by decide +kernel) (Nat.le_of_ble_eq_true rfl) (by rw [lyS_16]; rfl) dX3_send_14 (fun H locs hP hS => ?_)
    obtain ⟨σ24, e25⟩ : ∃ z_ : Zt, z_ = zu σ 16 3 ((σ 16 3) + 1) := ⟨_, rfl⟩
    rw [← e25] at hP
    have w_27 : σ24 16 3 = (σ 16 3) + 1 := by rw [e25]; exact zu_same _ _ _ _
    have w_28 : σ24 16 2 = σ 16 2 := by rw [e25]; first | exact congrFun (zu_ne (by omega)) _ | exact zu_nj (by omega)
    have hR26 : rgS σ24 := by rw [e25]; exact rzS_16_3 hR
    refine zg_vret C hP hS dX3_send_17 ?_
    subst e25
    rw [kSend, if_pos (by omega)]
set_option maxHeartbeats 4000000 in
set_option maxRecDepth 100000 in
theorem lpX3_drop_12 {l : Launch} {D : va_G} {a : Nat → Nat} {cI cZ cR : ClassId} {p : Program} {e : Env} {s : State} {m : MethodId} {below : List Frame} {meth : Method} {c : Code} {A : Nat → Prop} (σ : Zt) (hR : rgS σ) (i : Int) (i0 : 0 ≤ i) (i1 : i < σ 16 2)  (C : zk p s m ([.ref (a 16), .int (jI i)] : List Value).toArray meth c cX3_drop 3 (none) wsX3_drop RX3) (X : zx D vwCl (tyS cI cZ cR) A a 56 s) :
    ∀ (n : Nat) (j : Int) (τ : Zt) (H : Heap) (locs : List Loc) (ls : Array Slot), ((τ 16 2 - j).toNat < n) → (rgS τ) → (0 ≤ j) → (j ≤ 300) → (τ 16 2 < 300) → (kDropS σ i = kDrop (τ 16 2 - j).toNat j.toNat τ) → va_P D vwCl (zw 56 (layS cI cZ cR a) a τ) H → va_S A s.heap H locs → lv_has ls 3 [(0, .ref (a 16)), (1, .int (jI i)), (2, .int (jI j))] →
      W p l e ({ frames := 0, cells := 0, slots := 0, locals := 0 }) s m ([.ref (a 16), .int (jI i)] : List Value).toArray below meth c H locs 0 0 (MQ below (va_Qv (fun u_ => u_ = kDropS σ i) (fun (u : Zt) t => va_P D vwCl (zw 56 (layS cI cZ cR a) a u) t.heap) A) ([.ref (a 16), .int (jI i)] : List Value).toArray s 0 0 A) (F0 m 12 ls []) := by
  intro n
  induction n with
  | zero =>
    intro j τ H locs ls hn hτ j0 j1 ht hE hP hS hl
    exact absurd hn (by omega)
  | succ n ih =>
    intro j τ H locs ls hn hτ j0 j1 ht hE hP hS hl
    refine zg_iload_n C dX3_drop_12 rfl (lv_at hl 2 rfl) ?_
    refine zg_aload_n C dX3_drop_13 rfl (lv_at hl 0 rfl) ?_
    refine zg_get (j := 2) C X hP (by decide) lyS_16 rfl (zmem uwX3) (by decide) (C.tb flX3_18) (fun _ h9 => h9) rfl dX3_drop_14 ?_
    have b_1 := rgS_16_2 hτ
    refine zg_icmp_ge (tgt := 54) C (by omega) (by omega) (by omega) (by omega) dX3_drop_17 (by decide) (fun c_2 => ?_) (fun c_2 => ?_)
    · refine zg_vret C hP hS dX3_drop_54 ?_
      rw [hE, kDrop_end (by omega)]
    · refine zg_aload_n C dX3_drop_20 rfl (lv_at hl 0 rfl) ?_
      refine zg_get (j := 0) C X hP (by decide) lyS_16 rfl (zmem uwX3) (by decide) (C.tb flX3_9) (fun _ h9 => h9) rfl dX3_drop_21 ?_
      refine zg_iload_n C dX3_drop_24 rfl (lv_at hl 2 rfl) ?_
      refine zg_aload_n C dX3_drop_25 rfl (lv_at hl 0 rfl) ?_
      refine zg_get (j := 0) C X hP (by decide) lyS_16 rfl (zmem uwX3) (by decide) (C.tb flX3_9) (fun _ h9 => h9) rfl dX3_drop_26 ?_
      refine zg_iload_n C dX3_drop_29 rfl (lv_at hl 2 rfl) ?_
      refine zg_iconst C dX3_drop_30 ?_
      refine zg_iadd C dX3_drop_31 ?_
      refine zg_iald (t0 := 0) C X hP (by decide) lyS_17 rfl (by decide) (by omega) (by omega) dX3_drop_32 ?_
      have b_3 := rgS_17 hτ ((j + 1).toNat)
      refine zg_iast (t0 := 0) C X hP hS (by decide) (fun x => lyS_17) rfl (by decide) (by omega) (by omega) dX3_drop_33 (fun H locs hP hS => ?_)
      obtain ⟨σ4, e5⟩ : ∃ z_ : Zt, z_ = zu τ 17 (j).toNat (τ 17 (j + 1).toNat) := ⟨_, rfl⟩
      rw [← e5] at hP
      have w_7 : σ4 17 (j).toNat = τ 17 (j + 1).toNat := by rw [e5]; exact zu_same _ _ _ _
      have w_8 : σ4 16 2 = τ 16 2 := by rw [e5]; first | exact congrFun (zu_ne (by omega)) _ | exact zu_nj (by omega)
      have hR6 : rgS σ4 := by rw [e5]; exact rzS_17 hτ (by omega) (by omega)
      refine zg_aload_n C dX3_drop_34 rfl (lv_at hl 0 rfl) ?_
      refine zg_get (j := 1) C X hP (by decide) lyS_16 rfl (zmem uwX3) (by decide) (C.tb flX3_15) (fun _ h9 => h9) rfl dX3_drop_35 ?_
      refine zg_iload_n C dX3_drop_38 rfl (lv_at hl 2 rfl) ?_
      refine zg_aload_n C dX3_drop_39 rfl (lv_at hl 0 rfl) ?_
      refine zg_get (j := 1) C X hP (by decide) lyS_16 rfl (zmem uwX3) (by decide) (C.tb flX3_15) (fun _ h9 => h9) rfl dX3_drop_40 ?_
      refine zg_iload_n C dX3_drop_43 rfl (lv_at hl 2 rfl) ?_
      refine zg_iconst C dX3_drop_44 ?_
      refine zg_iadd C dX3_drop_45 ?_
      refine zg_iald (t0 := 0) C X hP (by decide) lyS_18 rfl (by decide) (by omega) (by omega) dX3_drop_46 ?_
      have b_9 := rgS_18 hR6 ((j + 1).toNat)
      refine zg_iast (t0 := 0) C X hP hS (by decide) (fun x => lyS_18) rfl (by decide) (by omega) (by omega) dX3_drop_47 (fun H locs hP hS => ?_)
      obtain ⟨σ10, e11⟩ : ∃ z_ : Zt, z_ = zu σ4 18 (j).toNat (σ4 18 (j + 1).toNat) := ⟨_, rfl⟩
      rw [← e11] at hP
      have w_13 : σ10 18 (j).toNat = σ4 18 (j + 1).toNat := by rw [e11]; exact zu_same _ _ _ _
      have w_14 : σ10 16 2 = σ4 16 2 := by rw [e11]; first | exact congrFun (zu_ne (by omega)) _ | exact zu_nj (by omega)
      have hR12 : rgS σ10 := by rw [e11]; exact rzS_18 hR6 (by omega) (by omega)
      refine zg_iinc (k := 2) (lv' := [(2, .int (jI (j + 1))), (0, .ref (a 16)), (1, .int (jI i))]) C dX3_drop_48 hl rfl (by decide) rfl (fun ls hl => ?_)
      refine zg_goto (tgt := 12) C dX3_drop_51 (by decide) ?_
      exact ih (j + 1) σ10 _ _ _ (by omega) (by assumption) (by omega) (by omega) (by omega) (by subst e5 e11; exact hE.trans (kDrop_step (by omega) (by omega))) hP hS (lv_sub hl [1, 2, 0] rfl)
set_option maxHeartbeats 4000000 in
set_option maxRecDepth 100000 in
theorem kX3_drop (l : Launch) {D : va_G} {a : Nat → Nat} {cI cZ cR : ClassId} (σ : Zt) (hR : rgS σ) (i : Int) (i0 : 0 ≤ i) (i1 : i < σ 16 2) : zv l D vwCl (tyS cI cZ cR) 56 (layS cI cZ cR a) a yX3_drop wsX3_drop ({ frames := 0, cells := 0, slots := 0, locals := 0 }) [.ref (a 16), .int (jI i)] σ (fun u_ => u_ = kDropS σ i) := by
  refine zv_of (cc := cX3_drop) (maxL := 3) (own := RX3) (by decide) rfl rfl (Nat.le_of_ble_eq_true rfl) rfl ?_
  intro p e s m below meth c A ls C X hP hS hl
  refine zg_aload_n C dX3_drop_0 rfl (lv_at hl 0 rfl) ?_
  refine zg_dup C dX3_drop_1 rfl ?_
  refine zg_get (j := 2) C X hP (by decide) lyS_16 rfl (zmem uwX3) (by decide) (C.tb flX3_18) (fun _ h9 => h9) rfl dX3_drop_2 ?_
  have b_15 := rgS_16_2 hR
  refine zg_iconst C dX3_drop_5 ?_
  refine zg_isub C dX3_drop_6 ?_
  refine zg_put (j := 2) (v := (σ 16 2) - 1) C X hP hS (by decide) lyS_16 rfl (zmem uwX3) tyX3 tyX3_ok nmX3 (by decide) (C.tb flX3_18) (fun _ h9 => h9) rfl (by decide +kernel) (Nat.le_of_ble_eq_true rfl) (by rw [lyS_16]; rfl) dX3_drop_7 (fun H locs hP hS => ?_)
  obtain ⟨σ16, e17⟩ : ∃ z_ : Zt, z_ = zu σ 16 2 ((σ 16 2) - 1) := ⟨_, rfl⟩
  rw [← e17] at hP
  have w_19 : σ16 16 2 = (σ 16 2) - 1 := by rw [e17]; exact zu_same _ _ _ _
  have hR18 : rgS σ16 := by rw [e17]; exact rzS_16_2 hR (by omega) (by omega)
  refine zg_iload_n C dX3_drop_10 rfl (lv_at hl 1 rfl) ?_
  refine zg_istore_n (lv' := [(2, .int (jI i)), (0, .ref (a 16)), (1, .int (jI i))]) C dX3_drop_11 rfl hl (by decide) rfl (fun ls hl => ?_)
  exact lpX3_drop_12 σ hR i i0 i1 C X 301 i σ16 _ _ _ (by omega) (by assumption) (by omega) (by omega) (by omega) (by subst e17; rfl) hP hS (lv_sub hl [1, 2, 0] rfl)
end
section
set_option maxHeartbeats 4000000 in
set_option maxRecDepth 100000 in
theorem kX4_isReplica (l : Launch) {D : va_G} {a : Nat → Nat} {cI cZ cR : ClassId} (σ : Zt) (hR : rgS σ) (x : Int) (x0 : -2147483648 ≤ x) (x1 : x < 2147483648) : zc l D vwCl (tyS cI cZ cR) 56 (layS cI cZ cR a) a yX4_isReplica wsX4_isReplica ({ frames := 0, cells := 0, slots := 0, locals := 0 }) [.int (jI x)] σ (fun r_ u_ => r_ = jI (bI (kIsR x)) ∧ u_ = σ) := by
  refine zc_of (cc := cX4_isReplica) (maxL := 1) (ret := some .boolean) (own := RX4) (by decide) rfl rfl (Nat.le_of_ble_eq_true rfl) rfl ?_
  intro p e s m below meth c A ls C X hP hS hl
  refine zg_iload_n C dX4_isReplica_0 rfl (lv_at hl 0 rfl) ?_
  refine zg_if_lt (tgt := 14) C (by omega) (by omega) dX4_isReplica_1 (by decide) (fun c_1 => ?_) (fun c_1 => ?_)
  · refine zg_iconst C dX4_isReplica_14 ?_
    refine zg_zret (b := false) C hP hS dX4_isReplica_15 ?_
    exact ⟨congrArg (fun b => jI (bI b)) (by grind [kIsR]), rfl⟩
  · refine zg_iload_n C dX4_isReplica_4 rfl (lv_at hl 0 rfl) ?_
    refine zg_bipush C dX4_isReplica_5 (by decide) ?_
    refine zg_icmp_ge (tgt := 14) C (by omega) (by omega) (by omega) (by omega) dX4_isReplica_7 (by decide) (fun c_2 => ?_) (fun c_2 => ?_)
    · refine zg_iconst C dX4_isReplica_14 ?_
      refine zg_zret (b := false) C hP hS dX4_isReplica_15 ?_
      exact ⟨congrArg (fun b => jI (bI b)) (by grind [kIsR]), rfl⟩
    · refine zg_iconst C dX4_isReplica_10 ?_
      refine zg_goto (tgt := 15) C dX4_isReplica_11 (by decide) ?_
      refine zg_zret (b := true) C hP hS dX4_isReplica_15 ?_
      exact ⟨congrArg (fun b => jI (bI b)) (by grind [kIsR]), rfl⟩
set_option maxHeartbeats 4000000 in
set_option maxRecDepth 100000 in
theorem kX4_isCursor (l : Launch) {D : va_G} {a : Nat → Nat} {cI cZ cR : ClassId} (σ : Zt) (hR : rgS σ) (x : Int) (x0 : -2147483648 ≤ x) (x1 : x < 2147483648) : zc l D vwCl (tyS cI cZ cR) 56 (layS cI cZ cR a) a yX4_isCursor wsX4_isCursor ({ frames := 0, cells := 0, slots := 0, locals := 0 }) [.int (jI x)] σ (fun r_ u_ => r_ = jI (bI (kIsC x)) ∧ u_ = σ) := by
  refine zc_of (cc := cX4_isCursor) (maxL := 1) (ret := some .boolean) (own := RX4) (by decide) rfl rfl (Nat.le_of_ble_eq_true rfl) rfl ?_
  intro p e s m below meth c A ls C X hP hS hl
  refine zg_iload_n C dX4_isCursor_0 rfl (lv_at hl 0 rfl) ?_
  refine zg_if_lt (tgt := 13) C (by omega) (by omega) dX4_isCursor_1 (by decide) (fun c_1 => ?_) (fun c_1 => ?_)
  · refine zg_iconst C dX4_isCursor_13 ?_
    refine zg_zret (b := false) C hP hS dX4_isCursor_14 ?_
    exact ⟨congrArg (fun b => jI (bI b)) (by grind [kIsC]), rfl⟩
  · refine zg_iload_n C dX4_isCursor_4 rfl (lv_at hl 0 rfl) ?_
    refine zg_iconst C dX4_isCursor_5 ?_
    refine zg_icmp_ge (tgt := 13) C (by omega) (by omega) (by omega) (by omega) dX4_isCursor_6 (by decide) (fun c_2 => ?_) (fun c_2 => ?_)
    · refine zg_iconst C dX4_isCursor_13 ?_
      refine zg_zret (b := false) C hP hS dX4_isCursor_14 ?_
      exact ⟨congrArg (fun b => jI (bI b)) (by grind [kIsC]), rfl⟩
    · refine zg_iconst C dX4_isCursor_9 ?_
      refine zg_goto (tgt := 14) C dX4_isCursor_10 (by decide) ?_
      refine zg_zret (b := true) C hP hS dX4_isCursor_14 ?_
      exact ⟨congrArg (fun b => jI (bI b)) (by grind [kIsC]), rfl⟩
set_option maxHeartbeats 4000000 in
set_option maxRecDepth 100000 in
theorem kX4_isByte (l : Launch) {D : va_G} {a : Nat → Nat} {cI cZ cR : ClassId} (σ : Zt) (hR : rgS σ) (x : Int) (x0 : -2147483648 ≤ x) (x1 : x < 2147483648) : zc l D vwCl (tyS cI cZ cR) 56 (layS cI cZ cR a) a yX4_isByte wsX4_isByte ({ frames := 0, cells := 0, slots := 0, locals := 0 }) [.int (jI x)] σ (fun r_ u_ => r_ = jI (bI (kIsB x)) ∧ u_ = σ) := by
  refine zc_of (cc := cX4_isByte) (maxL := 1) (ret := some .boolean) (own := RX4) (by decide) rfl rfl (Nat.le_of_ble_eq_true rfl) rfl ?_
  intro p e s m below meth c A ls C X hP hS hl
  refine zg_iload_n C dX4_isByte_0 rfl (lv_at hl 0 rfl) ?_
  refine zg_bipush C dX4_isByte_1 (by decide) ?_
  refine zg_icmp_lt (tgt := 16) C (by omega) (by omega) (by omega) (by omega) dX4_isByte_3 (by decide) (fun c_1 => ?_) (fun c_1 => ?_)
  · refine zg_iconst C dX4_isByte_16 ?_
    refine zg_zret (b := false) C hP hS dX4_isByte_17 ?_
    exact ⟨congrArg (fun b => jI (bI b)) (by grind [kIsB]), rfl⟩
  · refine zg_iload_n C dX4_isByte_6 rfl (lv_at hl 0 rfl) ?_
    refine zg_bipush C dX4_isByte_7 (by decide) ?_
    refine zg_icmp_gt (tgt := 16) C (by omega) (by omega) (by omega) (by omega) dX4_isByte_9 (by decide) (fun c_2 => ?_) (fun c_2 => ?_)
    · refine zg_iconst C dX4_isByte_16 ?_
      refine zg_zret (b := false) C hP hS dX4_isByte_17 ?_
      exact ⟨congrArg (fun b => jI (bI b)) (by grind [kIsB]), rfl⟩
    · refine zg_iconst C dX4_isByte_12 ?_
      refine zg_goto (tgt := 17) C dX4_isByte_13 (by decide) ?_
      refine zg_zret (b := true) C hP hS dX4_isByte_17 ?_
      exact ⟨congrArg (fun b => jI (bI b)) (by grind [kIsB]), rfl⟩
set_option maxHeartbeats 4000000 in
set_option maxRecDepth 100000 in
theorem kX1_digitOf (l : Launch) {D : va_G} {a : Nat → Nat} {cI cZ cR : ClassId} (σ : Zt) (hR : rgS σ) (x : Int) (x0 : 0 ≤ x) (x1 : x < 16777216) : zc l D vwCl (tyS cI cZ cR) 56 (layS cI cZ cR a) a yX1_digitOf wsX1_digitOf ({ frames := 0, cells := 0, slots := 0, locals := 0 }) [.int (jI x)] σ (fun r_ u_ => r_ = jI (kDigit x) ∧ u_ = σ) := by
  refine zc_of (cc := cX1_digitOf) (maxL := 1) (ret := some .int) (own := RX1) (by decide) rfl rfl (Nat.le_of_ble_eq_true rfl) rfl ?_
  intro p e s m below meth c A ls C X hP hS hl
  refine zg_iload_n C dX1_digitOf_0 rfl (lv_at hl 0 rfl) ?_
  refine zg_bipush C dX1_digitOf_1 (by decide) ?_
  refine zg_iushr C 12 (by decide) dX1_digitOf_3 ?_
  refine zg_iret C hP hS dX1_digitOf_4 ?_
  exact ⟨congrArg jI (by unfold kDigit; omega), rfl⟩
set_option maxHeartbeats 4000000 in
set_option maxRecDepth 100000 in
theorem kX1_siteOf (l : Launch) {D : va_G} {a : Nat → Nat} {cI cZ cR : ClassId} (σ : Zt) (hR : rgS σ) (x : Int) (x0 : 0 ≤ x) (x1 : x < 16777216) : zc l D vwCl (tyS cI cZ cR) 56 (layS cI cZ cR a) a yX1_siteOf wsX1_siteOf ({ frames := 0, cells := 0, slots := 0, locals := 0 }) [.int (jI x)] σ (fun r_ u_ => r_ = jI (kSite x) ∧ u_ = σ) := by
  refine zc_of (cc := cX1_siteOf) (maxL := 1) (ret := some .int) (own := RX1) (by decide) rfl rfl (Nat.le_of_ble_eq_true rfl) rfl ?_
  intro p e s m below meth c A ls C X hP hS hl
  refine zg_iload_n C dX1_siteOf_0 rfl (lv_at hl 0 rfl) ?_
  refine zg_bipush C dX1_siteOf_1 (by decide) ?_
  refine zg_iushr C 9 (by decide) dX1_siteOf_3 ?_
  refine zg_bipush C dX1_siteOf_4 (by decide) ?_
  refine zg_iand C 3 (by decide) (by omega) (by omega) dX1_siteOf_6 ?_
  refine zg_iret C hP hS dX1_siteOf_7 ?_
  exact ⟨congrArg jI (by unfold kSite; omega), rfl⟩
set_option maxHeartbeats 4000000 in
set_option maxRecDepth 100000 in
theorem kX1_countOf (l : Launch) {D : va_G} {a : Nat → Nat} {cI cZ cR : ClassId} (σ : Zt) (hR : rgS σ) (x : Int) (x0 : 0 ≤ x) (x1 : x < 16777216) : zc l D vwCl (tyS cI cZ cR) 56 (layS cI cZ cR a) a yX1_countOf wsX1_countOf ({ frames := 0, cells := 0, slots := 0, locals := 0 }) [.int (jI x)] σ (fun r_ u_ => r_ = jI (kCount x) ∧ u_ = σ) := by
  refine zc_of (cc := cX1_countOf) (maxL := 1) (ret := some .int) (own := RX1) (by decide) rfl rfl (Nat.le_of_ble_eq_true rfl) rfl ?_
  intro p e s m below meth c A ls C X hP hS hl
  refine zg_iload_n C dX1_countOf_0 rfl (lv_at hl 0 rfl) ?_
  refine zg_sipush C dX1_countOf_1 (by decide) ?_
  refine zg_iand C 9 (by decide) (by omega) (by omega) dX1_countOf_4 ?_
  refine zg_iret C hP hS dX1_countOf_5 ?_
  exact ⟨congrArg jI (by unfold kCount; omega), rfl⟩
set_option maxHeartbeats 4000000 in
set_option maxRecDepth 100000 in
theorem kX1_makeLevel (l : Launch) {D : va_G} {a : Nat → Nat} {cI cZ cR : ClassId} (σ : Zt) (hR : rgS σ) (u : Int) (q : Int) (t : Int) (u0 : 0 ≤ u) (u1 : u < 4096) (q0 : 0 ≤ q) (q1 : q < 8) (t0 : 0 ≤ t) (t1 : t < 512) : zc l D vwCl (tyS cI cZ cR) 56 (layS cI cZ cR a) a yX1_makeLevel wsX1_makeLevel ({ frames := 0, cells := 0, slots := 0, locals := 0 }) [.int (jI u), .int (jI q), .int (jI t)] σ (fun r_ u_ => r_ = jI (kMake u q t) ∧ u_ = σ) := by
  refine zc_of (cc := cX1_makeLevel) (maxL := 3) (ret := some .int) (own := RX1) (by decide) rfl rfl (Nat.le_of_ble_eq_true rfl) rfl ?_
  intro p e s m below meth c A ls C X hP hS hl
  refine zg_iload_n C dX1_makeLevel_0 rfl (lv_at hl 0 rfl) ?_
  refine zg_bipush C dX1_makeLevel_1 (by decide) ?_
  refine zg_shl C 12 (by decide) (by omega) (by omega) dX1_makeLevel_3 ?_
  refine zg_iload_n C dX1_makeLevel_4 rfl (lv_at hl 1 rfl) ?_
  refine zg_bipush C dX1_makeLevel_5 (by decide) ?_
  refine zg_shl C 9 (by decide) (by omega) (by omega) dX1_makeLevel_7 ?_
  refine zg_or C 12 u (by omega) rfl (by omega) (by omega) (by omega) dX1_makeLevel_8 ?_
  refine zg_iload_n C dX1_makeLevel_9 rfl (lv_at hl 2 rfl) ?_
  refine zg_or C 9 (u * 8 + q) (by omega) (by omega) (by omega) (by omega) (by omega) dX1_makeLevel_10 ?_
  refine zg_iret C hP hS dX1_makeLevel_11 ?_
  exact ⟨congrArg jI (by unfold kMake; omega), rfl⟩
set_option maxHeartbeats 4000000 in
set_option maxRecDepth 100000 in
theorem kX1_baseOf (l : Launch) {D : va_G} {a : Nat → Nat} {cI cZ cR : ClassId} (σ : Zt) (hR : rgS σ) (k : Int) (k0 : 1 ≤ k) (k1 : k ≤ 12) : zc l D vwCl (tyS cI cZ cR) 56 (layS cI cZ cR a) a yX1_baseOf wsX1_baseOf ({ frames := 1, cells := 0, slots := 0, locals := 21 }) [.int (jI k)] σ (fun r_ u_ => r_ = jI (kBase k) ∧ u_ = σ) := by
  refine zc_of (cc := cX1_baseOf) (maxL := 1) (ret := some .int) (own := RX1) (by decide) rfl rfl (Nat.le_of_ble_eq_true rfl) rfl ?_
  intro p e s m below meth c A ls C X hP hS hl
  refine zg_iconst C dX1_baseOf_0 ?_
  refine zg_iload_n C dX1_baseOf_1 rfl (lv_at hl 0 rfl) ?_
  refine zg_iconst C dX1_baseOf_2 ?_
  refine zg_iadd C dX1_baseOf_3 ?_
  refine zg_bipush C dX1_baseOf_4 (by decide) ?_
  refine zg_mmin C (by omega) (by omega) (by omega) (by omega) hl.1 (List.mem_cons_of_mem _ mlX1_24) (List.mem_cons_of_mem _ stMath_min) (List.mem_cons_of_mem _ iniMath) (List.mem_cons_of_mem _ cdMath_min) (Nat.le_of_ble_eq_true rfl) (Nat.le_of_ble_eq_true rfl) (Nat.zero_le _) (Nat.zero_le _) dX1_baseOf_6 ?_
  refine zg_shl C ((min (k + 3) 12).toNat) (sh_amt (by omega) (by omega)) (by omega) (by have := kBase_rg k0 k1; unfold kBase at this; omega) dX1_baseOf_9 ?_
  refine zg_iret C hP hS dX1_baseOf_10 ?_
  exact ⟨congrArg jI (by unfold kBase; omega), rfl⟩
set_option maxHeartbeats 4000000 in
set_option maxRecDepth 100000 in
theorem kX1_levelOf (l : Launch) {D : va_G} {a : Nat → Nat} {cI cZ cR : ClassId} (σ : Zt) (hR : rgS σ) (d : Int) (k : Int) (d0 : -1 ≤ d) (d1 : d < 400) (k0 : 1 ≤ k) (k1 : k ≤ 12) : zc l D vwCl (tyS cI cZ cR) 56 (layS cI cZ cR a) a yX1_levelOf wsX1_levelOf ({ frames := 0, cells := 0, slots := 0, locals := 0 }) [.ref (a 11), .int (jI d), .int (jI k)] σ (fun r_ u_ => r_ = jI (kLevel σ d k) ∧ u_ = σ) := by
  refine zc_of (cc := cX1_levelOf) (maxL := 3) (ret := some .int) (own := RX1) (by decide) rfl rfl (Nat.le_of_ble_eq_true rfl) rfl ?_
  intro p e s m below meth c A ls C X hP hS hl
  refine zg_iload_n C dX1_levelOf_0 rfl (lv_at hl 1 rfl) ?_
  refine zg_iconst C dX1_levelOf_1 ?_
  refine zg_icmp_eq (tgt := 15) C (by omega) (by omega) (by omega) (by omega) dX1_levelOf_2 (by decide) (fun c_1 => ?_) (fun c_1 => ?_)
  · refine zg_iconst C dX1_levelOf_15 ?_
    refine zg_goto (tgt := 32) C dX1_levelOf_16 (by decide) ?_
    refine zg_iret C hP hS dX1_levelOf_32 ?_
    exact ⟨congrArg jI (by unfold kLevel; first | rw [if_pos (by omega)] | rw [if_neg (by omega)]), rfl⟩
  · refine zg_iload_n C dX1_levelOf_5 rfl (lv_at hl 2 rfl) ?_
    refine zg_aload_n C dX1_levelOf_6 rfl (lv_at hl 0 rfl) ?_
    refine zg_get (j := 1) C X hP (by decide) lyS_11 rfl (zmem uwX1) (by decide) (C.tb flX1_15) (fun _ h9 => h9) rfl dX1_levelOf_7 ?_
    refine zg_iload_n C dX1_levelOf_10 rfl (lv_at hl 1 rfl) ?_
    refine zg_iald (t0 := 0) C X hP (by decide) lyS_13 rfl (by decide) (by omega) (by omega) dX1_levelOf_11 ?_
    have b_2 := rgS_13 hR ((d).toNat)
    refine zg_icmp_le (tgt := 19) C (by omega) (by omega) (by omega) (by omega) dX1_levelOf_12 (by decide) (fun c_3 => ?_) (fun c_3 => ?_)
    · refine zg_aload_n C dX1_levelOf_19 rfl (lv_at hl 0 rfl) ?_
      refine zg_get (j := 0) C X hP (by decide) lyS_11 rfl (zmem uwX1) (by decide) (C.tb flX1_9) (fun _ h9 => h9) rfl dX1_levelOf_20 ?_
      refine zg_iload_n C dX1_levelOf_23 rfl (lv_at hl 1 rfl) ?_
      refine zg_bipush C dX1_levelOf_24 (by decide) ?_
      refine zg_imul C dX1_levelOf_26 ?_
      refine zg_iload_n C dX1_levelOf_27 rfl (lv_at hl 2 rfl) ?_
      refine zg_iadd C dX1_levelOf_28 ?_
      refine zg_iconst C dX1_levelOf_29 ?_
      refine zg_isub C dX1_levelOf_30 ?_
      refine zg_iald (t0 := 0) C X hP (by decide) lyS_12 rfl (by decide) (by omega) (by omega) dX1_levelOf_31 ?_
      have b_4 := rgS_12 hR ((((d * 12) + k) - 1).toNat)
      refine zg_iret C hP hS dX1_levelOf_32 ?_
      exact ⟨congrArg jI (by unfold kLevel; first | rw [if_pos (by omega)] | rw [if_neg (by omega)]), rfl⟩
    · refine zg_iconst C dX1_levelOf_15 ?_
      refine zg_goto (tgt := 32) C dX1_levelOf_16 (by decide) ?_
      refine zg_iret C hP hS dX1_levelOf_32 ?_
      exact ⟨congrArg jI (by unfold kLevel; first | rw [if_pos (by omega)] | rw [if_neg (by omega)]), rfl⟩
set_option maxHeartbeats 4000000 in
set_option maxRecDepth 100000 in
theorem kX1_lastDigit (l : Launch) {D : va_G} {a : Nat → Nat} {cI cZ cR : ClassId} (σ : Zt) (hR : rgS σ) (k : Int) (lo : Int) (hi : Int) (co : Int) (k0 : 1 ≤ k) (k1 : k ≤ 12) (lo0 : 0 ≤ lo) (lo1 : lo + 1 < hi) (hi1 : hi ≤ 4096) (co0 : 0 ≤ co) (co1 : co < 65536) : zc l D vwCl (tyS cI cZ cR) 56 (layS cI cZ cR a) a yX1_lastDigit wsX1_lastDigit ({ frames := 1, cells := 0, slots := 0, locals := 21 }) [.int (jI k), .int (jI lo), .int (jI hi), .int (jI co)] σ (fun r_ u_ => r_ = jI (kLastD k lo hi co) ∧ u_ = σ) := by
  refine zc_of (cc := cX1_lastDigit) (maxL := 5) (ret := some .int) (own := RX1) (by decide) rfl rfl (Nat.le_of_ble_eq_true rfl) rfl ?_
  intro p e s m below meth c A ls C X hP hS hl
  refine zg_iconst C dX1_lastDigit_0 ?_
  refine zg_iload_n C dX1_lastDigit_1 rfl (lv_at hl 3 rfl) ?_
  refine zg_bipush C dX1_lastDigit_2 (by decide) ?_
  refine zg_iload_n C dX1_lastDigit_4 rfl (lv_at hl 2 rfl) ?_
  refine zg_iload_n C dX1_lastDigit_5 rfl (lv_at hl 1 rfl) ?_
  refine zg_isub C dX1_lastDigit_6 ?_
  refine zg_iconst C dX1_lastDigit_7 ?_
  refine zg_isub C dX1_lastDigit_8 ?_
  refine zg_mmin C (by omega) (by omega) (by omega) (by omega) hl.1 (List.mem_cons_of_mem _ mlX1_24) (List.mem_cons_of_mem _ stMath_min) (List.mem_cons_of_mem _ iniMath) (List.mem_cons_of_mem _ cdMath_min) (Nat.le_of_ble_eq_true rfl) (Nat.le_of_ble_eq_true rfl) (Nat.zero_le _) (Nat.zero_le _) dX1_lastDigit_9 ?_
  refine zg_irem C (by omega) (by omega) (by omega) (by omega) dX1_lastDigit_12 ?_
  refine zg_iadd C dX1_lastDigit_13 ?_
  refine zg_istore (lv' := [(4, .int (jI (1 + (co % (min 10 ((hi - lo) - 1)))))), (0, .int (jI k)), (1, .int (jI lo)), (2, .int (jI hi)), (3, .int (jI co))]) C dX1_lastDigit_14 hl (by decide) rfl (fun ls hl => ?_)
  refine zg_iload_n C dX1_lastDigit_16 rfl (lv_at hl 1 rfl) ?_
  refine zg_iconst C dX1_lastDigit_17 ?_
  refine zg_irem C (by omega) (by omega) (by omega) (by omega) dX1_lastDigit_18 ?_
  refine zg_iconst C dX1_lastDigit_19 ?_
  refine zg_icmp_ne (tgt := 30) C (by omega) (by omega) (by omega) (by omega) dX1_lastDigit_20 (by decide) (fun c_1 => ?_) (fun c_1 => ?_)
  · refine zg_iload_n C dX1_lastDigit_30 rfl (lv_at hl 3 rfl) ?_
    refine zg_iload C dX1_lastDigit_31 (lv_at hl 0 rfl) ?_
    refine zg_isub C dX1_lastDigit_33 ?_
    refine zg_iret C hP hS dX1_lastDigit_34 ?_
    exact ⟨congrArg jI (by unfold kLastD; first | rw [if_pos (by assumption)] | rw [if_neg (by assumption)]), rfl⟩
  · refine zg_iload_n C dX1_lastDigit_23 rfl (lv_at hl 2 rfl) ?_
    refine zg_iload C dX1_lastDigit_24 (lv_at hl 0 rfl) ?_
    refine zg_iadd C dX1_lastDigit_26 ?_
    refine zg_goto (tgt := 34) C dX1_lastDigit_27 (by decide) ?_
    refine zg_iret C hP hS dX1_lastDigit_34 ?_
    exact ⟨congrArg jI (by unfold kLastD; first | rw [if_pos (by assumption)] | rw [if_neg (by assumption)]), rfl⟩
end
section
set_option maxHeartbeats 4000000 in
set_option maxRecDepth 100000 in
theorem kX1_innerLevel (l : Launch) {D : va_G} {a : Nat → Nat} {cI cZ cR : ClassId} (σ : Zt) (hR : rgS σ) (r : Nat) (hr : r < 6) (x : Int) (y : Int) (x0 : 0 ≤ x) (x1 : x < 16777216) (y0 : 0 ≤ y) (y1 : y < 16777216) (dn : σ (21 + 6 * r) r < 400) : zc l D vwCl (tyS cI cZ cR) 56 (layS cI cZ cR a) a yX1_innerLevel wsX1_innerLevel ({ frames := 1, cells := 0, slots := 0, locals := 22 }) [.int (jI x), .int (jI y), .ref (a (20 + 6 * r))] σ (fun r_ u_ => r_ = jI (kInner x y r (σ (21 + 6 * r) r + 1)) ∧ u_ = σ) := by
  refine zc_of (cc := cX1_innerLevel) (maxL := 3) (ret := some .int) (own := RX1) (by decide) rfl rfl (Nat.le_of_ble_eq_true rfl) rfl ?_
  intro p e s m below meth c A ls C X hP hS hl
  have b_0 := rgS_21 hR hr r
  refine zg_iload_n C dX1_innerLevel_0 rfl (lv_at hl 0 rfl) ?_
  refine zg_if_eq (tgt := 6) C (by omega) (by omega) dX1_innerLevel_1 (by decide) (fun c_1 => ?_) (fun c_1 => ?_)
  · refine zg_iload_n C dX1_innerLevel_6 rfl (lv_at hl 1 rfl) ?_
    refine zg_callS C X hP hS (kX1_digitOf l σ hR y (by omega) (by omega)) (cwS 1 C.ts (zgS mlX1_33 stX1_digitOf iniX1 cdX1_digitOf) rfl rfl rfl (by decide +kernel) ⟨Nat.le_of_ble_eq_true rfl, Nat.le_of_ble_eq_true rfl⟩) rfl hl.1 rfl (Nat.le_of_ble_eq_true rfl) dX1_innerLevel_7 ⟨Nat.zero_le _, Nat.zero_le _⟩ (fun r_3 σ2 H locs q4 hP hS => ?_)
    obtain ⟨rfl, q4⟩ := q4
    have b_5 := kDigit_rg (x := y) (by omega) (by omega)
    rw [q4] at hP
    refine zg_if_ne (tgt := 17) C (by omega) (by omega) dX1_innerLevel_10 (by decide) (fun c_6 => ?_) (fun c_6 => ?_)
    · refine zg_iconst C dX1_innerLevel_17 ?_
      refine zg_aload_n C dX1_innerLevel_18 rfl (lv_at hl 2 rfl) ?_
      refine zg_get (j := 0) C X hP (hkS_20 hr) (lyS_20 hr) rfl (zmem uwX2) (by decide) (C.tb flX1_50) (fun _ h9 => h9) rfl dX1_innerLevel_19 ?_
      have b_7 := rgS_20_0 hR hr
      refine zg_aload_n C dX1_innerLevel_22 rfl (lv_at hl 2 rfl) ?_
      refine zg_callV C X hP hS (kX2_nextNumber l σ hR r hr) (cwV 0 C.ts (zgV mlX1_54 imX2_nextNumber slX2_nextNumber iniX2 cdX2_nextNumber) rfl rfl rfl (by decide +kernel) ⟨Nat.le_of_ble_eq_true rfl, Nat.le_of_ble_eq_true rfl⟩) (hkS_20 hr) (lyS_20 hr) rfl rfl rfl hl.1 rfl (Nat.le_of_ble_eq_true rfl) dX1_innerLevel_23 ⟨Nat.zero_le _, Nat.zero_le _⟩ (fun r_9 σ8 H locs q10 hP hS => ?_)
      obtain ⟨rfl, q10⟩ := q10
      rw [q10] at hP
      refine zg_callS C X hP hS (kX1_makeLevel l σ hR 0 (σ (20 + 6 * r) 0) (σ (21 + 6 * r) r + 1) (by omega) (by omega) (by omega) (by omega) (by omega) (by omega)) (cwS 3 C.ts (zgS mlX1_57 stX1_makeLevel iniX1 cdX1_makeLevel) rfl rfl rfl (by decide +kernel) ⟨Nat.le_of_ble_eq_true rfl, Nat.le_of_ble_eq_true rfl⟩) rfl hl.1 rfl (Nat.le_of_ble_eq_true rfl) dX1_innerLevel_26 ⟨Nat.zero_le _, Nat.zero_le _⟩ (fun r_12 σ11 H locs q13 hP hS => ?_)
      obtain ⟨rfl, q13⟩ := q13
      have b_14 := kMake_rg (d := 0) (q := (σ (20 + 6 * r) 0)) (n := (σ (21 + 6 * r) r + 1)) (by omega) (by omega) (by omega) (by omega) (by omega) (by omega)
      rw [q13] at hP
      refine zg_iret C hP hS dX1_innerLevel_29 ?_
      exact ⟨congrArg jI (by unfold kInner; first | rw [if_pos (by assumption)] | rw [if_neg (by omega), if_pos (by assumption)] | rw [if_neg (by omega), if_neg (by assumption), show σ (20 + 6 * r) 0 = (r : Int) by omega]), rfl⟩
    · refine zg_iload_n C dX1_innerLevel_13 rfl (lv_at hl 1 rfl) ?_
      refine zg_goto (tgt := 29) C dX1_innerLevel_14 (by decide) ?_
      refine zg_iret C hP hS dX1_innerLevel_29 ?_
      exact ⟨congrArg jI (by unfold kInner; first | rw [if_pos (by assumption)] | rw [if_neg (by omega), if_pos (by assumption)] | rw [if_neg (by omega), if_neg (by assumption), show σ (20 + 6 * r) 0 = (r : Int) by omega]), rfl⟩
  · refine zg_iload_n C dX1_innerLevel_4 rfl (lv_at hl 0 rfl) ?_
    refine zg_iret C hP hS dX1_innerLevel_5 ?_
    exact ⟨congrArg jI (by unfold kInner; first | rw [if_pos (by assumption)] | rw [if_neg (by omega), if_pos (by assumption)] | rw [if_neg (by omega), if_neg (by assumption), show σ (20 + 6 * r) 0 = (r : Int) by omega]), rfl⟩
set_option maxHeartbeats 4000000 in
set_option maxRecDepth 100000 in
theorem lpX1_isBefore_2 {l : Launch} {D : va_G} {a : Nat → Nat} {cI cZ cR : ClassId} {p : Program} {e : Env} {s : State} {m : MethodId} {below : List Frame} {meth : Method} {c : Code} {A : Nat → Prop} (σ : Zt) (hR : rgS σ) (d : Int) (f : Int) (d0 : 0 ≤ d) (d1 : d < 400) (f0 : 0 ≤ f) (f1 : f < 400)  (C : zk p s m ([.ref (a 11), .int (jI d), .int (jI f)] : List Value).toArray meth c cX1_isBefore 6 (some .boolean) wsX1_isBefore RX1) (X : zx D vwCl (tyS cI cZ cR) A a 56 s) :
    ∀ (n : Nat) (k : Int) (H : Heap) (locs : List Loc) (ls : Array Slot), ((13 - k).toNat < n) → (1 ≤ k) → (k ≤ 13) → (kIsBe σ d f 12 1 = kIsBe σ d f (13 - k).toNat k) → va_P D vwCl (zw 56 (layS cI cZ cR a) a σ) H → va_S A s.heap H locs → lv_has ls 6 [(0, .ref (a 11)), (1, .int (jI d)), (2, .int (jI f)), (3, .int (jI k))] →
      W p l e ({ frames := 1, cells := 0, slots := 0, locals := 22 }) s m ([.ref (a 11), .int (jI d), .int (jI f)] : List Value).toArray below meth c H locs 0 0 (MQ below (va_Qi (fun r_ u_ => r_ = jI (bI (kIsBe σ d f 12 1)) ∧ u_ = σ) (fun (u : Zt) t => va_P D vwCl (zw 56 (layS cI cZ cR a) a u) t.heap) A) ([.ref (a 11), .int (jI d), .int (jI f)] : List Value).toArray s 0 0 A) (F0 m 2 ls []) := by
  intro n
  induction n with
  | zero =>
    intro k  H locs ls hn k0 k1 hE hP hS hl
    exact absurd hn (by omega)
  | succ n ih =>
    intro k  H locs ls hn k0 k1 hE hP hS hl
    refine zg_iload_n C dX1_isBefore_2 rfl (lv_at hl 3 rfl) ?_
    refine zg_bipush C dX1_isBefore_3 (by decide) ?_
    refine zg_icmp_gt (tgt := 50) C (by omega) (by omega) (by omega) (by omega) dX1_isBefore_5 (by decide) (fun c_1 => ?_) (fun c_1 => ?_)
    · refine zg_iconst C dX1_isBefore_50 ?_
      refine zg_zret (b := false) C hP hS dX1_isBefore_51 ?_
      exact ⟨congrArg (fun b => jI (bI b)) (by rw [hE, kIsBe_end (by omega)]), rfl⟩
    · refine zg_aload_n C dX1_isBefore_8 rfl (lv_at hl 0 rfl) ?_
      refine zg_iload_n C dX1_isBefore_9 rfl (lv_at hl 1 rfl) ?_
      refine zg_iload_n C dX1_isBefore_10 rfl (lv_at hl 3 rfl) ?_
      refine zg_callV C X hP hS (kX1_levelOf l σ hR d k (by omega) (by omega) (by omega) (by omega)) (cwV 2 C.ts (zgV mlX1_30 imX1_levelOf slX1_levelOf iniX1 cdX1_levelOf) rfl rfl rfl (by decide +kernel) ⟨Nat.le_of_ble_eq_true rfl, Nat.le_of_ble_eq_true rfl⟩) (by decide) lyS_11 rfl rfl rfl hl.1 rfl (Nat.le_of_ble_eq_true rfl) dX1_isBefore_11 ⟨Nat.zero_le _, Nat.zero_le _⟩ (fun r_3 σ2 H locs q4 hP hS => ?_)
      obtain ⟨rfl, q4⟩ := q4
      have b_5 := kLevel_rg hR d k
      rw [q4] at hP
      refine zg_istore (lv' := [(4, .int (jI (kLevel σ d k))), (0, .ref (a 11)), (1, .int (jI d)), (2, .int (jI f)), (3, .int (jI k))]) C dX1_isBefore_14 hl (by decide) rfl (fun ls hl => ?_)
      refine zg_aload_n C dX1_isBefore_16 rfl (lv_at hl 1 rfl) ?_
      refine zg_iload_n C dX1_isBefore_17 rfl (lv_at hl 3 rfl) ?_
      refine zg_iload_n C dX1_isBefore_18 rfl (lv_at hl 4 rfl) ?_
      refine zg_callV C X hP hS (kX1_levelOf l σ hR f k (by omega) (by omega) (by omega) (by omega)) (cwV 2 C.ts (zgV mlX1_30 imX1_levelOf slX1_levelOf iniX1 cdX1_levelOf) rfl rfl rfl (by decide +kernel) ⟨Nat.le_of_ble_eq_true rfl, Nat.le_of_ble_eq_true rfl⟩) (by decide) lyS_11 rfl rfl rfl hl.1 rfl (Nat.le_of_ble_eq_true rfl) dX1_isBefore_19 ⟨Nat.zero_le _, Nat.zero_le _⟩ (fun r_7 σ6 H locs q8 hP hS => ?_)
      obtain ⟨rfl, q8⟩ := q8
      have b_9 := kLevel_rg hR f k
      rw [q8] at hP
      refine zg_istore (lv' := [(5, .int (jI (kLevel σ f k))), (4, .int (jI (kLevel σ d k))), (0, .ref (a 11)), (1, .int (jI d)), (2, .int (jI f)), (3, .int (jI k))]) C dX1_isBefore_22 hl (by decide) rfl (fun ls hl => ?_)
      refine zg_iload C dX1_isBefore_24 (lv_at hl 1 rfl) ?_
      refine zg_iload C dX1_isBefore_26 (lv_at hl 0 rfl) ?_
      refine zg_icmp_eq (tgt := 44) C (by omega) (by omega) (by omega) (by omega) dX1_isBefore_28 (by decide) (fun c_10 => ?_) (fun c_10 => ?_)
      · refine zg_iinc (k := 5) (lv' := [(3, .int (jI (k + 1))), (5, .int (jI (kLevel σ f k))), (4, .int (jI (kLevel σ d k))), (0, .ref (a 11)), (1, .int (jI d)), (2, .int (jI f))]) C dX1_isBefore_44 hl rfl (by decide) rfl (fun ls hl => ?_)
        refine zg_goto (tgt := 2) C dX1_isBefore_47 (by decide) ?_
        exact ih (k + 1) _ _ _ (by omega) (by omega) (by omega) (hE.trans (kIsBe_same (by omega) (by assumption))) hP hS (lv_sub hl [3, 4, 5, 0] rfl)
      · refine zg_iload C dX1_isBefore_31 (lv_at hl 1 rfl) ?_
        refine zg_iload C dX1_isBefore_33 (lv_at hl 0 rfl) ?_
        refine zg_icmp_ge (tgt := 42) C (by omega) (by omega) (by omega) (by omega) dX1_isBefore_35 (by decide) (fun c_11 => ?_) (fun c_11 => ?_)
        · refine zg_iconst C dX1_isBefore_42 ?_
          refine zg_zret (b := false) C hP hS dX1_isBefore_43 ?_
          exact ⟨congrArg (fun b => jI (bI b)) (by rw [hE, kIsBe_tell (by omega) (by assumption)]; symm; first | exact decide_eq_true (by assumption) | exact decide_eq_false (by omega)), rfl⟩
        · refine zg_iconst C dX1_isBefore_38 ?_
          refine zg_goto (tgt := 43) C dX1_isBefore_39 (by decide) ?_
          refine zg_zret (b := true) C hP hS dX1_isBefore_43 ?_
          exact ⟨congrArg (fun b => jI (bI b)) (by rw [hE, kIsBe_tell (by omega) (by assumption)]; symm; first | exact decide_eq_true (by assumption) | exact decide_eq_false (by omega)), rfl⟩
set_option maxHeartbeats 4000000 in
set_option maxRecDepth 100000 in
theorem kX1_isBefore (l : Launch) {D : va_G} {a : Nat → Nat} {cI cZ cR : ClassId} (σ : Zt) (hR : rgS σ) (d : Int) (f : Int) (d0 : 0 ≤ d) (d1 : d < 400) (f0 : 0 ≤ f) (f1 : f < 400) : zc l D vwCl (tyS cI cZ cR) 56 (layS cI cZ cR a) a yX1_isBefore wsX1_isBefore ({ frames := 1, cells := 0, slots := 0, locals := 22 }) [.ref (a 11), .int (jI d), .int (jI f)] σ (fun r_ u_ => r_ = jI (bI (kIsBe σ d f 12 1)) ∧ u_ = σ) := by
  refine zc_of (cc := cX1_isBefore) (maxL := 6) (ret := some .boolean) (own := RX1) (by decide) rfl rfl (Nat.le_of_ble_eq_true rfl) rfl ?_
  intro p e s m below meth c A ls C X hP hS hl
  refine zg_iconst C dX1_isBefore_0 ?_
  refine zg_istore_n (lv' := [(3, .int (jI 1)), (0, .ref (a 11)), (1, .int (jI d)), (2, .int (jI f))]) C dX1_isBefore_1 rfl hl (by decide) rfl (fun ls hl => ?_)
  exact lpX1_isBefore_2 σ hR d f d0 d1 f0 f1 C X 14 1 _ _ _ (by omega) (by omega) (by omega) rfl hP hS (lv_sub hl [1, 2, 3, 0] rfl)
set_option maxHeartbeats 4000000 in
set_option maxRecDepth 100000 in
theorem kX2_carryOut (l : Launch) {D : va_G} {a : Nat → Nat} {cI cZ cR : ClassId} (σ : Zt) (hR : rgS σ) (r : Nat) (hr : r < 6) (d : Int) (d0 : 0 ≤ d) (d1 : d < 400) (dn : σ (21 + 6 * r) (σ 2 d.toNat).toNat < 400) : zv l D vwCl (tyS cI cZ cR) 56 (layS cI cZ cR a) a yX2_carryOut wsX2_carryOut ({ frames := 1, cells := 0, slots := 0, locals := 22 }) [.ref (a (20 + 6 * r)), .int (jI d)] σ (fun u_ => u_ = kCarry σ r d) := by
  refine zv_of (cc := cX2_carryOut) (maxL := 4) (own := RX2) (by decide) rfl rfl (Nat.le_of_ble_eq_true rfl) rfl ?_
  intro p e s m below meth c A ls C X hP hS hl
  refine zg_aload_n C dX2_carryOut_0 rfl (lv_at hl 0 rfl) ?_
  refine zg_get (j := 7) C X hP (hkS_20 hr) (lyS_20 hr) rfl (zmem uwX2) (by decide) (C.tb flX2_9) (fun _ h9 => h9) rfl dX2_carryOut_1 ?_
  refine zg_aload_n C dX2_carryOut_4 rfl (lv_at hl 0 rfl) ?_
  refine zg_get (j := 1) C X hP (hkS_20 hr) (lyS_20 hr) rfl (zmem uwX2) (by decide) (C.tb flX2_32) (fun _ h9 => h9) rfl dX2_carryOut_5 ?_
  refine zg_get (j := 0) C X hP (by decide) lyS_1 rfl (zmem uwX0) (by decide) (C.tb flX2_50) (fun _ h9 => h9) rfl dX2_carryOut_8 ?_
  refine zg_iload_n C dX2_carryOut_11 rfl (lv_at hl 1 rfl) ?_
  refine zg_iald (t0 := 0) C X hP (by decide) lyS_2 rfl (by decide) (by omega) (by omega) dX2_carryOut_12 ?_
  have b_1 := rgS_2 hR ((d).toNat)
  refine zg_dup2 C dX2_carryOut_13 rfl rfl ?_
  refine zg_iald (t0 := 0) C X hP (hkS_21 hr) (lyS_21 hr) rfl (by decide) (by omega) (by omega) dX2_carryOut_14 ?_
  have b_2 := rgS_21 hR hr ((σ 2 (d).toNat).toNat)
  refine zg_iconst C dX2_carryOut_15 ?_
  refine zg_iadd C dX2_carryOut_16 ?_
  refine zg_iast (t0 := 0) C X hP hS (hkS_21 hr) (fun x => (lyS_21 hr)) rfl (by decide) (by omega) (by omega) dX2_carryOut_17 (fun H locs hP hS => ?_)
  obtain ⟨σ3, e4⟩ : ∃ z_ : Zt, z_ = zu σ (21 + 6 * r) (σ 2 (d).toNat).toNat ((σ (21 + 6 * r) (σ 2 (d).toNat).toNat) + 1) := ⟨_, rfl⟩
  rw [← e4] at hP
  have w_6 : σ3 (21 + 6 * r) (σ 2 (d).toNat).toNat = (σ (21 + 6 * r) (σ 2 (d).toNat).toNat) + 1 := by rw [e4]; exact zu_same _ _ _ _
  have hR5 : rgS σ3 := by rw [e4]; exact rzS_21 hR hr (by omega) (by omega)
  refine zg_aload_n C dX2_carryOut_18 rfl (lv_at hl 0 rfl) ?_
  refine zg_aload_n C dX2_carryOut_19 rfl (lv_at hl 0 rfl) ?_
  refine zg_get (j := 4) C X hP (hkS_20 hr) (lyS_20 hr) rfl (zmem uwX2) (by decide) (C.tb flX2_86) (fun _ h9 => h9) rfl dX2_carryOut_20 ?_
  have b_7 := rgS_20_4 hR5 hr
  refine zg_aload_n C dX2_carryOut_23 rfl (lv_at hl 0 rfl) ?_
  refine zg_get (j := 1) C X hP (hkS_20 hr) (lyS_20 hr) rfl (zmem uwX2) (by decide) (C.tb flX2_32) (fun _ h9 => h9) rfl dX2_carryOut_24 ?_
  refine zg_get (j := 2) C X hP (by decide) lyS_1 rfl (zmem uwX0) (by decide) (C.tb flX2_89) (fun _ h9 => h9) rfl dX2_carryOut_27 ?_
  refine zg_iload_n C dX2_carryOut_30 rfl (lv_at hl 1 rfl) ?_
  refine zg_iald (t0 := 0) C X hP (by decide) lyS_4 rfl (by decide) (by omega) (by omega) dX2_carryOut_31 ?_
  have b_8 := rgS_4 hR5 ((d).toNat)
  refine zg_mmax C (by omega) (by omega) (by omega) (by omega) hl.1 (List.mem_cons_of_mem _ mlX2_91) (List.mem_cons_of_mem _ stMath_max) (List.mem_cons_of_mem _ iniMath) (List.mem_cons_of_mem _ cdMath_max) (Nat.le_of_ble_eq_true rfl) (Nat.le_of_ble_eq_true rfl) (Nat.zero_le _) (Nat.zero_le _) dX2_carryOut_32 ?_
  refine zg_put (j := 4) (v := max (σ3 (20 + 6 * r) 4) (σ3 4 (d).toNat)) C X hP hS (hkS_20 hr) (lyS_20 hr) rfl (zmem uwX2) tyX2 tyX2_ok nmX2 (by decide) (C.tb flX2_86) (fun _ h9 => h9) rfl (by decide +kernel) (Nat.le_of_ble_eq_true rfl) (by rw [(lyS_20 hr)]; rfl) dX2_carryOut_35 (fun H locs hP hS => ?_)
  obtain ⟨σ9, e10⟩ : ∃ z_ : Zt, z_ = zu σ3 (20 + 6 * r) 4 (max (σ3 (20 + 6 * r) 4) (σ3 4 (d).toNat)) := ⟨_, rfl⟩
  rw [← e10] at hP
  have w_12 : σ9 (20 + 6 * r) 4 = max (σ3 (20 + 6 * r) 4) (σ3 4 (d).toNat) := by rw [e10]; exact zu_same _ _ _ _
  have hR11 : rgS σ9 := by rw [e10]; exact rzS_20_4 hR5 hr (by omega) (by omega)
  refine zg_aload_n C dX2_carryOut_38 rfl (lv_at hl 0 rfl) ?_
  refine zg_get (j := 1) C X hP (hkS_20 hr) (lyS_20 hr) rfl (zmem uwX2) (by decide) (C.tb flX2_32) (fun _ h9 => h9) rfl dX2_carryOut_39 ?_
  refine zg_get (j := 3) C X hP (by decide) lyS_1 rfl (zmem uwX0) (by decide) (C.tb flX2_53) (fun _ h9 => h9) rfl dX2_carryOut_42 ?_
  refine zg_iload_n C dX2_carryOut_45 rfl (lv_at hl 1 rfl) ?_
  refine zg_iald (t0 := 0) C X hP (by decide) lyS_5 rfl (by decide) (by omega) (by omega) dX2_carryOut_46 ?_
  have b_13 := rgS_5 hR11 ((d).toNat)
  refine zg_istore_n (lv' := [(2, .int (jI (σ9 5 (d).toNat))), (0, .ref (a (20 + 6 * r))), (1, .int (jI d))]) C dX2_carryOut_47 rfl hl (by decide) rfl (fun ls hl => ?_)
  refine zg_iload_n C dX2_carryOut_48 rfl (lv_at hl 0 rfl) ?_
  refine zg_if_ne (tgt := 65) C (by omega) (by omega) dX2_carryOut_49 (by decide) (fun c_14 => ?_) (fun c_14 => ?_)
  · refine zg_iload_n C dX2_carryOut_65 rfl (lv_at hl 0 rfl) ?_
    refine zg_iconst C dX2_carryOut_66 ?_
    refine zg_icmp_eq (tgt := 75) C (by omega) (by omega) (by omega) (by omega) dX2_carryOut_67 (by decide) (fun c_15 => ?_) (fun c_15 => ?_)
    · refine zg_aload_n C dX2_carryOut_75 rfl (lv_at hl 1 rfl) ?_
      refine zg_get (j := 1) C X hP (hkS_20 hr) (lyS_20 hr) rfl (zmem uwX2) (by decide) (C.tb flX2_32) (fun _ h9 => h9) rfl dX2_carryOut_76 ?_
      refine zg_get (j := 5) C X hP (by decide) lyS_1 rfl (zmem uwX0) (by decide) (C.tb flX2_56) (fun _ h9 => h9) rfl dX2_carryOut_79 ?_
      refine zg_iload_n C dX2_carryOut_82 rfl (lv_at hl 2 rfl) ?_
      refine zg_iald (t0 := 0) C X hP (by decide) lyS_7 rfl (by decide) (by omega) (by omega) dX2_carryOut_83 ?_
      have b_16 := rgS_7 hR11 ((d).toNat)
      refine zg_istore_n (lv' := [(3, .int (jI (σ9 7 (d).toNat))), (2, .int (jI (σ9 5 (d).toNat))), (0, .ref (a (20 + 6 * r))), (1, .int (jI d))]) C dX2_carryOut_84 rfl hl (by decide) rfl (fun ls hl => ?_)
      refine zg_aload_n C dX2_carryOut_85 rfl (lv_at hl 2 rfl) ?_
      refine zg_get (j := 9) C X hP (hkS_20 hr) (lyS_20 hr) rfl (zmem uwX2) (by decide) (C.tb flX2_19) (fun _ h9 => h9) rfl dX2_carryOut_86 ?_
      refine zg_iload_n C dX2_carryOut_89 rfl (lv_at hl 0 rfl) ?_
      refine zg_iald (t0 := 0) C X hP (hkS_23 hr) (lyS_23 hr) rfl (by decide) (by omega) (by omega) dX2_carryOut_90 ?_
      have b_17 := rgS_23 hR11 hr ((σ9 7 (d).toNat).toNat)
      refine zg_iconst C dX2_carryOut_91 ?_
      refine zg_icmp_eq (tgt := 112) C (by omega) (by omega) (by omega) (by omega) dX2_carryOut_92 (by decide) (fun c_18 => ?_) (fun c_18 => ?_)
      · refine zg_aload_n C dX2_carryOut_112 rfl (lv_at hl 2 rfl) ?_
        refine zg_get (j := 9) C X hP (hkS_20 hr) (lyS_20 hr) rfl (zmem uwX2) (by decide) (C.tb flX2_19) (fun _ h9 => h9) rfl dX2_carryOut_113 ?_
        refine zg_iload_n C dX2_carryOut_116 rfl (lv_at hl 0 rfl) ?_
        refine zg_iload_n C dX2_carryOut_117 rfl (lv_at hl 3 rfl) ?_
        refine zg_iast (t0 := 0) C X hP hS (hkS_23 hr) (fun x => (lyS_23 hr)) rfl (by decide) (by omega) (by omega) dX2_carryOut_118 (fun H locs hP hS => ?_)
        obtain ⟨σ19, e20⟩ : ∃ z_ : Zt, z_ = zu σ9 (23 + 6 * r) (σ9 7 (d).toNat).toNat d := ⟨_, rfl⟩
        rw [← e20] at hP
        have w_22 : σ19 (23 + 6 * r) (σ9 7 (d).toNat).toNat = d := by rw [e20]; exact zu_same _ _ _ _
        have hR21 : rgS σ19 := by rw [e20]; exact rzS_23 hR11 hr (by omega) (by omega)
        refine zg_vret C hP hS dX2_carryOut_119 ?_
        subst e4 e10 e20
        try simp (disch := omega) only [kLater, zu_ne, zu_nj, zu_same] at c_14
        try simp (disch := omega) only [kLater, zu_ne, zu_nj, zu_same] at c_15
        try simp (disch := omega) only [kLater, zu_ne, zu_nj, zu_same] at c_18
        have b5 := rgS_5 hR d.toNat
        simp (disch := omega) only [zu_ne, zu_nj, zu_same]
        grind [kCarry, kCarry0, kLater]
      · refine zg_aload_n C dX2_carryOut_95 rfl (lv_at hl 2 rfl) ?_
        refine zg_get (j := 1) C X hP (hkS_20 hr) (lyS_20 hr) rfl (zmem uwX2) (by decide) (C.tb flX2_32) (fun _ h9 => h9) rfl dX2_carryOut_96 ?_
        refine zg_iload_n C dX2_carryOut_99 rfl (lv_at hl 3 rfl) ?_
        refine zg_aload_n C dX2_carryOut_100 rfl (lv_at hl 2 rfl) ?_
        refine zg_get (j := 9) C X hP (hkS_20 hr) (lyS_20 hr) rfl (zmem uwX2) (by decide) (C.tb flX2_19) (fun _ h9 => h9) rfl dX2_carryOut_101 ?_
        refine zg_iload_n C dX2_carryOut_104 rfl (lv_at hl 0 rfl) ?_
        refine zg_iald (t0 := 0) C X hP (hkS_23 hr) (lyS_23 hr) rfl (by decide) (by omega) (by omega) dX2_carryOut_105 ?_
        have b_23 := rgS_23 hR11 hr ((σ9 7 (d).toNat).toNat)
        refine zg_callV C X hP hS (kX0_isLater l σ9 hR11 d (σ9 (23 + 6 * r) (σ9 7 (d).toNat).toNat) (by omega) (by omega) (by omega) (by omega)) (cwV 2 C.ts (zgV mlX2_100 imX0_isLater slX0_isLater iniX0 cdX0_isLater) rfl rfl rfl (by decide +kernel) ⟨Nat.le_of_ble_eq_true rfl, Nat.le_of_ble_eq_true rfl⟩) (by decide) lyS_1 rfl rfl rfl hl.1 rfl (Nat.le_of_ble_eq_true rfl) dX2_carryOut_106 ⟨Nat.zero_le _, Nat.zero_le _⟩ (fun r_25 σ24 H locs q26 hP hS => ?_)
        obtain ⟨rfl, q26⟩ := q26
        rw [q26] at hP
        refine zg_ifeqB (tgt := 119) C dX2_carryOut_109 (by decide) (fun c_27 => ?_) (fun c_27 => ?_)
        · refine zg_vret C hP hS dX2_carryOut_119 ?_
          subst e4 e10
          try simp (disch := omega) only [kLater, zu_ne, zu_nj, zu_same] at c_14
          try simp (disch := omega) only [kLater, zu_ne, zu_nj, zu_same] at c_15
          try simp (disch := omega) only [kLater, zu_ne, zu_nj, zu_same] at c_18
          try simp (disch := omega) only [kLater, zu_ne, zu_nj, zu_same] at c_27
          have b5 := rgS_5 hR d.toNat
          simp (disch := omega) only [zu_ne, zu_nj, zu_same]
          grind [kCarry, kCarry0, kLater]
        · refine zg_aload_n C dX2_carryOut_112 rfl (lv_at hl 2 rfl) ?_
          refine zg_get (j := 9) C X hP (hkS_20 hr) (lyS_20 hr) rfl (zmem uwX2) (by decide) (C.tb flX2_19) (fun _ h9 => h9) rfl dX2_carryOut_113 ?_
          refine zg_iload_n C dX2_carryOut_116 rfl (lv_at hl 0 rfl) ?_
          refine zg_iload_n C dX2_carryOut_117 rfl (lv_at hl 3 rfl) ?_
          refine zg_iast (t0 := 0) C X hP hS (hkS_23 hr) (fun x => (lyS_23 hr)) rfl (by decide) (by omega) (by omega) dX2_carryOut_118 (fun H locs hP hS => ?_)
          obtain ⟨σ28, e29⟩ : ∃ z_ : Zt, z_ = zu σ9 (23 + 6 * r) (σ9 7 (d).toNat).toNat d := ⟨_, rfl⟩
          rw [← e29] at hP
          have w_31 : σ28 (23 + 6 * r) (σ9 7 (d).toNat).toNat = d := by rw [e29]; exact zu_same _ _ _ _
          have hR30 : rgS σ28 := by rw [e29]; exact rzS_23 hR11 hr (by omega) (by omega)
          refine zg_vret C hP hS dX2_carryOut_119 ?_
          subst e4 e10 e29
          try simp (disch := omega) only [kLater, zu_ne, zu_nj, zu_same] at c_14
          try simp (disch := omega) only [kLater, zu_ne, zu_nj, zu_same] at c_15
          try simp (disch := omega) only [kLater, zu_ne, zu_nj, zu_same] at c_18
          try simp (disch := omega) only [kLater, zu_ne, zu_nj, zu_same] at c_27
          have b5 := rgS_5 hR d.toNat
          simp (disch := omega) only [zu_ne, zu_nj, zu_same]
          grind [kCarry, kCarry0, kLater]
    · refine zg_iload_n C dX2_carryOut_70 rfl (lv_at hl 0 rfl) ?_
      refine zg_iconst C dX2_carryOut_71 ?_
      refine zg_icmp_ne (tgt := 119) C (by omega) (by omega) (by omega) (by omega) dX2_carryOut_72 (by decide) (fun c_32 => ?_) (fun c_32 => ?_)
      · refine zg_vret C hP hS dX2_carryOut_119 ?_
        subst e4 e10
        try simp (disch := omega) only [kLater, zu_ne, zu_nj, zu_same] at c_14
        try simp (disch := omega) only [kLater, zu_ne, zu_nj, zu_same] at c_15
        try simp (disch := omega) only [kLater, zu_ne, zu_nj, zu_same] at c_32
        have b5 := rgS_5 hR d.toNat
        simp (disch := omega) only [zu_ne, zu_nj, zu_same]
        grind [kCarry, kCarry0, kLater]
      · refine zg_aload_n C dX2_carryOut_75 rfl (lv_at hl 1 rfl) ?_
        refine zg_get (j := 1) C X hP (hkS_20 hr) (lyS_20 hr) rfl (zmem uwX2) (by decide) (C.tb flX2_32) (fun _ h9 => h9) rfl dX2_carryOut_76 ?_
        refine zg_get (j := 5) C X hP (by decide) lyS_1 rfl (zmem uwX0) (by decide) (C.tb flX2_56) (fun _ h9 => h9) rfl dX2_carryOut_79 ?_
        refine zg_iload_n C dX2_carryOut_82 rfl (lv_at hl 2 rfl) ?_
        refine zg_iald (t0 := 0) C X hP (by decide) lyS_7 rfl (by decide) (by omega) (by omega) dX2_carryOut_83 ?_
        have b_33 := rgS_7 hR11 ((d).toNat)
        refine zg_istore_n (lv' := [(3, .int (jI (σ9 7 (d).toNat))), (2, .int (jI (σ9 5 (d).toNat))), (0, .ref (a (20 + 6 * r))), (1, .int (jI d))]) C dX2_carryOut_84 rfl hl (by decide) rfl (fun ls hl => ?_)
        refine zg_aload_n C dX2_carryOut_85 rfl (lv_at hl 2 rfl) ?_
        refine zg_get (j := 9) C X hP (hkS_20 hr) (lyS_20 hr) rfl (zmem uwX2) (by decide) (C.tb flX2_19) (fun _ h9 => h9) rfl dX2_carryOut_86 ?_
        refine zg_iload_n C dX2_carryOut_89 rfl (lv_at hl 0 rfl) ?_
        refine zg_iald (t0 := 0) C X hP (hkS_23 hr) (lyS_23 hr) rfl (by decide) (by omega) (by omega) dX2_carryOut_90 ?_
        have b_34 := rgS_23 hR11 hr ((σ9 7 (d).toNat).toNat)
        refine zg_iconst C dX2_carryOut_91 ?_
        refine zg_icmp_eq (tgt := 112) C (by omega) (by omega) (by omega) (by omega) dX2_carryOut_92 (by decide) (fun c_35 => ?_) (fun c_35 => ?_)
        · refine zg_aload_n C dX2_carryOut_112 rfl (lv_at hl 2 rfl) ?_
          refine zg_get (j := 9) C X hP (hkS_20 hr) (lyS_20 hr) rfl (zmem uwX2) (by decide) (C.tb flX2_19) (fun _ h9 => h9) rfl dX2_carryOut_113 ?_
          refine zg_iload_n C dX2_carryOut_116 rfl (lv_at hl 0 rfl) ?_
          refine zg_iload_n C dX2_carryOut_117 rfl (lv_at hl 3 rfl) ?_
          refine zg_iast (t0 := 0) C X hP hS (hkS_23 hr) (fun x => (lyS_23 hr)) rfl (by decide) (by omega) (by omega) dX2_carryOut_118 (fun H locs hP hS => ?_)
          obtain ⟨σ36, e37⟩ : ∃ z_ : Zt, z_ = zu σ9 (23 + 6 * r) (σ9 7 (d).toNat).toNat d := ⟨_, rfl⟩
          rw [← e37] at hP
          have w_39 : σ36 (23 + 6 * r) (σ9 7 (d).toNat).toNat = d := by rw [e37]; exact zu_same _ _ _ _
          have hR38 : rgS σ36 := by rw [e37]; exact rzS_23 hR11 hr (by omega) (by omega)
          refine zg_vret C hP hS dX2_carryOut_119 ?_
          subst e4 e10 e37
          try simp (disch := omega) only [kLater, zu_ne, zu_nj, zu_same] at c_14
          try simp (disch := omega) only [kLater, zu_ne, zu_nj, zu_same] at c_15
          try simp (disch := omega) only [kLater, zu_ne, zu_nj, zu_same] at c_32
          try simp (disch := omega) only [kLater, zu_ne, zu_nj, zu_same] at c_35
          have b5 := rgS_5 hR d.toNat
          simp (disch := omega) only [zu_ne, zu_nj, zu_same]
          grind [kCarry, kCarry0, kLater]
        · refine zg_aload_n C dX2_carryOut_95 rfl (lv_at hl 2 rfl) ?_
          refine zg_get (j := 1) C X hP (hkS_20 hr) (lyS_20 hr) rfl (zmem uwX2) (by decide) (C.tb flX2_32) (fun _ h9 => h9) rfl dX2_carryOut_96 ?_
          refine zg_iload_n C dX2_carryOut_99 rfl (lv_at hl 3 rfl) ?_
          refine zg_aload_n C dX2_carryOut_100 rfl (lv_at hl 2 rfl) ?_
          refine zg_get (j := 9) C X hP (hkS_20 hr) (lyS_20 hr) rfl (zmem uwX2) (by decide) (C.tb flX2_19) (fun _ h9 => h9) rfl dX2_carryOut_101 ?_
          refine zg_iload_n C dX2_carryOut_104 rfl (lv_at hl 0 rfl) ?_
          refine zg_iald (t0 := 0) C X hP (hkS_23 hr) (lyS_23 hr) rfl (by decide) (by omega) (by omega) dX2_carryOut_105 ?_
          have b_40 := rgS_23 hR11 hr ((σ9 7 (d).toNat).toNat)
          refine zg_callV C X hP hS (kX0_isLater l σ9 hR11 d (σ9 (23 + 6 * r) (σ9 7 (d).toNat).toNat) (by omega) (by omega) (by omega) (by omega)) (cwV 2 C.ts (zgV mlX2_100 imX0_isLater slX0_isLater iniX0 cdX0_isLater) rfl rfl rfl (by decide +kernel) ⟨Nat.le_of_ble_eq_true rfl, Nat.le_of_ble_eq_true rfl⟩) (by decide) lyS_1 rfl rfl rfl hl.1 rfl (Nat.le_of_ble_eq_true rfl) dX2_carryOut_106 ⟨Nat.zero_le _, Nat.zero_le _⟩ (fun r_42 σ41 H locs q43 hP hS => ?_)
          obtain ⟨rfl, q43⟩ := q43
          rw [q43] at hP
          refine zg_ifeqB (tgt := 119) C dX2_carryOut_109 (by decide) (fun c_44 => ?_) (fun c_44 => ?_)
          · refine zg_vret C hP hS dX2_carryOut_119 ?_
            subst e4 e10
            try simp (disch := omega) only [kLater, zu_ne, zu_nj, zu_same] at c_14
            try simp (disch := omega) only [kLater, zu_ne, zu_nj, zu_same] at c_15
            try simp (disch := omega) only [kLater, zu_ne, zu_nj, zu_same] at c_32
            try simp (disch := omega) only [kLater, zu_ne, zu_nj, zu_same] at c_35
            try simp (disch := omega) only [kLater, zu_ne, zu_nj, zu_same] at c_44
            have b5 := rgS_5 hR d.toNat
            simp (disch := omega) only [zu_ne, zu_nj, zu_same]
            grind [kCarry, kCarry0, kLater]
          · refine zg_aload_n C dX2_carryOut_112 rfl (lv_at hl 2 rfl) ?_
            refine zg_get (j := 9) C X hP (hkS_20 hr) (lyS_20 hr) rfl (zmem uwX2) (by decide) (C.tb flX2_19) (fun _ h9 => h9) rfl dX2_carryOut_113 ?_
            refine zg_iload_n C dX2_carryOut_116 rfl (lv_at hl 0 rfl) ?_
            refine zg_iload_n C dX2_carryOut_117 rfl (lv_at hl 3 rfl) ?_
            refine zg_iast (t0 := 0) C X hP hS (hkS_23 hr) (fun x => (lyS_23 hr)) rfl (by decide) (by omega) (by omega) dX2_carryOut_118 (fun H locs hP hS => ?_)
            obtain ⟨σ45, e46⟩ : ∃ z_ : Zt, z_ = zu σ9 (23 + 6 * r) (σ9 7 (d).toNat).toNat d := ⟨_, rfl⟩
            rw [← e46] at hP
            have w_48 : σ45 (23 + 6 * r) (σ9 7 (d).toNat).toNat = d := by rw [e46]; exact zu_same _ _ _ _
            have hR47 : rgS σ45 := by rw [e46]; exact rzS_23 hR11 hr (by omega) (by omega)
            refine zg_vret C hP hS dX2_carryOut_119 ?_
            subst e4 e10 e46
            try simp (disch := omega) only [kLater, zu_ne, zu_nj, zu_same] at c_14
            try simp (disch := omega) only [kLater, zu_ne, zu_nj, zu_same] at c_15
            try simp (disch := omega) only [kLater, zu_ne, zu_nj, zu_same] at c_32
            try simp (disch := omega) only [kLater, zu_ne, zu_nj, zu_same] at c_35
            try simp (disch := omega) only [kLater, zu_ne, zu_nj, zu_same] at c_44
            have b5 := rgS_5 hR d.toNat
            simp (disch := omega) only [zu_ne, zu_nj, zu_same]
            grind [kCarry, kCarry0, kLater]
  · refine zg_aload_n C dX2_carryOut_52 rfl (lv_at hl 1 rfl) ?_
    refine zg_dup C dX2_carryOut_53 rfl ?_
    refine zg_get (j := 5) C X hP (hkS_20 hr) (lyS_20 hr) rfl (zmem uwX2) (by decide) (C.tb flX2_97) (fun _ h9 => h9) rfl dX2_carryOut_54 ?_
    refine zg_iconst C dX2_carryOut_57 ?_
    refine zg_iadd C dX2_carryOut_58 ?_
    refine zg_put (j := 5) (v := (σ9 (20 + 6 * r) 5) + 1) C X hP hS (hkS_20 hr) (lyS_20 hr) rfl (zmem uwX2) tyX2 tyX2_ok nmX2 (by decide) (C.tb flX2_97) (fun _ h9 => h9) rfl (by decide +kernel) (Nat.le_of_ble_eq_true rfl) (by rw [(lyS_20 hr)]; rfl) dX2_carryOut_59 (fun H locs hP hS => ?_)
    obtain ⟨σ49, e50⟩ : ∃ z_ : Zt, z_ = zu σ9 (20 + 6 * r) 5 ((σ9 (20 + 6 * r) 5) + 1) := ⟨_, rfl⟩
    rw [← e50] at hP
    have w_52 : σ49 (20 + 6 * r) 5 = (σ9 (20 + 6 * r) 5) + 1 := by rw [e50]; exact zu_same _ _ _ _
    have hR51 : rgS σ49 := by rw [e50]; exact rzS_20_5 hR11 hr
    refine zg_goto (tgt := 119) C dX2_carryOut_62 (by decide) ?_
    refine zg_vret C hP hS dX2_carryOut_119 ?_
    subst e4 e10 e50
    try simp (disch := omega) only [kLater, zu_ne, zu_nj, zu_same] at c_14
    have b5 := rgS_5 hR d.toNat
    simp (disch := omega) only [zu_ne, zu_nj, zu_same]
    grind [kCarry, kCarry0, kLater]
set_option maxHeartbeats 4000000 in
set_option maxRecDepth 100000 in
theorem kX0_add (l : Launch) {D : va_G} {a : Nat → Nat} {cI cZ cR : ClassId} (σ : Zt) (hR : rgS σ) (w : Int) (t : Int) (z : Int) (q : Int) (v : Int) (f : Int) (g : Int) (tt : σ 1 10 < 400) (tm : σ 1 9 < 400) (w0 : 0 ≤ w) (w1 : w < 6) (t0 : 0 ≤ t) (t1 : t < 401) (z0 : 0 ≤ z) (z1 : z < 401) (q0 : 0 ≤ q) (q1 : q < 4) (v0 : 0 ≤ v) (v1 : v < 127) (f0 : 0 ≤ f) (f1 : f < 400) (g0 : 0 ≤ g) (g1 : g < 400) : zc l D vwCl (tyS cI cZ cR) 56 (layS cI cZ cR a) a yX0_add wsX0_add ({ frames := 0, cells := 0, slots := 0, locals := 0 }) [.ref (a 1), .int (jI w), .int (jI t), .int (jI z), .int (jI q), .int (jI v), .int (jI f), .int (jI g)] σ (fun r_ u_ => r_ = jI (σ 1 10) ∧ u_ = kAdd σ w t z q v f g) := by
  refine zc_of (cc := cX0_add) (maxL := 9) (ret := some .int) (own := RX0) (by decide) rfl rfl (Nat.le_of_ble_eq_true rfl) rfl ?_
  intro p e s m below meth c A ls C X hP hS hl
  refine zg_aload_n C dX0_add_0 rfl (lv_at hl 0 rfl) ?_
  refine zg_get (j := 10) C X hP (by decide) lyS_1 rfl (zmem uwX0) (by decide) (C.tb flX0_40) (fun _ h9 => h9) rfl dX0_add_1 ?_
  have b_1 := rgS_1_10 hR
  refine zg_istore (lv' := [(8, .int (jI (σ 1 10))), (0, .ref (a 1)), (1, .int (jI w)), (2, .int (jI t)), (3, .int (jI z)), (4, .int (jI q)), (5, .int (jI v)), (6, .int (jI f)), (7, .int (jI g))]) C dX0_add_4 hl (by decide) rfl (fun ls hl => ?_)
  refine zg_aload_n C dX0_add_6 rfl (lv_at hl 1 rfl) ?_
  refine zg_get (j := 0) C X hP (by decide) lyS_1 rfl (zmem uwX0) (by decide) (C.tb flX0_9) (fun _ h9 => h9) rfl dX0_add_7 ?_
  refine zg_iload C dX0_add_10 (lv_at hl 0 rfl) ?_
  refine zg_iload_n C dX0_add_12 rfl (lv_at hl 2 rfl) ?_
  refine zg_iast (t0 := 0) C X hP hS (by decide) (fun x => lyS_2) rfl (by decide) (by omega) (by omega) dX0_add_13 (fun H locs hP hS => ?_)
  obtain ⟨σ2, e3⟩ : ∃ z_ : Zt, z_ = zu σ 2 (σ 1 10).toNat w := ⟨_, rfl⟩
  rw [← e3] at hP
  have w_5 : σ2 2 (σ 1 10).toNat = w := by rw [e3]; exact zu_same _ _ _ _
  have w_6 : σ2 1 10 = σ 1 10 := by rw [e3]; first | exact congrFun (zu_ne (by omega)) _ | exact zu_nj (by omega)
  have w_7 : σ2 1 9 = σ 1 9 := by rw [e3]; first | exact congrFun (zu_ne (by omega)) _ | exact zu_nj (by omega)
  have hR4 : rgS σ2 := by rw [e3]; exact rzS_2 hR (by omega) (by omega)
  refine zg_aload_n C dX0_add_14 rfl (lv_at hl 1 rfl) ?_
  refine zg_get (j := 1) C X hP (by decide) lyS_1 rfl (zmem uwX0) (by decide) (C.tb flX0_15) (fun _ h9 => h9) rfl dX0_add_15 ?_
  refine zg_iload C dX0_add_18 (lv_at hl 0 rfl) ?_
  refine zg_iload_n C dX0_add_20 rfl (lv_at hl 3 rfl) ?_
  refine zg_iast (t0 := 0) C X hP hS (by decide) (fun x => lyS_3) rfl (by decide) (by omega) (by omega) dX0_add_21 (fun H locs hP hS => ?_)
  obtain ⟨σ8, e9⟩ : ∃ z_ : Zt, z_ = zu σ2 3 (σ 1 10).toNat t := ⟨_, rfl⟩
  rw [← e9] at hP
  have w_11 : σ8 3 (σ 1 10).toNat = t := by rw [e9]; exact zu_same _ _ _ _
  have w_12 : σ8 1 10 = σ2 1 10 := by rw [e9]; first | exact congrFun (zu_ne (by omega)) _ | exact zu_nj (by omega)
  have w_13 : σ8 1 9 = σ2 1 9 := by rw [e9]; first | exact congrFun (zu_ne (by omega)) _ | exact zu_nj (by omega)
  have hR10 : rgS σ8 := by rw [e9]; exact rzS_3 hR4 (by omega) (by omega)
  refine zg_aload_n C dX0_add_22 rfl (lv_at hl 1 rfl) ?_
  refine zg_get (j := 2) C X hP (by decide) lyS_1 rfl (zmem uwX0) (by decide) (C.tb flX0_18) (fun _ h9 => h9) rfl dX0_add_23 ?_
  refine zg_iload C dX0_add_26 (lv_at hl 0 rfl) ?_
  refine zg_iload_n C dX0_add_28 rfl (lv_at hl 4 rfl) ?_
  refine zg_iast (t0 := 0) C X hP hS (by decide) (fun x => lyS_4) rfl (by decide) (by omega) (by omega) dX0_add_29 (fun H locs hP hS => ?_)
  obtain ⟨σ14, e15⟩ : ∃ z_ : Zt, z_ = zu σ8 4 (σ 1 10).toNat z := ⟨_, rfl⟩
  rw [← e15] at hP
  have w_17 : σ14 4 (σ 1 10).toNat = z := by rw [e15]; exact zu_same _ _ _ _
  have w_18 : σ14 1 10 = σ8 1 10 := by rw [e15]; first | exact congrFun (zu_ne (by omega)) _ | exact zu_nj (by omega)
  have w_19 : σ14 1 9 = σ8 1 9 := by rw [e15]; first | exact congrFun (zu_ne (by omega)) _ | exact zu_nj (by omega)
  have hR16 : rgS σ14 := by rw [e15]; exact rzS_4 hR10 (by omega) (by omega)
  refine zg_aload_n C dX0_add_30 rfl (lv_at hl 1 rfl) ?_
  refine zg_get (j := 3) C X hP (by decide) lyS_1 rfl (zmem uwX0) (by decide) (C.tb flX0_21) (fun _ h9 => h9) rfl dX0_add_31 ?_
  refine zg_iload C dX0_add_34 (lv_at hl 0 rfl) ?_
  refine zg_iload C dX0_add_36 (lv_at hl 5 rfl) ?_
  refine zg_iast (t0 := 0) C X hP hS (by decide) (fun x => lyS_5) rfl (by decide) (by omega) (by omega) dX0_add_38 (fun H locs hP hS => ?_)
  obtain ⟨σ20, e21⟩ : ∃ z_ : Zt, z_ = zu σ14 5 (σ 1 10).toNat q := ⟨_, rfl⟩
  rw [← e21] at hP
  have w_23 : σ20 5 (σ 1 10).toNat = q := by rw [e21]; exact zu_same _ _ _ _
  have w_24 : σ20 1 10 = σ14 1 10 := by rw [e21]; first | exact congrFun (zu_ne (by omega)) _ | exact zu_nj (by omega)
  have w_25 : σ20 1 9 = σ14 1 9 := by rw [e21]; first | exact congrFun (zu_ne (by omega)) _ | exact zu_nj (by omega)
  have hR22 : rgS σ20 := by rw [e21]; exact rzS_5 hR16 (by omega) (by omega)
  refine zg_aload_n C dX0_add_39 rfl (lv_at hl 1 rfl) ?_
  refine zg_get (j := 4) C X hP (by decide) lyS_1 rfl (zmem uwX0) (by decide) (C.tb flX0_24) (fun _ h9 => h9) rfl dX0_add_40 ?_
  refine zg_iload C dX0_add_43 (lv_at hl 0 rfl) ?_
  refine zg_iload C dX0_add_45 (lv_at hl 6 rfl) ?_
  refine zg_iast (t0 := 0) C X hP hS (by decide) (fun x => lyS_6) rfl (by decide) (by omega) (by omega) dX0_add_47 (fun H locs hP hS => ?_)
  obtain ⟨σ26, e27⟩ : ∃ z_ : Zt, z_ = zu σ20 6 (σ 1 10).toNat v := ⟨_, rfl⟩
  rw [← e27] at hP
  have w_29 : σ26 6 (σ 1 10).toNat = v := by rw [e27]; exact zu_same _ _ _ _
  have w_30 : σ26 1 10 = σ20 1 10 := by rw [e27]; first | exact congrFun (zu_ne (by omega)) _ | exact zu_nj (by omega)
  have w_31 : σ26 1 9 = σ20 1 9 := by rw [e27]; first | exact congrFun (zu_ne (by omega)) _ | exact zu_nj (by omega)
  have hR28 : rgS σ26 := by rw [e27]; exact rzS_6 hR22 (by omega) (by omega)
  refine zg_aload_n C dX0_add_48 rfl (lv_at hl 1 rfl) ?_
  refine zg_get (j := 5) C X hP (by decide) lyS_1 rfl (zmem uwX0) (by decide) (C.tb flX0_27) (fun _ h9 => h9) rfl dX0_add_49 ?_
  refine zg_iload C dX0_add_52 (lv_at hl 0 rfl) ?_
  refine zg_iload C dX0_add_54 (lv_at hl 7 rfl) ?_
  refine zg_iast (t0 := 0) C X hP hS (by decide) (fun x => lyS_7) rfl (by decide) (by omega) (by omega) dX0_add_56 (fun H locs hP hS => ?_)
  obtain ⟨σ32, e33⟩ : ∃ z_ : Zt, z_ = zu σ26 7 (σ 1 10).toNat f := ⟨_, rfl⟩
  rw [← e33] at hP
  have w_35 : σ32 7 (σ 1 10).toNat = f := by rw [e33]; exact zu_same _ _ _ _
  have w_36 : σ32 1 10 = σ26 1 10 := by rw [e33]; first | exact congrFun (zu_ne (by omega)) _ | exact zu_nj (by omega)
  have w_37 : σ32 1 9 = σ26 1 9 := by rw [e33]; first | exact congrFun (zu_ne (by omega)) _ | exact zu_nj (by omega)
  have hR34 : rgS σ32 := by rw [e33]; exact rzS_7 hR28 (by omega) (by omega)
  refine zg_aload_n C dX0_add_57 rfl (lv_at hl 1 rfl) ?_
  refine zg_get (j := 6) C X hP (by decide) lyS_1 rfl (zmem uwX0) (by decide) (C.tb flX0_30) (fun _ h9 => h9) rfl dX0_add_58 ?_
  refine zg_iload C dX0_add_61 (lv_at hl 0 rfl) ?_
  refine zg_iload C dX0_add_63 (lv_at hl 8 rfl) ?_
  refine zg_iast (t0 := 0) C X hP hS (by decide) (fun x => lyS_8) rfl (by decide) (by omega) (by omega) dX0_add_65 (fun H locs hP hS => ?_)
  obtain ⟨σ38, e39⟩ : ∃ z_ : Zt, z_ = zu σ32 8 (σ 1 10).toNat g := ⟨_, rfl⟩
  rw [← e39] at hP
  have w_41 : σ38 8 (σ 1 10).toNat = g := by rw [e39]; exact zu_same _ _ _ _
  have w_42 : σ38 1 10 = σ32 1 10 := by rw [e39]; first | exact congrFun (zu_ne (by omega)) _ | exact zu_nj (by omega)
  have w_43 : σ38 1 9 = σ32 1 9 := by rw [e39]; first | exact congrFun (zu_ne (by omega)) _ | exact zu_nj (by omega)
  have hR40 : rgS σ38 := by rw [e39]; exact rzS_8 hR34 (by omega) (by omega)
  refine zg_aload_n C dX0_add_66 rfl (lv_at hl 1 rfl) ?_
  refine zg_get (j := 7) C X hP (by decide) lyS_1 rfl (zmem uwX0) (by decide) (C.tb flX0_33) (fun _ h9 => h9) rfl dX0_add_67 ?_
  refine zg_iload C dX0_add_70 (lv_at hl 0 rfl) ?_
  refine zg_iload C dX0_add_72 (lv_at hl 5 rfl) ?_
  refine zg_if_eq (tgt := 83) C (by omega) (by omega) dX0_add_74 (by decide) (fun c_44 => ?_) (fun c_44 => ?_)
  · refine zg_iconst C dX0_add_83 ?_
    refine zg_goto (tgt := 88) C dX0_add_84 (by decide) ?_
    refine zg_zast (t0 := 1) (b := true) C X hP hS (by decide) (fun x => lyS_9) rfl (by decide) (by omega) (by omega) dX0_add_88 (fun H locs hP hS => ?_)
    have b_45 := bI_01 true
    obtain ⟨σ46, e47⟩ : ∃ z_ : Zt, z_ = zu σ38 9 (σ 1 10).toNat (bI true) := ⟨_, rfl⟩
    rw [← e47] at hP
    have w_49 : σ46 9 (σ 1 10).toNat = bI true := by rw [e47]; exact zu_same _ _ _ _
    have w_50 : σ46 1 10 = σ38 1 10 := by rw [e47]; first | exact congrFun (zu_ne (by omega)) _ | exact zu_nj (by omega)
    have w_51 : σ46 1 9 = σ38 1 9 := by rw [e47]; first | exact congrFun (zu_ne (by omega)) _ | exact zu_nj (by omega)
    have hR48 : rgS σ46 := by rw [e47]; exact rzS_9 hR40 (by omega) (by omega)
    refine zg_iload C dX0_add_89 (lv_at hl 5 rfl) ?_
    refine zg_iconst C dX0_add_91 ?_
    refine zg_icmp_ne (tgt := 116) C (by omega) (by omega) (by omega) (by omega) dX0_add_92 (by decide) (fun c_52 => ?_) (fun c_52 => ?_)
    · refine zg_aload_n C dX0_add_116 rfl (lv_at hl 1 rfl) ?_
      refine zg_dup C dX0_add_117 rfl ?_
      refine zg_get (j := 10) C X hP (by decide) lyS_1 rfl (zmem uwX0) (by decide) (C.tb flX0_40) (fun _ h9 => h9) rfl dX0_add_118 ?_
      have b_53 := rgS_1_10 hR48
      refine zg_iconst C dX0_add_121 ?_
      refine zg_iadd C dX0_add_122 ?_
      refine zg_put (j := 10) (v := (σ46 1 10) + 1) C X hP hS (by decide) lyS_1 rfl (zmem uwX0) tyX0 tyX0_ok nmX0 (by decide) (C.tb flX0_40) (fun _ h9 => h9) rfl (by decide +kernel) (Nat.le_of_ble_eq_true rfl) (by rw [lyS_1]; rfl) dX0_add_123 (fun H locs hP hS => ?_)
      obtain ⟨σ54, e55⟩ : ∃ z_ : Zt, z_ = zu σ46 1 10 ((σ46 1 10) + 1) := ⟨_, rfl⟩
      rw [← e55] at hP
      have w_57 : σ54 1 10 = (σ46 1 10) + 1 := by rw [e55]; exact zu_same _ _ _ _
      have w_58 : σ54 1 9 = σ46 1 9 := by rw [e55]; first | exact congrFun (zu_ne (by omega)) _ | exact zu_nj (by omega)
      have hR56 : rgS σ54 := by rw [e55]; exact rzS_1_10 hR48 (by omega) (by omega)
      refine zg_iload C dX0_add_126 (lv_at hl 0 rfl) ?_
      refine zg_iret C hP hS dX0_add_128 ?_
      subst e3 e9 e15 e21 e27 e33 e39 e47 e55
      refine ⟨rfl, ?_⟩
      unfold kAdd kAdd0
      first | rw [show (decide (q = 0) || decide (q = 1)) = true by grind] | rw [show (decide (q = 0) || decide (q = 1)) = false by grind]
      first | rw [if_pos (by assumption)] | rw [if_neg (by assumption)]
      rfl
    · refine zg_aload_n C dX0_add_95 rfl (lv_at hl 1 rfl) ?_
      refine zg_get (j := 8) C X hP (by decide) lyS_1 rfl (zmem uwX0) (by decide) (C.tb flX0_37) (fun _ h9 => h9) rfl dX0_add_96 ?_
      refine zg_aload_n C dX0_add_99 rfl (lv_at hl 1 rfl) ?_
      refine zg_get (j := 9) C X hP (by decide) lyS_1 rfl (zmem uwX0) (by decide) (C.tb flX0_44) (fun _ h9 => h9) rfl dX0_add_100 ?_
      have b_59 := rgS_1_9 hR48
      refine zg_iload C dX0_add_103 (lv_at hl 0 rfl) ?_
      refine zg_iast (t0 := 0) C X hP hS (by decide) (fun x => lyS_10) rfl (by decide) (by omega) (by omega) dX0_add_105 (fun H locs hP hS => ?_)
      obtain ⟨σ60, e61⟩ : ∃ z_ : Zt, z_ = zu σ46 10 (σ46 1 9).toNat (σ 1 10) := ⟨_, rfl⟩
      rw [← e61] at hP
      have w_63 : σ60 10 (σ46 1 9).toNat = σ 1 10 := by rw [e61]; exact zu_same _ _ _ _
      have w_64 : σ60 1 10 = σ46 1 10 := by rw [e61]; first | exact congrFun (zu_ne (by omega)) _ | exact zu_nj (by omega)
      have w_65 : σ60 1 9 = σ46 1 9 := by rw [e61]; first | exact congrFun (zu_ne (by omega)) _ | exact zu_nj (by omega)
      have hR62 : rgS σ60 := by rw [e61]; exact rzS_10 hR48 (by omega) (by omega)
      refine zg_aload_n C dX0_add_106 rfl (lv_at hl 1 rfl) ?_
      refine zg_dup C dX0_add_107 rfl ?_
      refine zg_get (j := 9) C X hP (by decide) lyS_1 rfl (zmem uwX0) (by decide) (C.tb flX0_44) (fun _ h9 => h9) rfl dX0_add_108 ?_
      have b_66 := rgS_1_9 hR62
      refine zg_iconst C dX0_add_111 ?_
      refine zg_iadd C dX0_add_112 ?_
      refine zg_put (j := 9) (v := (σ60 1 9) + 1) C X hP hS (by decide) lyS_1 rfl (zmem uwX0) tyX0 tyX0_ok nmX0 (by decide) (C.tb flX0_44) (fun _ h9 => h9) rfl (by decide +kernel) (Nat.le_of_ble_eq_true rfl) (by rw [lyS_1]; rfl) dX0_add_113 (fun H locs hP hS => ?_)
      obtain ⟨σ67, e68⟩ : ∃ z_ : Zt, z_ = zu σ60 1 9 ((σ60 1 9) + 1) := ⟨_, rfl⟩
      rw [← e68] at hP
      have w_70 : σ67 1 9 = (σ60 1 9) + 1 := by rw [e68]; exact zu_same _ _ _ _
      have w_71 : σ67 1 10 = σ60 1 10 := by rw [e68]; first | exact congrFun (zu_ne (by omega)) _ | exact zu_nj (by omega)
      have hR69 : rgS σ67 := by rw [e68]; exact rzS_1_9 hR62 (by omega) (by omega)
      refine zg_aload_n C dX0_add_116 rfl (lv_at hl 1 rfl) ?_
      refine zg_dup C dX0_add_117 rfl ?_
      refine zg_get (j := 10) C X hP (by decide) lyS_1 rfl (zmem uwX0) (by decide) (C.tb flX0_40) (fun _ h9 => h9) rfl dX0_add_118 ?_
      have b_72 := rgS_1_10 hR69
      refine zg_iconst C dX0_add_121 ?_
      refine zg_iadd C dX0_add_122 ?_
      refine zg_put (j := 10) (v := (σ67 1 10) + 1) C X hP hS (by decide) lyS_1 rfl (zmem uwX0) tyX0 tyX0_ok nmX0 (by decide) (C.tb flX0_40) (fun _ h9 => h9) rfl (by decide +kernel) (Nat.le_of_ble_eq_true rfl) (by rw [lyS_1]; rfl) dX0_add_123 (fun H locs hP hS => ?_)
      obtain ⟨σ73, e74⟩ : ∃ z_ : Zt, z_ = zu σ67 1 10 ((σ67 1 10) + 1) := ⟨_, rfl⟩
      rw [← e74] at hP
      have w_76 : σ73 1 10 = (σ67 1 10) + 1 := by rw [e74]; exact zu_same _ _ _ _
      have w_77 : σ73 1 9 = σ67 1 9 := by rw [e74]; first | exact congrFun (zu_ne (by omega)) _ | exact zu_nj (by omega)
      have hR75 : rgS σ73 := by rw [e74]; exact rzS_1_10 hR69 (by omega) (by omega)
      refine zg_iload C dX0_add_126 (lv_at hl 0 rfl) ?_
      refine zg_iret C hP hS dX0_add_128 ?_
      subst e3 e9 e15 e21 e27 e33 e39 e47 e61 e68 e74
      refine ⟨rfl, ?_⟩
      unfold kAdd kAdd0
      first | rw [show (decide (q = 0) || decide (q = 1)) = true by grind] | rw [show (decide (q = 0) || decide (q = 1)) = false by grind]
      first | rw [if_pos (by assumption)] | rw [if_neg (by assumption)]
      rfl
  · refine zg_iload C dX0_add_77 (lv_at hl 5 rfl) ?_
    refine zg_iconst C dX0_add_79 ?_
    refine zg_icmp_ne (tgt := 87) C (by omega) (by omega) (by omega) (by omega) dX0_add_80 (by decide) (fun c_78 => ?_) (fun c_78 => ?_)
    · refine zg_iconst C dX0_add_87 ?_
      refine zg_zast (t0 := 1) (b := false) C X hP hS (by decide) (fun x => lyS_9) rfl (by decide) (by omega) (by omega) dX0_add_88 (fun H locs hP hS => ?_)
      have b_79 := bI_01 false
      obtain ⟨σ80, e81⟩ : ∃ z_ : Zt, z_ = zu σ38 9 (σ 1 10).toNat (bI false) := ⟨_, rfl⟩
      rw [← e81] at hP
      have w_83 : σ80 9 (σ 1 10).toNat = bI false := by rw [e81]; exact zu_same _ _ _ _
      have w_84 : σ80 1 10 = σ38 1 10 := by rw [e81]; first | exact congrFun (zu_ne (by omega)) _ | exact zu_nj (by omega)
      have w_85 : σ80 1 9 = σ38 1 9 := by rw [e81]; first | exact congrFun (zu_ne (by omega)) _ | exact zu_nj (by omega)
      have hR82 : rgS σ80 := by rw [e81]; exact rzS_9 hR40 (by omega) (by omega)
      refine zg_iload C dX0_add_89 (lv_at hl 5 rfl) ?_
      refine zg_iconst C dX0_add_91 ?_
      refine zg_icmp_ne (tgt := 116) C (by omega) (by omega) (by omega) (by omega) dX0_add_92 (by decide) (fun c_86 => ?_) (fun c_86 => ?_)
      · refine zg_aload_n C dX0_add_116 rfl (lv_at hl 1 rfl) ?_
        refine zg_dup C dX0_add_117 rfl ?_
        refine zg_get (j := 10) C X hP (by decide) lyS_1 rfl (zmem uwX0) (by decide) (C.tb flX0_40) (fun _ h9 => h9) rfl dX0_add_118 ?_
        have b_87 := rgS_1_10 hR82
        refine zg_iconst C dX0_add_121 ?_
        refine zg_iadd C dX0_add_122 ?_
        refine zg_put (j := 10) (v := (σ80 1 10) + 1) C X hP hS (by decide) lyS_1 rfl (zmem uwX0) tyX0 tyX0_ok nmX0 (by decide) (C.tb flX0_40) (fun _ h9 => h9) rfl (by decide +kernel) (Nat.le_of_ble_eq_true rfl) (by rw [lyS_1]; rfl) dX0_add_123 (fun H locs hP hS => ?_)
        obtain ⟨σ88, e89⟩ : ∃ z_ : Zt, z_ = zu σ80 1 10 ((σ80 1 10) + 1) := ⟨_, rfl⟩
        rw [← e89] at hP
        have w_91 : σ88 1 10 = (σ80 1 10) + 1 := by rw [e89]; exact zu_same _ _ _ _
        have w_92 : σ88 1 9 = σ80 1 9 := by rw [e89]; first | exact congrFun (zu_ne (by omega)) _ | exact zu_nj (by omega)
        have hR90 : rgS σ88 := by rw [e89]; exact rzS_1_10 hR82 (by omega) (by omega)
        refine zg_iload C dX0_add_126 (lv_at hl 0 rfl) ?_
        refine zg_iret C hP hS dX0_add_128 ?_
        subst e3 e9 e15 e21 e27 e33 e39 e81 e89
        refine ⟨rfl, ?_⟩
        unfold kAdd kAdd0
        first | rw [show (decide (q = 0) || decide (q = 1)) = true by grind] | rw [show (decide (q = 0) || decide (q = 1)) = false by grind]
        first | rw [if_pos (by assumption)] | rw [if_neg (by assumption)]
        rfl
      · refine zg_aload_n C dX0_add_95 rfl (lv_at hl 1 rfl) ?_
        refine zg_get (j := 8) C X hP (by decide) lyS_1 rfl (zmem uwX0) (by decide) (C.tb flX0_37) (fun _ h9 => h9) rfl dX0_add_96 ?_
        refine zg_aload_n C dX0_add_99 rfl (lv_at hl 1 rfl) ?_
        refine zg_get (j := 9) C X hP (by decide) lyS_1 rfl (zmem uwX0) (by decide) (C.tb flX0_44) (fun _ h9 => h9) rfl dX0_add_100 ?_
        have b_93 := rgS_1_9 hR82
        refine zg_iload C dX0_add_103 (lv_at hl 0 rfl) ?_
        refine zg_iast (t0 := 0) C X hP hS (by decide) (fun x => lyS_10) rfl (by decide) (by omega) (by omega) dX0_add_105 (fun H locs hP hS => ?_)
        obtain ⟨σ94, e95⟩ : ∃ z_ : Zt, z_ = zu σ80 10 (σ80 1 9).toNat (σ 1 10) := ⟨_, rfl⟩
        rw [← e95] at hP
        have w_97 : σ94 10 (σ80 1 9).toNat = σ 1 10 := by rw [e95]; exact zu_same _ _ _ _
        have w_98 : σ94 1 10 = σ80 1 10 := by rw [e95]; first | exact congrFun (zu_ne (by omega)) _ | exact zu_nj (by omega)
        have w_99 : σ94 1 9 = σ80 1 9 := by rw [e95]; first | exact congrFun (zu_ne (by omega)) _ | exact zu_nj (by omega)
        have hR96 : rgS σ94 := by rw [e95]; exact rzS_10 hR82 (by omega) (by omega)
        refine zg_aload_n C dX0_add_106 rfl (lv_at hl 1 rfl) ?_
        refine zg_dup C dX0_add_107 rfl ?_
        refine zg_get (j := 9) C X hP (by decide) lyS_1 rfl (zmem uwX0) (by decide) (C.tb flX0_44) (fun _ h9 => h9) rfl dX0_add_108 ?_
        have b_100 := rgS_1_9 hR96
        refine zg_iconst C dX0_add_111 ?_
        refine zg_iadd C dX0_add_112 ?_
        refine zg_put (j := 9) (v := (σ94 1 9) + 1) C X hP hS (by decide) lyS_1 rfl (zmem uwX0) tyX0 tyX0_ok nmX0 (by decide) (C.tb flX0_44) (fun _ h9 => h9) rfl (by decide +kernel) (Nat.le_of_ble_eq_true rfl) (by rw [lyS_1]; rfl) dX0_add_113 (fun H locs hP hS => ?_)
        obtain ⟨σ101, e102⟩ : ∃ z_ : Zt, z_ = zu σ94 1 9 ((σ94 1 9) + 1) := ⟨_, rfl⟩
        rw [← e102] at hP
        have w_104 : σ101 1 9 = (σ94 1 9) + 1 := by rw [e102]; exact zu_same _ _ _ _
        have w_105 : σ101 1 10 = σ94 1 10 := by rw [e102]; first | exact congrFun (zu_ne (by omega)) _ | exact zu_nj (by omega)
        have hR103 : rgS σ101 := by rw [e102]; exact rzS_1_9 hR96 (by omega) (by omega)
        refine zg_aload_n C dX0_add_116 rfl (lv_at hl 1 rfl) ?_
        refine zg_dup C dX0_add_117 rfl ?_
        refine zg_get (j := 10) C X hP (by decide) lyS_1 rfl (zmem uwX0) (by decide) (C.tb flX0_40) (fun _ h9 => h9) rfl dX0_add_118 ?_
        have b_106 := rgS_1_10 hR103
        refine zg_iconst C dX0_add_121 ?_
        refine zg_iadd C dX0_add_122 ?_
        refine zg_put (j := 10) (v := (σ101 1 10) + 1) C X hP hS (by decide) lyS_1 rfl (zmem uwX0) tyX0 tyX0_ok nmX0 (by decide) (C.tb flX0_40) (fun _ h9 => h9) rfl (by decide +kernel) (Nat.le_of_ble_eq_true rfl) (by rw [lyS_1]; rfl) dX0_add_123 (fun H locs hP hS => ?_)
        obtain ⟨σ107, e108⟩ : ∃ z_ : Zt, z_ = zu σ101 1 10 ((σ101 1 10) + 1) := ⟨_, rfl⟩
        rw [← e108] at hP
        have w_110 : σ107 1 10 = (σ101 1 10) + 1 := by rw [e108]; exact zu_same _ _ _ _
        have w_111 : σ107 1 9 = σ101 1 9 := by rw [e108]; first | exact congrFun (zu_ne (by omega)) _ | exact zu_nj (by omega)
        have hR109 : rgS σ107 := by rw [e108]; exact rzS_1_10 hR103 (by omega) (by omega)
        refine zg_iload C dX0_add_126 (lv_at hl 0 rfl) ?_
        refine zg_iret C hP hS dX0_add_128 ?_
        subst e3 e9 e15 e21 e27 e33 e39 e81 e95 e102 e108
        refine ⟨rfl, ?_⟩
        unfold kAdd kAdd0
        first | rw [show (decide (q = 0) || decide (q = 1)) = true by grind] | rw [show (decide (q = 0) || decide (q = 1)) = false by grind]
        first | rw [if_pos (by assumption)] | rw [if_neg (by assumption)]
        rfl
    · refine zg_iconst C dX0_add_83 ?_
      refine zg_goto (tgt := 88) C dX0_add_84 (by decide) ?_
      refine zg_zast (t0 := 1) (b := true) C X hP hS (by decide) (fun x => lyS_9) rfl (by decide) (by omega) (by omega) dX0_add_88 (fun H locs hP hS => ?_)
      have b_112 := bI_01 true
      obtain ⟨σ113, e114⟩ : ∃ z_ : Zt, z_ = zu σ38 9 (σ 1 10).toNat (bI true) := ⟨_, rfl⟩
      rw [← e114] at hP
      have w_116 : σ113 9 (σ 1 10).toNat = bI true := by rw [e114]; exact zu_same _ _ _ _
      have w_117 : σ113 1 10 = σ38 1 10 := by rw [e114]; first | exact congrFun (zu_ne (by omega)) _ | exact zu_nj (by omega)
      have w_118 : σ113 1 9 = σ38 1 9 := by rw [e114]; first | exact congrFun (zu_ne (by omega)) _ | exact zu_nj (by omega)
      have hR115 : rgS σ113 := by rw [e114]; exact rzS_9 hR40 (by omega) (by omega)
      refine zg_iload C dX0_add_89 (lv_at hl 5 rfl) ?_
      refine zg_iconst C dX0_add_91 ?_
      refine zg_icmp_ne (tgt := 116) C (by omega) (by omega) (by omega) (by omega) dX0_add_92 (by decide) (fun c_119 => ?_) (fun c_119 => ?_)
      · refine zg_aload_n C dX0_add_116 rfl (lv_at hl 1 rfl) ?_
        refine zg_dup C dX0_add_117 rfl ?_
        refine zg_get (j := 10) C X hP (by decide) lyS_1 rfl (zmem uwX0) (by decide) (C.tb flX0_40) (fun _ h9 => h9) rfl dX0_add_118 ?_
        have b_120 := rgS_1_10 hR115
        refine zg_iconst C dX0_add_121 ?_
        refine zg_iadd C dX0_add_122 ?_
        refine zg_put (j := 10) (v := (σ113 1 10) + 1) C X hP hS (by decide) lyS_1 rfl (zmem uwX0) tyX0 tyX0_ok nmX0 (by decide) (C.tb flX0_40) (fun _ h9 => h9) rfl (by decide +kernel) (Nat.le_of_ble_eq_true rfl) (by rw [lyS_1]; rfl) dX0_add_123 (fun H locs hP hS => ?_)
        obtain ⟨σ121, e122⟩ : ∃ z_ : Zt, z_ = zu σ113 1 10 ((σ113 1 10) + 1) := ⟨_, rfl⟩
        rw [← e122] at hP
        have w_124 : σ121 1 10 = (σ113 1 10) + 1 := by rw [e122]; exact zu_same _ _ _ _
        have w_125 : σ121 1 9 = σ113 1 9 := by rw [e122]; first | exact congrFun (zu_ne (by omega)) _ | exact zu_nj (by omega)
        have hR123 : rgS σ121 := by rw [e122]; exact rzS_1_10 hR115 (by omega) (by omega)
        refine zg_iload C dX0_add_126 (lv_at hl 0 rfl) ?_
        refine zg_iret C hP hS dX0_add_128 ?_
        subst e3 e9 e15 e21 e27 e33 e39 e114 e122
        refine ⟨rfl, ?_⟩
        unfold kAdd kAdd0
        first | rw [show (decide (q = 0) || decide (q = 1)) = true by grind] | rw [show (decide (q = 0) || decide (q = 1)) = false by grind]
        first | rw [if_pos (by assumption)] | rw [if_neg (by assumption)]
        rfl
      · refine zg_aload_n C dX0_add_95 rfl (lv_at hl 1 rfl) ?_
        refine zg_get (j := 8) C X hP (by decide) lyS_1 rfl (zmem uwX0) (by decide) (C.tb flX0_37) (fun _ h9 => h9) rfl dX0_add_96 ?_
        refine zg_aload_n C dX0_add_99 rfl (lv_at hl 1 rfl) ?_
        refine zg_get (j := 9) C X hP (by decide) lyS_1 rfl (zmem uwX0) (by decide) (C.tb flX0_44) (fun _ h9 => h9) rfl dX0_add_100 ?_
        have b_126 := rgS_1_9 hR115
        refine zg_iload C dX0_add_103 (lv_at hl 0 rfl) ?_
        refine zg_iast (t0 := 0) C X hP hS (by decide) (fun x => lyS_10) rfl (by decide) (by omega) (by omega) dX0_add_105 (fun H locs hP hS => ?_)
        obtain ⟨σ127, e128⟩ : ∃ z_ : Zt, z_ = zu σ113 10 (σ113 1 9).toNat (σ 1 10) := ⟨_, rfl⟩
        rw [← e128] at hP
        have w_130 : σ127 10 (σ113 1 9).toNat = σ 1 10 := by rw [e128]; exact zu_same _ _ _ _
        have w_131 : σ127 1 10 = σ113 1 10 := by rw [e128]; first | exact congrFun (zu_ne (by omega)) _ | exact zu_nj (by omega)
        have w_132 : σ127 1 9 = σ113 1 9 := by rw [e128]; first | exact congrFun (zu_ne (by omega)) _ | exact zu_nj (by omega)
        have hR129 : rgS σ127 := by rw [e128]; exact rzS_10 hR115 (by omega) (by omega)
        refine zg_aload_n C dX0_add_106 rfl (lv_at hl 1 rfl) ?_
        refine zg_dup C dX0_add_107 rfl ?_
        refine zg_get (j := 9) C X hP (by decide) lyS_1 rfl (zmem uwX0) (by decide) (C.tb flX0_44) (fun _ h9 => h9) rfl dX0_add_108 ?_
        have b_133 := rgS_1_9 hR129
        refine zg_iconst C dX0_add_111 ?_
        refine zg_iadd C dX0_add_112 ?_
        refine zg_put (j := 9) (v := (σ127 1 9) + 1) C X hP hS (by decide) lyS_1 rfl (zmem uwX0) tyX0 tyX0_ok nmX0 (by decide) (C.tb flX0_44) (fun _ h9 => h9) rfl (by decide +kernel) (Nat.le_of_ble_eq_true rfl) (by rw [lyS_1]; rfl) dX0_add_113 (fun H locs hP hS => ?_)
        obtain ⟨σ134, e135⟩ : ∃ z_ : Zt, z_ = zu σ127 1 9 ((σ127 1 9) + 1) := ⟨_, rfl⟩
        rw [← e135] at hP
        have w_137 : σ134 1 9 = (σ127 1 9) + 1 := by rw [e135]; exact zu_same _ _ _ _
        have w_138 : σ134 1 10 = σ127 1 10 := by rw [e135]; first | exact congrFun (zu_ne (by omega)) _ | exact zu_nj (by omega)
        have hR136 : rgS σ134 := by rw [e135]; exact rzS_1_9 hR129 (by omega) (by omega)
        refine zg_aload_n C dX0_add_116 rfl (lv_at hl 1 rfl) ?_
        refine zg_dup C dX0_add_117 rfl ?_
        refine zg_get (j := 10) C X hP (by decide) lyS_1 rfl (zmem uwX0) (by decide) (C.tb flX0_40) (fun _ h9 => h9) rfl dX0_add_118 ?_
        have b_139 := rgS_1_10 hR136
        refine zg_iconst C dX0_add_121 ?_
        refine zg_iadd C dX0_add_122 ?_
        refine zg_put (j := 10) (v := (σ134 1 10) + 1) C X hP hS (by decide) lyS_1 rfl (zmem uwX0) tyX0 tyX0_ok nmX0 (by decide) (C.tb flX0_40) (fun _ h9 => h9) rfl (by decide +kernel) (Nat.le_of_ble_eq_true rfl) (by rw [lyS_1]; rfl) dX0_add_123 (fun H locs hP hS => ?_)
        obtain ⟨σ140, e141⟩ : ∃ z_ : Zt, z_ = zu σ134 1 10 ((σ134 1 10) + 1) := ⟨_, rfl⟩
        rw [← e141] at hP
        have w_143 : σ140 1 10 = (σ134 1 10) + 1 := by rw [e141]; exact zu_same _ _ _ _
        have w_144 : σ140 1 9 = σ134 1 9 := by rw [e141]; first | exact congrFun (zu_ne (by omega)) _ | exact zu_nj (by omega)
        have hR142 : rgS σ140 := by rw [e141]; exact rzS_1_10 hR136 (by omega) (by omega)
        refine zg_iload C dX0_add_126 (lv_at hl 0 rfl) ?_
        refine zg_iret C hP hS dX0_add_128 ?_
        subst e3 e9 e15 e21 e27 e33 e39 e114 e128 e135 e141
        refine ⟨rfl, ?_⟩
        unfold kAdd kAdd0
        first | rw [show (decide (q = 0) || decide (q = 1)) = true by grind] | rw [show (decide (q = 0) || decide (q = 1)) = false by grind]
        first | rw [if_pos (by assumption)] | rw [if_neg (by assumption)]
        rfl
end
section
set_option maxHeartbeats 4000000 in
set_option maxRecDepth 100000 in
theorem lpX2_doWhatWaited_2 {l : Launch} {D : va_G} {a : Nat → Nat} {cI cZ cR : ClassId} {p : Program} {e : Env} {s : State} {m : MethodId} {below : List Frame} {meth : Method} {c : Code} {A : Nat → Prop} (σ : Zt) (hR : rgS σ) (r : Nat) (hr : r < 6)  (C : zk p s m ([.ref (a (20 + 6 * r))] : List Value).toArray meth c cX2_doWhatWaited 3 (none) wsX2_doWhatWaited RX2) (X : zx D vwCl (tyS cI cZ cR) A a 56 s) :
    ∀ (n : Nat) (i : Int) (τ : Zt) (H : Heap) (locs : List Loc) (ls : Array Slot), ((400 - i).toNat < n) → (rgS τ) → (0 ≤ i) → (i ≤ 400) → (kWaited r 400 σ = kWaited r (400 - i).toNat τ) → va_P D vwCl (zw 56 (layS cI cZ cR a) a τ) H → va_S A s.heap H locs → lv_has ls 3 [(0, .ref (a (20 + 6 * r))), (1, .int (jI i))] →
      W p l e ({ frames := 3, cells := 0, slots := 0, locals := 63 }) s m ([.ref (a (20 + 6 * r))] : List Value).toArray below meth c H locs 0 0 (MQ below (va_Qv (fun u_ => u_ = kWaited r 400 σ) (fun (u : Zt) t => va_P D vwCl (zw 56 (layS cI cZ cR a) a u) t.heap) A) ([.ref (a (20 + 6 * r))] : List Value).toArray s 0 0 A) (F0 m 2 ls []) := by
  intro n
  induction n with
  | zero =>
    intro i τ H locs ls hn hτ i0 i1 hE hP hS hl
    exact absurd hn (by omega)
  | succ n ih =>
    intro i τ H locs ls hn hτ i0 i1 hE hP hS hl
    refine zg_iload_n C dX2_doWhatWaited_2 rfl (lv_at hl 1 rfl) ?_
    refine zg_sipush C dX2_doWhatWaited_3 (by decide) ?_
    refine zg_icmp_ge (tgt := 55) C (by omega) (by omega) (by omega) (by omega) dX2_doWhatWaited_6 (by decide) (fun c_1 => ?_) (fun c_1 => ?_)
    · refine zg_vret C hP hS dX2_doWhatWaited_55 ?_
      rw [hE]; first | rw [kWaited_end (by omega)] | rw [kWaited_stop (by omega)]
    · refine zg_aload_n C dX2_doWhatWaited_9 rfl (lv_at hl 0 rfl) ?_
      refine zg_get (j := 6) C X hP (hkS_20 hr) (lyS_20 hr) rfl (zmem uwX2) (by decide) (C.tb flX2_69) (fun _ h9 => h9) rfl dX2_doWhatWaited_10 ?_
      have b_2 := rgS_20_6 hτ hr
      refine zg_if_le (tgt := 55) C (by omega) (by omega) dX2_doWhatWaited_13 (by decide) (fun c_3 => ?_) (fun c_3 => ?_)
      · refine zg_vret C hP hS dX2_doWhatWaited_55 ?_
        rw [hE]; first | rw [kWaited_end (by omega)] | rw [kWaited_stop (by omega)]
      · refine zg_aload_n C dX2_doWhatWaited_16 rfl (lv_at hl 0 rfl) ?_
        refine zg_callV C X hP hS (kX2_firstReady l τ hτ r hr) (cwV 0 C.ts (zgV mlX2_79 imX2_firstReady slX2_firstReady iniX2 cdX2_firstReady) rfl rfl rfl (by decide +kernel) ⟨Nat.le_of_ble_eq_true rfl, Nat.le_of_ble_eq_true rfl⟩) (hkS_20 hr) (lyS_20 hr) rfl rfl rfl hl.1 rfl (Nat.le_of_ble_eq_true rfl) dX2_doWhatWaited_17 ⟨Nat.zero_le _, Nat.zero_le _⟩ (fun r_5 σ4 H locs q6 hP hS => ?_)
        obtain ⟨rfl, q6⟩ := q6
        have b_7 := kFirst_rg τ r (τ 1 10).toNat 0
        have b_8 := rgS_1_10 hτ
        rw [q6] at hP
        refine zg_istore_n (lv' := [(2, .int (jI (kFirst τ r (τ 1 10).toNat 0))), (0, .ref (a (20 + 6 * r))), (1, .int (jI i))]) C dX2_doWhatWaited_20 rfl hl (by decide) rfl (fun ls hl => ?_)
        refine zg_iload_n C dX2_doWhatWaited_21 rfl (lv_at hl 0 rfl) ?_
        refine zg_iconst C dX2_doWhatWaited_22 ?_
        refine zg_icmp_ne (tgt := 27) C (by omega) (by omega) (by omega) (by omega) dX2_doWhatWaited_23 (by decide) (fun c_9 => ?_) (fun c_9 => ?_)
        · refine zg_aload_n C dX2_doWhatWaited_27 rfl (lv_at hl 1 rfl) ?_
          refine zg_get (j := 8) C X hP (hkS_20 hr) (lyS_20 hr) rfl (zmem uwX2) (by decide) (C.tb flX2_15) (fun _ h9 => h9) rfl dX2_doWhatWaited_28 ?_
          refine zg_iload_n C dX2_doWhatWaited_31 rfl (lv_at hl 0 rfl) ?_
          refine zg_iconst C dX2_doWhatWaited_32 ?_
          refine zg_zast (t0 := 1) (b := false) C X hP hS (hkS_22 hr) (fun x => (lyS_22 hr)) rfl (by decide) (by omega) (by omega) dX2_doWhatWaited_33 (fun H locs hP hS => ?_)
          have b_10 := bI_01 false
          obtain ⟨σ11, e12⟩ : ∃ z_ : Zt, z_ = zu τ (22 + 6 * r) (kFirst τ r (τ 1 10).toNat 0).toNat (bI false) := ⟨_, rfl⟩
          rw [← e12] at hP
          have w_14 : σ11 (22 + 6 * r) (kFirst τ r (τ 1 10).toNat 0).toNat = bI false := by rw [e12]; exact zu_same _ _ _ _
          have w_15 : σ11 (20 + 6 * r) 6 = τ (20 + 6 * r) 6 := by rw [e12]; first | exact congrFun (zu_ne (by omega)) _ | exact zu_nj (by omega)
          have hR13 : rgS σ11 := by rw [e12]; exact rzS_22 hτ hr (by omega) (by omega)
          refine zg_aload_n C dX2_doWhatWaited_34 rfl (lv_at hl 1 rfl) ?_
          refine zg_dup C dX2_doWhatWaited_35 rfl ?_
          refine zg_get (j := 6) C X hP (hkS_20 hr) (lyS_20 hr) rfl (zmem uwX2) (by decide) (C.tb flX2_69) (fun _ h9 => h9) rfl dX2_doWhatWaited_36 ?_
          have b_16 := rgS_20_6 hR13 hr
          refine zg_iconst C dX2_doWhatWaited_39 ?_
          refine zg_isub C dX2_doWhatWaited_40 ?_
          refine zg_put (j := 6) (v := (σ11 (20 + 6 * r) 6) - 1) C X hP hS (hkS_20 hr) (lyS_20 hr) rfl (zmem uwX2) tyX2 tyX2_ok nmX2 (by decide) (C.tb flX2_69) (fun _ h9 => h9) rfl (by decide +kernel) (Nat.le_of_ble_eq_true rfl) (by rw [(lyS_20 hr)]; rfl) dX2_doWhatWaited_41 (fun H locs hP hS => ?_)
          obtain ⟨σ17, e18⟩ : ∃ z_ : Zt, z_ = zu σ11 (20 + 6 * r) 6 ((σ11 (20 + 6 * r) 6) - 1) := ⟨_, rfl⟩
          rw [← e18] at hP
          have w_20 : σ17 (20 + 6 * r) 6 = (σ11 (20 + 6 * r) 6) - 1 := by rw [e18]; exact zu_same _ _ _ _
          have hR19 : rgS σ17 := by rw [e18]; exact rzS_20_6 hR13 hr (by omega) (by omega)
          refine zg_aload_n C dX2_doWhatWaited_44 rfl (lv_at hl 1 rfl) ?_
          refine zg_iload_n C dX2_doWhatWaited_45 rfl (lv_at hl 0 rfl) ?_
          refine zg_callVv C X hP hS (kX2_carryOut l σ17 hR19 r hr (kFirst τ r (τ 1 10).toNat 0) (by omega) (by omega) (by have h9 := kReady_dn hτ (kFirst_is (σ := τ) _ _ (by assumption)).2; rw [e18, e12]; simp (disch := omega) only [zu_ne]; exact h9)) (cwV 1 C.ts (zgV mlX2_72 imX2_carryOut slX2_carryOut iniX2 cdX2_carryOut) rfl rfl rfl (by decide +kernel) ⟨Nat.le_of_ble_eq_true rfl, Nat.le_of_ble_eq_true rfl⟩) (hkS_20 hr) (lyS_20 hr) rfl rfl rfl hl.1 rfl (Nat.le_of_ble_eq_true rfl) dX2_doWhatWaited_46 ⟨Nat.zero_le _, Nat.zero_le _⟩ (fun σ21 H locs q23 hP hS => ?_)
          have hR24 : rgS σ21 := by rw [q23]; exact kCarry_rg hR19 (by omega) (by omega) (by omega) (by have h9 := kReady_dn hτ (kFirst_is (σ := τ) _ _ (by assumption)).2; rw [e18, e12]; simp (disch := omega) only [zu_ne]; exact h9)
          refine zg_iinc (k := 2) (lv' := [(1, .int (jI (i + 1))), (2, .int (jI (kFirst τ r (τ 1 10).toNat 0))), (0, .ref (a (20 + 6 * r)))]) C dX2_doWhatWaited_49 hl rfl (by decide) rfl (fun ls hl => ?_)
          refine zg_goto (tgt := 2) C dX2_doWhatWaited_52 (by decide) ?_
          exact ih (i + 1) σ21 _ _ _ (by omega) (by assumption) (by omega) (by omega) (by subst e12 e18 q23; rw [hE, kWaited_step (by omega) (by omega) (by assumption), kUnwait, zu_ne (show 20 + 6 * r ≠ 22 + 6 * r by omega)]; rfl) hP hS (lv_sub hl [2, 0] rfl)
        · refine zg_vret C hP hS dX2_doWhatWaited_26 ?_
          rw [hE, kWaited_none (by omega) (by assumption)]
set_option maxHeartbeats 4000000 in
set_option maxRecDepth 100000 in
theorem kX2_doWhatWaited (l : Launch) {D : va_G} {a : Nat → Nat} {cI cZ cR : ClassId} (σ : Zt) (hR : rgS σ) (r : Nat) (hr : r < 6) : zv l D vwCl (tyS cI cZ cR) 56 (layS cI cZ cR a) a yX2_doWhatWaited wsX2_doWhatWaited ({ frames := 3, cells := 0, slots := 0, locals := 63 }) [.ref (a (20 + 6 * r))] σ (fun u_ => u_ = kWaited r 400 σ) := by
  refine zv_of (cc := cX2_doWhatWaited) (maxL := 3) (own := RX2) (by decide) rfl rfl (Nat.le_of_ble_eq_true rfl) rfl ?_
  intro p e s m below meth c A ls C X hP hS hl
  refine zg_iconst C dX2_doWhatWaited_0 ?_
  refine zg_istore_n (lv' := [(1, .int (jI 0)), (0, .ref (a (20 + 6 * r)))]) C dX2_doWhatWaited_1 rfl hl (by decide) rfl (fun ls hl => ?_)
  exact lpX2_doWhatWaited_2 σ hR r hr C X 401 0 σ _ _ _ (by omega) hR (by omega) (by omega) rfl hP hS (lv_sub hl [1, 0] rfl)
set_option maxHeartbeats 4000000 in
set_option maxRecDepth 100000 in
theorem kX2_receive (l : Launch) {D : va_G} {a : Nat → Nat} {cI cZ cR : ClassId} (σ : Zt) (hR : rgS σ) (r : Nat) (hr : r < 6) (d : Int) (d0 : 0 ≤ d) (d1 : d < 400) (wt : kDid σ r d = false → σ (22 + 6 * r) d.toNat = 0 → σ (20 + 6 * r) 6 < 400) : zc l D vwCl (tyS cI cZ cR) 56 (layS cI cZ cR a) a yX2_receive wsX2_receive ({ frames := 4, cells := 0, slots := 0, locals := 85 }) [.ref (a (20 + 6 * r)), .int (jI d)] σ (fun r_ u_ => r_ = jI (kRecR σ r d) ∧ u_ = kRecS σ r d) := by
  refine zc_of (cc := cX2_receive) (maxL := 2) (ret := some .int) (own := RX2) (by decide) rfl rfl (Nat.le_of_ble_eq_true rfl) rfl ?_
  intro p e s m below meth c A ls C X hP hS hl
  refine zg_aload_n C dX2_receive_0 rfl (lv_at hl 0 rfl) ?_
  refine zg_iload_n C dX2_receive_1 rfl (lv_at hl 1 rfl) ?_
  refine zg_callV C X hP hS (kX2_didDeed l σ hR r hr d (by omega) (by omega)) (cwV 1 C.ts (zgV mlX2_59 imX2_didDeed slX2_didDeed iniX2 cdX2_didDeed) rfl rfl rfl (by decide +kernel) ⟨Nat.le_of_ble_eq_true rfl, Nat.le_of_ble_eq_true rfl⟩) (hkS_20 hr) (lyS_20 hr) rfl rfl rfl hl.1 rfl (Nat.le_of_ble_eq_true rfl) dX2_receive_2 ⟨Nat.zero_le _, Nat.zero_le _⟩ (fun r_2 σ1 H locs q3 hP hS => ?_)
  obtain ⟨rfl, q3⟩ := q3
  rw [q3] at hP
  refine zg_ifneB (tgt := 17) C dX2_receive_5 (by decide) (fun c_4 => ?_) (fun c_4 => ?_)
  · refine zg_iconst C dX2_receive_17 ?_
    refine zg_iret C hP hS dX2_receive_18 ?_
    exact ⟨congrArg jI (by unfold kRecR; rw [if_pos (by grind)]), by unfold kRecS; rw [if_pos (by grind)]⟩
  · refine zg_aload_n C dX2_receive_8 rfl (lv_at hl 0 rfl) ?_
    refine zg_get (j := 8) C X hP (hkS_20 hr) (lyS_20 hr) rfl (zmem uwX2) (by decide) (C.tb flX2_15) (fun _ h9 => h9) rfl dX2_receive_9 ?_
    refine zg_iload_n C dX2_receive_12 rfl (lv_at hl 1 rfl) ?_
    refine zg_zald (t0 := 1) C X hP (hkS_22 hr) (lyS_22 hr) rfl (by decide) (by omega) (by omega) dX2_receive_13 ?_
    have b_5 := rgS_22 hR hr ((d).toNat)
    refine zg_if_eq (tgt := 19) C (by omega) (by omega) dX2_receive_14 (by decide) (fun c_6 => ?_) (fun c_6 => ?_)
    · refine zg_aload_n C dX2_receive_19 rfl (lv_at hl 0 rfl) ?_
      refine zg_iload_n C dX2_receive_20 rfl (lv_at hl 1 rfl) ?_
      refine zg_callV C X hP hS (kX2_isReady l σ hR r hr d (by omega) (by omega)) (cwV 1 C.ts (zgV mlX2_66 imX2_isReady slX2_isReady iniX2 cdX2_isReady) rfl rfl rfl (by decide +kernel) ⟨Nat.le_of_ble_eq_true rfl, Nat.le_of_ble_eq_true rfl⟩) (hkS_20 hr) (lyS_20 hr) rfl rfl rfl hl.1 rfl (Nat.le_of_ble_eq_true rfl) dX2_receive_21 ⟨Nat.zero_le _, Nat.zero_le _⟩ (fun r_8 σ7 H locs q9 hP hS => ?_)
      obtain ⟨rfl, q9⟩ := q9
      rw [q9] at hP
      refine zg_ifneB (tgt := 46) C dX2_receive_24 (by decide) (fun c_10 => ?_) (fun c_10 => ?_)
      · refine zg_aload_n C dX2_receive_46 rfl (lv_at hl 0 rfl) ?_
        refine zg_iload_n C dX2_receive_47 rfl (lv_at hl 1 rfl) ?_
        refine zg_callVv C X hP hS (kX2_carryOut l σ hR r hr d (by omega) (by omega) (kReady_dn hR (by assumption))) (cwV 1 C.ts (zgV mlX2_72 imX2_carryOut slX2_carryOut iniX2 cdX2_carryOut) rfl rfl rfl (by decide +kernel) ⟨Nat.le_of_ble_eq_true rfl, Nat.le_of_ble_eq_true rfl⟩) (hkS_20 hr) (lyS_20 hr) rfl rfl rfl hl.1 rfl (Nat.le_of_ble_eq_true rfl) dX2_receive_48 ⟨Nat.zero_le _, Nat.zero_le _⟩ (fun σ11 H locs q13 hP hS => ?_)
        have hR14 : rgS σ11 := by rw [q13]; exact kCarry_rg hR (by omega) (by omega) (by omega) (kReady_dn hR (by assumption))
        refine zg_aload_n C dX2_receive_51 rfl (lv_at hl 0 rfl) ?_
        refine zg_callVv C X hP hS (kX2_doWhatWaited l σ11 hR14 r hr) (cwV 0 C.ts (zgV mlX2_76 imX2_doWhatWaited slX2_doWhatWaited iniX2 cdX2_doWhatWaited) rfl rfl rfl (by decide +kernel) ⟨Nat.le_of_ble_eq_true rfl, Nat.le_of_ble_eq_true rfl⟩) (hkS_20 hr) (lyS_20 hr) rfl rfl rfl hl.1 rfl (Nat.le_of_ble_eq_true rfl) dX2_receive_52 ⟨Nat.zero_le _, Nat.zero_le _⟩ (fun σ15 H locs q17 hP hS => ?_)
        have hR18 : rgS σ15 := by rw [q17]; exact kWaited_rg (by omega) 400 _ hR14
        refine zg_iconst C dX2_receive_55 ?_
        refine zg_iret C hP hS dX2_receive_56 ?_
        subst q13 q17
        exact ⟨congrArg jI (by unfold kRecR; rw [if_neg (by grind), if_pos (by assumption)]), by unfold kRecS; rw [if_neg (by grind), if_pos (by assumption)]⟩
      · have b_w := wt (by assumption) (by assumption)
        refine zg_aload_n C dX2_receive_27 rfl (lv_at hl 0 rfl) ?_
        refine zg_get (j := 8) C X hP (hkS_20 hr) (lyS_20 hr) rfl (zmem uwX2) (by decide) (C.tb flX2_15) (fun _ h9 => h9) rfl dX2_receive_28 ?_
        refine zg_iload_n C dX2_receive_31 rfl (lv_at hl 1 rfl) ?_
        refine zg_iconst C dX2_receive_32 ?_
        refine zg_zast (t0 := 1) (b := true) C X hP hS (hkS_22 hr) (fun x => (lyS_22 hr)) rfl (by decide) (by omega) (by omega) dX2_receive_33 (fun H locs hP hS => ?_)
        have b_19 := bI_01 true
        obtain ⟨σ20, e21⟩ : ∃ z_ : Zt, z_ = zu σ (22 + 6 * r) (d).toNat (bI true) := ⟨_, rfl⟩
        rw [← e21] at hP
        have w_23 : σ20 (22 + 6 * r) (d).toNat = bI true := by rw [e21]; exact zu_same _ _ _ _
        have w_24 : σ20 (20 + 6 * r) 6 = σ (20 + 6 * r) 6 := by rw [e21]; first | exact congrFun (zu_ne (by omega)) _ | exact zu_nj (by omega)
        have hR22 : rgS σ20 := by rw [e21]; exact rzS_22 hR hr (by omega) (by omega)
        refine zg_aload_n C dX2_receive_34 rfl (lv_at hl 0 rfl) ?_
        refine zg_dup C dX2_receive_35 rfl ?_
        refine zg_get (j := 6) C X hP (hkS_20 hr) (lyS_20 hr) rfl (zmem uwX2) (by decide) (C.tb flX2_69) (fun _ h9 => h9) rfl dX2_receive_36 ?_
        have b_25 := rgS_20_6 hR22 hr
        refine zg_iconst C dX2_receive_39 ?_
        refine zg_iadd C dX2_receive_40 ?_
        refine zg_put (j := 6) (v := (σ20 (20 + 6 * r) 6) + 1) C X hP hS (hkS_20 hr) (lyS_20 hr) rfl (zmem uwX2) tyX2 tyX2_ok nmX2 (by decide) (C.tb flX2_69) (fun _ h9 => h9) rfl (by decide +kernel) (Nat.le_of_ble_eq_true rfl) (by rw [(lyS_20 hr)]; rfl) dX2_receive_41 (fun H locs hP hS => ?_)
        obtain ⟨σ26, e27⟩ : ∃ z_ : Zt, z_ = zu σ20 (20 + 6 * r) 6 ((σ20 (20 + 6 * r) 6) + 1) := ⟨_, rfl⟩
        rw [← e27] at hP
        have w_29 : σ26 (20 + 6 * r) 6 = (σ20 (20 + 6 * r) 6) + 1 := by rw [e27]; exact zu_same _ _ _ _
        have hR28 : rgS σ26 := by rw [e27]; exact rzS_20_6 hR22 hr (by omega) (by omega)
        refine zg_iconst C dX2_receive_44 ?_
        refine zg_iret C hP hS dX2_receive_45 ?_
        subst e21 e27
        exact ⟨congrArg jI (by unfold kRecR; rw [if_neg (by grind), if_neg (by grind)]), by unfold kRecS; rw [if_neg (by grind), if_neg (by grind), zu_ne (show 20 + 6 * r ≠ 22 + 6 * r by omega)]; rfl⟩
    · refine zg_iconst C dX2_receive_17 ?_
      refine zg_iret C hP hS dX2_receive_18 ?_
      exact ⟨congrArg jI (by unfold kRecR; rw [if_pos (by grind)]), by unfold kRecS; rw [if_pos (by grind)]⟩
set_option maxHeartbeats 4000000 in
set_option maxRecDepth 100000 in
theorem lpX4_perform_38 {l : Launch} {D : va_G} {a : Nat → Nat} {cI cZ cR : ClassId} {p : Program} {e : Env} {s : State} {m : MethodId} {below : List Frame} {meth : Method} {c : Code} {A : Nat → Prop} (σ : Zt) (hR : rgS σ) (r : Nat) (hr : r < 6) (q : Int) (v : Int) (f : Int) (g : Int) (tt : σ 1 10 < 400) (tm : σ 1 9 < 400) (dn : σ (21 + 6 * r) r < 400) (tr : σ (20 + 6 * r) 4 < 400) (q0 : 0 ≤ q) (q1 : q < 4) (v0 : 0 ≤ v) (v1 : v < 127) (f0 : 0 ≤ f) (f1 : f < 400) (g0 : 0 ≤ g) (g1 : g < 400)  (C : zk p s m ([.ref (a 0), .ref (a (20 + 6 * r)), .int (jI q), .int (jI v), .int (jI f), .int (jI g)] : List Value).toArray meth c cX4_perform 8 (some .int) wsX4_perform RX4) (X : zx D vwCl (tyS cI cZ cR) A a 56 s) :
    ∀ (n : Nat) (j : Int) (τ : Zt) (H : Heap) (locs : List Loc) (ls : Array Slot), ((6 - j).toNat < n) → (rgS τ) → (0 ≤ j) → (j ≤ 6) → (kPerform σ r q v f g = kSendTo (σ 1 10) r (6 - j).toNat j τ) → va_P D vwCl (zw 56 (layS cI cZ cR a) a τ) H → va_S A s.heap H locs → lv_has ls 8 [(0, .ref (a 0)), (1, .ref (a (20 + 6 * r))), (2, .int (jI q)), (3, .int (jI v)), (4, .int (jI f)), (5, .int (jI g)), (6, .int (jI (σ 1 10))), (7, .int (jI j))] →
      W p l e ({ frames := 2, cells := 0, slots := 0, locals := 45 }) s m ([.ref (a 0), .ref (a (20 + 6 * r)), .int (jI q), .int (jI v), .int (jI f), .int (jI g)] : List Value).toArray below meth c H locs 0 0 (MQ below (va_Qi (fun r_ u_ => r_ = jI (σ 1 10) ∧ u_ = kPerform σ r q v f g) (fun (u : Zt) t => va_P D vwCl (zw 56 (layS cI cZ cR a) a u) t.heap) A) ([.ref (a 0), .ref (a (20 + 6 * r)), .int (jI q), .int (jI v), .int (jI f), .int (jI g)] : List Value).toArray s 0 0 A) (F0 m 38 ls []) := by
  intro n
  induction n with
  | zero =>
    intro j τ H locs ls hn hτ j0 j1 hE hP hS hl
    exact absurd hn (by omega)
  | succ n ih =>
    intro j τ H locs ls hn hτ j0 j1 hE hP hS hl
    have b_00 := rgS_1_10 hR
    refine zg_iload C dX4_perform_38 (lv_at hl 7 rfl) ?_
    refine zg_bipush C dX4_perform_40 (by decide) ?_
    refine zg_icmp_ge (tgt := 71) C (by omega) (by omega) (by omega) (by omega) dX4_perform_42 (by decide) (fun c_1 => ?_) (fun c_1 => ?_)
    · refine zg_iload C dX4_perform_71 (lv_at hl 6 rfl) ?_
      refine zg_iret C hP hS dX4_perform_73 ?_
      exact ⟨rfl, by rw [hE, kSendTo_end (by omega)]⟩
    · refine zg_iload C dX4_perform_45 (lv_at hl 7 rfl) ?_
      refine zg_aload_n C dX4_perform_47 rfl (lv_at hl 1 rfl) ?_
      refine zg_get (j := 0) C X hP (hkS_20 hr) (lyS_20 hr) rfl (zmem uwX2) (by decide) (C.tb flX4_205) (fun _ h9 => h9) rfl dX4_perform_48 ?_
      have b_2 := rgS_20_0 hτ hr
      refine zg_icmp_eq (tgt := 65) C (by omega) (by omega) (by omega) (by omega) dX4_perform_51 (by decide) (fun c_3 => ?_) (fun c_3 => ?_)
      · refine zg_iinc (k := 7) (lv' := [(7, .int (jI (j + 1))), (0, .ref (a 0)), (1, .ref (a (20 + 6 * r))), (2, .int (jI q)), (3, .int (jI v)), (4, .int (jI f)), (5, .int (jI g)), (6, .int (jI (σ 1 10)))]) C dX4_perform_65 hl rfl (by decide) rfl (fun ls hl => ?_)
        refine zg_goto (tgt := 38) C dX4_perform_68 (by decide) ?_
        exact ih (j + 1) τ _ _ _ (by omega) (by assumption) (by omega) (by omega) (by first | (rw [hE, kSendTo_go (by omega) (by omega)]) | rw [hE, kSendTo_skip (by omega) (by omega)]) hP hS (lv_sub hl [1, 2, 3, 4, 5, 6, 7, 0] rfl)
      · refine zg_aload_n C dX4_perform_54 rfl (lv_at hl 0 rfl) ?_
        refine zg_get (j := 2) C X hP (by decide) lyS_0 rfl (zmem uwX4) (by decide) (C.tb flX4_26) (fun _ h9 => h9) rfl dX4_perform_55 ?_
        refine zg_iload C dX4_perform_58 (lv_at hl 6 rfl) ?_
        refine zg_iload C dX4_perform_60 (lv_at hl 7 rfl) ?_
        refine zg_callVv C X hP hS (kX3_send l τ hτ (σ 1 10) j (by omega) (by omega) (by omega) (by omega)) (cwV 2 C.ts (zgV mlX4_103 imX3_send slX3_send iniX3 cdX3_send) rfl rfl rfl (by decide +kernel) ⟨Nat.le_of_ble_eq_true rfl, Nat.le_of_ble_eq_true rfl⟩) (by decide) lyS_16 rfl rfl rfl hl.1 rfl (Nat.le_of_ble_eq_true rfl) dX4_perform_62 ⟨Nat.zero_le _, Nat.zero_le _⟩ (fun σ4 H locs q6 hP hS => ?_)
        have hR7 : rgS σ4 := by rw [q6]; exact kSend_rg hτ (by omega) (by omega) (by omega) (by omega)
        refine zg_iinc (k := 7) (lv' := [(7, .int (jI (j + 1))), (0, .ref (a 0)), (1, .ref (a (20 + 6 * r))), (2, .int (jI q)), (3, .int (jI v)), (4, .int (jI f)), (5, .int (jI g)), (6, .int (jI (σ 1 10)))]) C dX4_perform_65 hl rfl (by decide) rfl (fun ls hl => ?_)
        refine zg_goto (tgt := 38) C dX4_perform_68 (by decide) ?_
        exact ih (j + 1) σ4 _ _ _ (by omega) (by assumption) (by omega) (by omega) (by first | (subst q6; rw [hE, kSendTo_go (by omega) (by omega)]) | rw [hE, kSendTo_skip (by omega) (by omega)]) hP hS (lv_sub hl [1, 2, 3, 4, 5, 6, 7, 0] rfl)
set_option maxHeartbeats 4000000 in
set_option maxRecDepth 100000 in
theorem kX4_perform (l : Launch) {D : va_G} {a : Nat → Nat} {cI cZ cR : ClassId} (σ : Zt) (hR : rgS σ) (r : Nat) (hr : r < 6) (q : Int) (v : Int) (f : Int) (g : Int) (tt : σ 1 10 < 400) (tm : σ 1 9 < 400) (dn : σ (21 + 6 * r) r < 400) (tr : σ (20 + 6 * r) 4 < 400) (q0 : 0 ≤ q) (q1 : q < 4) (v0 : 0 ≤ v) (v1 : v < 127) (f0 : 0 ≤ f) (f1 : f < 400) (g0 : 0 ≤ g) (g1 : g < 400) : zc l D vwCl (tyS cI cZ cR) 56 (layS cI cZ cR a) a yX4_perform wsX4_perform ({ frames := 2, cells := 0, slots := 0, locals := 45 }) [.ref (a 0), .ref (a (20 + 6 * r)), .int (jI q), .int (jI v), .int (jI f), .int (jI g)] σ (fun r_ u_ => r_ = jI (σ 1 10) ∧ u_ = kPerform σ r q v f g) := by
  refine zc_of (cc := cX4_perform) (maxL := 8) (ret := some .int) (own := RX4) (by decide) rfl rfl (Nat.le_of_ble_eq_true rfl) rfl ?_
  intro p e s m below meth c A ls C X hP hS hl
  have b_0 := rgS_21 hR hr r
  have b_00 := rgS_1_10 hR
  have b_000 := rgS_20_0 hR hr
  refine zg_aload_n C dX4_perform_0 rfl (lv_at hl 0 rfl) ?_
  refine zg_get (j := 0) C X hP (by decide) lyS_0 rfl (zmem uwX4) (by decide) (C.tb flX4_10) (fun _ h9 => h9) rfl dX4_perform_1 ?_
  refine zg_aload_n C dX4_perform_4 rfl (lv_at hl 1 rfl) ?_
  refine zg_get (j := 0) C X hP (hkS_20 hr) (lyS_20 hr) rfl (zmem uwX2) (by decide) (C.tb flX4_205) (fun _ h9 => h9) rfl dX4_perform_5 ?_
  have b_8 := rgS_20_0 hR hr
  refine zg_aload_n C dX4_perform_8 rfl (lv_at hl 1 rfl) ?_
  refine zg_callV C X hP hS (kX2_nextNumber l σ hR r hr) (cwV 0 C.ts (zgV mlX4_208 imX2_nextNumber slX2_nextNumber iniX2 cdX2_nextNumber) rfl rfl rfl (by decide +kernel) ⟨Nat.le_of_ble_eq_true rfl, Nat.le_of_ble_eq_true rfl⟩) (hkS_20 hr) (lyS_20 hr) rfl rfl rfl hl.1 rfl (Nat.le_of_ble_eq_true rfl) dX4_perform_9 ⟨Nat.zero_le _, Nat.zero_le _⟩ (fun r_10 σ9 H locs q11 hP hS => ?_)
  obtain ⟨rfl, q11⟩ := q11
  rw [q11] at hP
  refine zg_aload_n C dX4_perform_12 rfl (lv_at hl 1 rfl) ?_
  refine zg_get (j := 4) C X hP (hkS_20 hr) (lyS_20 hr) rfl (zmem uwX2) (by decide) (C.tb flX4_168) (fun _ h9 => h9) rfl dX4_perform_13 ?_
  have b_12 := rgS_20_4 hR hr
  refine zg_iconst C dX4_perform_16 ?_
  refine zg_iadd C dX4_perform_17 ?_
  refine zg_iload_n C dX4_perform_18 rfl (lv_at hl 2 rfl) ?_
  refine zg_iload_n C dX4_perform_19 rfl (lv_at hl 3 rfl) ?_
  refine zg_iload C dX4_perform_20 (lv_at hl 4 rfl) ?_
  refine zg_iload C dX4_perform_22 (lv_at hl 5 rfl) ?_
  refine zg_callV C X hP hS (kX0_add l σ hR (σ (20 + 6 * r) 0) (σ (21 + 6 * r) r + 1) ((σ (20 + 6 * r) 4) + 1) q v f g (by omega) (by omega) (by omega) (by omega) (by omega) (by omega) (by omega) (by omega) (by omega) (by omega) (by omega) (by omega) (by omega) (by omega) (by omega) (by omega)) (cwV 7 C.ts (zgV mlX4_211 imX0_add slX0_add iniX0 cdX0_add) rfl rfl rfl (by decide +kernel) ⟨Nat.le_of_ble_eq_true rfl, Nat.le_of_ble_eq_true rfl⟩) (by decide) lyS_1 rfl rfl rfl hl.1 rfl (Nat.le_of_ble_eq_true rfl) dX4_perform_24 ⟨Nat.zero_le _, Nat.zero_le _⟩ (fun r_14 σ13 H locs q15 hP hS => ?_)
  obtain ⟨rfl, q15⟩ := q15
  have hR16 : rgS σ13 := by rw [q15]; exact kAdd_rg hR (by omega) (by omega) (by omega) (by omega) (by omega) (by omega) (by omega) (by omega) (by omega) (by omega) (by omega) (by omega) (by omega) (by omega) (by omega) (by omega)
  refine zg_istore (lv' := [(6, .int (jI (σ 1 10))), (0, .ref (a 0)), (1, .ref (a (20 + 6 * r))), (2, .int (jI q)), (3, .int (jI v)), (4, .int (jI f)), (5, .int (jI g))]) C dX4_perform_27 hl (by decide) rfl (fun ls hl => ?_)
  refine zg_aload_n C dX4_perform_29 rfl (lv_at hl 2 rfl) ?_
  refine zg_iload C dX4_perform_30 (lv_at hl 0 rfl) ?_
  refine zg_callVv C X hP hS (kX2_carryOut l σ13 hR16 r hr (σ 1 10) (by omega) (by omega) (by rw [q15, kAdd_own, kAdd_rep (show 20 ≤ 21 + 6 * r by omega), show (σ (20 + 6 * r) 0).toNat = r by omega]; exact dn)) (cwV 1 C.ts (zgV mlX4_215 imX2_carryOut slX2_carryOut iniX2 cdX2_carryOut) rfl rfl rfl (by decide +kernel) ⟨Nat.le_of_ble_eq_true rfl, Nat.le_of_ble_eq_true rfl⟩) (hkS_20 hr) (lyS_20 hr) rfl rfl rfl hl.1 rfl (Nat.le_of_ble_eq_true rfl) dX4_perform_32 ⟨Nat.zero_le _, Nat.zero_le _⟩ (fun σ17 H locs q19 hP hS => ?_)
  have hR20 : rgS σ17 := by rw [q19]; exact kCarry_rg hR16 (by omega) (by omega) (by omega) (by rw [q15, kAdd_own, kAdd_rep (show 20 ≤ 21 + 6 * r by omega), show (σ (20 + 6 * r) 0).toNat = r by omega]; exact dn)
  refine zg_iconst C dX4_perform_35 ?_
  refine zg_istore (lv' := [(7, .int (jI 0)), (6, .int (jI (σ 1 10))), (0, .ref (a 0)), (1, .ref (a (20 + 6 * r))), (2, .int (jI q)), (3, .int (jI v)), (4, .int (jI f)), (5, .int (jI g))]) C dX4_perform_36 hl (by decide) rfl (fun ls hl => ?_)
  exact lpX4_perform_38 σ hR r hr q v f g tt tm dn tr q0 q1 v0 v1 f0 f1 g0 g1 C X 7 0 σ17 _ _ _ (by omega) (by assumption) (by omega) (by omega) (by subst q15 q19; rw [show σ (20 + 6 * r) 0 = (r : Int) by omega]; rfl) hP hS (lv_sub hl [2, 3, 4, 5, 6, 7, 1, 0] rfl)
end
section
set_option maxHeartbeats 4000000 in
set_option maxRecDepth 100000 in
theorem lpX1_findNew_6 {l : Launch} {D : va_G} {a : Nat → Nat} {cI cZ cR : ClassId} {p : Program} {e : Env} {s : State} {m : MethodId} {below : List Frame} {meth : Method} {c : Code} {A : Nat → Prop} (σ : Zt) (hR : rgS σ) (r : Nat) (hr : r < 6) (fr : Int) (be : Int) (bh : Int) (fr0 : 0 ≤ fr) (fr1 : fr < 400) (be0 : -1 ≤ be) (be1 : be < 400) (bh0 : -1 ≤ bh) (bh1 : bh < 400) (dn : σ (21 + 6 * r) r < 400)  (C : zk p s m ([.ref (a 11), .int (jI fr), .int (jI be), .int (jI bh), .ref (a (20 + 6 * r))] : List Value).toArray meth c cX1_findNew 11 (some .boolean) wsX1_findNew RX1) (X : zx D vwCl (tyS cI cZ cR) A a 56 s) :
    ∀ (n : Nat) (b k : Int) (τ : Zt) (H : Heap) (locs : List Loc) (ls : Array Slot), ((13 - k).toNat < n) → (rgS τ) → (1 ≤ k) → (k ≤ 13) → (-1 ≤ b) → (b < 400) → (τ (21 + 6 * r) r < 400) → (kFind r fr be 12 1 bh σ = kFind r fr be (13 - k).toNat k b τ) → va_P D vwCl (zw 56 (layS cI cZ cR a) a τ) H → va_S A s.heap H locs → lv_has ls 11 [(0, .ref (a 11)), (1, .int (jI fr)), (2, .int (jI be)), (3, .int (jI bh)), (4, .ref (a (20 + 6 * r))), (5, .int (jI b)), (6, .int (jI k))] →
      W p l e ({ frames := 2, cells := 0, slots := 0, locals := 45 }) s m ([.ref (a 11), .int (jI fr), .int (jI be), .int (jI bh), .ref (a (20 + 6 * r))] : List Value).toArray below meth c H locs 0 0 (MQ below (va_Qi (fun r_ u_ => r_ = jI (bI ((kFind r fr be 12 1 bh σ).1)) ∧ u_ = (kFind r fr be 12 1 bh σ).2) (fun (u : Zt) t => va_P D vwCl (zw 56 (layS cI cZ cR a) a u) t.heap) A) ([.ref (a 11), .int (jI fr), .int (jI be), .int (jI bh), .ref (a (20 + 6 * r))] : List Value).toArray s 0 0 A) (F0 m 6 ls []) := by
  intro n
  induction n with
  | zero =>
    intro b k τ H locs ls hn hτ k0 k1 b0 b1 hd hE hP hS hl
    exact absurd hn (by omega)
  | succ n ih =>
    intro b k τ H locs ls hn hτ k0 k1 b0 b1 hd hE hP hS hl
    have b_00 := rgS_21 hτ hr r
    have b_01 := rgS_20_0 hτ hr
    refine zg_iload C dX1_findNew_6 (lv_at hl 6 rfl) ?_
    refine zg_bipush C dX1_findNew_8 (by decide) ?_
    refine zg_icmp_gt (tgt := 174) C (by omega) (by omega) (by omega) (by omega) dX1_findNew_10 (by decide) (fun c_1 => ?_) (fun c_1 => ?_)
    · refine zg_iconst C dX1_findNew_174 ?_
      refine zg_zret (b := false) C hP hS dX1_findNew_175 ?_
      exact ⟨congrArg (fun b => jI (bI b)) (by rw [hE, kFind_end (by omega)]), by rw [hE, kFind_end (by omega)]⟩
    · refine zg_aload_n C dX1_findNew_13 rfl (lv_at hl 0 rfl) ?_
      refine zg_iload_n C dX1_findNew_14 rfl (lv_at hl 2 rfl) ?_
      refine zg_iload C dX1_findNew_15 (lv_at hl 6 rfl) ?_
      refine zg_callV C X hP hS (kX1_levelOf l τ hτ be k (by omega) (by omega) (by omega) (by omega)) (cwV 2 C.ts (zgV mlX1_30 imX1_levelOf slX1_levelOf iniX1 cdX1_levelOf) rfl rfl rfl (by decide +kernel) ⟨Nat.le_of_ble_eq_true rfl, Nat.le_of_ble_eq_true rfl⟩) (by decide) lyS_11 rfl rfl rfl hl.1 rfl (Nat.le_of_ble_eq_true rfl) dX1_findNew_17 ⟨Nat.zero_le _, Nat.zero_le _⟩ (fun r_3 σ2 H locs q4 hP hS => ?_)
      obtain ⟨rfl, q4⟩ := q4
      have b_5 := kLevel_rg hτ be k
      rw [q4] at hP
      refine zg_callS C X hP hS (kX1_digitOf l τ hτ (kLevel τ be k) (by omega) (by omega)) (cwS 1 C.ts (zgS mlX1_33 stX1_digitOf iniX1 cdX1_digitOf) rfl rfl rfl (by decide +kernel) ⟨Nat.le_of_ble_eq_true rfl, Nat.le_of_ble_eq_true rfl⟩) rfl hl.1 rfl (Nat.le_of_ble_eq_true rfl) dX1_findNew_20 ⟨Nat.zero_le _, Nat.zero_le _⟩ (fun r_7 σ6 H locs q8 hP hS => ?_)
      obtain ⟨rfl, q8⟩ := q8
      have b_9 := kDigit_rg (x := (kLevel τ be k)) (by omega) (by omega)
      rw [q8] at hP
      refine zg_istore (lv' := [(7, .int (jI (kDigit (kLevel τ be k)))), (0, .ref (a 11)), (1, .int (jI fr)), (2, .int (jI be)), (3, .int (jI bh)), (4, .ref (a (20 + 6 * r))), (5, .int (jI b)), (6, .int (jI k))]) C dX1_findNew_23 hl (by decide) rfl (fun ls hl => ?_)
      refine zg_iload C dX1_findNew_25 (lv_at hl 6 rfl) ?_
      refine zg_iconst C dX1_findNew_27 ?_
      refine zg_icmp_ne (tgt := 39) C (by omega) (by omega) (by omega) (by omega) dX1_findNew_28 (by decide) (fun c_10 => ?_) (fun c_10 => ?_)
      · refine zg_aload_n C dX1_findNew_39 rfl (lv_at hl 1 rfl) ?_
        refine zg_iload C dX1_findNew_40 (lv_at hl 6 rfl) ?_
        refine zg_iload C dX1_findNew_42 (lv_at hl 7 rfl) ?_
        refine zg_callV C X hP hS (kX1_levelOf l τ hτ b k (by omega) (by omega) (by omega) (by omega)) (cwV 2 C.ts (zgV mlX1_30 imX1_levelOf slX1_levelOf iniX1 cdX1_levelOf) rfl rfl rfl (by decide +kernel) ⟨Nat.le_of_ble_eq_true rfl, Nat.le_of_ble_eq_true rfl⟩) (by decide) lyS_11 rfl rfl rfl hl.1 rfl (Nat.le_of_ble_eq_true rfl) dX1_findNew_44 ⟨Nat.zero_le _, Nat.zero_le _⟩ (fun r_12 σ11 H locs q13 hP hS => ?_)
        obtain ⟨rfl, q13⟩ := q13
        have b_14 := kLevel_rg hτ b k
        rw [q13] at hP
        refine zg_callS C X hP hS (kX1_digitOf l τ hτ (kLevel τ b k) (by omega) (by omega)) (cwS 1 C.ts (zgS mlX1_33 stX1_digitOf iniX1 cdX1_digitOf) rfl rfl rfl (by decide +kernel) ⟨Nat.le_of_ble_eq_true rfl, Nat.le_of_ble_eq_true rfl⟩) rfl hl.1 rfl (Nat.le_of_ble_eq_true rfl) dX1_findNew_47 ⟨Nat.zero_le _, Nat.zero_le _⟩ (fun r_16 σ15 H locs q17 hP hS => ?_)
        obtain ⟨rfl, q17⟩ := q17
        have b_18 := kDigit_rg (x := (kLevel τ b k)) (by omega) (by omega)
        rw [q17] at hP
        refine zg_istore (lv' := [(8, .int (jI (kDigit (kLevel τ b k)))), (7, .int (jI (kDigit (kLevel τ be k)))), (0, .ref (a 11)), (1, .int (jI fr)), (2, .int (jI be)), (3, .int (jI bh)), (4, .ref (a (20 + 6 * r))), (5, .int (jI b)), (6, .int (jI k))]) C dX1_findNew_50 hl (by decide) rfl (fun ls hl => ?_)
        refine zg_iload_n C dX1_findNew_52 rfl (lv_at hl 3 rfl) ?_
        refine zg_bipush C dX1_findNew_53 (by decide) ?_
        refine zg_imul C dX1_findNew_55 ?_
        refine zg_iload C dX1_findNew_56 (lv_at hl 8 rfl) ?_
        refine zg_iadd C dX1_findNew_58 ?_
        refine zg_iconst C dX1_findNew_59 ?_
        refine zg_isub C dX1_findNew_60 ?_
        refine zg_istore (lv' := [(9, .int (jI (((fr * 12) + k) - 1))), (8, .int (jI (kDigit (kLevel τ b k)))), (7, .int (jI (kDigit (kLevel τ be k)))), (0, .ref (a 11)), (1, .int (jI fr)), (2, .int (jI be)), (3, .int (jI bh)), (4, .ref (a (20 + 6 * r))), (5, .int (jI b)), (6, .int (jI k))]) C dX1_findNew_61 hl (by decide) rfl (fun ls hl => ?_)
        refine zg_iload C dX1_findNew_63 (lv_at hl 1 rfl) ?_
        refine zg_iload C dX1_findNew_65 (lv_at hl 2 rfl) ?_
        refine zg_isub C dX1_findNew_67 ?_
        refine zg_iconst C dX1_findNew_68 ?_
        refine zg_icmp_le (tgt := 120) C (by omega) (by omega) (by omega) (by omega) dX1_findNew_69 (by decide) (fun c_19 => ?_) (fun c_19 => ?_)
        · first | have hh := kHigh_no (σ := τ) (k := k) (b := b) (by assumption) | have hh := kHigh_b (σ := τ) (k := k) (b := b) (by assumption)
          refine zg_aload_n C dX1_findNew_120 rfl (lv_at hl 3 rfl) ?_
          refine zg_get (j := 0) C X hP (by decide) lyS_11 rfl (zmem uwX1) (by decide) (C.tb flX1_9) (fun _ h9 => h9) rfl dX1_findNew_121 ?_
          refine zg_iload C dX1_findNew_124 (lv_at hl 0 rfl) ?_
          refine zg_aload_n C dX1_findNew_126 rfl (lv_at hl 3 rfl) ?_
          refine zg_iload_n C dX1_findNew_127 rfl (lv_at hl 5 rfl) ?_
          refine zg_iload C dX1_findNew_128 (lv_at hl 9 rfl) ?_
          refine zg_callV C X hP hS (kX1_levelOf l τ hτ be k (by omega) (by omega) (by omega) (by omega)) (cwV 2 C.ts (zgV mlX1_30 imX1_levelOf slX1_levelOf iniX1 cdX1_levelOf) rfl rfl rfl (by decide +kernel) ⟨Nat.le_of_ble_eq_true rfl, Nat.le_of_ble_eq_true rfl⟩) (by decide) lyS_11 rfl rfl rfl hl.1 rfl (Nat.le_of_ble_eq_true rfl) dX1_findNew_130 ⟨Nat.zero_le _, Nat.zero_le _⟩ (fun r_21 σ20 H locs q22 hP hS => ?_)
          obtain ⟨rfl, q22⟩ := q22
          have b_23 := kLevel_rg hτ be k
          rw [q22] at hP
          refine zg_aload_n C dX1_findNew_133 rfl (lv_at hl 3 rfl) ?_
          refine zg_iload C dX1_findNew_134 (lv_at hl 8 rfl) ?_
          refine zg_iload C dX1_findNew_136 (lv_at hl 9 rfl) ?_
          refine zg_callV C X hP hS (kX1_levelOf l τ hτ b k (by omega) (by omega) (by omega) (by omega)) (cwV 2 C.ts (zgV mlX1_30 imX1_levelOf slX1_levelOf iniX1 cdX1_levelOf) rfl rfl rfl (by decide +kernel) ⟨Nat.le_of_ble_eq_true rfl, Nat.le_of_ble_eq_true rfl⟩) (by decide) lyS_11 rfl rfl rfl hl.1 rfl (Nat.le_of_ble_eq_true rfl) dX1_findNew_138 ⟨Nat.zero_le _, Nat.zero_le _⟩ (fun r_25 σ24 H locs q26 hP hS => ?_)
          obtain ⟨rfl, q26⟩ := q26
          have b_27 := kLevel_rg hτ b k
          rw [q26] at hP
          refine zg_aload C dX1_findNew_141 (lv_at hl 7 rfl) ?_
          refine zg_callS C X hP hS (kX1_innerLevel l τ hτ r hr (kLevel τ be k) (kLevel τ b k) (by omega) (by omega) (by omega) (by omega) (by omega)) (cwS 3 C.ts (zgS mlX1_61 stX1_innerLevel iniX1 cdX1_innerLevel) rfl rfl rfl (by decide +kernel) ⟨Nat.le_of_ble_eq_true rfl, Nat.le_of_ble_eq_true rfl⟩) rfl hl.1 rfl (Nat.le_of_ble_eq_true rfl) dX1_findNew_143 ⟨Nat.zero_le _, Nat.zero_le _⟩ (fun r_29 σ28 H locs q30 hP hS => ?_)
          obtain ⟨rfl, q30⟩ := q30
          have b_31 := kInner_rg (x := (kLevel τ be k)) (y := (kLevel τ b k)) (r := r) (n := τ (21 + 6 * r) r + 1) (by omega) (by omega) (by omega) (by omega) (by omega) (by have := rgS_21 hτ (r := r) (by omega) r; omega) (by omega)
          rw [q30] at hP
          refine zg_iast (t0 := 0) C X hP hS (by decide) (fun x => lyS_12) rfl (by decide) (by omega) (by omega) dX1_findNew_146 (fun H locs hP hS => ?_)
          obtain ⟨σ32, e33⟩ : ∃ z_ : Zt, z_ = zu τ 12 (((fr * 12) + k) - 1).toNat (kInner (kLevel τ be k) (kLevel τ b k) r (τ (21 + 6 * r) r + 1)) := ⟨_, rfl⟩
          rw [← e33] at hP
          have w_35 : σ32 12 (((fr * 12) + k) - 1).toNat = kInner (kLevel τ be k) (kLevel τ b k) r (τ (21 + 6 * r) r + 1) := by rw [e33]; exact zu_same _ _ _ _
          have hR34 : rgS σ32 := by rw [e33]; exact rzS_12 hτ (by omega) (by omega)
          refine zg_aload_n C dX1_findNew_147 rfl (lv_at hl 3 rfl) ?_
          refine zg_iload C dX1_findNew_148 (lv_at hl 8 rfl) ?_
          refine zg_iload C dX1_findNew_150 (lv_at hl 9 rfl) ?_
          refine zg_callV C X hP hS (kX1_levelOf l σ32 hR34 b k (by omega) (by omega) (by omega) (by omega)) (cwV 2 C.ts (zgV mlX1_30 imX1_levelOf slX1_levelOf iniX1 cdX1_levelOf) rfl rfl rfl (by decide +kernel) ⟨Nat.le_of_ble_eq_true rfl, Nat.le_of_ble_eq_true rfl⟩) (by decide) lyS_11 rfl rfl rfl hl.1 rfl (Nat.le_of_ble_eq_true rfl) dX1_findNew_152 ⟨Nat.zero_le _, Nat.zero_le _⟩ (fun r_37 σ36 H locs q38 hP hS => ?_)
          obtain ⟨rfl, q38⟩ := q38
          have b_39 := kLevel_rg hR34 b k
          rw [q38] at hP
          refine zg_aload_n C dX1_findNew_155 rfl (lv_at hl 3 rfl) ?_
          refine zg_get (j := 0) C X hP (by decide) lyS_11 rfl (zmem uwX1) (by decide) (C.tb flX1_9) (fun _ h9 => h9) rfl dX1_findNew_156 ?_
          refine zg_iload C dX1_findNew_159 (lv_at hl 0 rfl) ?_
          refine zg_iald (t0 := 0) C X hP (by decide) lyS_12 rfl (by decide) (by omega) (by omega) dX1_findNew_161 ?_
          have b_40 := rgS_12 hR34 ((((fr * 12) + k) - 1).toNat)
          refine zg_icmp_eq (tgt := 168) C (by omega) (by omega) (by omega) (by omega) dX1_findNew_162 (by decide) (fun c_41 => ?_) (fun c_41 => ?_)
          · refine zg_iinc (k := 9) (lv' := [(6, .int (jI (k + 1))), (9, .int (jI (((fr * 12) + k) - 1))), (8, .int (jI (kDigit (kLevel τ b k)))), (7, .int (jI (kDigit (kLevel τ be k)))), (0, .ref (a 11)), (1, .int (jI fr)), (2, .int (jI be)), (3, .int (jI bh)), (4, .ref (a (20 + 6 * r))), (5, .int (jI b))]) C dX1_findNew_168 hl rfl (by decide) rfl (fun ls hl => ?_)
            refine zg_goto (tgt := 6) C dX1_findNew_171 (by decide) ?_
            exact ih b (k + 1) σ32 _ _ _ (by omega) (by assumption) (by omega) (by omega) (by omega) (by omega) (by subst e33; rw [zu_ne (show 21 + 6 * r ≠ 12 by omega)]; exact hd) (by subst e33; first | exact hE.trans (kFind_keep (by omega) (by rw [hh]; omega) (by assumption)) | exact hE.trans (kFind_free (by omega) (by rw [hh]; omega) (by assumption))) hP hS (lv_sub hl [4, 5, 6, 7, 8, 9, 0] rfl)
          · refine zg_iconst C dX1_findNew_165 ?_
            refine zg_istore (lv' := [(5, .int (jI (-1))), (9, .int (jI (((fr * 12) + k) - 1))), (8, .int (jI (kDigit (kLevel τ b k)))), (7, .int (jI (kDigit (kLevel τ be k)))), (0, .ref (a 11)), (1, .int (jI fr)), (2, .int (jI be)), (3, .int (jI bh)), (4, .ref (a (20 + 6 * r))), (6, .int (jI k))]) C dX1_findNew_166 hl (by decide) rfl (fun ls hl => ?_)
            refine zg_iinc (k := 9) (lv' := [(6, .int (jI (k + 1))), (5, .int (jI (-1))), (9, .int (jI (((fr * 12) + k) - 1))), (8, .int (jI (kDigit (kLevel τ b k)))), (7, .int (jI (kDigit (kLevel τ be k)))), (0, .ref (a 11)), (1, .int (jI fr)), (2, .int (jI be)), (3, .int (jI bh)), (4, .ref (a (20 + 6 * r)))]) C dX1_findNew_168 hl rfl (by decide) rfl (fun ls hl => ?_)
            refine zg_goto (tgt := 6) C dX1_findNew_171 (by decide) ?_
            exact ih (-1) (k + 1) σ32 _ _ _ (by omega) (by assumption) (by omega) (by omega) (by omega) (by omega) (by subst e33; rw [zu_ne (show 21 + 6 * r ≠ 12 by omega)]; exact hd) (by subst e33; first | exact hE.trans (kFind_keep (by omega) (by rw [hh]; omega) (by assumption)) | exact hE.trans (kFind_free (by omega) (by rw [hh]; omega) (by assumption))) hP hS (lv_sub hl [5, 6, 7, 8, 9, 1, 0] rfl)
        · refine zg_iload C dX1_findNew_72 (lv_at hl 9 rfl) ?_
          refine zg_iload C dX1_findNew_74 (lv_at hl 2 rfl) ?_
          refine zg_iload C dX1_findNew_76 (lv_at hl 1 rfl) ?_
          refine zg_aload C dX1_findNew_78 (lv_at hl 7 rfl) ?_
          first | have hh := kHigh_no (σ := τ) (k := k) (b := b) (by assumption) | have hh := kHigh_b (σ := τ) (k := k) (b := b) (by assumption)
          refine zg_callV C X hP hS (kX2_throwCoin l τ hτ r hr) (cwV 0 C.ts (zgV mlX1_40 imX2_throwCoin slX2_throwCoin iniX2 cdX2_throwCoin) rfl rfl rfl (by decide +kernel) ⟨Nat.le_of_ble_eq_true rfl, Nat.le_of_ble_eq_true rfl⟩) (hkS_20 hr) (lyS_20 hr) rfl rfl rfl hl.1 rfl (Nat.le_of_ble_eq_true rfl) dX1_findNew_80 ⟨Nat.zero_le _, Nat.zero_le _⟩ (fun r_43 σ42 H locs q44 hP hS => ?_)
          obtain ⟨rfl, q44⟩ := q44
          have b_45 := kCoin_rg τ r
          have hR46 : rgS σ42 := by rw [q44]; exact rzS_20_3 hτ (by omega)
          refine zg_callS C X hP hS (kX1_lastDigit l σ42 hR46 k (kDigit (kLevel τ be k)) (kDigit (kLevel τ b k)) (kCoin τ r) (by omega) (by omega) (by omega) (by omega) (by omega) (by omega) (by omega)) (cwS 4 C.ts (zgS mlX1_46 stX1_lastDigit iniX1 cdX1_lastDigit) rfl rfl rfl (by decide +kernel) ⟨Nat.le_of_ble_eq_true rfl, Nat.le_of_ble_eq_true rfl⟩) rfl hl.1 rfl (Nat.le_of_ble_eq_true rfl) dX1_findNew_83 ⟨Nat.zero_le _, Nat.zero_le _⟩ (fun r_48 σ47 H locs q49 hP hS => ?_)
          obtain ⟨rfl, q49⟩ := q49
          have b_50 := kLastD_rg (k := k) (lo := (kDigit (kLevel τ be k))) (hi := (kDigit (kLevel τ b k))) (co := (kCoin τ r)) (by omega) (by omega) (by omega) (by omega)
          rw [q49] at hP
          refine zg_istore (lv' := [(10, .int (jI (kLastD k (kDigit (kLevel τ be k)) (kDigit (kLevel τ b k)) (kCoin τ r)))), (9, .int (jI (((fr * 12) + k) - 1))), (8, .int (jI (kDigit (kLevel τ b k)))), (7, .int (jI (kDigit (kLevel τ be k)))), (0, .ref (a 11)), (1, .int (jI fr)), (2, .int (jI be)), (3, .int (jI bh)), (4, .ref (a (20 + 6 * r))), (5, .int (jI b)), (6, .int (jI k))]) C dX1_findNew_86 hl (by decide) rfl (fun ls hl => ?_)
          refine zg_aload_n C dX1_findNew_88 rfl (lv_at hl 4 rfl) ?_
          refine zg_get (j := 0) C X hP (by decide) lyS_11 rfl (zmem uwX1) (by decide) (C.tb flX1_9) (fun _ h9 => h9) rfl dX1_findNew_89 ?_
          refine zg_iload C dX1_findNew_92 (lv_at hl 1 rfl) ?_
          refine zg_iload C dX1_findNew_94 (lv_at hl 0 rfl) ?_
          refine zg_aload C dX1_findNew_96 (lv_at hl 8 rfl) ?_
          refine zg_get (j := 0) C X hP (hkS_20 hr) (lyS_20 hr) rfl (zmem uwX2) (by decide) (C.tb flX1_50) (fun _ h9 => h9) rfl dX1_findNew_98 ?_
          have b_51 := rgS_20_0 hR46 hr
          refine zg_aload C dX1_findNew_101 (lv_at hl 8 rfl) ?_
          have b_w : σ42 (21 + 6 * r) r = τ (21 + 6 * r) r := by rw [q44]; exact congrFun (zu_ne (by omega)) _
          refine zg_callV C X hP hS (kX2_nextNumber l σ42 hR46 r hr) (cwV 0 C.ts (zgV mlX1_54 imX2_nextNumber slX2_nextNumber iniX2 cdX2_nextNumber) rfl rfl rfl (by decide +kernel) ⟨Nat.le_of_ble_eq_true rfl, Nat.le_of_ble_eq_true rfl⟩) (hkS_20 hr) (lyS_20 hr) rfl rfl rfl hl.1 rfl (Nat.le_of_ble_eq_true rfl) dX1_findNew_103 ⟨Nat.zero_le _, Nat.zero_le _⟩ (fun r_53 σ52 H locs q54 hP hS => ?_)
          obtain ⟨rfl, q54⟩ := q54
          rw [q54] at hP
          refine zg_callS C X hP hS (kX1_makeLevel l σ42 hR46 (kLastD k (kDigit (kLevel τ be k)) (kDigit (kLevel τ b k)) (kCoin τ r)) (σ42 (20 + 6 * r) 0) (σ42 (21 + 6 * r) r + 1) (by omega) (by omega) (by omega) (by omega) (by omega) (by omega)) (cwS 3 C.ts (zgS mlX1_57 stX1_makeLevel iniX1 cdX1_makeLevel) rfl rfl rfl (by decide +kernel) ⟨Nat.le_of_ble_eq_true rfl, Nat.le_of_ble_eq_true rfl⟩) rfl hl.1 rfl (Nat.le_of_ble_eq_true rfl) dX1_findNew_106 ⟨Nat.zero_le _, Nat.zero_le _⟩ (fun r_56 σ55 H locs q57 hP hS => ?_)
          obtain ⟨rfl, q57⟩ := q57
          have b_58 := kMake_rg (d := (kLastD k (kDigit (kLevel τ be k)) (kDigit (kLevel τ b k)) (kCoin τ r))) (q := (σ42 (20 + 6 * r) 0)) (n := (σ42 (21 + 6 * r) r + 1)) (by omega) (by omega) (by omega) (by omega) (by omega) (by omega)
          rw [q57] at hP
          refine zg_iast (t0 := 0) C X hP hS (by decide) (fun x => lyS_12) rfl (by decide) (by omega) (by omega) dX1_findNew_109 (fun H locs hP hS => ?_)
          obtain ⟨σ59, e60⟩ : ∃ z_ : Zt, z_ = zu σ42 12 (((fr * 12) + k) - 1).toNat (kMake (kLastD k (kDigit (kLevel τ be k)) (kDigit (kLevel τ b k)) (kCoin τ r)) (σ42 (20 + 6 * r) 0) (σ42 (21 + 6 * r) r + 1)) := ⟨_, rfl⟩
          rw [← e60] at hP
          have w_62 : σ59 12 (((fr * 12) + k) - 1).toNat = kMake (kLastD k (kDigit (kLevel τ be k)) (kDigit (kLevel τ b k)) (kCoin τ r)) (σ42 (20 + 6 * r) 0) (σ42 (21 + 6 * r) r + 1) := by rw [e60]; exact zu_same _ _ _ _
          have hR61 : rgS σ59 := by rw [e60]; exact rzS_12 hR46 (by omega) (by omega)
          refine zg_aload_n C dX1_findNew_110 rfl (lv_at hl 4 rfl) ?_
          refine zg_get (j := 1) C X hP (by decide) lyS_11 rfl (zmem uwX1) (by decide) (C.tb flX1_15) (fun _ h9 => h9) rfl dX1_findNew_111 ?_
          refine zg_iload_n C dX1_findNew_114 rfl (lv_at hl 5 rfl) ?_
          refine zg_iload C dX1_findNew_115 (lv_at hl 10 rfl) ?_
          refine zg_iast (t0 := 0) C X hP hS (by decide) (fun x => lyS_13) rfl (by decide) (by omega) (by omega) dX1_findNew_117 (fun H locs hP hS => ?_)
          obtain ⟨σ63, e64⟩ : ∃ z_ : Zt, z_ = zu σ59 13 (fr).toNat k := ⟨_, rfl⟩
          rw [← e64] at hP
          have w_66 : σ63 13 (fr).toNat = k := by rw [e64]; exact zu_same _ _ _ _
          have hR65 : rgS σ63 := by rw [e64]; exact rzS_13 hR61 (by omega) (by omega)
          refine zg_iconst C dX1_findNew_118 ?_
          refine zg_zret (b := true) C hP hS dX1_findNew_119 ?_
          subst q44 e60 e64
          have h7 : kCoinS τ r (20 + 6 * r) 0 = (r : Int) := by have := rgS_20_0 (kCoinS_rg hτ hr) hr; omega
          have h8 : kCoinS τ r (21 + 6 * r) = τ (21 + 6 * r) := zu_ne (by omega)
          have h9 := kFind_hit (r := r) (fr := fr) (be := be) (b := b) (k := k) (τ := τ) (by omega) (by rw [hh]; omega)
          rw [hh] at h9
          exact ⟨congrArg (fun b => jI (bI b)) (by rw [hE, h9]), by rw [hE, h9, h7, h8]⟩
      · refine zg_iload C dX1_findNew_31 (lv_at hl 7 rfl) ?_
        refine zg_callS C X hP hS (kX1_baseOf l τ hτ k (by omega) (by omega)) (cwS 1 C.ts (zgS mlX1_37 stX1_baseOf iniX1 cdX1_baseOf) rfl rfl rfl (by decide +kernel) ⟨Nat.le_of_ble_eq_true rfl, Nat.le_of_ble_eq_true rfl⟩) rfl hl.1 rfl (Nat.le_of_ble_eq_true rfl) dX1_findNew_33 ⟨Nat.zero_le _, Nat.zero_le _⟩ (fun r_68 σ67 H locs q69 hP hS => ?_)
        obtain ⟨rfl, q69⟩ := q69
        have b_70 := kBase_rg (k := k) (by omega) (by omega)
        rw [q69] at hP
        refine zg_goto (tgt := 50) C dX1_findNew_36 (by decide) ?_
        refine zg_istore (lv' := [(8, .int (jI (kBase k))), (7, .int (jI (kDigit (kLevel τ be k)))), (0, .ref (a 11)), (1, .int (jI fr)), (2, .int (jI be)), (3, .int (jI bh)), (4, .ref (a (20 + 6 * r))), (5, .int (jI b)), (6, .int (jI k))]) C dX1_findNew_50 hl (by decide) rfl (fun ls hl => ?_)
        refine zg_iload_n C dX1_findNew_52 rfl (lv_at hl 3 rfl) ?_
        refine zg_bipush C dX1_findNew_53 (by decide) ?_
        refine zg_imul C dX1_findNew_55 ?_
        refine zg_iload C dX1_findNew_56 (lv_at hl 8 rfl) ?_
        refine zg_iadd C dX1_findNew_58 ?_
        refine zg_iconst C dX1_findNew_59 ?_
        refine zg_isub C dX1_findNew_60 ?_
        refine zg_istore (lv' := [(9, .int (jI (((fr * 12) + k) - 1))), (8, .int (jI (kBase k))), (7, .int (jI (kDigit (kLevel τ be k)))), (0, .ref (a 11)), (1, .int (jI fr)), (2, .int (jI be)), (3, .int (jI bh)), (4, .ref (a (20 + 6 * r))), (5, .int (jI b)), (6, .int (jI k))]) C dX1_findNew_61 hl (by decide) rfl (fun ls hl => ?_)
        refine zg_iload C dX1_findNew_63 (lv_at hl 1 rfl) ?_
        refine zg_iload C dX1_findNew_65 (lv_at hl 2 rfl) ?_
        refine zg_isub C dX1_findNew_67 ?_
        refine zg_iconst C dX1_findNew_68 ?_
        refine zg_icmp_le (tgt := 120) C (by omega) (by omega) (by omega) (by omega) dX1_findNew_69 (by decide) (fun c_71 => ?_) (fun c_71 => ?_)
        · first | have hh := kHigh_no (σ := τ) (k := k) (b := b) (by assumption) | have hh := kHigh_b (σ := τ) (k := k) (b := b) (by assumption)
          refine zg_aload_n C dX1_findNew_120 rfl (lv_at hl 3 rfl) ?_
          refine zg_get (j := 0) C X hP (by decide) lyS_11 rfl (zmem uwX1) (by decide) (C.tb flX1_9) (fun _ h9 => h9) rfl dX1_findNew_121 ?_
          refine zg_iload C dX1_findNew_124 (lv_at hl 0 rfl) ?_
          refine zg_aload_n C dX1_findNew_126 rfl (lv_at hl 3 rfl) ?_
          refine zg_iload_n C dX1_findNew_127 rfl (lv_at hl 5 rfl) ?_
          refine zg_iload C dX1_findNew_128 (lv_at hl 9 rfl) ?_
          refine zg_callV C X hP hS (kX1_levelOf l τ hτ be k (by omega) (by omega) (by omega) (by omega)) (cwV 2 C.ts (zgV mlX1_30 imX1_levelOf slX1_levelOf iniX1 cdX1_levelOf) rfl rfl rfl (by decide +kernel) ⟨Nat.le_of_ble_eq_true rfl, Nat.le_of_ble_eq_true rfl⟩) (by decide) lyS_11 rfl rfl rfl hl.1 rfl (Nat.le_of_ble_eq_true rfl) dX1_findNew_130 ⟨Nat.zero_le _, Nat.zero_le _⟩ (fun r_73 σ72 H locs q74 hP hS => ?_)
          obtain ⟨rfl, q74⟩ := q74
          have b_75 := kLevel_rg hτ be k
          rw [q74] at hP
          refine zg_aload_n C dX1_findNew_133 rfl (lv_at hl 3 rfl) ?_
          refine zg_iload C dX1_findNew_134 (lv_at hl 8 rfl) ?_
          refine zg_iload C dX1_findNew_136 (lv_at hl 9 rfl) ?_
          refine zg_callV C X hP hS (kX1_levelOf l τ hτ b k (by omega) (by omega) (by omega) (by omega)) (cwV 2 C.ts (zgV mlX1_30 imX1_levelOf slX1_levelOf iniX1 cdX1_levelOf) rfl rfl rfl (by decide +kernel) ⟨Nat.le_of_ble_eq_true rfl, Nat.le_of_ble_eq_true rfl⟩) (by decide) lyS_11 rfl rfl rfl hl.1 rfl (Nat.le_of_ble_eq_true rfl) dX1_findNew_138 ⟨Nat.zero_le _, Nat.zero_le _⟩ (fun r_77 σ76 H locs q78 hP hS => ?_)
          obtain ⟨rfl, q78⟩ := q78
          have b_79 := kLevel_rg hτ b k
          rw [q78] at hP
          refine zg_aload C dX1_findNew_141 (lv_at hl 7 rfl) ?_
          refine zg_callS C X hP hS (kX1_innerLevel l τ hτ r hr (kLevel τ be k) (kLevel τ b k) (by omega) (by omega) (by omega) (by omega) (by omega)) (cwS 3 C.ts (zgS mlX1_61 stX1_innerLevel iniX1 cdX1_innerLevel) rfl rfl rfl (by decide +kernel) ⟨Nat.le_of_ble_eq_true rfl, Nat.le_of_ble_eq_true rfl⟩) rfl hl.1 rfl (Nat.le_of_ble_eq_true rfl) dX1_findNew_143 ⟨Nat.zero_le _, Nat.zero_le _⟩ (fun r_81 σ80 H locs q82 hP hS => ?_)
          obtain ⟨rfl, q82⟩ := q82
          have b_83 := kInner_rg (x := (kLevel τ be k)) (y := (kLevel τ b k)) (r := r) (n := τ (21 + 6 * r) r + 1) (by omega) (by omega) (by omega) (by omega) (by omega) (by have := rgS_21 hτ (r := r) (by omega) r; omega) (by omega)
          rw [q82] at hP
          refine zg_iast (t0 := 0) C X hP hS (by decide) (fun x => lyS_12) rfl (by decide) (by omega) (by omega) dX1_findNew_146 (fun H locs hP hS => ?_)
          obtain ⟨σ84, e85⟩ : ∃ z_ : Zt, z_ = zu τ 12 (((fr * 12) + k) - 1).toNat (kInner (kLevel τ be k) (kLevel τ b k) r (τ (21 + 6 * r) r + 1)) := ⟨_, rfl⟩
          rw [← e85] at hP
          have w_87 : σ84 12 (((fr * 12) + k) - 1).toNat = kInner (kLevel τ be k) (kLevel τ b k) r (τ (21 + 6 * r) r + 1) := by rw [e85]; exact zu_same _ _ _ _
          have hR86 : rgS σ84 := by rw [e85]; exact rzS_12 hτ (by omega) (by omega)
          refine zg_aload_n C dX1_findNew_147 rfl (lv_at hl 3 rfl) ?_
          refine zg_iload C dX1_findNew_148 (lv_at hl 8 rfl) ?_
          refine zg_iload C dX1_findNew_150 (lv_at hl 9 rfl) ?_
          refine zg_callV C X hP hS (kX1_levelOf l σ84 hR86 b k (by omega) (by omega) (by omega) (by omega)) (cwV 2 C.ts (zgV mlX1_30 imX1_levelOf slX1_levelOf iniX1 cdX1_levelOf) rfl rfl rfl (by decide +kernel) ⟨Nat.le_of_ble_eq_true rfl, Nat.le_of_ble_eq_true rfl⟩) (by decide) lyS_11 rfl rfl rfl hl.1 rfl (Nat.le_of_ble_eq_true rfl) dX1_findNew_152 ⟨Nat.zero_le _, Nat.zero_le _⟩ (fun r_89 σ88 H locs q90 hP hS => ?_)
          obtain ⟨rfl, q90⟩ := q90
          have b_91 := kLevel_rg hR86 b k
          rw [q90] at hP
          refine zg_aload_n C dX1_findNew_155 rfl (lv_at hl 3 rfl) ?_
          refine zg_get (j := 0) C X hP (by decide) lyS_11 rfl (zmem uwX1) (by decide) (C.tb flX1_9) (fun _ h9 => h9) rfl dX1_findNew_156 ?_
          refine zg_iload C dX1_findNew_159 (lv_at hl 0 rfl) ?_
          refine zg_iald (t0 := 0) C X hP (by decide) lyS_12 rfl (by decide) (by omega) (by omega) dX1_findNew_161 ?_
          have b_92 := rgS_12 hR86 ((((fr * 12) + k) - 1).toNat)
          refine zg_icmp_eq (tgt := 168) C (by omega) (by omega) (by omega) (by omega) dX1_findNew_162 (by decide) (fun c_93 => ?_) (fun c_93 => ?_)
          · refine zg_iinc (k := 9) (lv' := [(6, .int (jI (k + 1))), (9, .int (jI (((fr * 12) + k) - 1))), (8, .int (jI (kBase k))), (7, .int (jI (kDigit (kLevel τ be k)))), (0, .ref (a 11)), (1, .int (jI fr)), (2, .int (jI be)), (3, .int (jI bh)), (4, .ref (a (20 + 6 * r))), (5, .int (jI b))]) C dX1_findNew_168 hl rfl (by decide) rfl (fun ls hl => ?_)
            refine zg_goto (tgt := 6) C dX1_findNew_171 (by decide) ?_
            exact ih b (k + 1) σ84 _ _ _ (by omega) (by assumption) (by omega) (by omega) (by omega) (by omega) (by subst e85; rw [zu_ne (show 21 + 6 * r ≠ 12 by omega)]; exact hd) (by subst e85; first | exact hE.trans (kFind_keep (by omega) (by rw [hh]; omega) (by assumption)) | exact hE.trans (kFind_free (by omega) (by rw [hh]; omega) (by assumption))) hP hS (lv_sub hl [4, 5, 6, 7, 8, 9, 0] rfl)
          · refine zg_iconst C dX1_findNew_165 ?_
            refine zg_istore (lv' := [(5, .int (jI (-1))), (9, .int (jI (((fr * 12) + k) - 1))), (8, .int (jI (kBase k))), (7, .int (jI (kDigit (kLevel τ be k)))), (0, .ref (a 11)), (1, .int (jI fr)), (2, .int (jI be)), (3, .int (jI bh)), (4, .ref (a (20 + 6 * r))), (6, .int (jI k))]) C dX1_findNew_166 hl (by decide) rfl (fun ls hl => ?_)
            refine zg_iinc (k := 9) (lv' := [(6, .int (jI (k + 1))), (5, .int (jI (-1))), (9, .int (jI (((fr * 12) + k) - 1))), (8, .int (jI (kBase k))), (7, .int (jI (kDigit (kLevel τ be k)))), (0, .ref (a 11)), (1, .int (jI fr)), (2, .int (jI be)), (3, .int (jI bh)), (4, .ref (a (20 + 6 * r)))]) C dX1_findNew_168 hl rfl (by decide) rfl (fun ls hl => ?_)
            refine zg_goto (tgt := 6) C dX1_findNew_171 (by decide) ?_
            exact ih (-1) (k + 1) σ84 _ _ _ (by omega) (by assumption) (by omega) (by omega) (by omega) (by omega) (by subst e85; rw [zu_ne (show 21 + 6 * r ≠ 12 by omega)]; exact hd) (by subst e85; first | exact hE.trans (kFind_keep (by omega) (by rw [hh]; omega) (by assumption)) | exact hE.trans (kFind_free (by omega) (by rw [hh]; omega) (by assumption))) hP hS (lv_sub hl [5, 6, 7, 8, 9, 1, 0] rfl)
        · refine zg_iload C dX1_findNew_72 (lv_at hl 9 rfl) ?_
          refine zg_iload C dX1_findNew_74 (lv_at hl 2 rfl) ?_
          refine zg_iload C dX1_findNew_76 (lv_at hl 1 rfl) ?_
          refine zg_aload C dX1_findNew_78 (lv_at hl 7 rfl) ?_
          first | have hh := kHigh_no (σ := τ) (k := k) (b := b) (by assumption) | have hh := kHigh_b (σ := τ) (k := k) (b := b) (by assumption)
          refine zg_callV C X hP hS (kX2_throwCoin l τ hτ r hr) (cwV 0 C.ts (zgV mlX1_40 imX2_throwCoin slX2_throwCoin iniX2 cdX2_throwCoin) rfl rfl rfl (by decide +kernel) ⟨Nat.le_of_ble_eq_true rfl, Nat.le_of_ble_eq_true rfl⟩) (hkS_20 hr) (lyS_20 hr) rfl rfl rfl hl.1 rfl (Nat.le_of_ble_eq_true rfl) dX1_findNew_80 ⟨Nat.zero_le _, Nat.zero_le _⟩ (fun r_95 σ94 H locs q96 hP hS => ?_)
          obtain ⟨rfl, q96⟩ := q96
          have b_97 := kCoin_rg τ r
          have hR98 : rgS σ94 := by rw [q96]; exact rzS_20_3 hτ (by omega)
          refine zg_callS C X hP hS (kX1_lastDigit l σ94 hR98 k (kDigit (kLevel τ be k)) (kBase k) (kCoin τ r) (by omega) (by omega) (by omega) (by omega) (by omega) (by omega) (by omega)) (cwS 4 C.ts (zgS mlX1_46 stX1_lastDigit iniX1 cdX1_lastDigit) rfl rfl rfl (by decide +kernel) ⟨Nat.le_of_ble_eq_true rfl, Nat.le_of_ble_eq_true rfl⟩) rfl hl.1 rfl (Nat.le_of_ble_eq_true rfl) dX1_findNew_83 ⟨Nat.zero_le _, Nat.zero_le _⟩ (fun r_100 σ99 H locs q101 hP hS => ?_)
          obtain ⟨rfl, q101⟩ := q101
          have b_102 := kLastD_rg (k := k) (lo := (kDigit (kLevel τ be k))) (hi := (kBase k)) (co := (kCoin τ r)) (by omega) (by omega) (by omega) (by omega)
          rw [q101] at hP
          refine zg_istore (lv' := [(10, .int (jI (kLastD k (kDigit (kLevel τ be k)) (kBase k) (kCoin τ r)))), (9, .int (jI (((fr * 12) + k) - 1))), (8, .int (jI (kBase k))), (7, .int (jI (kDigit (kLevel τ be k)))), (0, .ref (a 11)), (1, .int (jI fr)), (2, .int (jI be)), (3, .int (jI bh)), (4, .ref (a (20 + 6 * r))), (5, .int (jI b)), (6, .int (jI k))]) C dX1_findNew_86 hl (by decide) rfl (fun ls hl => ?_)
          refine zg_aload_n C dX1_findNew_88 rfl (lv_at hl 4 rfl) ?_
          refine zg_get (j := 0) C X hP (by decide) lyS_11 rfl (zmem uwX1) (by decide) (C.tb flX1_9) (fun _ h9 => h9) rfl dX1_findNew_89 ?_
          refine zg_iload C dX1_findNew_92 (lv_at hl 1 rfl) ?_
          refine zg_iload C dX1_findNew_94 (lv_at hl 0 rfl) ?_
          refine zg_aload C dX1_findNew_96 (lv_at hl 8 rfl) ?_
          refine zg_get (j := 0) C X hP (hkS_20 hr) (lyS_20 hr) rfl (zmem uwX2) (by decide) (C.tb flX1_50) (fun _ h9 => h9) rfl dX1_findNew_98 ?_
          have b_103 := rgS_20_0 hR98 hr
          refine zg_aload C dX1_findNew_101 (lv_at hl 8 rfl) ?_
          have b_w : σ94 (21 + 6 * r) r = τ (21 + 6 * r) r := by rw [q96]; exact congrFun (zu_ne (by omega)) _
          refine zg_callV C X hP hS (kX2_nextNumber l σ94 hR98 r hr) (cwV 0 C.ts (zgV mlX1_54 imX2_nextNumber slX2_nextNumber iniX2 cdX2_nextNumber) rfl rfl rfl (by decide +kernel) ⟨Nat.le_of_ble_eq_true rfl, Nat.le_of_ble_eq_true rfl⟩) (hkS_20 hr) (lyS_20 hr) rfl rfl rfl hl.1 rfl (Nat.le_of_ble_eq_true rfl) dX1_findNew_103 ⟨Nat.zero_le _, Nat.zero_le _⟩ (fun r_105 σ104 H locs q106 hP hS => ?_)
          obtain ⟨rfl, q106⟩ := q106
          rw [q106] at hP
          refine zg_callS C X hP hS (kX1_makeLevel l σ94 hR98 (kLastD k (kDigit (kLevel τ be k)) (kBase k) (kCoin τ r)) (σ94 (20 + 6 * r) 0) (σ94 (21 + 6 * r) r + 1) (by omega) (by omega) (by omega) (by omega) (by omega) (by omega)) (cwS 3 C.ts (zgS mlX1_57 stX1_makeLevel iniX1 cdX1_makeLevel) rfl rfl rfl (by decide +kernel) ⟨Nat.le_of_ble_eq_true rfl, Nat.le_of_ble_eq_true rfl⟩) rfl hl.1 rfl (Nat.le_of_ble_eq_true rfl) dX1_findNew_106 ⟨Nat.zero_le _, Nat.zero_le _⟩ (fun r_108 σ107 H locs q109 hP hS => ?_)
          obtain ⟨rfl, q109⟩ := q109
          have b_110 := kMake_rg (d := (kLastD k (kDigit (kLevel τ be k)) (kBase k) (kCoin τ r))) (q := (σ94 (20 + 6 * r) 0)) (n := (σ94 (21 + 6 * r) r + 1)) (by omega) (by omega) (by omega) (by omega) (by omega) (by omega)
          rw [q109] at hP
          refine zg_iast (t0 := 0) C X hP hS (by decide) (fun x => lyS_12) rfl (by decide) (by omega) (by omega) dX1_findNew_109 (fun H locs hP hS => ?_)
          obtain ⟨σ111, e112⟩ : ∃ z_ : Zt, z_ = zu σ94 12 (((fr * 12) + k) - 1).toNat (kMake (kLastD k (kDigit (kLevel τ be k)) (kBase k) (kCoin τ r)) (σ94 (20 + 6 * r) 0) (σ94 (21 + 6 * r) r + 1)) := ⟨_, rfl⟩
          rw [← e112] at hP
          have w_114 : σ111 12 (((fr * 12) + k) - 1).toNat = kMake (kLastD k (kDigit (kLevel τ be k)) (kBase k) (kCoin τ r)) (σ94 (20 + 6 * r) 0) (σ94 (21 + 6 * r) r + 1) := by rw [e112]; exact zu_same _ _ _ _
          have hR113 : rgS σ111 := by rw [e112]; exact rzS_12 hR98 (by omega) (by omega)
          refine zg_aload_n C dX1_findNew_110 rfl (lv_at hl 4 rfl) ?_
          refine zg_get (j := 1) C X hP (by decide) lyS_11 rfl (zmem uwX1) (by decide) (C.tb flX1_15) (fun _ h9 => h9) rfl dX1_findNew_111 ?_
          refine zg_iload_n C dX1_findNew_114 rfl (lv_at hl 5 rfl) ?_
          refine zg_iload C dX1_findNew_115 (lv_at hl 10 rfl) ?_
          refine zg_iast (t0 := 0) C X hP hS (by decide) (fun x => lyS_13) rfl (by decide) (by omega) (by omega) dX1_findNew_117 (fun H locs hP hS => ?_)
          obtain ⟨σ115, e116⟩ : ∃ z_ : Zt, z_ = zu σ111 13 (fr).toNat k := ⟨_, rfl⟩
          rw [← e116] at hP
          have w_118 : σ115 13 (fr).toNat = k := by rw [e116]; exact zu_same _ _ _ _
          have hR117 : rgS σ115 := by rw [e116]; exact rzS_13 hR113 (by omega) (by omega)
          refine zg_iconst C dX1_findNew_118 ?_
          refine zg_zret (b := true) C hP hS dX1_findNew_119 ?_
          subst q96 e112 e116
          have h7 : kCoinS τ r (20 + 6 * r) 0 = (r : Int) := by have := rgS_20_0 (kCoinS_rg hτ hr) hr; omega
          have h8 : kCoinS τ r (21 + 6 * r) = τ (21 + 6 * r) := zu_ne (by omega)
          have h9 := kFind_hit (r := r) (fr := fr) (be := be) (b := b) (k := k) (τ := τ) (by omega) (by rw [hh]; omega)
          rw [hh] at h9
          exact ⟨congrArg (fun b => jI (bI b)) (by rw [hE, h9]), by rw [hE, h9, h7, h8]⟩
set_option maxHeartbeats 4000000 in
set_option maxRecDepth 100000 in
theorem kX1_findNew (l : Launch) {D : va_G} {a : Nat → Nat} {cI cZ cR : ClassId} (σ : Zt) (hR : rgS σ) (r : Nat) (hr : r < 6) (fr : Int) (be : Int) (bh : Int) (fr0 : 0 ≤ fr) (fr1 : fr < 400) (be0 : -1 ≤ be) (be1 : be < 400) (bh0 : -1 ≤ bh) (bh1 : bh < 400) (dn : σ (21 + 6 * r) r < 400) : zc l D vwCl (tyS cI cZ cR) 56 (layS cI cZ cR a) a yX1_findNew wsX1_findNew ({ frames := 2, cells := 0, slots := 0, locals := 45 }) [.ref (a 11), .int (jI fr), .int (jI be), .int (jI bh), .ref (a (20 + 6 * r))] σ (fun r_ u_ => r_ = jI (bI ((kFind r fr be 12 1 bh σ).1)) ∧ u_ = (kFind r fr be 12 1 bh σ).2) := by
  refine zc_of (cc := cX1_findNew) (maxL := 11) (ret := some .boolean) (own := RX1) (by decide) rfl rfl (Nat.le_of_ble_eq_true rfl) rfl ?_
  intro p e s m below meth c A ls C X hP hS hl
  refine zg_iload_n C dX1_findNew_0 rfl (lv_at hl 3 rfl) ?_
  refine zg_istore (lv' := [(5, .int (jI bh)), (0, .ref (a 11)), (1, .int (jI fr)), (2, .int (jI be)), (3, .int (jI bh)), (4, .ref (a (20 + 6 * r)))]) C dX1_findNew_1 hl (by decide) rfl (fun ls hl => ?_)
  refine zg_iconst C dX1_findNew_3 ?_
  refine zg_istore (lv' := [(6, .int (jI 1)), (5, .int (jI bh)), (0, .ref (a 11)), (1, .int (jI fr)), (2, .int (jI be)), (3, .int (jI bh)), (4, .ref (a (20 + 6 * r)))]) C dX1_findNew_4 hl (by decide) rfl (fun ls hl => ?_)
  exact lpX1_findNew_6 σ hR r hr fr be bh fr0 fr1 be0 be1 bh0 bh1 dn C X 14 bh 1 σ _ _ _ (by omega) hR (by omega) (by omega) (by omega) (by omega) dn rfl hP hS (lv_sub hl [2, 3, 4, 5, 6, 1, 0] rfl)
set_option maxHeartbeats 4000000 in
set_option maxRecDepth 100000 in
theorem lpX1_insert_52 {l : Launch} {D : va_G} {a : Nat → Nat} {cI cZ cR : ClassId} {p : Program} {e : Env} {s : State} {m : MethodId} {below : List Frame} {meth : Method} {c : Code} {A : Nat → Prop} (σ : Zt) (hR : rgS σ) (fr : Int) (be : Int) (fr0 : 0 ≤ fr) (fr1 : fr < 400) (be0 : -1 ≤ be) (be1 : be < 400) (pp : σ 11 4 < 400) (bk : be = -1 ∨ σ 15 be.toNat < σ 11 4)  (C : zk p s m ([.ref (a 11), .int (jI fr), .int (jI be)] : List Value).toArray meth c cX1_insert 5 (none) wsX1_insert RX1) (X : zx D vwCl (tyS cI cZ cR) A a 56 s) :
    ∀ (n : Nat) (g i : Int) (τ : Zt) (H : Heap) (locs : List Loc) (ls : Array Slot), (i.toNat < n) → (rgS τ) → (0 ≤ g) → (g ≤ i) → (i < 400) → (g = kGoalOf σ fr be) → (τ 11 4 = σ 11 4) → (kShift (σ 11 4 - g).toNat (σ 11 4) σ = kShift (i - g).toNat i τ) → va_P D vwCl (zw 56 (layS cI cZ cR a) a τ) H → va_S A s.heap H locs → lv_has ls 5 [(0, .ref (a 11)), (1, .int (jI fr)), (2, .int (jI be)), (3, .int (jI g)), (4, .int (jI i))] →
      W p l e ({ frames := 2, cells := 0, slots := 0, locals := 47 }) s m ([.ref (a 11), .int (jI fr), .int (jI be)] : List Value).toArray below meth c H locs 0 0 (MQ below (va_Qv (fun u_ => u_ = kInsert σ fr be) (fun (u : Zt) t => va_P D vwCl (zw 56 (layS cI cZ cR a) a u) t.heap) A) ([.ref (a 11), .int (jI fr), .int (jI be)] : List Value).toArray s 0 0 A) (F0 m 52 ls []) := by
  intro n
  induction n with
  | zero =>
    intro g i τ H locs ls hn hτ g0 gi i1 hg ht hE hP hS hl
    exact absurd hn (by omega)
  | succ n ih =>
    intro g i τ H locs ls hn hτ g0 gi i1 hg ht hE hP hS hl
    refine zg_iload C dX1_insert_52 (lv_at hl 4 rfl) ?_
    refine zg_iload_n C dX1_insert_54 rfl (lv_at hl 3 rfl) ?_
    refine zg_icmp_le (tgt := 94) C (by omega) (by omega) (by omega) (by omega) dX1_insert_55 (by decide) (fun c_1 => ?_) (fun c_1 => ?_)
    · refine zg_aload_n C dX1_insert_94 rfl (lv_at hl 0 rfl) ?_
      refine zg_get (j := 2) C X hP (by decide) lyS_11 rfl (zmem uwX1) (by decide) (C.tb flX1_18) (fun _ h9 => h9) rfl dX1_insert_95 ?_
      refine zg_iload_n C dX1_insert_98 rfl (lv_at hl 3 rfl) ?_
      refine zg_iload_n C dX1_insert_99 rfl (lv_at hl 1 rfl) ?_
      refine zg_iast (t0 := 0) C X hP hS (by decide) (fun x => lyS_14) rfl (by decide) (by omega) (by omega) dX1_insert_100 (fun H locs hP hS => ?_)
      obtain ⟨σ2, e3⟩ : ∃ z_ : Zt, z_ = zu τ 14 (g).toNat fr := ⟨_, rfl⟩
      rw [← e3] at hP
      have w_5 : σ2 14 (g).toNat = fr := by rw [e3]; exact zu_same _ _ _ _
      have w_6 : σ2 11 4 = τ 11 4 := by rw [e3]; first | exact congrFun (zu_ne (by omega)) _ | exact zu_nj (by omega)
      have hR4 : rgS σ2 := by rw [e3]; exact rzS_14 hτ (by omega) (by omega)
      refine zg_aload_n C dX1_insert_101 rfl (lv_at hl 0 rfl) ?_
      refine zg_get (j := 3) C X hP (by decide) lyS_11 rfl (zmem uwX1) (by decide) (C.tb flX1_21) (fun _ h9 => h9) rfl dX1_insert_102 ?_
      refine zg_iload_n C dX1_insert_105 rfl (lv_at hl 1 rfl) ?_
      refine zg_iload_n C dX1_insert_106 rfl (lv_at hl 3 rfl) ?_
      refine zg_iast (t0 := 0) C X hP hS (by decide) (fun x => lyS_15) rfl (by decide) (by omega) (by omega) dX1_insert_107 (fun H locs hP hS => ?_)
      obtain ⟨σ7, e8⟩ : ∃ z_ : Zt, z_ = zu σ2 15 (fr).toNat g := ⟨_, rfl⟩
      rw [← e8] at hP
      have w_10 : σ7 15 (fr).toNat = g := by rw [e8]; exact zu_same _ _ _ _
      have w_11 : σ7 11 4 = σ2 11 4 := by rw [e8]; first | exact congrFun (zu_ne (by omega)) _ | exact zu_nj (by omega)
      have hR9 : rgS σ7 := by rw [e8]; exact rzS_15 hR4 (by omega) (by omega)
      refine zg_aload_n C dX1_insert_108 rfl (lv_at hl 0 rfl) ?_
      refine zg_dup C dX1_insert_109 rfl ?_
      refine zg_get (j := 4) C X hP (by decide) lyS_11 rfl (zmem uwX1) (by decide) (C.tb flX1_65) (fun _ h9 => h9) rfl dX1_insert_110 ?_
      have b_12 := rgS_11_4 hR9
      refine zg_iconst C dX1_insert_113 ?_
      refine zg_iadd C dX1_insert_114 ?_
      refine zg_put (j := 4) (v := (σ7 11 4) + 1) C X hP hS (by decide) lyS_11 rfl (zmem uwX1) tyX1 tyX1_ok nmX1 (by decide) (C.tb flX1_65) (fun _ h9 => h9) rfl (by decide +kernel) (Nat.le_of_ble_eq_true rfl) (by rw [lyS_11]; rfl) dX1_insert_115 (fun H locs hP hS => ?_)
      obtain ⟨σ13, e14⟩ : ∃ z_ : Zt, z_ = zu σ7 11 4 ((σ7 11 4) + 1) := ⟨_, rfl⟩
      rw [← e14] at hP
      have w_16 : σ13 11 4 = (σ7 11 4) + 1 := by rw [e14]; exact zu_same _ _ _ _
      have hR15 : rgS σ13 := by rw [e14]; exact rzS_11_4 hR9 (by omega) (by omega)
      refine zg_vret C hP hS dX1_insert_118 ?_
      subst e3 e8 e14
      rw [kInsert, ← hg, hE, kShift_end (by omega), ← ht]
      rfl
    · refine zg_aload_n C dX1_insert_58 rfl (lv_at hl 0 rfl) ?_
      refine zg_get (j := 2) C X hP (by decide) lyS_11 rfl (zmem uwX1) (by decide) (C.tb flX1_18) (fun _ h9 => h9) rfl dX1_insert_59 ?_
      refine zg_iload C dX1_insert_62 (lv_at hl 4 rfl) ?_
      refine zg_aload_n C dX1_insert_64 rfl (lv_at hl 0 rfl) ?_
      refine zg_get (j := 2) C X hP (by decide) lyS_11 rfl (zmem uwX1) (by decide) (C.tb flX1_18) (fun _ h9 => h9) rfl dX1_insert_65 ?_
      refine zg_iload C dX1_insert_68 (lv_at hl 4 rfl) ?_
      refine zg_iconst C dX1_insert_70 ?_
      refine zg_isub C dX1_insert_71 ?_
      refine zg_iald (t0 := 0) C X hP (by decide) lyS_14 rfl (by decide) (by omega) (by omega) dX1_insert_72 ?_
      have b_17 := rgS_14 hτ ((i - 1).toNat)
      refine zg_iast (t0 := 0) C X hP hS (by decide) (fun x => lyS_14) rfl (by decide) (by omega) (by omega) dX1_insert_73 (fun H locs hP hS => ?_)
      obtain ⟨σ18, e19⟩ : ∃ z_ : Zt, z_ = zu τ 14 (i).toNat (τ 14 (i - 1).toNat) := ⟨_, rfl⟩
      rw [← e19] at hP
      have w_21 : σ18 14 (i).toNat = τ 14 (i - 1).toNat := by rw [e19]; exact zu_same _ _ _ _
      have w_22 : σ18 11 4 = τ 11 4 := by rw [e19]; first | exact congrFun (zu_ne (by omega)) _ | exact zu_nj (by omega)
      have hR20 : rgS σ18 := by rw [e19]; exact rzS_14 hτ (by omega) (by omega)
      refine zg_aload_n C dX1_insert_74 rfl (lv_at hl 0 rfl) ?_
      refine zg_get (j := 3) C X hP (by decide) lyS_11 rfl (zmem uwX1) (by decide) (C.tb flX1_21) (fun _ h9 => h9) rfl dX1_insert_75 ?_
      refine zg_aload_n C dX1_insert_78 rfl (lv_at hl 0 rfl) ?_
      refine zg_get (j := 2) C X hP (by decide) lyS_11 rfl (zmem uwX1) (by decide) (C.tb flX1_18) (fun _ h9 => h9) rfl dX1_insert_79 ?_
      refine zg_iload C dX1_insert_82 (lv_at hl 4 rfl) ?_
      refine zg_iald (t0 := 0) C X hP (by decide) lyS_14 rfl (by decide) (by omega) (by omega) dX1_insert_84 ?_
      have b_23 := rgS_14 hR20 ((i).toNat)
      refine zg_iload C dX1_insert_85 (lv_at hl 4 rfl) ?_
      refine zg_iast (t0 := 0) C X hP hS (by decide) (fun x => lyS_15) rfl (by decide) (by omega) (by omega) dX1_insert_87 (fun H locs hP hS => ?_)
      obtain ⟨σ24, e25⟩ : ∃ z_ : Zt, z_ = zu σ18 15 (σ18 14 (i).toNat).toNat i := ⟨_, rfl⟩
      rw [← e25] at hP
      have w_27 : σ24 15 (σ18 14 (i).toNat).toNat = i := by rw [e25]; exact zu_same _ _ _ _
      have w_28 : σ24 11 4 = σ18 11 4 := by rw [e25]; first | exact congrFun (zu_ne (by omega)) _ | exact zu_nj (by omega)
      have hR26 : rgS σ24 := by rw [e25]; exact rzS_15 hR20 (by omega) (by omega)
      refine zg_iinc (k := 4) (lv' := [(4, .int (jI (i + -1))), (0, .ref (a 11)), (1, .int (jI fr)), (2, .int (jI be)), (3, .int (jI g))]) C dX1_insert_88 hl rfl (by decide) rfl (fun ls hl => ?_)
      refine zg_goto (tgt := 52) C dX1_insert_91 (by decide) ?_
      exact ih g (i + -1) σ24 _ _ _ (by omega) (by assumption) (by omega) (by omega) (by omega) hg (by omega) (by subst e19 e25; rw [hE, kShift_step (by omega), zu_same]) hP hS (lv_sub hl [1, 2, 3, 4, 0] rfl)
set_option maxHeartbeats 4000000 in
set_option maxRecDepth 100000 in
theorem lpX1_insert_18 {l : Launch} {D : va_G} {a : Nat → Nat} {cI cZ cR : ClassId} {p : Program} {e : Env} {s : State} {m : MethodId} {below : List Frame} {meth : Method} {c : Code} {A : Nat → Prop} (σ : Zt) (hR : rgS σ) (fr : Int) (be : Int) (fr0 : 0 ≤ fr) (fr1 : fr < 400) (be0 : -1 ≤ be) (be1 : be < 400) (pp : σ 11 4 < 400) (bk : be = -1 ∨ σ 15 be.toNat < σ 11 4)  (C : zk p s m ([.ref (a 11), .int (jI fr), .int (jI be)] : List Value).toArray meth c cX1_insert 5 (none) wsX1_insert RX1) (X : zx D vwCl (tyS cI cZ cR) A a 56 s) :
    ∀ (n : Nat) (g : Int) (H : Heap) (locs : List Loc) (ls : Array Slot), ((401 - g).toNat < n) → (0 ≤ g) → (g ≤ σ 11 4) → (kGoalOf σ fr be = kGoal σ fr (σ 11 4 - g).toNat g) → va_P D vwCl (zw 56 (layS cI cZ cR a) a σ) H → va_S A s.heap H locs → lv_has ls 5 [(0, .ref (a 11)), (1, .int (jI fr)), (2, .int (jI be)), (3, .int (jI g))] →
      W p l e ({ frames := 2, cells := 0, slots := 0, locals := 47 }) s m ([.ref (a 11), .int (jI fr), .int (jI be)] : List Value).toArray below meth c H locs 0 0 (MQ below (va_Qv (fun u_ => u_ = kInsert σ fr be) (fun (u : Zt) t => va_P D vwCl (zw 56 (layS cI cZ cR a) a u) t.heap) A) ([.ref (a 11), .int (jI fr), .int (jI be)] : List Value).toArray s 0 0 A) (F0 m 18 ls []) := by
  intro n
  induction n with
  | zero =>
    intro g  H locs ls hn g0 g1 hE hP hS hl
    exact absurd hn (by omega)
  | succ n ih =>
    intro g  H locs ls hn g0 g1 hE hP hS hl
    refine zg_iload_n C dX1_insert_18 rfl (lv_at hl 3 rfl) ?_
    refine zg_aload_n C dX1_insert_19 rfl (lv_at hl 0 rfl) ?_
    refine zg_get (j := 4) C X hP (by decide) lyS_11 rfl (zmem uwX1) (by decide) (C.tb flX1_65) (fun _ h9 => h9) rfl dX1_insert_20 ?_
    have b_29 := rgS_11_4 hR
    refine zg_icmp_ge (tgt := 46) C (by omega) (by omega) (by omega) (by omega) dX1_insert_23 (by decide) (fun c_30 => ?_) (fun c_30 => ?_)
    · refine zg_aload_n C dX1_insert_46 rfl (lv_at hl 0 rfl) ?_
      refine zg_get (j := 4) C X hP (by decide) lyS_11 rfl (zmem uwX1) (by decide) (C.tb flX1_65) (fun _ h9 => h9) rfl dX1_insert_47 ?_
      have b_31 := rgS_11_4 hR
      refine zg_istore (lv' := [(4, .int (jI (σ 11 4))), (0, .ref (a 11)), (1, .int (jI fr)), (2, .int (jI be)), (3, .int (jI g))]) C dX1_insert_50 hl (by decide) rfl (fun ls hl => ?_)
      exact lpX1_insert_52 σ hR fr be fr0 fr1 be0 be1 pp bk C X 401 g (σ 11 4) σ _ _ _ (by omega) hR (by omega) (by omega) (by omega) (by rw [hE]; first | rw [kGoal_end (by omega)] | rw [kGoal_stop (by omega) (by assumption)]) rfl rfl hP hS (lv_sub hl [1, 2, 3, 4, 0] rfl)
    · refine zg_aload_n C dX1_insert_26 rfl (lv_at hl 0 rfl) ?_
      refine zg_aload_n C dX1_insert_27 rfl (lv_at hl 0 rfl) ?_
      refine zg_get (j := 2) C X hP (by decide) lyS_11 rfl (zmem uwX1) (by decide) (C.tb flX1_18) (fun _ h9 => h9) rfl dX1_insert_28 ?_
      refine zg_iload_n C dX1_insert_31 rfl (lv_at hl 3 rfl) ?_
      refine zg_iald (t0 := 0) C X hP (by decide) lyS_14 rfl (by decide) (by omega) (by omega) dX1_insert_32 ?_
      have b_32 := rgS_14 hR ((g).toNat)
      refine zg_iload_n C dX1_insert_33 rfl (lv_at hl 1 rfl) ?_
      refine zg_callV C X hP hS (kX1_isBefore l σ hR (σ 14 (g).toNat) fr (by omega) (by omega) (by omega) (by omega)) (cwV 2 C.ts (zgV mlX1_68 imX1_isBefore slX1_isBefore iniX1 cdX1_isBefore) rfl rfl rfl (by decide +kernel) ⟨Nat.le_of_ble_eq_true rfl, Nat.le_of_ble_eq_true rfl⟩) (by decide) lyS_11 rfl rfl rfl hl.1 rfl (Nat.le_of_ble_eq_true rfl) dX1_insert_34 ⟨Nat.zero_le _, Nat.zero_le _⟩ (fun r_34 σ33 H locs q35 hP hS => ?_)
      obtain ⟨rfl, q35⟩ := q35
      rw [q35] at hP
      refine zg_ifeqB (tgt := 46) C dX1_insert_37 (by decide) (fun c_36 => ?_) (fun c_36 => ?_)
      · refine zg_aload_n C dX1_insert_46 rfl (lv_at hl 0 rfl) ?_
        refine zg_get (j := 4) C X hP (by decide) lyS_11 rfl (zmem uwX1) (by decide) (C.tb flX1_65) (fun _ h9 => h9) rfl dX1_insert_47 ?_
        have b_37 := rgS_11_4 hR
        refine zg_istore (lv' := [(4, .int (jI (σ 11 4))), (0, .ref (a 11)), (1, .int (jI fr)), (2, .int (jI be)), (3, .int (jI g))]) C dX1_insert_50 hl (by decide) rfl (fun ls hl => ?_)
        exact lpX1_insert_52 σ hR fr be fr0 fr1 be0 be1 pp bk C X 401 g (σ 11 4) σ _ _ _ (by omega) hR (by omega) (by omega) (by omega) (by rw [hE]; first | rw [kGoal_end (by omega)] | rw [kGoal_stop (by omega) (by assumption)]) rfl rfl hP hS (lv_sub hl [1, 2, 3, 4, 0] rfl)
      · refine zg_iinc (k := 3) (lv' := [(3, .int (jI (g + 1))), (0, .ref (a 11)), (1, .int (jI fr)), (2, .int (jI be))]) C dX1_insert_40 hl rfl (by decide) rfl (fun ls hl => ?_)
        refine zg_goto (tgt := 18) C dX1_insert_43 (by decide) ?_
        exact ih (g + 1) _ _ _ (by omega) (by omega) (by omega) (hE.trans (kGoal_step (by omega) (by assumption))) hP hS (lv_sub hl [1, 2, 3, 0] rfl)
set_option maxHeartbeats 4000000 in
set_option maxRecDepth 100000 in
theorem kX1_insert (l : Launch) {D : va_G} {a : Nat → Nat} {cI cZ cR : ClassId} (σ : Zt) (hR : rgS σ) (fr : Int) (be : Int) (fr0 : 0 ≤ fr) (fr1 : fr < 400) (be0 : -1 ≤ be) (be1 : be < 400) (pp : σ 11 4 < 400) (bk : be = -1 ∨ σ 15 be.toNat < σ 11 4) : zv l D vwCl (tyS cI cZ cR) 56 (layS cI cZ cR a) a yX1_insert wsX1_insert ({ frames := 2, cells := 0, slots := 0, locals := 47 }) [.ref (a 11), .int (jI fr), .int (jI be)] σ (fun u_ => u_ = kInsert σ fr be) := by
  refine zv_of (cc := cX1_insert) (maxL := 5) (own := RX1) (by decide) rfl rfl (Nat.le_of_ble_eq_true rfl) rfl ?_
  intro p e s m below meth c A ls C X hP hS hl
  have b_0 := rgS_11_4 hR
  refine zg_iload_n C dX1_insert_0 rfl (lv_at hl 2 rfl) ?_
  refine zg_iconst C dX1_insert_1 ?_
  refine zg_icmp_ne (tgt := 9) C (by omega) (by omega) (by omega) (by omega) dX1_insert_2 (by decide) (fun c_38 => ?_) (fun c_38 => ?_)
  · refine zg_aload_n C dX1_insert_9 rfl (lv_at hl 0 rfl) ?_
    refine zg_get (j := 3) C X hP (by decide) lyS_11 rfl (zmem uwX1) (by decide) (C.tb flX1_21) (fun _ h9 => h9) rfl dX1_insert_10 ?_
    refine zg_iload_n C dX1_insert_13 rfl (lv_at hl 2 rfl) ?_
    refine zg_iald (t0 := 0) C X hP (by decide) lyS_15 rfl (by decide) (by omega) (by omega) dX1_insert_14 ?_
    have b_39 := rgS_15 hR ((be).toNat)
    refine zg_iconst C dX1_insert_15 ?_
    refine zg_iadd C dX1_insert_16 ?_
    refine zg_istore_n (lv' := [(3, .int (jI ((σ 15 (be).toNat) + 1))), (0, .ref (a 11)), (1, .int (jI fr)), (2, .int (jI be))]) C dX1_insert_17 rfl hl (by decide) rfl (fun ls hl => ?_)
    exact lpX1_insert_18 σ hR fr be fr0 fr1 be0 be1 pp bk C X 402 ((σ 15 (be).toNat) + 1) _ _ _ (by omega) (by omega) (by omega) (by unfold kGoalOf; first | rw [if_pos (by assumption), Int.sub_zero] | rw [if_neg (by assumption)]) hP hS (lv_sub hl [1, 2, 3, 0] rfl)
  · refine zg_iconst C dX1_insert_5 ?_
    refine zg_goto (tgt := 17) C dX1_insert_6 (by decide) ?_
    refine zg_istore_n (lv' := [(3, .int (jI 0)), (0, .ref (a 11)), (1, .int (jI fr)), (2, .int (jI be))]) C dX1_insert_17 rfl hl (by decide) rfl (fun ls hl => ?_)
    exact lpX1_insert_18 σ hR fr be fr0 fr1 be0 be1 pp bk C X 402 0 _ _ _ (by omega) (by omega) (by omega) (by unfold kGoalOf; first | rw [if_pos (by assumption), Int.sub_zero] | rw [if_neg (by assumption)]) hP hS (lv_sub hl [1, 2, 3, 0] rfl)
end
section
set_option maxHeartbeats 4000000 in
set_option maxRecDepth 100000 in
theorem kX4_putSign (l : Launch) {D : va_G} {a : Nat → Nat} {cI cZ cR : ClassId} (σ : Zt) (hR : rgS σ) (r : Nat) (hr : r < 6) (q : Int) (v : Int) (q0 : -2147483648 ≤ q) (q1 : q < 2147483648) (v0 : 0 ≤ v) (v1 : v < 127) (tm : σ 1 9 ≤ σ 1 10) (pt : σ 11 4 ≤ σ 1 10) (dn : σ (21 + 6 * r) r ≤ σ 1 10) (tr : σ (20 + 6 * r) 4 ≤ σ 1 10) (bk : kBefore σ r q = -1 ∨ σ 15 (kBefore σ r q).toNat < σ 11 4) : zc l D vwCl (tyS cI cZ cR) 56 (layS cI cZ cR a) a yX4_putSign wsX4_putSign ({ frames := 4, cells := 0, slots := 0, locals := 86 }) [.ref (a 0), .ref (a (20 + 6 * r)), .int (jI q), .int (jI v)] σ (fun r_ u_ => r_ = jI (kPutR σ r q) ∧ u_ = kPutS σ r q v) := by
  refine zc_of (cc := cX4_putSign) (maxL := 6) (ret := some .int) (own := RX4) (by decide) rfl rfl (Nat.le_of_ble_eq_true rfl) rfl ?_
  intro p e s m below meth c A ls C X hP hS hl
  refine zg_aload_n C dX4_putSign_0 rfl (lv_at hl 0 rfl) ?_
  refine zg_get (j := 0) C X hP (by decide) lyS_0 rfl (zmem uwX4) (by decide) (C.tb flX4_10) (fun _ h9 => h9) rfl dX4_putSign_1 ?_
  refine zg_callV C X hP hS (kX0_isFull l σ hR) (cwV 0 C.ts (zgV mlX4_61 imX0_isFull slX0_isFull iniX0 cdX0_isFull) rfl rfl rfl (by decide +kernel) ⟨Nat.le_of_ble_eq_true rfl, Nat.le_of_ble_eq_true rfl⟩) (by decide) lyS_1 rfl rfl rfl hl.1 rfl (Nat.le_of_ble_eq_true rfl) dX4_putSign_4 ⟨Nat.zero_le _, Nat.zero_le _⟩ (fun r_2 σ1 H locs q3 hP hS => ?_)
  obtain ⟨rfl, q3⟩ := q3
  rw [q3] at hP
  refine zg_ifeqB (tgt := 13) C dX4_putSign_7 (by decide) (fun c_4 => ?_) (fun c_4 => ?_)
  · have b_5 := kFull_f c_4
    refine zg_aload_n C dX4_putSign_13 rfl (lv_at hl 0 rfl) ?_
    refine zg_get (j := 0) C X hP (by decide) lyS_0 rfl (zmem uwX4) (by decide) (C.tb flX4_10) (fun _ h9 => h9) rfl dX4_putSign_14 ?_
    refine zg_get (j := 10) C X hP (by decide) lyS_1 rfl (zmem uwX0) (by decide) (C.tb flX4_111) (fun _ h9 => h9) rfl dX4_putSign_17 ?_
    have b_6 := rgS_1_10 hR
    refine zg_istore (lv' := [(4, .int (jI (σ 1 10))), (0, .ref (a 0)), (1, .ref (a (20 + 6 * r))), (2, .int (jI q)), (3, .int (jI v))]) C dX4_putSign_20 hl (by decide) rfl (fun ls hl => ?_)
    refine zg_aload_n C dX4_putSign_22 rfl (lv_at hl 2 rfl) ?_
    refine zg_iload_n C dX4_putSign_23 rfl (lv_at hl 3 rfl) ?_
    refine zg_callV C X hP hS (kX2_signBefore l σ hR r hr q (by omega) (by omega)) (cwV 1 C.ts (zgV mlX4_159 imX2_signBefore slX2_signBefore iniX2 cdX2_signBefore) rfl rfl rfl (by decide +kernel) ⟨Nat.le_of_ble_eq_true rfl, Nat.le_of_ble_eq_true rfl⟩) (hkS_20 hr) (lyS_20 hr) rfl rfl rfl hl.1 rfl (Nat.le_of_ble_eq_true rfl) dX4_putSign_24 ⟨Nat.zero_le _, Nat.zero_le _⟩ (fun r_8 σ7 H locs q9 hP hS => ?_)
    obtain ⟨rfl, q9⟩ := q9
    have b_10 := kBefore_rg hR r q
    rw [q9] at hP
    refine zg_istore (lv' := [(5, .int (jI (kBefore σ r q))), (4, .int (jI (σ 1 10))), (0, .ref (a 0)), (1, .ref (a (20 + 6 * r))), (2, .int (jI q)), (3, .int (jI v))]) C dX4_putSign_27 hl (by decide) rfl (fun ls hl => ?_)
    refine zg_aload_n C dX4_putSign_29 rfl (lv_at hl 2 rfl) ?_
    refine zg_get (j := 1) C X hP (by decide) lyS_0 rfl (zmem uwX4) (by decide) (C.tb flX4_19) (fun _ h9 => h9) rfl dX4_putSign_30 ?_
    refine zg_iload C dX4_putSign_33 (lv_at hl 1 rfl) ?_
    refine zg_iload C dX4_putSign_35 (lv_at hl 0 rfl) ?_
    refine zg_aload_n C dX4_putSign_37 rfl (lv_at hl 3 rfl) ?_
    refine zg_iload C dX4_putSign_38 (lv_at hl 0 rfl) ?_
    refine zg_callV C X hP hS (kX2_nextBehind l σ hR r hr (kBefore σ r q) (by omega) (by omega)) (cwV 1 C.ts (zgV mlX4_195 imX2_nextBehind slX2_nextBehind iniX2 cdX2_nextBehind) rfl rfl rfl (by decide +kernel) ⟨Nat.le_of_ble_eq_true rfl, Nat.le_of_ble_eq_true rfl⟩) (hkS_20 hr) (lyS_20 hr) rfl rfl rfl hl.1 rfl (Nat.le_of_ble_eq_true rfl) dX4_putSign_40 ⟨Nat.zero_le _, Nat.zero_le _⟩ (fun r_12 σ11 H locs q13 hP hS => ?_)
    obtain ⟨rfl, q13⟩ := q13
    have b_14 := kBehind_rg hR r (kBefore σ r q)
    rw [q13] at hP
    refine zg_aload_n C dX4_putSign_43 rfl (lv_at hl 3 rfl) ?_
    refine zg_callV C X hP hS (kX1_findNew l σ hR r hr (σ 1 10) (kBefore σ r q) (kBehind σ r (kBefore σ r q)) (by omega) (by omega) (by omega) (by omega) (by omega) (by omega) (by omega)) (cwV 4 C.ts (zgV mlX4_198 imX1_findNew slX1_findNew iniX1 cdX1_findNew) rfl rfl rfl (by decide +kernel) ⟨Nat.le_of_ble_eq_true rfl, Nat.le_of_ble_eq_true rfl⟩) (by decide) lyS_11 rfl rfl rfl hl.1 rfl (Nat.le_of_ble_eq_true rfl) dX4_putSign_44 ⟨Nat.zero_le _, Nat.zero_le _⟩ (fun r_16 σ15 H locs q17 hP hS => ?_)
    obtain ⟨rfl, q17⟩ := q17
    have hR18 : rgS σ15 := by rw [q17]; exact kFind_rg (by omega) (by omega) (by omega) 12 1 _ _ (by omega) (by omega) hR (by omega)
    refine zg_ifneB (tgt := 53) C dX4_putSign_47 (by decide) (fun c_19 => ?_) (fun c_19 => ?_)
    · have w1 : σ15 1 10 = σ 1 10 := by rw [q17]; exact congrFun (kFind_fr (by omega) (by omega) (by omega) _ _ _ _) _
      have w2 : σ15 1 9 = σ 1 9 := by rw [q17]; exact congrFun (kFind_fr (by omega) (by omega) (by omega) _ _ _ _) _
      have w3 : σ15 11 4 = σ 11 4 := by rw [q17]; exact congrFun (kFind_fr (by omega) (by omega) (by omega) _ _ _ _) _
      have w4 : σ15 (21 + 6 * r) r = σ (21 + 6 * r) r := by rw [q17]; exact congrFun (kFind_fr (by omega) (by omega) (by omega) _ _ _ _) _
      have w5 : σ15 (20 + 6 * r) 4 = σ (20 + 6 * r) 4 := by rw [q17]; exact kFind_fr2 (by omega) _ _ _ _
      have w6 : σ15 15 = σ 15 := by rw [q17]; exact kFind_fr (by omega) (by omega) (by omega) _ _ _ _
      refine zg_aload_n C dX4_putSign_53 rfl (lv_at hl 2 rfl) ?_
      refine zg_get (j := 1) C X hP (by decide) lyS_0 rfl (zmem uwX4) (by decide) (C.tb flX4_19) (fun _ h9 => h9) rfl dX4_putSign_54 ?_
      refine zg_iload C dX4_putSign_57 (lv_at hl 1 rfl) ?_
      refine zg_iload C dX4_putSign_59 (lv_at hl 0 rfl) ?_
      refine zg_callVv C X hP hS (kX1_insert l σ15 hR18 (σ 1 10) (kBefore σ r q) (by omega) (by omega) (by omega) (by omega) (by omega) (by rw [w6, w3]; exact bk)) (cwV 2 C.ts (zgV mlX4_202 imX1_insert slX1_insert iniX1 cdX1_insert) rfl rfl rfl (by decide +kernel) ⟨Nat.le_of_ble_eq_true rfl, Nat.le_of_ble_eq_true rfl⟩) (by decide) lyS_11 rfl rfl rfl hl.1 rfl (Nat.le_of_ble_eq_true rfl) dX4_putSign_61 ⟨Nat.zero_le _, Nat.zero_le _⟩ (fun σ20 H locs q22 hP hS => ?_)
      have hR23 : rgS σ20 := by rw [q22]; exact kInsert_rg hR18 (by omega) (by omega) (by omega) (by rw [w6, w3]; exact bk)
      have v1_ : σ20 1 10 = σ 1 10 := by rw [q22]; exact (congrFun (kInsert_fr (by omega) (by omega) (by omega)) _).trans w1
      have v2_ : σ20 1 9 = σ 1 9 := by rw [q22]; exact (congrFun (kInsert_fr (by omega) (by omega) (by omega)) _).trans w2
      have v4_ : σ20 (21 + 6 * r) r = σ (21 + 6 * r) r := by rw [q22]; exact (congrFun (kInsert_fr (by omega) (by omega) (by omega)) _).trans w4
      have v5_ : σ20 (20 + 6 * r) 4 = σ (20 + 6 * r) 4 := by rw [q22]; exact (congrFun (kInsert_fr (by omega) (by omega) (by omega)) _).trans w5
      refine zg_aload_n C dX4_putSign_64 rfl (lv_at hl 2 rfl) ?_
      refine zg_aload_n C dX4_putSign_65 rfl (lv_at hl 3 rfl) ?_
      refine zg_iconst C dX4_putSign_66 ?_
      refine zg_iload_n C dX4_putSign_67 rfl (lv_at hl 5 rfl) ?_
      refine zg_iload C dX4_putSign_68 (lv_at hl 1 rfl) ?_
      refine zg_iload C dX4_putSign_70 (lv_at hl 1 rfl) ?_
      refine zg_callV C X hP hS (kX4_perform l σ20 hR23 r hr 0 v (σ 1 10) (σ 1 10) (by omega) (by omega) (by omega) (by omega) (by omega) (by omega) (by omega) (by omega) (by omega) (by omega) (by omega) (by omega)) (cwV 5 C.ts (zgV mlX4_65 imX4_perform slX4_perform iniX4 cdX4_perform) rfl rfl rfl (by decide +kernel) ⟨Nat.le_of_ble_eq_true rfl, Nat.le_of_ble_eq_true rfl⟩) (by decide) lyS_0 rfl rfl rfl hl.1 rfl (Nat.le_of_ble_eq_true rfl) dX4_putSign_72 ⟨Nat.zero_le _, Nat.zero_le _⟩ (fun r_25 σ24 H locs q26 hP hS => ?_)
      obtain ⟨rfl, q26⟩ := q26
      have hR27 : rgS σ24 := by rw [q26]; exact kPerform_rg hR23 (by omega) (by omega) (by omega) (by omega) (by omega) (by omega) (by omega) (by omega) (by omega) (by omega) (by omega) (by omega) (by omega)
      refine zg_iret C hP hS dX4_putSign_75 ?_
      rw [v1_]
      subst q17 q22 q26
      exact ⟨congrArg jI (by unfold kPutR; rw [if_neg (by grind), if_pos (by unfold kPutF; assumption)]), by unfold kPutS; rw [if_neg (by grind), if_pos (by unfold kPutF; assumption)]; rfl⟩
    · refine zg_bipush C dX4_putSign_50 (by decide) ?_
      refine zg_iret C hP hS dX4_putSign_52 ?_
      subst q17
      exact ⟨congrArg jI (by unfold kPutR; rw [if_neg (by grind), if_neg (by unfold kPutF; grind)]), by unfold kPutS; rw [if_neg (by grind), if_neg (by unfold kPutF; grind)]; rfl⟩
  · refine zg_bipush C dX4_putSign_10 (by decide) ?_
    refine zg_iret C hP hS dX4_putSign_12 ?_
    exact ⟨congrArg jI (by unfold kPutR; rw [if_pos (by assumption)]), by unfold kPutS; rw [if_pos (by assumption)]⟩
set_option maxHeartbeats 4000000 in
set_option maxRecDepth 100000 in
theorem kX2_isMarkedBy (l : Launch) {D : va_G} {a : Nat → Nat} {cI cZ cR : ClassId} (σ : Zt) (hR : rgS σ) (r : Nat) (hr : r < 6) (z : Int) (d : Int) (z0 : 0 ≤ z) (z1 : z < 400) (d0 : 0 ≤ d) (d1 : d < 400) : zc l D vwCl (tyS cI cZ cR) 56 (layS cI cZ cR a) a yX2_isMarkedBy wsX2_isMarkedBy ({ frames := 1, cells := 0, slots := 0, locals := 21 }) [.ref (a (20 + 6 * r)), .int (jI z), .int (jI d)] σ (fun r_ u_ => r_ = jI (bI (kMarked σ r z d)) ∧ u_ = σ) := by
  refine zc_of (cc := cX2_isMarkedBy) (maxL := 4) (ret := some .boolean) (own := RX2) (by decide) rfl rfl (Nat.le_of_ble_eq_true rfl) rfl ?_
  intro p e s m below meth c A ls C X hP hS hl
  refine zg_aload_n C dX2_isMarkedBy_0 rfl (lv_at hl 0 rfl) ?_
  refine zg_get (j := 2) C X hP (hkS_20 hr) (lyS_20 hr) rfl (zmem uwX2) (by decide) (C.tb flX2_36) (fun _ h9 => h9) rfl dX2_isMarkedBy_1 ?_
  refine zg_get (j := 3) C X hP (by decide) lyS_11 rfl (zmem uwX1) (by decide) (C.tb flX2_123) (fun _ h9 => h9) rfl dX2_isMarkedBy_4 ?_
  refine zg_iload_n C dX2_isMarkedBy_7 rfl (lv_at hl 1 rfl) ?_
  refine zg_iald (t0 := 0) C X hP (by decide) lyS_15 rfl (by decide) (by omega) (by omega) dX2_isMarkedBy_8 ?_
  have b_1 := rgS_15 hR ((z).toNat)
  refine zg_istore_n (lv' := [(3, .int (jI (σ 15 (z).toNat))), (0, .ref (a (20 + 6 * r))), (1, .int (jI z)), (2, .int (jI d))]) C dX2_isMarkedBy_9 rfl hl (by decide) rfl (fun ls hl => ?_)
  refine zg_aload_n C dX2_isMarkedBy_10 rfl (lv_at hl 1 rfl) ?_
  refine zg_iload_n C dX2_isMarkedBy_11 rfl (lv_at hl 3 rfl) ?_
  refine zg_callV C X hP hS (kX2_didDeed l σ hR r hr d (by omega) (by omega)) (cwV 1 C.ts (zgV mlX2_59 imX2_didDeed slX2_didDeed iniX2 cdX2_didDeed) rfl rfl rfl (by decide +kernel) ⟨Nat.le_of_ble_eq_true rfl, Nat.le_of_ble_eq_true rfl⟩) (hkS_20 hr) (lyS_20 hr) rfl rfl rfl hl.1 rfl (Nat.le_of_ble_eq_true rfl) dX2_isMarkedBy_12 ⟨Nat.zero_le _, Nat.zero_le _⟩ (fun r_3 σ2 H locs q4 hP hS => ?_)
  obtain ⟨rfl, q4⟩ := q4
  rw [q4] at hP
  refine zg_ifeqB (tgt := 64) C dX2_isMarkedBy_15 (by decide) (fun c_5 => ?_) (fun c_5 => ?_)
  · refine zg_iconst C dX2_isMarkedBy_64 ?_
    refine zg_zret (b := false) C hP hS dX2_isMarkedBy_65 ?_
    exact ⟨congrArg (fun b => jI (bI b)) (by grind [kMarked]), rfl⟩
  · refine zg_aload_n C dX2_isMarkedBy_18 rfl (lv_at hl 1 rfl) ?_
    refine zg_get (j := 2) C X hP (hkS_20 hr) (lyS_20 hr) rfl (zmem uwX2) (by decide) (C.tb flX2_36) (fun _ h9 => h9) rfl dX2_isMarkedBy_19 ?_
    refine zg_get (j := 3) C X hP (by decide) lyS_11 rfl (zmem uwX1) (by decide) (C.tb flX2_123) (fun _ h9 => h9) rfl dX2_isMarkedBy_22 ?_
    refine zg_aload_n C dX2_isMarkedBy_25 rfl (lv_at hl 1 rfl) ?_
    refine zg_get (j := 1) C X hP (hkS_20 hr) (lyS_20 hr) rfl (zmem uwX2) (by decide) (C.tb flX2_32) (fun _ h9 => h9) rfl dX2_isMarkedBy_26 ?_
    refine zg_get (j := 5) C X hP (by decide) lyS_1 rfl (zmem uwX0) (by decide) (C.tb flX2_56) (fun _ h9 => h9) rfl dX2_isMarkedBy_29 ?_
    refine zg_iload_n C dX2_isMarkedBy_32 rfl (lv_at hl 3 rfl) ?_
    refine zg_iald (t0 := 0) C X hP (by decide) lyS_7 rfl (by decide) (by omega) (by omega) dX2_isMarkedBy_33 ?_
    have b_6 := rgS_7 hR ((d).toNat)
    refine zg_iald (t0 := 0) C X hP (by decide) lyS_15 rfl (by decide) (by omega) (by omega) dX2_isMarkedBy_34 ?_
    have b_7 := rgS_15 hR ((σ 7 (d).toNat).toNat)
    refine zg_iload_n C dX2_isMarkedBy_35 rfl (lv_at hl 0 rfl) ?_
    refine zg_icmp_gt (tgt := 64) C (by omega) (by omega) (by omega) (by omega) dX2_isMarkedBy_36 (by decide) (fun c_8 => ?_) (fun c_8 => ?_)
    · refine zg_iconst C dX2_isMarkedBy_64 ?_
      refine zg_zret (b := false) C hP hS dX2_isMarkedBy_65 ?_
      exact ⟨congrArg (fun b => jI (bI b)) (by grind [kMarked]), rfl⟩
    · refine zg_iload_n C dX2_isMarkedBy_39 rfl (lv_at hl 0 rfl) ?_
      refine zg_aload_n C dX2_isMarkedBy_40 rfl (lv_at hl 1 rfl) ?_
      refine zg_get (j := 2) C X hP (hkS_20 hr) (lyS_20 hr) rfl (zmem uwX2) (by decide) (C.tb flX2_36) (fun _ h9 => h9) rfl dX2_isMarkedBy_41 ?_
      refine zg_get (j := 3) C X hP (by decide) lyS_11 rfl (zmem uwX1) (by decide) (C.tb flX2_123) (fun _ h9 => h9) rfl dX2_isMarkedBy_44 ?_
      refine zg_aload_n C dX2_isMarkedBy_47 rfl (lv_at hl 1 rfl) ?_
      refine zg_get (j := 1) C X hP (hkS_20 hr) (lyS_20 hr) rfl (zmem uwX2) (by decide) (C.tb flX2_32) (fun _ h9 => h9) rfl dX2_isMarkedBy_48 ?_
      refine zg_get (j := 6) C X hP (by decide) lyS_1 rfl (zmem uwX0) (by decide) (C.tb flX2_63) (fun _ h9 => h9) rfl dX2_isMarkedBy_51 ?_
      refine zg_iload_n C dX2_isMarkedBy_54 rfl (lv_at hl 3 rfl) ?_
      refine zg_iald (t0 := 0) C X hP (by decide) lyS_8 rfl (by decide) (by omega) (by omega) dX2_isMarkedBy_55 ?_
      have b_9 := rgS_8 hR ((d).toNat)
      refine zg_iald (t0 := 0) C X hP (by decide) lyS_15 rfl (by decide) (by omega) (by omega) dX2_isMarkedBy_56 ?_
      have b_10 := rgS_15 hR ((σ 8 (d).toNat).toNat)
      refine zg_icmp_gt (tgt := 64) C (by omega) (by omega) (by omega) (by omega) dX2_isMarkedBy_57 (by decide) (fun c_11 => ?_) (fun c_11 => ?_)
      · refine zg_iconst C dX2_isMarkedBy_64 ?_
        refine zg_zret (b := false) C hP hS dX2_isMarkedBy_65 ?_
        exact ⟨congrArg (fun b => jI (bI b)) (by grind [kMarked]), rfl⟩
      · refine zg_iconst C dX2_isMarkedBy_60 ?_
        refine zg_goto (tgt := 65) C dX2_isMarkedBy_61 (by decide) ?_
        refine zg_zret (b := true) C hP hS dX2_isMarkedBy_65 ?_
        exact ⟨congrArg (fun b => jI (bI b)) (by grind [kMarked]), rfl⟩
set_option maxHeartbeats 4000000 in
set_option maxRecDepth 100000 in
theorem lpX2_bitsOfLatest_4 {l : Launch} {D : va_G} {a : Nat → Nat} {cI cZ cR : ClassId} {p : Program} {e : Env} {s : State} {m : MethodId} {below : List Frame} {meth : Method} {c : Code} {A : Nat → Prop} (σ : Zt) (hR : rgS σ) (r : Nat) (hr : r < 6)  (C : zk p s m ([.ref (a (20 + 6 * r))] : List Value).toArray meth c cX2_bitsOfLatest 4 (some .int) wsX2_bitsOfLatest RX2) (X : zx D vwCl (tyS cI cZ cR) A a 56 s) :
    ∀ (n : Nat) (bt i : Int) (H : Heap) (locs : List Loc) (ls : Array Slot), ((8 - i).toNat < n) → (0 ≤ i) → (i ≤ 8) → (bt = kBits σ (σ (25 + 6 * r)) i.toNat) → va_P D vwCl (zw 56 (layS cI cZ cR a) a σ) H → va_S A s.heap H locs → lv_has ls 4 [(0, .ref (a (20 + 6 * r))), (1, .int (jI bt)), (2, .int (jI i))] →
      W p l e ({ frames := 0, cells := 0, slots := 0, locals := 0 }) s m ([.ref (a (20 + 6 * r))] : List Value).toArray below meth c H locs 0 0 (MQ below (va_Qi (fun r_ u_ => r_ = jI (kBits σ (σ (25 + 6 * r)) 8) ∧ u_ = σ) (fun (u : Zt) t => va_P D vwCl (zw 56 (layS cI cZ cR a) a u) t.heap) A) ([.ref (a (20 + 6 * r))] : List Value).toArray s 0 0 A) (F0 m 4 ls []) := by
  intro n
  induction n with
  | zero =>
    intro bt i  H locs ls hn h0 h1 hE hP hS hl
    exact absurd hn (by omega)
  | succ n ih =>
    intro bt i  H locs ls hn h0 h1 hE hP hS hl
    have bb := kBits_rg (σ := σ) (f := σ (25 + 6 * r)) i.toNat
    refine zg_iload_n C dX2_bitsOfLatest_4 rfl (lv_at hl 2 rfl) ?_
    refine zg_bipush C dX2_bitsOfLatest_5 (by decide) ?_
    refine zg_icmp_ge (tgt := 48) C (by omega) (by omega) (by omega) (by omega) dX2_bitsOfLatest_7 (by decide) (fun c_1 => ?_) (fun c_1 => ?_)
    · refine zg_iload_n C dX2_bitsOfLatest_48 rfl (lv_at hl 1 rfl) ?_
      refine zg_iret C hP hS dX2_bitsOfLatest_49 ?_
      exact ⟨congrArg jI (by rw [hE, show i.toNat = 8 by omega]), rfl⟩
    · have pw := pw_8 (i := i) (by omega) (by omega)
      refine zg_aload_n C dX2_bitsOfLatest_10 rfl (lv_at hl 0 rfl) ?_
      refine zg_get (j := 11) C X hP (hkS_20 hr) (lyS_20 hr) rfl (zmem uwX2) (by decide) (C.tb flX2_25) (fun _ h9 => h9) rfl dX2_bitsOfLatest_11 ?_
      refine zg_iload_n C dX2_bitsOfLatest_14 rfl (lv_at hl 2 rfl) ?_
      refine zg_iald (t0 := 0) C X hP (hkS_25 hr) (lyS_25 hr) rfl (by decide) (by omega) (by omega) dX2_bitsOfLatest_15 ?_
      have b_2 := rgS_25 hR hr ((i).toNat)
      refine zg_istore_n (lv' := [(3, .int (jI (σ (25 + 6 * r) (i).toNat))), (0, .ref (a (20 + 6 * r))), (1, .int (jI bt)), (2, .int (jI i))]) C dX2_bitsOfLatest_16 rfl hl (by decide) rfl (fun ls hl => ?_)
      refine zg_iload_n C dX2_bitsOfLatest_17 rfl (lv_at hl 0 rfl) ?_
      refine zg_iconst C dX2_bitsOfLatest_18 ?_
      refine zg_icmp_eq (tgt := 42) C (by omega) (by omega) (by omega) (by omega) dX2_bitsOfLatest_19 (by decide) (fun c_3 => ?_) (fun c_3 => ?_)
      · refine zg_iinc (k := 3) (lv' := [(2, .int (jI (i + 1))), (3, .int (jI (σ (25 + 6 * r) (i).toNat))), (0, .ref (a (20 + 6 * r))), (1, .int (jI bt))]) C dX2_bitsOfLatest_42 hl rfl (by decide) rfl (fun ls hl => ?_)
        refine zg_goto (tgt := 4) C dX2_bitsOfLatest_45 (by decide) ?_
        exact ih bt (i + 1) _ _ _ (by omega) (by omega) (by omega) (by rw [kBits_step h0]; first | (rw [if_pos ⟨by assumption, by assumption⟩]; omega) | (rw [if_neg (by omega)]; exact hE)) hP hS (lv_sub hl [2, 3, 0] rfl)
      · refine zg_aload_n C dX2_bitsOfLatest_22 rfl (lv_at hl 1 rfl) ?_
        refine zg_get (j := 1) C X hP (hkS_20 hr) (lyS_20 hr) rfl (zmem uwX2) (by decide) (C.tb flX2_32) (fun _ h9 => h9) rfl dX2_bitsOfLatest_23 ?_
        refine zg_get (j := 4) C X hP (by decide) lyS_1 rfl (zmem uwX0) (by decide) (C.tb flX2_132) (fun _ h9 => h9) rfl dX2_bitsOfLatest_26 ?_
        refine zg_iload_n C dX2_bitsOfLatest_29 rfl (lv_at hl 0 rfl) ?_
        refine zg_iald (t0 := 0) C X hP (by decide) lyS_6 rfl (by decide) (by omega) (by omega) dX2_bitsOfLatest_30 ?_
        have b_4 := rgS_6 hR ((σ (25 + 6 * r) (i).toNat).toNat)
        refine zg_bipush C dX2_bitsOfLatest_31 (by decide) ?_
        refine zg_icmp_lt (tgt := 42) C (by omega) (by omega) (by omega) (by omega) dX2_bitsOfLatest_33 (by decide) (fun c_5 => ?_) (fun c_5 => ?_)
        · refine zg_iinc (k := 3) (lv' := [(2, .int (jI (i + 1))), (3, .int (jI (σ (25 + 6 * r) (i).toNat))), (0, .ref (a (20 + 6 * r))), (1, .int (jI bt))]) C dX2_bitsOfLatest_42 hl rfl (by decide) rfl (fun ls hl => ?_)
          refine zg_goto (tgt := 4) C dX2_bitsOfLatest_45 (by decide) ?_
          exact ih bt (i + 1) _ _ _ (by omega) (by omega) (by omega) (by rw [kBits_step h0]; first | (rw [if_pos ⟨by assumption, by assumption⟩]; omega) | (rw [if_neg (by omega)]; exact hE)) hP hS (lv_sub hl [2, 3, 0] rfl)
        · refine zg_iload_n C dX2_bitsOfLatest_36 rfl (lv_at hl 2 rfl) ?_
          refine zg_iconst C dX2_bitsOfLatest_37 ?_
          refine zg_iload_n C dX2_bitsOfLatest_38 rfl (lv_at hl 3 rfl) ?_
          refine zg_shl C i.toNat (sh_amt (by omega) (by omega)) (by omega) (by omega) dX2_bitsOfLatest_39 ?_
          refine zg_orr C i.toNat 1 (by omega) rfl (by omega) (by omega) (by omega) dX2_bitsOfLatest_40 ?_
          refine zg_istore_n (lv' := [(1, .int (jI (bt + (1 * 2 ^ i.toNat)))), (3, .int (jI (σ (25 + 6 * r) (i).toNat))), (0, .ref (a (20 + 6 * r))), (2, .int (jI i))]) C dX2_bitsOfLatest_41 rfl hl (by decide) rfl (fun ls hl => ?_)
          refine zg_iinc (k := 3) (lv' := [(2, .int (jI (i + 1))), (1, .int (jI (bt + (1 * 2 ^ i.toNat)))), (3, .int (jI (σ (25 + 6 * r) (i).toNat))), (0, .ref (a (20 + 6 * r)))]) C dX2_bitsOfLatest_42 hl rfl (by decide) rfl (fun ls hl => ?_)
          refine zg_goto (tgt := 4) C dX2_bitsOfLatest_45 (by decide) ?_
          exact ih (bt + (1 * 2 ^ i.toNat)) (i + 1) _ _ _ (by omega) (by omega) (by omega) (by rw [kBits_step h0]; first | (rw [if_pos ⟨by assumption, by assumption⟩]; omega) | (rw [if_neg (by omega)]; exact hE)) hP hS (lv_sub hl [3, 1, 0] rfl)
set_option maxHeartbeats 4000000 in
set_option maxRecDepth 100000 in
theorem kX2_bitsOfLatest (l : Launch) {D : va_G} {a : Nat → Nat} {cI cZ cR : ClassId} (σ : Zt) (hR : rgS σ) (r : Nat) (hr : r < 6) : zc l D vwCl (tyS cI cZ cR) 56 (layS cI cZ cR a) a yX2_bitsOfLatest wsX2_bitsOfLatest ({ frames := 0, cells := 0, slots := 0, locals := 0 }) [.ref (a (20 + 6 * r))] σ (fun r_ u_ => r_ = jI (kBits σ (σ (25 + 6 * r)) 8) ∧ u_ = σ) := by
  refine zc_of (cc := cX2_bitsOfLatest) (maxL := 4) (ret := some .int) (own := RX2) (by decide) rfl rfl (Nat.le_of_ble_eq_true rfl) rfl ?_
  intro p e s m below meth c A ls C X hP hS hl
  refine zg_iconst C dX2_bitsOfLatest_0 ?_
  refine zg_istore_n (lv' := [(1, .int (jI 0)), (0, .ref (a (20 + 6 * r)))]) C dX2_bitsOfLatest_1 rfl hl (by decide) rfl (fun ls hl => ?_)
  refine zg_iconst C dX2_bitsOfLatest_2 ?_
  refine zg_istore_n (lv' := [(2, .int (jI 0)), (1, .int (jI 0)), (0, .ref (a (20 + 6 * r)))]) C dX2_bitsOfLatest_3 rfl hl (by decide) rfl (fun ls hl => ?_)
  exact lpX2_bitsOfLatest_4 σ hR r hr C X 9 0 0 _ _ _ (by omega) (by omega) (by omega) rfl hP hS (lv_sub hl [2, 1, 0] rfl)
end
section
set_option maxHeartbeats 4000000 in
set_option maxRecDepth 100000 in
theorem lpX2_kindsOf_23 {l : Launch} {D : va_G} {a : Nat → Nat} {cI cZ cR : ClassId} {p : Program} {e : Env} {s : State} {m : MethodId} {below : List Frame} {meth : Method} {c : Code} {A : Nat → Prop} (σ : Zt) (hR : rgS σ) (r : Nat) (hr : r < 6) (z : Int) (z0 : 0 ≤ z) (z1 : z < 400)  (C : zk p s m ([.ref (a (20 + 6 * r)), .int (jI z)] : List Value).toArray meth c cX2_kindsOf 5 (some .int) wsX2_kindsOf RX2) (X : zx D vwCl (tyS cI cZ cR) A a 56 s) :
    ∀ (n : Nat) (i : Int) (τ : Zt) (H : Heap) (locs : List Loc) (ls : Array Slot), ((401 - i).toNat < n) → (rgS τ) → (zq σ τ) → (0 ≤ i) → (i ≤ σ 1 9) → (∀ k : Nat, k < 8 → τ (25 + 6 * r) k = kLm σ r z i.toNat k) → va_P D vwCl (zw 56 (layS cI cZ cR a) a τ) H → va_S A s.heap H locs → lv_has ls 5 [(0, .ref (a (20 + 6 * r))), (1, .int (jI z)), (2, .int (jI i))] →
      W p l e ({ frames := 2, cells := 0, slots := 0, locals := 44 }) s m ([.ref (a (20 + 6 * r)), .int (jI z)] : List Value).toArray below meth c H locs 0 0 (MQ below (va_Qi (fun r_ u_ => r_ = jI (kKinds σ r z) ∧ zq σ u_) (fun (u : Zt) t => va_P D vwCl (zw 56 (layS cI cZ cR a) a u) t.heap) A) ([.ref (a (20 + 6 * r)), .int (jI z)] : List Value).toArray s 0 0 A) (F0 m 23 ls []) := by
  intro n
  induction n with
  | zero =>
    intro i τ H locs ls hn hτ hz i0 i1 hL hP hS hl
    exact absurd hn (by omega)
  | succ n ih =>
    intro i τ H locs ls hn hτ hz i0 i1 hL hP hS hl
    have e19 : τ 1 9 = σ 1 9 := congrFun (hz.2 1 (by omega)) 9
    have b19 := rgS_1_9 hR
    refine zg_iload_n C dX2_kindsOf_23 rfl (lv_at hl 2 rfl) ?_
    refine zg_aload_n C dX2_kindsOf_24 rfl (lv_at hl 0 rfl) ?_
    refine zg_get (j := 1) C X hP (hkS_20 hr) (lyS_20 hr) rfl (zmem uwX2) (by decide) (C.tb flX2_32) (fun _ h9 => h9) rfl dX2_kindsOf_25 ?_
    refine zg_get (j := 9) C X hP (by decide) lyS_1 rfl (zmem uwX0) (by decide) (C.tb flX2_126) (fun _ h9 => h9) rfl dX2_kindsOf_28 ?_
    have b_1 := rgS_1_9 hτ
    refine zg_icmp_ge (tgt := 110) C (by omega) (by omega) (by omega) (by omega) dX2_kindsOf_31 (by decide) (fun c_2 => ?_) (fun c_2 => ?_)
    · refine zg_aload_n C dX2_kindsOf_110 rfl (lv_at hl 0 rfl) ?_
      refine zg_callV C X hP hS (kX2_bitsOfLatest l τ hτ r hr) (cwV 0 C.ts (zgV mlX2_138 imX2_bitsOfLatest slX2_bitsOfLatest iniX2 cdX2_bitsOfLatest) rfl rfl rfl (by decide +kernel) ⟨Nat.le_of_ble_eq_true rfl, Nat.le_of_ble_eq_true rfl⟩) (hkS_20 hr) (lyS_20 hr) rfl rfl rfl hl.1 rfl (Nat.le_of_ble_eq_true rfl) dX2_kindsOf_111 ⟨Nat.zero_le _, Nat.zero_le _⟩ (fun r_4 σ3 H locs q5 hP hS => ?_)
      obtain ⟨rfl, q5⟩ := q5
      rw [q5] at hP
      refine zg_iret C hP hS dX2_kindsOf_114 ?_
      exact ⟨congrArg jI (by unfold kKinds; rw [zq_bits hz]; exact kBits_congr _ (fun j hj => by rw [hL j hj, show i = σ 1 9 by omega])), hz⟩
    · refine zg_aload_n C dX2_kindsOf_34 rfl (lv_at hl 0 rfl) ?_
      refine zg_get (j := 1) C X hP (hkS_20 hr) (lyS_20 hr) rfl (zmem uwX2) (by decide) (C.tb flX2_32) (fun _ h9 => h9) rfl dX2_kindsOf_35 ?_
      refine zg_get (j := 8) C X hP (by decide) lyS_1 rfl (zmem uwX0) (by decide) (C.tb flX2_129) (fun _ h9 => h9) rfl dX2_kindsOf_38 ?_
      refine zg_iload_n C dX2_kindsOf_41 rfl (lv_at hl 2 rfl) ?_
      refine zg_iald (t0 := 0) C X hP (by decide) lyS_10 rfl (by decide) (by omega) (by omega) dX2_kindsOf_42 ?_
      have b_6 := rgS_10 hτ ((i).toNat)
      refine zg_istore_n (lv' := [(3, .int (jI (τ 10 (i).toNat))), (0, .ref (a (20 + 6 * r))), (1, .int (jI z)), (2, .int (jI i))]) C dX2_kindsOf_43 rfl hl (by decide) rfl (fun ls hl => ?_)
      refine zg_aload_n C dX2_kindsOf_44 rfl (lv_at hl 1 rfl) ?_
      refine zg_get (j := 1) C X hP (hkS_20 hr) (lyS_20 hr) rfl (zmem uwX2) (by decide) (C.tb flX2_32) (fun _ h9 => h9) rfl dX2_kindsOf_45 ?_
      refine zg_get (j := 4) C X hP (by decide) lyS_1 rfl (zmem uwX0) (by decide) (C.tb flX2_132) (fun _ h9 => h9) rfl dX2_kindsOf_48 ?_
      refine zg_iload_n C dX2_kindsOf_51 rfl (lv_at hl 0 rfl) ?_
      refine zg_iald (t0 := 0) C X hP (by decide) lyS_6 rfl (by decide) (by omega) (by omega) dX2_kindsOf_52 ?_
      have b_7 := rgS_6 hτ ((τ 10 (i).toNat).toNat)
      refine zg_bipush C dX2_kindsOf_53 (by decide) ?_
      refine zg_irem C (by omega) (by omega) (by omega) (by omega) dX2_kindsOf_55 ?_
      refine zg_istore (lv' := [(4, .int (jI ((τ 6 (τ 10 (i).toNat).toNat) % 8))), (3, .int (jI (τ 10 (i).toNat))), (0, .ref (a (20 + 6 * r))), (1, .int (jI z)), (2, .int (jI i))]) C dX2_kindsOf_56 hl (by decide) rfl (fun ls hl => ?_)
      refine zg_aload_n C dX2_kindsOf_58 rfl (lv_at hl 2 rfl) ?_
      refine zg_iload_n C dX2_kindsOf_59 rfl (lv_at hl 3 rfl) ?_
      refine zg_iload_n C dX2_kindsOf_60 rfl (lv_at hl 1 rfl) ?_
      refine zg_callV C X hP hS (kX2_isMarkedBy l τ hτ r hr z (τ 10 (i).toNat) (by omega) (by omega) (by omega) (by omega)) (cwV 2 C.ts (zgV mlX2_135 imX2_isMarkedBy slX2_isMarkedBy iniX2 cdX2_isMarkedBy) rfl rfl rfl (by decide +kernel) ⟨Nat.le_of_ble_eq_true rfl, Nat.le_of_ble_eq_true rfl⟩) (hkS_20 hr) (lyS_20 hr) rfl rfl rfl hl.1 rfl (Nat.le_of_ble_eq_true rfl) dX2_kindsOf_61 ⟨Nat.zero_le _, Nat.zero_le _⟩ (fun r_9 σ8 H locs q10 hP hS => ?_)
      obtain ⟨rfl, q10⟩ := q10
      rw [q10] at hP
      refine zg_ifeqB (tgt := 104) C dX2_kindsOf_64 (by decide) (fun c_11 => ?_) (fun c_11 => ?_)
      · refine zg_iinc (k := 4) (lv' := [(2, .int (jI (i + 1))), (4, .int (jI ((τ 6 (τ 10 (i).toNat).toNat) % 8))), (3, .int (jI (τ 10 (i).toNat))), (0, .ref (a (20 + 6 * r))), (1, .int (jI z))]) C dX2_kindsOf_104 hl rfl (by decide) rfl (fun ls hl => ?_)
        refine zg_goto (tgt := 23) C dX2_kindsOf_107 (by decide) ?_
        exact ih (i + 1) τ _ _ _ (by omega) (by assumption) (by first | assumption | (exact zq_zu hz (by assumption))) (by omega) (by omega) (by first | exact lm_keep i0 hz hL (by grind) | (exact lm_put i0 hz hL (by assumption) (by grind))) hP hS (lv_sub hl [3, 4, 0] rfl)
      · refine zg_aload_n C dX2_kindsOf_67 rfl (lv_at hl 2 rfl) ?_
        refine zg_get (j := 11) C X hP (hkS_20 hr) (lyS_20 hr) rfl (zmem uwX2) (by decide) (C.tb flX2_25) (fun _ h9 => h9) rfl dX2_kindsOf_68 ?_
        refine zg_iload C dX2_kindsOf_71 (lv_at hl 0 rfl) ?_
        refine zg_iald (t0 := 0) C X hP (hkS_25 hr) (lyS_25 hr) rfl (by decide) (by omega) (by omega) dX2_kindsOf_73 ?_
        have b_12 := rgS_25 hτ hr (((τ 6 (τ 10 (i).toNat).toNat) % 8).toNat)
        refine zg_iconst C dX2_kindsOf_74 ?_
        refine zg_icmp_eq (tgt := 96) C (by omega) (by omega) (by omega) (by omega) dX2_kindsOf_75 (by decide) (fun c_13 => ?_) (fun c_13 => ?_)
        · refine zg_aload_n C dX2_kindsOf_96 rfl (lv_at hl 2 rfl) ?_
          refine zg_get (j := 11) C X hP (hkS_20 hr) (lyS_20 hr) rfl (zmem uwX2) (by decide) (C.tb flX2_25) (fun _ h9 => h9) rfl dX2_kindsOf_97 ?_
          refine zg_iload C dX2_kindsOf_100 (lv_at hl 0 rfl) ?_
          refine zg_iload_n C dX2_kindsOf_102 rfl (lv_at hl 1 rfl) ?_
          refine zg_iast (t0 := 0) C X hP hS (hkS_25 hr) (fun x => (lyS_25 hr)) rfl (by decide) (by omega) (by omega) dX2_kindsOf_103 (fun H locs hP hS => ?_)
          obtain ⟨σ14, e15⟩ : ∃ z_ : Zt, z_ = zu τ (25 + 6 * r) ((τ 6 (τ 10 (i).toNat).toNat) % 8).toNat (τ 10 (i).toNat) := ⟨_, rfl⟩
          rw [← e15] at hP
          have w_17 : σ14 (25 + 6 * r) ((τ 6 (τ 10 (i).toNat).toNat) % 8).toNat = τ 10 (i).toNat := by rw [e15]; exact zu_same _ _ _ _
          have hR16 : rgS σ14 := by rw [e15]; exact rzS_25 hτ hr (by omega) (by omega)
          refine zg_iinc (k := 4) (lv' := [(2, .int (jI (i + 1))), (4, .int (jI ((τ 6 (τ 10 (i).toNat).toNat) % 8))), (3, .int (jI (τ 10 (i).toNat))), (0, .ref (a (20 + 6 * r))), (1, .int (jI z))]) C dX2_kindsOf_104 hl rfl (by decide) rfl (fun ls hl => ?_)
          refine zg_goto (tgt := 23) C dX2_kindsOf_107 (by decide) ?_
          exact ih (i + 1) σ14 _ _ _ (by omega) (by assumption) (by first | assumption | (subst e15; exact zq_zu hz (by assumption))) (by omega) (by omega) (by first | exact lm_keep i0 hz hL (by grind) | (subst e15; exact lm_put i0 hz hL (by assumption) (by grind))) hP hS (lv_sub hl [3, 4, 0] rfl)
        · refine zg_aload_n C dX2_kindsOf_78 rfl (lv_at hl 2 rfl) ?_
          refine zg_get (j := 1) C X hP (hkS_20 hr) (lyS_20 hr) rfl (zmem uwX2) (by decide) (C.tb flX2_32) (fun _ h9 => h9) rfl dX2_kindsOf_79 ?_
          refine zg_iload_n C dX2_kindsOf_82 rfl (lv_at hl 1 rfl) ?_
          refine zg_aload_n C dX2_kindsOf_83 rfl (lv_at hl 2 rfl) ?_
          refine zg_get (j := 11) C X hP (hkS_20 hr) (lyS_20 hr) rfl (zmem uwX2) (by decide) (C.tb flX2_25) (fun _ h9 => h9) rfl dX2_kindsOf_84 ?_
          refine zg_iload C dX2_kindsOf_87 (lv_at hl 0 rfl) ?_
          refine zg_iald (t0 := 0) C X hP (hkS_25 hr) (lyS_25 hr) rfl (by decide) (by omega) (by omega) dX2_kindsOf_89 ?_
          have b_18 := rgS_25 hτ hr (((τ 6 (τ 10 (i).toNat).toNat) % 8).toNat)
          refine zg_callV C X hP hS (kX0_isLater l τ hτ (τ 10 (i).toNat) (τ (25 + 6 * r) ((τ 6 (τ 10 (i).toNat).toNat) % 8).toNat) (by omega) (by omega) (by omega) (by omega)) (cwV 2 C.ts (zgV mlX2_100 imX0_isLater slX0_isLater iniX0 cdX0_isLater) rfl rfl rfl (by decide +kernel) ⟨Nat.le_of_ble_eq_true rfl, Nat.le_of_ble_eq_true rfl⟩) (by decide) lyS_1 rfl rfl rfl hl.1 rfl (Nat.le_of_ble_eq_true rfl) dX2_kindsOf_90 ⟨Nat.zero_le _, Nat.zero_le _⟩ (fun r_20 σ19 H locs q21 hP hS => ?_)
          obtain ⟨rfl, q21⟩ := q21
          rw [q21] at hP
          refine zg_ifeqB (tgt := 104) C dX2_kindsOf_93 (by decide) (fun c_22 => ?_) (fun c_22 => ?_)
          · refine zg_iinc (k := 4) (lv' := [(2, .int (jI (i + 1))), (4, .int (jI ((τ 6 (τ 10 (i).toNat).toNat) % 8))), (3, .int (jI (τ 10 (i).toNat))), (0, .ref (a (20 + 6 * r))), (1, .int (jI z))]) C dX2_kindsOf_104 hl rfl (by decide) rfl (fun ls hl => ?_)
            refine zg_goto (tgt := 23) C dX2_kindsOf_107 (by decide) ?_
            exact ih (i + 1) τ _ _ _ (by omega) (by assumption) (by first | assumption | (exact zq_zu hz (by assumption))) (by omega) (by omega) (by first | exact lm_keep i0 hz hL (by grind) | (exact lm_put i0 hz hL (by assumption) (by grind))) hP hS (lv_sub hl [3, 4, 0] rfl)
          · refine zg_aload_n C dX2_kindsOf_96 rfl (lv_at hl 2 rfl) ?_
            refine zg_get (j := 11) C X hP (hkS_20 hr) (lyS_20 hr) rfl (zmem uwX2) (by decide) (C.tb flX2_25) (fun _ h9 => h9) rfl dX2_kindsOf_97 ?_
            refine zg_iload C dX2_kindsOf_100 (lv_at hl 0 rfl) ?_
            refine zg_iload_n C dX2_kindsOf_102 rfl (lv_at hl 1 rfl) ?_
            refine zg_iast (t0 := 0) C X hP hS (hkS_25 hr) (fun x => (lyS_25 hr)) rfl (by decide) (by omega) (by omega) dX2_kindsOf_103 (fun H locs hP hS => ?_)
            obtain ⟨σ23, e24⟩ : ∃ z_ : Zt, z_ = zu τ (25 + 6 * r) ((τ 6 (τ 10 (i).toNat).toNat) % 8).toNat (τ 10 (i).toNat) := ⟨_, rfl⟩
            rw [← e24] at hP
            have w_26 : σ23 (25 + 6 * r) ((τ 6 (τ 10 (i).toNat).toNat) % 8).toNat = τ 10 (i).toNat := by rw [e24]; exact zu_same _ _ _ _
            have hR25 : rgS σ23 := by rw [e24]; exact rzS_25 hτ hr (by omega) (by omega)
            refine zg_iinc (k := 4) (lv' := [(2, .int (jI (i + 1))), (4, .int (jI ((τ 6 (τ 10 (i).toNat).toNat) % 8))), (3, .int (jI (τ 10 (i).toNat))), (0, .ref (a (20 + 6 * r))), (1, .int (jI z))]) C dX2_kindsOf_104 hl rfl (by decide) rfl (fun ls hl => ?_)
            refine zg_goto (tgt := 23) C dX2_kindsOf_107 (by decide) ?_
            exact ih (i + 1) σ23 _ _ _ (by omega) (by assumption) (by first | assumption | (subst e24; exact zq_zu hz (by assumption))) (by omega) (by omega) (by first | exact lm_keep i0 hz hL (by grind) | (subst e24; exact lm_put i0 hz hL (by assumption) (by grind))) hP hS (lv_sub hl [3, 4, 0] rfl)
set_option maxHeartbeats 4000000 in
set_option maxRecDepth 100000 in
theorem lpX2_kindsOf_2 {l : Launch} {D : va_G} {a : Nat → Nat} {cI cZ cR : ClassId} {p : Program} {e : Env} {s : State} {m : MethodId} {below : List Frame} {meth : Method} {c : Code} {A : Nat → Prop} (σ : Zt) (hR : rgS σ) (r : Nat) (hr : r < 6) (z : Int) (z0 : 0 ≤ z) (z1 : z < 400)  (C : zk p s m ([.ref (a (20 + 6 * r)), .int (jI z)] : List Value).toArray meth c cX2_kindsOf 5 (some .int) wsX2_kindsOf RX2) (X : zx D vwCl (tyS cI cZ cR) A a 56 s) :
    ∀ (n : Nat) (i : Int) (τ : Zt) (H : Heap) (locs : List Loc) (ls : Array Slot), ((8 - i).toNat < n) → (rgS τ) → (zq σ τ) → (0 ≤ i) → (i ≤ 8) → (∀ k : Nat, k < i.toNat → τ (25 + 6 * r) k = -1) → va_P D vwCl (zw 56 (layS cI cZ cR a) a τ) H → va_S A s.heap H locs → lv_has ls 5 [(0, .ref (a (20 + 6 * r))), (1, .int (jI z)), (2, .int (jI i))] →
      W p l e ({ frames := 2, cells := 0, slots := 0, locals := 44 }) s m ([.ref (a (20 + 6 * r)), .int (jI z)] : List Value).toArray below meth c H locs 0 0 (MQ below (va_Qi (fun r_ u_ => r_ = jI (kKinds σ r z) ∧ zq σ u_) (fun (u : Zt) t => va_P D vwCl (zw 56 (layS cI cZ cR a) a u) t.heap) A) ([.ref (a (20 + 6 * r)), .int (jI z)] : List Value).toArray s 0 0 A) (F0 m 2 ls []) := by
  intro n
  induction n with
  | zero =>
    intro i τ H locs ls hn hτ hz i0 i1 hL hP hS hl
    exact absurd hn (by omega)
  | succ n ih =>
    intro i τ H locs ls hn hτ hz i0 i1 hL hP hS hl
    refine zg_iload_n C dX2_kindsOf_2 rfl (lv_at hl 2 rfl) ?_
    refine zg_bipush C dX2_kindsOf_3 (by decide) ?_
    refine zg_icmp_ge (tgt := 21) C (by omega) (by omega) (by omega) (by omega) dX2_kindsOf_5 (by decide) (fun c_27 => ?_) (fun c_27 => ?_)
    · refine zg_iconst C dX2_kindsOf_21 ?_
      refine zg_istore_n (lv' := [(2, .int (jI 0)), (0, .ref (a (20 + 6 * r))), (1, .int (jI z))]) C dX2_kindsOf_22 rfl hl (by decide) rfl (fun ls hl => ?_)
      exact lpX2_kindsOf_23 σ hR r hr z z0 z1 C X 402 0 τ _ _ _ (by omega) (by assumption) (by assumption) (by omega) (by have := rgS_1_9 hR; omega) (fun k hk => hL k (by omega)) hP hS (lv_sub hl [1, 2, 0] rfl)
    · refine zg_aload_n C dX2_kindsOf_8 rfl (lv_at hl 0 rfl) ?_
      refine zg_get (j := 11) C X hP (hkS_20 hr) (lyS_20 hr) rfl (zmem uwX2) (by decide) (C.tb flX2_25) (fun _ h9 => h9) rfl dX2_kindsOf_9 ?_
      refine zg_iload_n C dX2_kindsOf_12 rfl (lv_at hl 2 rfl) ?_
      refine zg_iconst C dX2_kindsOf_13 ?_
      refine zg_iast (t0 := 0) C X hP hS (hkS_25 hr) (fun x => (lyS_25 hr)) rfl (by decide) (by omega) (by omega) dX2_kindsOf_14 (fun H locs hP hS => ?_)
      obtain ⟨σ28, e29⟩ : ∃ z_ : Zt, z_ = zu τ (25 + 6 * r) (i).toNat (-1) := ⟨_, rfl⟩
      rw [← e29] at hP
      have w_31 : σ28 (25 + 6 * r) (i).toNat = (-1) := by rw [e29]; exact zu_same _ _ _ _
      have hR30 : rgS σ28 := by rw [e29]; exact rzS_25 hτ hr (by omega) (by omega)
      refine zg_iinc (k := 2) (lv' := [(2, .int (jI (i + 1))), (0, .ref (a (20 + 6 * r))), (1, .int (jI z))]) C dX2_kindsOf_15 hl rfl (by decide) rfl (fun ls hl => ?_)
      refine zg_goto (tgt := 2) C dX2_kindsOf_18 (by decide) ?_
      exact ih (i + 1) σ28 _ _ _ (by omega) (by assumption) (by subst e29; exact zq_zu hz (by assumption)) (by omega) (by omega) (by subst e29; exact lm_init i0 hL) hP hS (lv_sub hl [1, 2, 0] rfl)
set_option maxHeartbeats 4000000 in
set_option maxRecDepth 100000 in
theorem kX2_kindsOf (l : Launch) {D : va_G} {a : Nat → Nat} {cI cZ cR : ClassId} (σ : Zt) (hR : rgS σ) (r : Nat) (hr : r < 6) (z : Int) (z0 : 0 ≤ z) (z1 : z < 400) : zc l D vwCl (tyS cI cZ cR) 56 (layS cI cZ cR a) a yX2_kindsOf wsX2_kindsOf ({ frames := 2, cells := 0, slots := 0, locals := 44 }) [.ref (a (20 + 6 * r)), .int (jI z)] σ (fun r_ u_ => r_ = jI (kKinds σ r z) ∧ zq σ u_) := by
  refine zc_of (cc := cX2_kindsOf) (maxL := 5) (ret := some .int) (own := RX2) (by decide) rfl rfl (Nat.le_of_ble_eq_true rfl) rfl ?_
  intro p e s m below meth c A ls C X hP hS hl
  refine zg_iconst C dX2_kindsOf_0 ?_
  refine zg_istore_n (lv' := [(2, .int (jI 0)), (0, .ref (a (20 + 6 * r))), (1, .int (jI z))]) C dX2_kindsOf_1 rfl hl (by decide) rfl (fun ls hl => ?_)
  exact lpX2_kindsOf_2 σ hR r hr z z0 z1 C X 9 0 σ _ _ _ (by omega) hR (zq_rf hR) (by omega) (by omega) (fun k hk => absurd hk (Nat.not_lt_zero k)) hP hS (lv_sub hl [1, 2, 0] rfl)
set_option maxHeartbeats 4000000 in
set_option maxRecDepth 100000 in
theorem kX4_isAlike (l : Launch) {D : va_G} {a : Nat → Nat} {cI cZ cR : ClassId} (σ : Zt) (hR : rgS σ) (r : Nat) (hr : r < 6) (t : Nat) (ht : t < 6) (z : Int) (z0 : 0 ≤ z) (z1 : z < 400) : zc l D vwCl (tyS cI cZ cR) 56 (layS cI cZ cR a) a yX4_isAlike wsX4_isAlike ({ frames := 3, cells := 0, slots := 0, locals := 68 }) [.ref (a (20 + 6 * r)), .ref (a (20 + 6 * t)), .int (jI z)] σ (fun r_ u_ => r_ = jI (bI (kAlike σ r t z)) ∧ zq σ u_) := by
  refine zc_of (cc := cX4_isAlike) (maxL := 4) (ret := some .boolean) (own := RX4) (by decide) rfl rfl (Nat.le_of_ble_eq_true rfl) rfl ?_
  intro p e s m below meth c A ls C X hP hS hl
  refine zg_aload_n C dX4_isAlike_0 rfl (lv_at hl 0 rfl) ?_
  refine zg_iload_n C dX4_isAlike_1 rfl (lv_at hl 2 rfl) ?_
  refine zg_callV C X hP hS (kX2_isAlive l σ hR r hr z (by omega) (by omega)) (cwV 1 C.ts (zgV mlX4_218 imX2_isAlive slX2_isAlive iniX2 cdX2_isAlive) rfl rfl rfl (by decide +kernel) ⟨Nat.le_of_ble_eq_true rfl, Nat.le_of_ble_eq_true rfl⟩) (hkS_20 hr) (lyS_20 hr) rfl rfl rfl hl.1 rfl (Nat.le_of_ble_eq_true rfl) dX4_isAlike_2 ⟨Nat.zero_le _, Nat.zero_le _⟩ (fun r_2 σ1 H locs q3 hP hS => ?_)
  obtain ⟨rfl, q3⟩ := q3
  rw [q3] at hP
  refine zg_istore_n (lv' := [(3, .int (jI (bI (kAlive σ r z)))), (0, .ref (a (20 + 6 * r))), (1, .ref (a (20 + 6 * t))), (2, .int (jI z))]) C dX4_isAlike_5 rfl hl (by decide) rfl (fun ls hl => ?_)
  refine zg_iload_n C dX4_isAlike_6 rfl (lv_at hl 0 rfl) ?_
  refine zg_aload_n C dX4_isAlike_7 rfl (lv_at hl 2 rfl) ?_
  refine zg_iload_n C dX4_isAlike_8 rfl (lv_at hl 3 rfl) ?_
  refine zg_callV C X hP hS (kX2_isAlive l σ hR t ht z (by omega) (by omega)) (cwV 1 C.ts (zgV mlX4_218 imX2_isAlive slX2_isAlive iniX2 cdX2_isAlive) rfl rfl rfl (by decide +kernel) ⟨Nat.le_of_ble_eq_true rfl, Nat.le_of_ble_eq_true rfl⟩) (hkS_20 ht) (lyS_20 ht) rfl rfl rfl hl.1 rfl (Nat.le_of_ble_eq_true rfl) dX4_isAlike_9 ⟨Nat.zero_le _, Nat.zero_le _⟩ (fun r_5 σ4 H locs q6 hP hS => ?_)
  obtain ⟨rfl, q6⟩ := q6
  rw [q6] at hP
  have b_8 := bI_01 (kAlive σ t z)
  have b_9 := bI_01 (kAlive σ r z)
  refine zg_icmp_eq (tgt := 17) C (by omega) (by omega) (by omega) (by omega) dX4_isAlike_12 (by decide) (fun c_7 => ?_) (fun c_7 => ?_)
  · refine zg_iload_n C dX4_isAlike_17 rfl (lv_at hl 0 rfl) ?_
    refine zg_ifeqB (tgt := 34) C dX4_isAlike_18 (by decide) (fun c_10 => ?_) (fun c_10 => ?_)
    · refine zg_iconst C dX4_isAlike_34 ?_
      refine zg_goto (tgt := 39) C dX4_isAlike_35 (by decide) ?_
      refine zg_zret (b := true) C hP hS dX4_isAlike_39 ?_
      first | exact ⟨congrArg (fun b => jI (bI b)) (kAlike_dead (by assumption) (by assumption)), zq_rf hR⟩ | exact ⟨congrArg (fun b => jI (bI b)) (kAlike_same (by assumption) (by assumption) (by rw [← zq_kinds (r := t) (zq_rf hR)]; assumption)), (zq_rf hR)⟩ | exact ⟨congrArg (fun b => jI (bI b)) (kAlike_diff (by assumption) (by assumption) (by rw [← zq_kinds (r := t) (zq_rf hR)]; assumption)), (zq_rf hR)⟩
    · refine zg_aload_n C dX4_isAlike_21 rfl (lv_at hl 1 rfl) ?_
      refine zg_iload_n C dX4_isAlike_22 rfl (lv_at hl 3 rfl) ?_
      refine zg_callV C X hP hS (kX2_kindsOf l σ hR r hr z (by omega) (by omega)) (cwV 1 C.ts (zgV mlX4_147 imX2_kindsOf slX2_kindsOf iniX2 cdX2_kindsOf) rfl rfl rfl (by decide +kernel) ⟨Nat.le_of_ble_eq_true rfl, Nat.le_of_ble_eq_true rfl⟩) (hkS_20 hr) (lyS_20 hr) rfl rfl rfl hl.1 rfl (Nat.le_of_ble_eq_true rfl) dX4_isAlike_23 ⟨Nat.zero_le _, Nat.zero_le _⟩ (fun r_12 σ11 H locs q13 hP hS => ?_)
      obtain ⟨rfl, q13⟩ := q13
      have b_14 := kKinds_rg σ r z
      have hR15 : rgS σ11 := q13.1
      refine zg_aload_n C dX4_isAlike_26 rfl (lv_at hl 2 rfl) ?_
      refine zg_iload_n C dX4_isAlike_27 rfl (lv_at hl 3 rfl) ?_
      refine zg_callV C X hP hS (kX2_kindsOf l σ11 hR15 t ht z (by omega) (by omega)) (cwV 1 C.ts (zgV mlX4_147 imX2_kindsOf slX2_kindsOf iniX2 cdX2_kindsOf) rfl rfl rfl (by decide +kernel) ⟨Nat.le_of_ble_eq_true rfl, Nat.le_of_ble_eq_true rfl⟩) (hkS_20 ht) (lyS_20 ht) rfl rfl rfl hl.1 rfl (Nat.le_of_ble_eq_true rfl) dX4_isAlike_28 ⟨Nat.zero_le _, Nat.zero_le _⟩ (fun r_17 σ16 H locs q18 hP hS => ?_)
      obtain ⟨rfl, q18⟩ := q18
      have b_19 := kKinds_rg σ11 t z
      have hR20 : rgS σ16 := q18.1
      refine zg_icmp_ne (tgt := 38) C (by omega) (by omega) (by omega) (by omega) dX4_isAlike_31 (by decide) (fun c_21 => ?_) (fun c_21 => ?_)
      · refine zg_iconst C dX4_isAlike_38 ?_
        refine zg_zret (b := false) C hP hS dX4_isAlike_39 ?_
        first | exact ⟨congrArg (fun b => jI (bI b)) (kAlike_dead (by assumption) (by assumption)), zq_rf hR⟩ | exact ⟨congrArg (fun b => jI (bI b)) (kAlike_same (by assumption) (by assumption) (by rw [← zq_kinds (r := t) q13]; assumption)), (zq_tr q13 q18)⟩ | exact ⟨congrArg (fun b => jI (bI b)) (kAlike_diff (by assumption) (by assumption) (by rw [← zq_kinds (r := t) q13]; assumption)), (zq_tr q13 q18)⟩
      · refine zg_iconst C dX4_isAlike_34 ?_
        refine zg_goto (tgt := 39) C dX4_isAlike_35 (by decide) ?_
        refine zg_zret (b := true) C hP hS dX4_isAlike_39 ?_
        first | exact ⟨congrArg (fun b => jI (bI b)) (kAlike_dead (by assumption) (by assumption)), zq_rf hR⟩ | exact ⟨congrArg (fun b => jI (bI b)) (kAlike_same (by assumption) (by assumption) (by rw [← zq_kinds (r := t) q13]; assumption)), (zq_tr q13 q18)⟩ | exact ⟨congrArg (fun b => jI (bI b)) (kAlike_diff (by assumption) (by assumption) (by rw [← zq_kinds (r := t) q13]; assumption)), (zq_tr q13 q18)⟩
  · refine zg_iconst C dX4_isAlike_15 ?_
    refine zg_zret (b := false) C hP hS dX4_isAlike_16 ?_
    exact ⟨congrArg (fun b => jI (bI b)) (kAlike_ne (by assumption)), zq_rf hR⟩
end
section
set_option maxHeartbeats 4000000 in
set_option maxRecDepth 100000 in
theorem kX4_stream (l : Launch) {D : va_G} {a : Nat → Nat} {cI cZ cR : ClassId} (σ : Zt) (hR : rgS σ) (x : Int) (v : Int) (x0 : -2147483648 ≤ x) (x1 : x < 2147483648) (v0 : -2147483648 ≤ v) (v1 : v < 2147483648) (hp : kPre σ) : zc l D vwCl (tyS cI cZ cR) 56 (layS cI cZ cR a) a yX4_stream wsX4_stream ({ frames := 1, cells := 0, slots := 0, locals := 20 }) [.ref (a 0), .int (jI x), .int (jI v)] σ (fun r_ u_ => r_ = jI (kStrR σ x) ∧ u_ = kStrS σ x v) := by
  refine zc_of (cc := cX4_stream) (maxL := 4) (ret := some .int) (own := RX4) (by decide) rfl rfl (Nat.le_of_ble_eq_true rfl) rfl ?_
  intro p e s m below meth c A ls C X hP hS hl
  refine zg_iload_n C dX4_stream_0 rfl (lv_at hl 1 rfl) ?_
  refine zg_callS C X hP hS (kX4_isReplica l σ hR x (by omega) (by omega)) (cwS 1 C.ts (zgS mlX4_39 stX4_isReplica iniX4 cdX4_isReplica) rfl rfl rfl (by decide +kernel) ⟨Nat.le_of_ble_eq_true rfl, Nat.le_of_ble_eq_true rfl⟩) rfl hl.1 rfl (Nat.le_of_ble_eq_true rfl) dX4_stream_1 ⟨Nat.zero_le _, Nat.zero_le _⟩ (fun r_2 σ1 H locs q3 hP hS => ?_)
  obtain ⟨rfl, q3⟩ := q3
  rw [q3] at hP
  refine zg_ifneB (tgt := 10) C dX4_stream_4 (by decide) (fun c_4 => ?_) (fun c_4 => ?_)
  · have b_5 := kIsR_t c_4
    refine zg_aload_n C dX4_stream_10 rfl (lv_at hl 0 rfl) ?_
    refine zg_get (j := 3) C X hP (by decide) lyS_0 rfl (zmem uwX4) (by decide) (C.tb flX4_32) (fun _ h9 => h9) rfl dX4_stream_11 ?_
    refine zg_iload_n C dX4_stream_14 rfl (lv_at hl 1 rfl) ?_
    have hr6 : (x).toNat < 6 := by omega
    refine zg_aald (t0 := 2) C X hP (by decide) lyS_19 rfl (by decide) (by omega) (by omega) rfl dX4_stream_15 ?_
    refine zg_get (j := 3) C X hP (hkS_20 hr6) (lyS_20 hr6) rfl (zmem uwX2) (by decide) (C.tb flX4_43) (fun _ h9 => h9) rfl dX4_stream_16 ?_
    refine zg_istore_n (lv' := [(3, .int (jI (σ (20 + 6 * (x).toNat) 3))), (0, .ref (a 0)), (1, .int (jI x)), (2, .int (jI v))]) C dX4_stream_19 rfl hl (by decide) rfl (fun ls hl => ?_)
    refine zg_aload_n C dX4_stream_20 rfl (lv_at hl 1 rfl) ?_
    refine zg_get (j := 3) C X hP (by decide) lyS_0 rfl (zmem uwX4) (by decide) (C.tb flX4_32) (fun _ h9 => h9) rfl dX4_stream_21 ?_
    refine zg_iload_n C dX4_stream_24 rfl (lv_at hl 2 rfl) ?_
    have hr7 : (x).toNat < 6 := by omega
    refine zg_aald (t0 := 2) C X hP (by decide) lyS_19 rfl (by decide) (by omega) (by omega) rfl dX4_stream_25 ?_
    refine zg_iload_n C dX4_stream_26 rfl (lv_at hl 3 rfl) ?_
    refine zg_put (j := 3) (v := v) C X hP hS (hkS_20 hr7) (lyS_20 hr7) rfl (zmem uwX2) tyX2 tyX2_ok nmX2 (by decide) (C.tb flX4_43) (fun _ h9 => h9) rfl (by decide +kernel) (Nat.le_of_ble_eq_true rfl) (by rw [(lyS_20 hr7)]; rfl) dX4_stream_27 (fun H locs hP hS => ?_)
    obtain ⟨σ8, e9⟩ : ∃ z_ : Zt, z_ = zu σ (20 + 6 * (x).toNat) 3 v := ⟨_, rfl⟩
    rw [← e9] at hP
    have w_11 : σ8 (20 + 6 * (x).toNat) 3 = v := by rw [e9]; exact zu_same _ _ _ _
    have hR10 : rgS σ8 := by rw [e9]; exact rzS_20_3 hR hr7
    refine zg_iload_n C dX4_stream_30 rfl (lv_at hl 0 rfl) ?_
    refine zg_iret C hP hS dX4_stream_31 ?_
    subst e9
    exact ⟨congrArg jI (by simp [kStrR, c_4]), by simp [kStrS, c_4]⟩
  · have b_12 := kIsR_f c_4
    refine zg_bipush C dX4_stream_7 (by decide) ?_
    refine zg_iret C hP hS dX4_stream_9 ?_
    exact ⟨congrArg jI (by simp [kStrR, c_4]), by simp [kStrS, c_4]⟩
set_option maxHeartbeats 4000000 in
set_option maxRecDepth 100000 in
theorem kX4_type (l : Launch) {D : va_G} {a : Nat → Nat} {cI cZ cR : ClassId} (σ : Zt) (hR : rgS σ) (x : Int) (q : Int) (v : Int) (x0 : -2147483648 ≤ x) (x1 : x < 2147483648) (q0 : -2147483648 ≤ q) (q1 : q < 2147483648) (v0 : -2147483648 ≤ v) (v1 : v < 2147483648) (hp : kPre σ) : zc l D vwCl (tyS cI cZ cR) 56 (layS cI cZ cR a) a yX4_type wsX4_type ({ frames := 5, cells := 0, slots := 0, locals := 111 }) [.ref (a 0), .int (jI x), .int (jI q), .int (jI v)] σ (fun r_ u_ => r_ = jI (kTypR σ x q v) ∧ u_ = kTypS σ x q v) := by
  refine zc_of (cc := cX4_type) (maxL := 4) (ret := some .int) (own := RX4) (by decide) rfl rfl (Nat.le_of_ble_eq_true rfl) rfl ?_
  intro p e s m below meth c A ls C X hP hS hl
  refine zg_iload_n C dX4_type_0 rfl (lv_at hl 1 rfl) ?_
  refine zg_callS C X hP hS (kX4_isReplica l σ hR x (by omega) (by omega)) (cwS 1 C.ts (zgS mlX4_39 stX4_isReplica iniX4 cdX4_isReplica) rfl rfl rfl (by decide +kernel) ⟨Nat.le_of_ble_eq_true rfl, Nat.le_of_ble_eq_true rfl⟩) rfl hl.1 rfl (Nat.le_of_ble_eq_true rfl) dX4_type_1 ⟨Nat.zero_le _, Nat.zero_le _⟩ (fun r_2 σ1 H locs q3 hP hS => ?_)
  obtain ⟨rfl, q3⟩ := q3
  rw [q3] at hP
  refine zg_ifneB (tgt := 10) C dX4_type_4 (by decide) (fun c_4 => ?_) (fun c_4 => ?_)
  · have b_5 := kIsR_t c_4
    refine zg_aload_n C dX4_type_10 rfl (lv_at hl 0 rfl) ?_
    refine zg_get (j := 3) C X hP (by decide) lyS_0 rfl (zmem uwX4) (by decide) (C.tb flX4_32) (fun _ h9 => h9) rfl dX4_type_11 ?_
    refine zg_iload_n C dX4_type_14 rfl (lv_at hl 1 rfl) ?_
    have hr6 : (x).toNat < 6 := by omega
    refine zg_aald (t0 := 2) C X hP (by decide) lyS_19 rfl (by decide) (by omega) (by omega) rfl dX4_type_15 ?_
    refine zg_iload_n C dX4_type_16 rfl (lv_at hl 2 rfl) ?_
    refine zg_callV C X hP hS (kX2_hasGap l σ hR ((x).toNat) hr6 q (by omega) (by omega)) (cwV 1 C.ts (zgV mlX4_47 imX2_hasGap slX2_hasGap iniX2 cdX2_hasGap) rfl rfl rfl (by decide +kernel) ⟨Nat.le_of_ble_eq_true rfl, Nat.le_of_ble_eq_true rfl⟩) (hkS_20 hr6) (lyS_20 hr6) rfl rfl rfl hl.1 rfl (Nat.le_of_ble_eq_true rfl) dX4_type_17 ⟨Nat.zero_le _, Nat.zero_le _⟩ (fun r_8 σ7 H locs q9 hP hS => ?_)
    obtain ⟨rfl, q9⟩ := q9
    rw [q9] at hP
    refine zg_ifeqB (tgt := 30) C dX4_type_20 (by decide) (fun c_10 => ?_) (fun c_10 => ?_)
    · refine zg_bipush C dX4_type_30 (by decide) ?_
      refine zg_iret C hP hS dX4_type_32 ?_
      exact ⟨congrArg jI (by simp [kTypR, c_4, c_10]), by simp [kTypS, c_4, c_10]⟩
    · have b_11 := kGap_t c_10
      refine zg_iload_n C dX4_type_23 rfl (lv_at hl 3 rfl) ?_
      refine zg_callS C X hP hS (kX4_isByte l σ hR v (by omega) (by omega)) (cwS 1 C.ts (zgS mlX4_50 stX4_isByte iniX4 cdX4_isByte) rfl rfl rfl (by decide +kernel) ⟨Nat.le_of_ble_eq_true rfl, Nat.le_of_ble_eq_true rfl⟩) rfl hl.1 rfl (Nat.le_of_ble_eq_true rfl) dX4_type_24 ⟨Nat.zero_le _, Nat.zero_le _⟩ (fun r_13 σ12 H locs q14 hP hS => ?_)
      obtain ⟨rfl, q14⟩ := q14
      rw [q14] at hP
      refine zg_ifneB (tgt := 33) C dX4_type_27 (by decide) (fun c_15 => ?_) (fun c_15 => ?_)
      · have b_16 := kIsB_t c_15
        refine zg_aload_n C dX4_type_33 rfl (lv_at hl 0 rfl) ?_
        refine zg_aload_n C dX4_type_34 rfl (lv_at hl 0 rfl) ?_
        refine zg_get (j := 3) C X hP (by decide) lyS_0 rfl (zmem uwX4) (by decide) (C.tb flX4_32) (fun _ h9 => h9) rfl dX4_type_35 ?_
        refine zg_iload_n C dX4_type_38 rfl (lv_at hl 1 rfl) ?_
        have hr17 : (x).toNat < 6 := by omega
        refine zg_aald (t0 := 2) C X hP (by decide) lyS_19 rfl (by decide) (by omega) (by omega) rfl dX4_type_39 ?_
        refine zg_iload_n C dX4_type_40 rfl (lv_at hl 2 rfl) ?_
        refine zg_iload_n C dX4_type_41 rfl (lv_at hl 3 rfl) ?_
        refine zg_callV C X hP hS (kX4_putSign l σ hR ((x).toNat) hr17 q v (by omega) (by omega) (by omega) (by omega) hp.1 hp.2.1 (hp.2.2.1 _ (by omega)).1 (hp.2.2.1 _ (by omega)).2 (kBefore_bk hR hp _ _)) (cwV 3 C.ts (zgV mlX4_53 imX4_putSign slX4_putSign iniX4 cdX4_putSign) rfl rfl rfl (by decide +kernel) ⟨Nat.le_of_ble_eq_true rfl, Nat.le_of_ble_eq_true rfl⟩) (by decide) lyS_0 rfl rfl rfl hl.1 rfl (Nat.le_of_ble_eq_true rfl) dX4_type_42 ⟨Nat.zero_le _, Nat.zero_le _⟩ (fun r_19 σ18 H locs q20 hP hS => ?_)
        obtain ⟨rfl, q20⟩ := q20
        have b_21 := kPutR_rg hR ((x).toNat) q
        have hR22 : rgS σ18 := by rw [q20]; exact kPutS_rg hR (by omega) (by omega) (by omega) hp.1 hp.2.1 (hp.2.2.1 _ (by omega)).1 (hp.2.2.1 _ (by omega)).2 (kBefore_bk hR hp _ _)
        refine zg_iret C hP hS dX4_type_45 ?_
        subst q20
        exact ⟨congrArg jI (by simp [kTypR, c_4, c_10, c_15]), by simp [kTypS, c_4, c_10, c_15]⟩
      · have b_23 := kIsB_f c_15
        refine zg_bipush C dX4_type_30 (by decide) ?_
        refine zg_iret C hP hS dX4_type_32 ?_
        exact ⟨congrArg jI (by simp [kTypR, c_4, c_10, c_15]), by simp [kTypS, c_4, c_10, c_15]⟩
  · have b_24 := kIsR_f c_4
    refine zg_bipush C dX4_type_7 (by decide) ?_
    refine zg_iret C hP hS dX4_type_9 ?_
    exact ⟨congrArg jI (by simp [kTypR, c_4]), by simp [kTypS, c_4]⟩
set_option maxHeartbeats 4000000 in
set_option maxRecDepth 100000 in
theorem kX4_erase (l : Launch) {D : va_G} {a : Nat → Nat} {cI cZ cR : ClassId} (σ : Zt) (hR : rgS σ) (x : Int) (q : Int) (x0 : -2147483648 ≤ x) (x1 : x < 2147483648) (q0 : -2147483648 ≤ q) (q1 : q < 2147483648) (hp : kPre σ) : zc l D vwCl (tyS cI cZ cR) 56 (layS cI cZ cR a) a yX4_erase wsX4_erase ({ frames := 3, cells := 0, slots := 0, locals := 72 }) [.ref (a 0), .int (jI x), .int (jI q)] σ (fun r_ u_ => r_ = jI (kEraR σ x q) ∧ u_ = kEraS σ x q) := by
  refine zc_of (cc := cX4_erase) (maxL := 4) (ret := some .int) (own := RX4) (by decide) rfl rfl (Nat.le_of_ble_eq_true rfl) rfl ?_
  intro p e s m below meth c A ls C X hP hS hl
  refine zg_iload_n C dX4_erase_0 rfl (lv_at hl 1 rfl) ?_
  refine zg_callS C X hP hS (kX4_isReplica l σ hR x (by omega) (by omega)) (cwS 1 C.ts (zgS mlX4_39 stX4_isReplica iniX4 cdX4_isReplica) rfl rfl rfl (by decide +kernel) ⟨Nat.le_of_ble_eq_true rfl, Nat.le_of_ble_eq_true rfl⟩) rfl hl.1 rfl (Nat.le_of_ble_eq_true rfl) dX4_erase_1 ⟨Nat.zero_le _, Nat.zero_le _⟩ (fun r_2 σ1 H locs q3 hP hS => ?_)
  obtain ⟨rfl, q3⟩ := q3
  rw [q3] at hP
  refine zg_ifneB (tgt := 10) C dX4_erase_4 (by decide) (fun c_4 => ?_) (fun c_4 => ?_)
  · have b_5 := kIsR_t c_4
    refine zg_aload_n C dX4_erase_10 rfl (lv_at hl 0 rfl) ?_
    refine zg_get (j := 3) C X hP (by decide) lyS_0 rfl (zmem uwX4) (by decide) (C.tb flX4_32) (fun _ h9 => h9) rfl dX4_erase_11 ?_
    refine zg_iload_n C dX4_erase_14 rfl (lv_at hl 1 rfl) ?_
    have hr6 : (x).toNat < 6 := by omega
    refine zg_aald (t0 := 2) C X hP (by decide) lyS_19 rfl (by decide) (by omega) (by omega) rfl dX4_erase_15 ?_
    refine zg_iload_n C dX4_erase_16 rfl (lv_at hl 2 rfl) ?_
    refine zg_callV C X hP hS (kX2_signAt l σ hR ((x).toNat) hr6 q (by omega) (by omega)) (cwV 1 C.ts (zgV mlX4_57 imX2_signAt slX2_signAt iniX2 cdX2_signAt) rfl rfl rfl (by decide +kernel) ⟨Nat.le_of_ble_eq_true rfl, Nat.le_of_ble_eq_true rfl⟩) (hkS_20 hr6) (lyS_20 hr6) rfl rfl rfl hl.1 rfl (Nat.le_of_ble_eq_true rfl) dX4_erase_17 ⟨Nat.zero_le _, Nat.zero_le _⟩ (fun r_8 σ7 H locs q9 hP hS => ?_)
    obtain ⟨rfl, q9⟩ := q9
    have b_10 := kSignAt_rg hR ((x).toNat) q
    rw [q9] at hP
    refine zg_istore_n (lv' := [(3, .int (jI (kSignAt σ ((x).toNat) q))), (0, .ref (a 0)), (1, .int (jI x)), (2, .int (jI q))]) C dX4_erase_20 rfl hl (by decide) rfl (fun ls hl => ?_)
    refine zg_iload_n C dX4_erase_21 rfl (lv_at hl 0 rfl) ?_
    refine zg_iconst C dX4_erase_22 ?_
    refine zg_icmp_ne (tgt := 29) C (by omega) (by omega) (by omega) (by omega) dX4_erase_23 (by decide) (fun c_11 => ?_) (fun c_11 => ?_)
    · refine zg_aload_n C dX4_erase_29 rfl (lv_at hl 1 rfl) ?_
      refine zg_get (j := 0) C X hP (by decide) lyS_0 rfl (zmem uwX4) (by decide) (C.tb flX4_10) (fun _ h9 => h9) rfl dX4_erase_30 ?_
      refine zg_callV C X hP hS (kX0_isFull l σ hR) (cwV 0 C.ts (zgV mlX4_61 imX0_isFull slX0_isFull iniX0 cdX0_isFull) rfl rfl rfl (by decide +kernel) ⟨Nat.le_of_ble_eq_true rfl, Nat.le_of_ble_eq_true rfl⟩) (by decide) lyS_1 rfl rfl rfl hl.1 rfl (Nat.le_of_ble_eq_true rfl) dX4_erase_33 ⟨Nat.zero_le _, Nat.zero_le _⟩ (fun r_13 σ12 H locs q14 hP hS => ?_)
      obtain ⟨rfl, q14⟩ := q14
      rw [q14] at hP
      refine zg_ifeqB (tgt := 44) C dX4_erase_36 (by decide) (fun c_15 => ?_) (fun c_15 => ?_)
      · have b_16 := kFull_f c_15
        refine zg_aload_n C dX4_erase_44 rfl (lv_at hl 1 rfl) ?_
        refine zg_aload_n C dX4_erase_45 rfl (lv_at hl 1 rfl) ?_
        refine zg_get (j := 3) C X hP (by decide) lyS_0 rfl (zmem uwX4) (by decide) (C.tb flX4_32) (fun _ h9 => h9) rfl dX4_erase_46 ?_
        refine zg_iload_n C dX4_erase_49 rfl (lv_at hl 2 rfl) ?_
        have hr17 : (x).toNat < 6 := by omega
        refine zg_aald (t0 := 2) C X hP (by decide) lyS_19 rfl (by decide) (by omega) (by omega) rfl dX4_erase_50 ?_
        refine zg_iconst C dX4_erase_51 ?_
        refine zg_iconst C dX4_erase_52 ?_
        refine zg_iload_n C dX4_erase_53 rfl (lv_at hl 0 rfl) ?_
        refine zg_iload_n C dX4_erase_54 rfl (lv_at hl 0 rfl) ?_
        refine zg_callV C X hP hS (kX4_perform l σ hR ((x).toNat) hr17 1 0 (kSignAt σ ((x).toNat) q) (kSignAt σ ((x).toNat) q) (by omega) (by have h9 := hp.1; omega) (by have h9 := (hp.2.2.1 _ (by omega : x.toNat < 6)).1; omega) (by have h9 := (hp.2.2.1 _ (by omega : x.toNat < 6)).2; omega) (by omega) (by omega) (by omega) (by omega) (by omega) (by omega) (by omega) (by omega)) (cwV 5 C.ts (zgV mlX4_65 imX4_perform slX4_perform iniX4 cdX4_perform) rfl rfl rfl (by decide +kernel) ⟨Nat.le_of_ble_eq_true rfl, Nat.le_of_ble_eq_true rfl⟩) (by decide) lyS_0 rfl rfl rfl hl.1 rfl (Nat.le_of_ble_eq_true rfl) dX4_erase_55 ⟨Nat.zero_le _, Nat.zero_le _⟩ (fun r_19 σ18 H locs q20 hP hS => ?_)
        obtain ⟨rfl, q20⟩ := q20
        have hR21 : rgS σ18 := by rw [q20]; exact kPerform_rg hR (by omega) (by omega) (by have h9 := hp.1; omega) (by have h9 := (hp.2.2.1 _ (by omega : x.toNat < 6)).1; omega) (by have h9 := (hp.2.2.1 _ (by omega : x.toNat < 6)).2; omega) (by omega) (by omega) (by omega) (by omega) (by omega) (by omega) (by omega) (by omega)
        refine zg_iret C hP hS dX4_erase_58 ?_
        subst q20
        exact ⟨congrArg jI (by simp [kEraR, c_4, c_11, c_15]), by simp [kEraS, c_4, c_11, c_15]⟩
      · refine zg_bipush C dX4_erase_39 (by decide) ?_
        refine zg_goto (tgt := 58) C dX4_erase_41 (by decide) ?_
        refine zg_iret C hP hS dX4_erase_58 ?_
        exact ⟨congrArg jI (by simp [kEraR, c_4, c_11, c_15]), by simp [kEraS, c_4, c_11, c_15]⟩
    · refine zg_bipush C dX4_erase_26 (by decide) ?_
      refine zg_iret C hP hS dX4_erase_28 ?_
      exact ⟨congrArg jI (by simp [kEraR, c_4, c_11]), by simp [kEraS, c_4, c_11]⟩
  · have b_22 := kIsR_f c_4
    refine zg_bipush C dX4_erase_7 (by decide) ?_
    refine zg_iret C hP hS dX4_erase_9 ?_
    exact ⟨congrArg jI (by simp [kEraR, c_4]), by simp [kEraS, c_4]⟩
set_option maxHeartbeats 4000000 in
set_option maxRecDepth 100000 in
theorem kX4_undo (l : Launch) {D : va_G} {a : Nat → Nat} {cI cZ cR : ClassId} (σ : Zt) (hR : rgS σ) (x : Int) (x0 : -2147483648 ≤ x) (x1 : x < 2147483648) (hp : kPre σ) : zc l D vwCl (tyS cI cZ cR) 56 (layS cI cZ cR a) a yX4_undo wsX4_undo ({ frames := 3, cells := 0, slots := 0, locals := 72 }) [.ref (a 0), .int (jI x)] σ (fun r_ u_ => r_ = jI (kUndR σ x) ∧ u_ = kUndS σ x) := by
  refine zc_of (cc := cX4_undo) (maxL := 5) (ret := some .int) (own := RX4) (by decide) rfl rfl (Nat.le_of_ble_eq_true rfl) rfl ?_
  intro p e s m below meth c A ls C X hP hS hl
  refine zg_iload_n C dX4_undo_0 rfl (lv_at hl 1 rfl) ?_
  refine zg_callS C X hP hS (kX4_isReplica l σ hR x (by omega) (by omega)) (cwS 1 C.ts (zgS mlX4_39 stX4_isReplica iniX4 cdX4_isReplica) rfl rfl rfl (by decide +kernel) ⟨Nat.le_of_ble_eq_true rfl, Nat.le_of_ble_eq_true rfl⟩) rfl hl.1 rfl (Nat.le_of_ble_eq_true rfl) dX4_undo_1 ⟨Nat.zero_le _, Nat.zero_le _⟩ (fun r_2 σ1 H locs q3 hP hS => ?_)
  obtain ⟨rfl, q3⟩ := q3
  rw [q3] at hP
  refine zg_ifneB (tgt := 10) C dX4_undo_4 (by decide) (fun c_4 => ?_) (fun c_4 => ?_)
  · have b_5 := kIsR_t c_4
    refine zg_aload_n C dX4_undo_10 rfl (lv_at hl 0 rfl) ?_
    refine zg_get (j := 0) C X hP (by decide) lyS_0 rfl (zmem uwX4) (by decide) (C.tb flX4_10) (fun _ h9 => h9) rfl dX4_undo_11 ?_
    refine zg_iload_n C dX4_undo_14 rfl (lv_at hl 1 rfl) ?_
    refine zg_callV C X hP hS (kX0_lastToUndo l σ hR x (by omega) (by omega)) (cwV 1 C.ts (zgV mlX4_69 imX0_lastToUndo slX0_lastToUndo iniX0 cdX0_lastToUndo) rfl rfl rfl (by decide +kernel) ⟨Nat.le_of_ble_eq_true rfl, Nat.le_of_ble_eq_true rfl⟩) (by decide) lyS_1 rfl rfl rfl hl.1 rfl (Nat.le_of_ble_eq_true rfl) dX4_undo_15 ⟨Nat.zero_le _, Nat.zero_le _⟩ (fun r_7 σ6 H locs q8 hP hS => ?_)
    obtain ⟨rfl, q8⟩ := q8
    have b_9 := kLast_rg σ x (σ 1 10).toNat
    have b_10 := rgS_1_10 hR
    rw [q8] at hP
    refine zg_istore_n (lv' := [(2, .int (jI (kLast σ x (σ 1 10).toNat))), (0, .ref (a 0)), (1, .int (jI x))]) C dX4_undo_18 rfl hl (by decide) rfl (fun ls hl => ?_)
    refine zg_iload_n C dX4_undo_19 rfl (lv_at hl 0 rfl) ?_
    refine zg_iconst C dX4_undo_20 ?_
    refine zg_icmp_ne (tgt := 27) C (by omega) (by omega) (by omega) (by omega) dX4_undo_21 (by decide) (fun c_11 => ?_) (fun c_11 => ?_)
    · refine zg_aload_n C dX4_undo_27 rfl (lv_at hl 1 rfl) ?_
      refine zg_get (j := 0) C X hP (by decide) lyS_0 rfl (zmem uwX4) (by decide) (C.tb flX4_10) (fun _ h9 => h9) rfl dX4_undo_28 ?_
      refine zg_callV C X hP hS (kX0_isFull l σ hR) (cwV 0 C.ts (zgV mlX4_61 imX0_isFull slX0_isFull iniX0 cdX0_isFull) rfl rfl rfl (by decide +kernel) ⟨Nat.le_of_ble_eq_true rfl, Nat.le_of_ble_eq_true rfl⟩) (by decide) lyS_1 rfl rfl rfl hl.1 rfl (Nat.le_of_ble_eq_true rfl) dX4_undo_31 ⟨Nat.zero_le _, Nat.zero_le _⟩ (fun r_13 σ12 H locs q14 hP hS => ?_)
      obtain ⟨rfl, q14⟩ := q14
      rw [q14] at hP
      refine zg_ifeqB (tgt := 40) C dX4_undo_34 (by decide) (fun c_15 => ?_) (fun c_15 => ?_)
      · have b_16 := kFull_f c_15
        refine zg_aload_n C dX4_undo_40 rfl (lv_at hl 1 rfl) ?_
        refine zg_get (j := 0) C X hP (by decide) lyS_0 rfl (zmem uwX4) (by decide) (C.tb flX4_10) (fun _ h9 => h9) rfl dX4_undo_41 ?_
        refine zg_get (j := 5) C X hP (by decide) lyS_1 rfl (zmem uwX0) (by decide) (C.tb flX4_72) (fun _ h9 => h9) rfl dX4_undo_44 ?_
        refine zg_iload_n C dX4_undo_47 rfl (lv_at hl 0 rfl) ?_
        refine zg_iald (t0 := 0) C X hP (by decide) lyS_7 rfl (by decide) (by omega) (by omega) dX4_undo_48 ?_
        have b_17 := rgS_7 hR ((kLast σ x (σ 1 10).toNat).toNat)
        refine zg_istore_n (lv' := [(3, .int (jI (σ 7 (kLast σ x (σ 1 10).toNat).toNat))), (2, .int (jI (kLast σ x (σ 1 10).toNat))), (0, .ref (a 0)), (1, .int (jI x))]) C dX4_undo_49 rfl hl (by decide) rfl (fun ls hl => ?_)
        refine zg_aload_n C dX4_undo_50 rfl (lv_at hl 2 rfl) ?_
        refine zg_aload_n C dX4_undo_51 rfl (lv_at hl 2 rfl) ?_
        refine zg_get (j := 3) C X hP (by decide) lyS_0 rfl (zmem uwX4) (by decide) (C.tb flX4_32) (fun _ h9 => h9) rfl dX4_undo_52 ?_
        refine zg_iload_n C dX4_undo_55 rfl (lv_at hl 3 rfl) ?_
        have hr18 : (x).toNat < 6 := by omega
        refine zg_aald (t0 := 2) C X hP (by decide) lyS_19 rfl (by decide) (by omega) (by omega) rfl dX4_undo_56 ?_
        refine zg_aload_n C dX4_undo_57 rfl (lv_at hl 2 rfl) ?_
        refine zg_get (j := 0) C X hP (by decide) lyS_0 rfl (zmem uwX4) (by decide) (C.tb flX4_10) (fun _ h9 => h9) rfl dX4_undo_58 ?_
        refine zg_get (j := 3) C X hP (by decide) lyS_1 rfl (zmem uwX0) (by decide) (C.tb flX4_76) (fun _ h9 => h9) rfl dX4_undo_61 ?_
        refine zg_iload_n C dX4_undo_64 rfl (lv_at hl 1 rfl) ?_
        refine zg_iald (t0 := 0) C X hP (by decide) lyS_5 rfl (by decide) (by omega) (by omega) dX4_undo_65 ?_
        have b_19 := rgS_5 hR ((kLast σ x (σ 1 10).toNat).toNat)
        refine zg_if_ne (tgt := 73) C (by omega) (by omega) dX4_undo_66 (by decide) (fun c_20 => ?_) (fun c_20 => ?_)
        · refine zg_iconst C dX4_undo_73 ?_
          refine zg_iconst C dX4_undo_74 ?_
          refine zg_iload_n C dX4_undo_75 rfl (lv_at hl 0 rfl) ?_
          refine zg_iload_n C dX4_undo_76 rfl (lv_at hl 0 rfl) ?_
          refine zg_callV C X hP hS (kX4_perform l σ hR ((x).toNat) hr18 2 0 (σ 7 (kLast σ x (σ 1 10).toNat).toNat) (σ 7 (kLast σ x (σ 1 10).toNat).toNat) (by omega) (by have h9 := hp.1; omega) (by have h9 := (hp.2.2.1 _ (by omega : x.toNat < 6)).1; omega) (by have h9 := (hp.2.2.1 _ (by omega : x.toNat < 6)).2; omega) (by omega) (by omega) (by omega) (by omega) (by omega) (by omega) (by omega) (by omega)) (cwV 5 C.ts (zgV mlX4_65 imX4_perform slX4_perform iniX4 cdX4_perform) rfl rfl rfl (by decide +kernel) ⟨Nat.le_of_ble_eq_true rfl, Nat.le_of_ble_eq_true rfl⟩) (by decide) lyS_0 rfl rfl rfl hl.1 rfl (Nat.le_of_ble_eq_true rfl) dX4_undo_77 ⟨Nat.zero_le _, Nat.zero_le _⟩ (fun r_22 σ21 H locs q23 hP hS => ?_)
          obtain ⟨rfl, q23⟩ := q23
          have hR24 : rgS σ21 := by rw [q23]; exact kPerform_rg hR (by omega) (by omega) (by have h9 := hp.1; omega) (by have h9 := (hp.2.2.1 _ (by omega : x.toNat < 6)).1; omega) (by have h9 := (hp.2.2.1 _ (by omega : x.toNat < 6)).2; omega) (by omega) (by omega) (by omega) (by omega) (by omega) (by omega) (by omega) (by omega)
          refine zg_istore (lv' := [(4, .int (jI (σ 1 10))), (3, .int (jI (σ 7 (kLast σ x (σ 1 10).toNat).toNat))), (2, .int (jI (kLast σ x (σ 1 10).toNat))), (0, .ref (a 0)), (1, .int (jI x))]) C dX4_undo_80 hl (by decide) rfl (fun ls hl => ?_)
          refine zg_aload_n C dX4_undo_82 rfl (lv_at hl 3 rfl) ?_
          refine zg_get (j := 0) C X hP (by decide) lyS_0 rfl (zmem uwX4) (by decide) (C.tb flX4_10) (fun _ h9 => h9) rfl dX4_undo_83 ?_
          refine zg_get (j := 7) C X hP (by decide) lyS_1 rfl (zmem uwX0) (by decide) (C.tb flX4_79) (fun _ h9 => h9) rfl dX4_undo_86 ?_
          refine zg_iload_n C dX4_undo_89 rfl (lv_at hl 2 rfl) ?_
          refine zg_iconst C dX4_undo_90 ?_
          refine zg_zast (t0 := 1) (b := false) C X hP hS (by decide) (fun x => lyS_9) rfl (by decide) (by omega) (by omega) dX4_undo_91 (fun H locs hP hS => ?_)
          have b_25 := bI_01 false
          obtain ⟨σ26, e27⟩ : ∃ z_ : Zt, z_ = zu σ21 9 (kLast σ x (σ 1 10).toNat).toNat (bI false) := ⟨_, rfl⟩
          rw [← e27] at hP
          have w_29 : σ26 9 (kLast σ x (σ 1 10).toNat).toNat = bI false := by rw [e27]; exact zu_same _ _ _ _
          have hR28 : rgS σ26 := by rw [e27]; exact rzS_9 hR24 (by omega) (by omega)
          refine zg_aload_n C dX4_undo_92 rfl (lv_at hl 3 rfl) ?_
          refine zg_get (j := 0) C X hP (by decide) lyS_0 rfl (zmem uwX4) (by decide) (C.tb flX4_10) (fun _ h9 => h9) rfl dX4_undo_93 ?_
          refine zg_get (j := 7) C X hP (by decide) lyS_1 rfl (zmem uwX0) (by decide) (C.tb flX4_79) (fun _ h9 => h9) rfl dX4_undo_96 ?_
          refine zg_iload C dX4_undo_99 (lv_at hl 0 rfl) ?_
          refine zg_iconst C dX4_undo_101 ?_
          refine zg_zast (t0 := 1) (b := false) C X hP hS (by decide) (fun x => lyS_9) rfl (by decide) (by omega) (by omega) dX4_undo_102 (fun H locs hP hS => ?_)
          have b_30 := bI_01 false
          obtain ⟨σ31, e32⟩ : ∃ z_ : Zt, z_ = zu σ26 9 (σ 1 10).toNat (bI false) := ⟨_, rfl⟩
          rw [← e32] at hP
          have w_34 : σ31 9 (σ 1 10).toNat = bI false := by rw [e32]; exact zu_same _ _ _ _
          have hR33 : rgS σ31 := by rw [e32]; exact rzS_9 hR28 (by omega) (by omega)
          refine zg_iload C dX4_undo_103 (lv_at hl 0 rfl) ?_
          refine zg_iret C hP hS dX4_undo_105 ?_
          subst q23 e27 e32
          exact ⟨congrArg jI (by simp [kUndR, kULast, c_4, c_11, c_15, c_20]), by simp [kUndS, kULast, bI, c_4, c_11, c_15, c_20]⟩
        · refine zg_iconst C dX4_undo_69 ?_
          refine zg_goto (tgt := 74) C dX4_undo_70 (by decide) ?_
          refine zg_iconst C dX4_undo_74 ?_
          refine zg_iload_n C dX4_undo_75 rfl (lv_at hl 0 rfl) ?_
          refine zg_iload_n C dX4_undo_76 rfl (lv_at hl 0 rfl) ?_
          refine zg_callV C X hP hS (kX4_perform l σ hR ((x).toNat) hr18 1 0 (σ 7 (kLast σ x (σ 1 10).toNat).toNat) (σ 7 (kLast σ x (σ 1 10).toNat).toNat) (by omega) (by have h9 := hp.1; omega) (by have h9 := (hp.2.2.1 _ (by omega : x.toNat < 6)).1; omega) (by have h9 := (hp.2.2.1 _ (by omega : x.toNat < 6)).2; omega) (by omega) (by omega) (by omega) (by omega) (by omega) (by omega) (by omega) (by omega)) (cwV 5 C.ts (zgV mlX4_65 imX4_perform slX4_perform iniX4 cdX4_perform) rfl rfl rfl (by decide +kernel) ⟨Nat.le_of_ble_eq_true rfl, Nat.le_of_ble_eq_true rfl⟩) (by decide) lyS_0 rfl rfl rfl hl.1 rfl (Nat.le_of_ble_eq_true rfl) dX4_undo_77 ⟨Nat.zero_le _, Nat.zero_le _⟩ (fun r_36 σ35 H locs q37 hP hS => ?_)
          obtain ⟨rfl, q37⟩ := q37
          have hR38 : rgS σ35 := by rw [q37]; exact kPerform_rg hR (by omega) (by omega) (by have h9 := hp.1; omega) (by have h9 := (hp.2.2.1 _ (by omega : x.toNat < 6)).1; omega) (by have h9 := (hp.2.2.1 _ (by omega : x.toNat < 6)).2; omega) (by omega) (by omega) (by omega) (by omega) (by omega) (by omega) (by omega) (by omega)
          refine zg_istore (lv' := [(4, .int (jI (σ 1 10))), (3, .int (jI (σ 7 (kLast σ x (σ 1 10).toNat).toNat))), (2, .int (jI (kLast σ x (σ 1 10).toNat))), (0, .ref (a 0)), (1, .int (jI x))]) C dX4_undo_80 hl (by decide) rfl (fun ls hl => ?_)
          refine zg_aload_n C dX4_undo_82 rfl (lv_at hl 3 rfl) ?_
          refine zg_get (j := 0) C X hP (by decide) lyS_0 rfl (zmem uwX4) (by decide) (C.tb flX4_10) (fun _ h9 => h9) rfl dX4_undo_83 ?_
          refine zg_get (j := 7) C X hP (by decide) lyS_1 rfl (zmem uwX0) (by decide) (C.tb flX4_79) (fun _ h9 => h9) rfl dX4_undo_86 ?_
          refine zg_iload_n C dX4_undo_89 rfl (lv_at hl 2 rfl) ?_
          refine zg_iconst C dX4_undo_90 ?_
          refine zg_zast (t0 := 1) (b := false) C X hP hS (by decide) (fun x => lyS_9) rfl (by decide) (by omega) (by omega) dX4_undo_91 (fun H locs hP hS => ?_)
          have b_39 := bI_01 false
          obtain ⟨σ40, e41⟩ : ∃ z_ : Zt, z_ = zu σ35 9 (kLast σ x (σ 1 10).toNat).toNat (bI false) := ⟨_, rfl⟩
          rw [← e41] at hP
          have w_43 : σ40 9 (kLast σ x (σ 1 10).toNat).toNat = bI false := by rw [e41]; exact zu_same _ _ _ _
          have hR42 : rgS σ40 := by rw [e41]; exact rzS_9 hR38 (by omega) (by omega)
          refine zg_aload_n C dX4_undo_92 rfl (lv_at hl 3 rfl) ?_
          refine zg_get (j := 0) C X hP (by decide) lyS_0 rfl (zmem uwX4) (by decide) (C.tb flX4_10) (fun _ h9 => h9) rfl dX4_undo_93 ?_
          refine zg_get (j := 7) C X hP (by decide) lyS_1 rfl (zmem uwX0) (by decide) (C.tb flX4_79) (fun _ h9 => h9) rfl dX4_undo_96 ?_
          refine zg_iload C dX4_undo_99 (lv_at hl 0 rfl) ?_
          refine zg_iconst C dX4_undo_101 ?_
          refine zg_zast (t0 := 1) (b := false) C X hP hS (by decide) (fun x => lyS_9) rfl (by decide) (by omega) (by omega) dX4_undo_102 (fun H locs hP hS => ?_)
          have b_44 := bI_01 false
          obtain ⟨σ45, e46⟩ : ∃ z_ : Zt, z_ = zu σ40 9 (σ 1 10).toNat (bI false) := ⟨_, rfl⟩
          rw [← e46] at hP
          have w_48 : σ45 9 (σ 1 10).toNat = bI false := by rw [e46]; exact zu_same _ _ _ _
          have hR47 : rgS σ45 := by rw [e46]; exact rzS_9 hR42 (by omega) (by omega)
          refine zg_iload C dX4_undo_103 (lv_at hl 0 rfl) ?_
          refine zg_iret C hP hS dX4_undo_105 ?_
          subst q37 e41 e46
          exact ⟨congrArg jI (by simp [kUndR, kULast, c_4, c_11, c_15, c_20]), by simp [kUndS, kULast, bI, c_4, c_11, c_15, c_20]⟩
      · refine zg_bipush C dX4_undo_37 (by decide) ?_
        refine zg_iret C hP hS dX4_undo_39 ?_
        exact ⟨congrArg jI (by simp [kUndR, kULast, c_4, c_11, c_15]), by simp [kUndS, kULast, bI, c_4, c_11, c_15]⟩
    · refine zg_bipush C dX4_undo_24 (by decide) ?_
      refine zg_iret C hP hS dX4_undo_26 ?_
      exact ⟨congrArg jI (by simp [kUndR, kULast, c_4, c_11]), by simp [kUndS, kULast, bI, c_4, c_11]⟩
  · have b_49 := kIsR_f c_4
    refine zg_bipush C dX4_undo_7 (by decide) ?_
    refine zg_iret C hP hS dX4_undo_9 ?_
    exact ⟨congrArg jI (by simp [kUndR, kULast, c_4]), by simp [kUndS, kULast, bI, c_4]⟩
set_option maxHeartbeats 4000000 in
set_option maxRecDepth 100000 in
theorem kX4_mark (l : Launch) {D : va_G} {a : Nat → Nat} {cI cZ cR : ClassId} (σ : Zt) (hR : rgS σ) (x : Int) (f : Int) (t : Int) (k : Int) (on : Bool) (x0 : -2147483648 ≤ x) (x1 : x < 2147483648) (f0 : -2147483648 ≤ f) (f1 : f < 2147483648) (t0 : -2147483648 ≤ t) (t1 : t < 2147483648) (k0 : -2147483648 ≤ k) (k1 : k < 2147483648) (hp : kPre σ) : zc l D vwCl (tyS cI cZ cR) 56 (layS cI cZ cR a) a yX4_mark wsX4_mark ({ frames := 3, cells := 0, slots := 0, locals := 72 }) [.ref (a 0), .int (jI x), .int (jI f), .int (jI t), .int (jI k), .int (jI (bI on))] σ (fun r_ u_ => r_ = jI (kMarR σ x f t k) ∧ u_ = kMarS σ x f t k on) := by
  refine zc_of (cc := cX4_mark) (maxL := 8) (ret := some .int) (own := RX4) (by decide) rfl rfl (Nat.le_of_ble_eq_true rfl) rfl ?_
  intro p e s m below meth c A ls C X hP hS hl
  refine zg_iload_n C dX4_mark_0 rfl (lv_at hl 1 rfl) ?_
  refine zg_callS C X hP hS (kX4_isReplica l σ hR x (by omega) (by omega)) (cwS 1 C.ts (zgS mlX4_39 stX4_isReplica iniX4 cdX4_isReplica) rfl rfl rfl (by decide +kernel) ⟨Nat.le_of_ble_eq_true rfl, Nat.le_of_ble_eq_true rfl⟩) rfl hl.1 rfl (Nat.le_of_ble_eq_true rfl) dX4_mark_1 ⟨Nat.zero_le _, Nat.zero_le _⟩ (fun r_2 σ1 H locs q3 hP hS => ?_)
  obtain ⟨rfl, q3⟩ := q3
  rw [q3] at hP
  refine zg_ifneB (tgt := 10) C dX4_mark_4 (by decide) (fun c_4 => ?_) (fun c_4 => ?_)
  · have b_5 := kIsR_t c_4
    refine zg_aload_n C dX4_mark_10 rfl (lv_at hl 0 rfl) ?_
    refine zg_get (j := 3) C X hP (by decide) lyS_0 rfl (zmem uwX4) (by decide) (C.tb flX4_32) (fun _ h9 => h9) rfl dX4_mark_11 ?_
    refine zg_iload_n C dX4_mark_14 rfl (lv_at hl 1 rfl) ?_
    have hr6 : (x).toNat < 6 := by omega
    refine zg_aald (t0 := 2) C X hP (by decide) lyS_19 rfl (by decide) (by omega) (by omega) rfl dX4_mark_15 ?_
    refine zg_iload_n C dX4_mark_16 rfl (lv_at hl 2 rfl) ?_
    refine zg_callV C X hP hS (kX2_signAt l σ hR ((x).toNat) hr6 f (by omega) (by omega)) (cwV 1 C.ts (zgV mlX4_57 imX2_signAt slX2_signAt iniX2 cdX2_signAt) rfl rfl rfl (by decide +kernel) ⟨Nat.le_of_ble_eq_true rfl, Nat.le_of_ble_eq_true rfl⟩) (hkS_20 hr6) (lyS_20 hr6) rfl rfl rfl hl.1 rfl (Nat.le_of_ble_eq_true rfl) dX4_mark_17 ⟨Nat.zero_le _, Nat.zero_le _⟩ (fun r_8 σ7 H locs q9 hP hS => ?_)
    obtain ⟨rfl, q9⟩ := q9
    have b_10 := kSignAt_rg hR ((x).toNat) f
    rw [q9] at hP
    refine zg_istore (lv' := [(6, .int (jI (kSignAt σ ((x).toNat) f))), (0, .ref (a 0)), (1, .int (jI x)), (2, .int (jI f)), (3, .int (jI t)), (4, .int (jI k)), (5, .int (jI (bI on)))]) C dX4_mark_20 hl (by decide) rfl (fun ls hl => ?_)
    refine zg_aload_n C dX4_mark_22 rfl (lv_at hl 1 rfl) ?_
    refine zg_get (j := 3) C X hP (by decide) lyS_0 rfl (zmem uwX4) (by decide) (C.tb flX4_32) (fun _ h9 => h9) rfl dX4_mark_23 ?_
    refine zg_iload_n C dX4_mark_26 rfl (lv_at hl 2 rfl) ?_
    have hr11 : (x).toNat < 6 := by omega
    refine zg_aald (t0 := 2) C X hP (by decide) lyS_19 rfl (by decide) (by omega) (by omega) rfl dX4_mark_27 ?_
    refine zg_iload_n C dX4_mark_28 rfl (lv_at hl 4 rfl) ?_
    refine zg_callV C X hP hS (kX2_signAt l σ hR ((x).toNat) hr11 t (by omega) (by omega)) (cwV 1 C.ts (zgV mlX4_57 imX2_signAt slX2_signAt iniX2 cdX2_signAt) rfl rfl rfl (by decide +kernel) ⟨Nat.le_of_ble_eq_true rfl, Nat.le_of_ble_eq_true rfl⟩) (hkS_20 hr11) (lyS_20 hr11) rfl rfl rfl hl.1 rfl (Nat.le_of_ble_eq_true rfl) dX4_mark_29 ⟨Nat.zero_le _, Nat.zero_le _⟩ (fun r_13 σ12 H locs q14 hP hS => ?_)
    obtain ⟨rfl, q14⟩ := q14
    have b_15 := kSignAt_rg hR ((x).toNat) t
    rw [q14] at hP
    refine zg_istore (lv' := [(7, .int (jI (kSignAt σ ((x).toNat) t))), (6, .int (jI (kSignAt σ ((x).toNat) f))), (0, .ref (a 0)), (1, .int (jI x)), (2, .int (jI f)), (3, .int (jI t)), (4, .int (jI k)), (5, .int (jI (bI on)))]) C dX4_mark_32 hl (by decide) rfl (fun ls hl => ?_)
    refine zg_iload C dX4_mark_34 (lv_at hl 1 rfl) ?_
    refine zg_iconst C dX4_mark_36 ?_
    refine zg_icmp_eq (tgt := 63) C (by omega) (by omega) (by omega) (by omega) dX4_mark_37 (by decide) (fun c_16 => ?_) (fun c_16 => ?_)
    · refine zg_bipush C dX4_mark_63 (by decide) ?_
      refine zg_iret C hP hS dX4_mark_65 ?_
      have h9 : kMarB σ x f t k = false := by grind [kMarB]
      exact ⟨congrArg jI (by simp [kMarR, h9, c_4, c_16]), by simp [kMarS, h9, c_4, c_16]⟩
    · refine zg_iload C dX4_mark_40 (lv_at hl 0 rfl) ?_
      refine zg_iconst C dX4_mark_42 ?_
      refine zg_icmp_eq (tgt := 63) C (by omega) (by omega) (by omega) (by omega) dX4_mark_43 (by decide) (fun c_17 => ?_) (fun c_17 => ?_)
      · refine zg_bipush C dX4_mark_63 (by decide) ?_
        refine zg_iret C hP hS dX4_mark_65 ?_
        have h9 : kMarB σ x f t k = false := by grind [kMarB]
        exact ⟨congrArg jI (by simp [kMarR, h9, c_4, c_16, c_17]), by simp [kMarS, h9, c_4, c_16, c_17]⟩
      · refine zg_iload_n C dX4_mark_46 rfl (lv_at hl 4 rfl) ?_
        refine zg_iload_n C dX4_mark_47 rfl (lv_at hl 5 rfl) ?_
        refine zg_icmp_gt (tgt := 63) C (by omega) (by omega) (by omega) (by omega) dX4_mark_48 (by decide) (fun c_18 => ?_) (fun c_18 => ?_)
        · refine zg_bipush C dX4_mark_63 (by decide) ?_
          refine zg_iret C hP hS dX4_mark_65 ?_
          have h9 : kMarB σ x f t k = false := by grind [kMarB]
          exact ⟨congrArg jI (by simp [kMarR, h9, c_4, c_16, c_17, c_18]), by simp [kMarS, h9, c_4, c_16, c_17, c_18]⟩
        · refine zg_iload C dX4_mark_51 (lv_at hl 6 rfl) ?_
          refine zg_if_lt (tgt := 63) C (by omega) (by omega) dX4_mark_53 (by decide) (fun c_19 => ?_) (fun c_19 => ?_)
          · refine zg_bipush C dX4_mark_63 (by decide) ?_
            refine zg_iret C hP hS dX4_mark_65 ?_
            have h9 : kMarB σ x f t k = false := by grind [kMarB]
            exact ⟨congrArg jI (by simp [kMarR, h9, c_4, c_16, c_17, c_18, c_19]), by simp [kMarS, h9, c_4, c_16, c_17, c_18, c_19]⟩
          · refine zg_iload C dX4_mark_56 (lv_at hl 6 rfl) ?_
            refine zg_bipush C dX4_mark_58 (by decide) ?_
            refine zg_icmp_lt (tgt := 66) C (by omega) (by omega) (by omega) (by omega) dX4_mark_60 (by decide) (fun c_20 => ?_) (fun c_20 => ?_)
            · refine zg_aload_n C dX4_mark_66 rfl (lv_at hl 2 rfl) ?_
              refine zg_get (j := 0) C X hP (by decide) lyS_0 rfl (zmem uwX4) (by decide) (C.tb flX4_10) (fun _ h9 => h9) rfl dX4_mark_67 ?_
              refine zg_callV C X hP hS (kX0_isFull l σ hR) (cwV 0 C.ts (zgV mlX4_61 imX0_isFull slX0_isFull iniX0 cdX0_isFull) rfl rfl rfl (by decide +kernel) ⟨Nat.le_of_ble_eq_true rfl, Nat.le_of_ble_eq_true rfl⟩) (by decide) lyS_1 rfl rfl rfl hl.1 rfl (Nat.le_of_ble_eq_true rfl) dX4_mark_70 ⟨Nat.zero_le _, Nat.zero_le _⟩ (fun r_22 σ21 H locs q23 hP hS => ?_)
              obtain ⟨rfl, q23⟩ := q23
              rw [q23] at hP
              refine zg_ifeqB (tgt := 79) C dX4_mark_73 (by decide) (fun c_24 => ?_) (fun c_24 => ?_)
              · have b_25 := kFull_f c_24
                refine zg_aload_n C dX4_mark_79 rfl (lv_at hl 2 rfl) ?_
                refine zg_aload_n C dX4_mark_80 rfl (lv_at hl 2 rfl) ?_
                refine zg_get (j := 3) C X hP (by decide) lyS_0 rfl (zmem uwX4) (by decide) (C.tb flX4_32) (fun _ h9 => h9) rfl dX4_mark_81 ?_
                refine zg_iload_n C dX4_mark_84 rfl (lv_at hl 3 rfl) ?_
                have hr26 : (x).toNat < 6 := by omega
                refine zg_aald (t0 := 2) C X hP (by decide) lyS_19 rfl (by decide) (by omega) (by omega) rfl dX4_mark_85 ?_
                refine zg_iconst C dX4_mark_86 ?_
                refine zg_iload C dX4_mark_87 (lv_at hl 7 rfl) ?_
                refine zg_ifeqB (tgt := 100) C dX4_mark_89 (by decide) (fun c_27 => ?_) (fun c_27 => ?_)
                · refine zg_iload C dX4_mark_100 (lv_at hl 6 rfl) ?_
                  refine zg_iload C dX4_mark_102 (lv_at hl 1 rfl) ?_
                  refine zg_iload C dX4_mark_104 (lv_at hl 0 rfl) ?_
                  refine zg_callV C X hP hS (kX4_perform l σ hR ((x).toNat) hr26 3 k (kSignAt σ ((x).toNat) f) (kSignAt σ ((x).toNat) t) (by omega) (by have h9 := hp.1; omega) (by have h9 := (hp.2.2.1 _ (by omega : x.toNat < 6)).1; omega) (by have h9 := (hp.2.2.1 _ (by omega : x.toNat < 6)).2; omega) (by omega) (by omega) (by omega) (by omega) (by omega) (by omega) (by omega) (by omega)) (cwV 5 C.ts (zgV mlX4_65 imX4_perform slX4_perform iniX4 cdX4_perform) rfl rfl rfl (by decide +kernel) ⟨Nat.le_of_ble_eq_true rfl, Nat.le_of_ble_eq_true rfl⟩) (by decide) lyS_0 rfl rfl rfl hl.1 rfl (Nat.le_of_ble_eq_true rfl) dX4_mark_106 ⟨Nat.zero_le _, Nat.zero_le _⟩ (fun r_29 σ28 H locs q30 hP hS => ?_)
                  obtain ⟨rfl, q30⟩ := q30
                  have hR31 : rgS σ28 := by rw [q30]; exact kPerform_rg hR (by omega) (by omega) (by have h9 := hp.1; omega) (by have h9 := (hp.2.2.1 _ (by omega : x.toNat < 6)).1; omega) (by have h9 := (hp.2.2.1 _ (by omega : x.toNat < 6)).2; omega) (by omega) (by omega) (by omega) (by omega) (by omega) (by omega) (by omega) (by omega)
                  refine zg_iret C hP hS dX4_mark_109 ?_
                  subst q30
                  have h9 : kMarB σ x f t k = true := by grind [kMarB]
                  exact ⟨congrArg jI (by simp [kMarR, h9, c_4, c_16, c_17, c_18, c_19, c_20, c_24, c_27]), by simp [kMarS, h9, c_4, c_16, c_17, c_18, c_19, c_20, c_24, c_27]⟩
                · refine zg_iload C dX4_mark_92 (lv_at hl 6 rfl) ?_
                  refine zg_bipush C dX4_mark_94 (by decide) ?_
                  refine zg_iadd C dX4_mark_96 ?_
                  refine zg_goto (tgt := 102) C dX4_mark_97 (by decide) ?_
                  refine zg_iload C dX4_mark_102 (lv_at hl 1 rfl) ?_
                  refine zg_iload C dX4_mark_104 (lv_at hl 0 rfl) ?_
                  refine zg_callV C X hP hS (kX4_perform l σ hR ((x).toNat) hr26 3 (k + 8) (kSignAt σ ((x).toNat) f) (kSignAt σ ((x).toNat) t) (by omega) (by have h9 := hp.1; omega) (by have h9 := (hp.2.2.1 _ (by omega : x.toNat < 6)).1; omega) (by have h9 := (hp.2.2.1 _ (by omega : x.toNat < 6)).2; omega) (by omega) (by omega) (by omega) (by omega) (by omega) (by omega) (by omega) (by omega)) (cwV 5 C.ts (zgV mlX4_65 imX4_perform slX4_perform iniX4 cdX4_perform) rfl rfl rfl (by decide +kernel) ⟨Nat.le_of_ble_eq_true rfl, Nat.le_of_ble_eq_true rfl⟩) (by decide) lyS_0 rfl rfl rfl hl.1 rfl (Nat.le_of_ble_eq_true rfl) dX4_mark_106 ⟨Nat.zero_le _, Nat.zero_le _⟩ (fun r_33 σ32 H locs q34 hP hS => ?_)
                  obtain ⟨rfl, q34⟩ := q34
                  have hR35 : rgS σ32 := by rw [q34]; exact kPerform_rg hR (by omega) (by omega) (by have h9 := hp.1; omega) (by have h9 := (hp.2.2.1 _ (by omega : x.toNat < 6)).1; omega) (by have h9 := (hp.2.2.1 _ (by omega : x.toNat < 6)).2; omega) (by omega) (by omega) (by omega) (by omega) (by omega) (by omega) (by omega) (by omega)
                  refine zg_iret C hP hS dX4_mark_109 ?_
                  subst q34
                  have h9 : kMarB σ x f t k = true := by grind [kMarB]
                  exact ⟨congrArg jI (by simp [kMarR, h9, c_4, c_16, c_17, c_18, c_19, c_20, c_24, c_27]), by simp [kMarS, h9, c_4, c_16, c_17, c_18, c_19, c_20, c_24, c_27]⟩
              · refine zg_bipush C dX4_mark_76 (by decide) ?_
                refine zg_iret C hP hS dX4_mark_78 ?_
                have h9 : kMarB σ x f t k = true := by grind [kMarB]
                exact ⟨congrArg jI (by simp [kMarR, h9, c_4, c_16, c_17, c_18, c_19, c_20, c_24]), by simp [kMarS, h9, c_4, c_16, c_17, c_18, c_19, c_20, c_24]⟩
            · refine zg_bipush C dX4_mark_63 (by decide) ?_
              refine zg_iret C hP hS dX4_mark_65 ?_
              have h9 : kMarB σ x f t k = false := by grind [kMarB]
              exact ⟨congrArg jI (by simp [kMarR, h9, c_4, c_16, c_17, c_18, c_19, c_20]), by simp [kMarS, h9, c_4, c_16, c_17, c_18, c_19, c_20]⟩
  · have b_36 := kIsR_f c_4
    refine zg_bipush C dX4_mark_7 (by decide) ?_
    refine zg_iret C hP hS dX4_mark_9 ?_
    exact ⟨congrArg jI (by simp [kMarR, c_4]), by simp [kMarS, c_4]⟩
set_option maxHeartbeats 4000000 in
set_option maxRecDepth 100000 in
theorem kX4_deliver (l : Launch) {D : va_G} {a : Nat → Nat} {cI cZ cR : ClassId} (σ : Zt) (hR : rgS σ) (i : Int) (i0 : -2147483648 ≤ i) (i1 : i < 2147483648) (hp : kPre σ) : zc l D vwCl (tyS cI cZ cR) 56 (layS cI cZ cR a) a yX4_deliver wsX4_deliver ({ frames := 5, cells := 0, slots := 0, locals := 106 }) [.ref (a 0), .int (jI i)] σ (fun r_ u_ => r_ = jI (kDelR σ i) ∧ u_ = kDelS σ i) := by
  refine zc_of (cc := cX4_deliver) (maxL := 4) (ret := some .int) (own := RX4) (by decide) rfl rfl (Nat.le_of_ble_eq_true rfl) rfl ?_
  intro p e s m below meth c A ls C X hP hS hl
  refine zg_aload_n C dX4_deliver_0 rfl (lv_at hl 0 rfl) ?_
  refine zg_get (j := 2) C X hP (by decide) lyS_0 rfl (zmem uwX4) (by decide) (C.tb flX4_26) (fun _ h9 => h9) rfl dX4_deliver_1 ?_
  refine zg_iload_n C dX4_deliver_4 rfl (lv_at hl 1 rfl) ?_
  refine zg_callV C X hP hS (kX3_holds l σ hR i (by omega) (by omega)) (cwV 1 C.ts (zgV mlX4_83 imX3_holds slX3_holds iniX3 cdX3_holds) rfl rfl rfl (by decide +kernel) ⟨Nat.le_of_ble_eq_true rfl, Nat.le_of_ble_eq_true rfl⟩) (by decide) lyS_16 rfl rfl rfl hl.1 rfl (Nat.le_of_ble_eq_true rfl) dX4_deliver_5 ⟨Nat.zero_le _, Nat.zero_le _⟩ (fun r_2 σ1 H locs q3 hP hS => ?_)
  obtain ⟨rfl, q3⟩ := q3
  have b_4 := rgS_16_2 hR
  rw [q3] at hP
  refine zg_ifneB (tgt := 14) C dX4_deliver_8 (by decide) (fun c_5 => ?_) (fun c_5 => ?_)
  · have b_6 := kHolds_t c_5
    refine zg_aload_n C dX4_deliver_14 rfl (lv_at hl 0 rfl) ?_
    refine zg_get (j := 2) C X hP (by decide) lyS_0 rfl (zmem uwX4) (by decide) (C.tb flX4_26) (fun _ h9 => h9) rfl dX4_deliver_15 ?_
    refine zg_get (j := 0) C X hP (by decide) lyS_16 rfl (zmem uwX3) (by decide) (C.tb flX4_86) (fun _ h9 => h9) rfl dX4_deliver_18 ?_
    refine zg_iload_n C dX4_deliver_21 rfl (lv_at hl 1 rfl) ?_
    refine zg_iald (t0 := 0) C X hP (by decide) lyS_17 rfl (by decide) (by omega) (by omega) dX4_deliver_22 ?_
    have b_7 := rgS_17 hR ((i).toNat)
    refine zg_istore_n (lv' := [(2, .int (jI (σ 17 (i).toNat))), (0, .ref (a 0)), (1, .int (jI i))]) C dX4_deliver_23 rfl hl (by decide) rfl (fun ls hl => ?_)
    refine zg_aload_n C dX4_deliver_24 rfl (lv_at hl 1 rfl) ?_
    refine zg_get (j := 2) C X hP (by decide) lyS_0 rfl (zmem uwX4) (by decide) (C.tb flX4_26) (fun _ h9 => h9) rfl dX4_deliver_25 ?_
    refine zg_get (j := 1) C X hP (by decide) lyS_16 rfl (zmem uwX3) (by decide) (C.tb flX4_89) (fun _ h9 => h9) rfl dX4_deliver_28 ?_
    refine zg_iload_n C dX4_deliver_31 rfl (lv_at hl 2 rfl) ?_
    refine zg_iald (t0 := 0) C X hP (by decide) lyS_18 rfl (by decide) (by omega) (by omega) dX4_deliver_32 ?_
    have b_8 := rgS_18 hR ((i).toNat)
    refine zg_istore_n (lv' := [(3, .int (jI (σ 18 (i).toNat))), (2, .int (jI (σ 17 (i).toNat))), (0, .ref (a 0)), (1, .int (jI i))]) C dX4_deliver_33 rfl hl (by decide) rfl (fun ls hl => ?_)
    refine zg_aload_n C dX4_deliver_34 rfl (lv_at hl 2 rfl) ?_
    refine zg_get (j := 2) C X hP (by decide) lyS_0 rfl (zmem uwX4) (by decide) (C.tb flX4_26) (fun _ h9 => h9) rfl dX4_deliver_35 ?_
    refine zg_iload_n C dX4_deliver_38 rfl (lv_at hl 3 rfl) ?_
    refine zg_callVv C X hP hS (kX3_drop l σ hR i (by omega) (by omega)) (cwV 1 C.ts (zgV mlX4_92 imX3_drop slX3_drop iniX3 cdX3_drop) rfl rfl rfl (by decide +kernel) ⟨Nat.le_of_ble_eq_true rfl, Nat.le_of_ble_eq_true rfl⟩) (by decide) lyS_16 rfl rfl rfl hl.1 rfl (Nat.le_of_ble_eq_true rfl) dX4_deliver_39 ⟨Nat.zero_le _, Nat.zero_le _⟩ (fun σ9 H locs q11 hP hS => ?_)
    have hR12 : rgS σ9 := by rw [q11]; exact kDropS_rg hR (by omega) (by omega)
    refine zg_aload_n C dX4_deliver_42 rfl (lv_at hl 2 rfl) ?_
    refine zg_get (j := 3) C X hP (by decide) lyS_0 rfl (zmem uwX4) (by decide) (C.tb flX4_32) (fun _ h9 => h9) rfl dX4_deliver_43 ?_
    refine zg_iload_n C dX4_deliver_46 rfl (lv_at hl 0 rfl) ?_
    have hr13 : (σ 18 (i).toNat).toNat < 6 := by omega
    refine zg_aald (t0 := 2) C X hP (by decide) lyS_19 rfl (by decide) (by omega) (by omega) rfl dX4_deliver_47 ?_
    refine zg_iload_n C dX4_deliver_48 rfl (lv_at hl 1 rfl) ?_
    refine zg_callV C X hP hS (kX2_receive l σ9 hR12 ((σ 18 (i).toNat).toNat) hr13 (σ 17 (i).toNat) (by omega) (by omega) (by rw [q11]; intro g1 g2; rw [kDropS_fr (by omega) (by omega) (by omega)] at g2 ⊢; refine hp.2.2.2.2.1 _ (by omega) (σ 17 i.toNat) (by omega) (hp.2.2.2.2.2 _ (by omega)) ?_ g2; rw [kDid, kDropS_fr (by omega) (by omega) (by omega), kDropS_fr (by omega) (by omega) (by omega), kDropS_fr (by omega) (by omega) (by omega)] at g1; exact g1)) (cwV 1 C.ts (zgV mlX4_96 imX2_receive slX2_receive iniX2 cdX2_receive) rfl rfl rfl (by decide +kernel) ⟨Nat.le_of_ble_eq_true rfl, Nat.le_of_ble_eq_true rfl⟩) (hkS_20 hr13) (lyS_20 hr13) rfl rfl rfl hl.1 rfl (Nat.le_of_ble_eq_true rfl) dX4_deliver_49 ⟨Nat.zero_le _, Nat.zero_le _⟩ (fun r_15 σ14 H locs q16 hP hS => ?_)
    obtain ⟨rfl, q16⟩ := q16
    have hR17 : rgS σ14 := by rw [q16]; exact kRecS_rg hR12 (by omega) (by omega) (by omega) (by rw [q11]; intro g1 g2; rw [kDropS_fr (by omega) (by omega) (by omega)] at g2 ⊢; refine hp.2.2.2.2.1 _ (by omega) (σ 17 i.toNat) (by omega) (hp.2.2.2.2.2 _ (by omega)) ?_ g2; rw [kDid, kDropS_fr (by omega) (by omega) (by omega), kDropS_fr (by omega) (by omega) (by omega), kDropS_fr (by omega) (by omega) (by omega)] at g1; exact g1)
    refine zg_iret C hP hS dX4_deliver_52 ?_
    subst q11 q16
    exact ⟨congrArg jI (by simp [kDelR, c_5]), by simp [kDelS, c_5]⟩
  · refine zg_bipush C dX4_deliver_11 (by decide) ?_
    refine zg_iret C hP hS dX4_deliver_13 ?_
    exact ⟨congrArg jI (by simp [kDelR, c_5]), by simp [kDelS, c_5]⟩
set_option maxHeartbeats 4000000 in
set_option maxRecDepth 100000 in
theorem kX4_lose (l : Launch) {D : va_G} {a : Nat → Nat} {cI cZ cR : ClassId} (σ : Zt) (hR : rgS σ) (i : Int) (i0 : -2147483648 ≤ i) (i1 : i < 2147483648) (hp : kPre σ) : zc l D vwCl (tyS cI cZ cR) 56 (layS cI cZ cR a) a yX4_lose wsX4_lose ({ frames := 1, cells := 0, slots := 0, locals := 22 }) [.ref (a 0), .int (jI i)] σ (fun r_ u_ => r_ = jI (kLosR σ i) ∧ u_ = kLosS σ i) := by
  refine zc_of (cc := cX4_lose) (maxL := 2) (ret := some .int) (own := RX4) (by decide) rfl rfl (Nat.le_of_ble_eq_true rfl) rfl ?_
  intro p e s m below meth c A ls C X hP hS hl
  refine zg_aload_n C dX4_lose_0 rfl (lv_at hl 0 rfl) ?_
  refine zg_get (j := 2) C X hP (by decide) lyS_0 rfl (zmem uwX4) (by decide) (C.tb flX4_26) (fun _ h9 => h9) rfl dX4_lose_1 ?_
  refine zg_iload_n C dX4_lose_4 rfl (lv_at hl 1 rfl) ?_
  refine zg_callV C X hP hS (kX3_holds l σ hR i (by omega) (by omega)) (cwV 1 C.ts (zgV mlX4_83 imX3_holds slX3_holds iniX3 cdX3_holds) rfl rfl rfl (by decide +kernel) ⟨Nat.le_of_ble_eq_true rfl, Nat.le_of_ble_eq_true rfl⟩) (by decide) lyS_16 rfl rfl rfl hl.1 rfl (Nat.le_of_ble_eq_true rfl) dX4_lose_5 ⟨Nat.zero_le _, Nat.zero_le _⟩ (fun r_2 σ1 H locs q3 hP hS => ?_)
  obtain ⟨rfl, q3⟩ := q3
  have b_4 := rgS_16_2 hR
  rw [q3] at hP
  refine zg_ifneB (tgt := 14) C dX4_lose_8 (by decide) (fun c_5 => ?_) (fun c_5 => ?_)
  · have b_6 := kHolds_t c_5
    refine zg_aload_n C dX4_lose_14 rfl (lv_at hl 0 rfl) ?_
    refine zg_get (j := 2) C X hP (by decide) lyS_0 rfl (zmem uwX4) (by decide) (C.tb flX4_26) (fun _ h9 => h9) rfl dX4_lose_15 ?_
    refine zg_iload_n C dX4_lose_18 rfl (lv_at hl 1 rfl) ?_
    refine zg_callVv C X hP hS (kX3_drop l σ hR i (by omega) (by omega)) (cwV 1 C.ts (zgV mlX4_92 imX3_drop slX3_drop iniX3 cdX3_drop) rfl rfl rfl (by decide +kernel) ⟨Nat.le_of_ble_eq_true rfl, Nat.le_of_ble_eq_true rfl⟩) (by decide) lyS_16 rfl rfl rfl hl.1 rfl (Nat.le_of_ble_eq_true rfl) dX4_lose_19 ⟨Nat.zero_le _, Nat.zero_le _⟩ (fun σ7 H locs q9 hP hS => ?_)
    have hR10 : rgS σ7 := by rw [q9]; exact kDropS_rg hR (by omega) (by omega)
    refine zg_aload_n C dX4_lose_22 rfl (lv_at hl 0 rfl) ?_
    refine zg_get (j := 2) C X hP (by decide) lyS_0 rfl (zmem uwX4) (by decide) (C.tb flX4_26) (fun _ h9 => h9) rfl dX4_lose_23 ?_
    refine zg_get (j := 2) C X hP (by decide) lyS_16 rfl (zmem uwX3) (by decide) (C.tb flX4_99) (fun _ h9 => h9) rfl dX4_lose_26 ?_
    have b_11 := rgS_16_2 hR10
    refine zg_iret C hP hS dX4_lose_29 ?_
    subst q9
    exact ⟨congrArg jI (by simp [kLosR, kDropS_16, c_5]), by simp [kLosS, c_5]⟩
  · refine zg_bipush C dX4_lose_11 (by decide) ?_
    refine zg_iret C hP hS dX4_lose_13 ?_
    exact ⟨congrArg jI (by simp [kLosR, kDropS_16, c_5]), by simp [kLosS, c_5]⟩
set_option maxHeartbeats 4000000 in
set_option maxRecDepth 100000 in
theorem kX4_repeat (l : Launch) {D : va_G} {a : Nat → Nat} {cI cZ cR : ClassId} (σ : Zt) (hR : rgS σ) (i : Int) (i0 : -2147483648 ≤ i) (i1 : i < 2147483648) (hp : kPre σ) : zc l D vwCl (tyS cI cZ cR) 56 (layS cI cZ cR a) a yX4_repeat wsX4_repeat ({ frames := 2, cells := 0, slots := 0, locals := 42 }) [.ref (a 0), .int (jI i)] σ (fun r_ u_ => r_ = jI (kRepR σ i) ∧ u_ = kRepS σ i) := by
  refine zc_of (cc := cX4_repeat) (maxL := 2) (ret := some .int) (own := RX4) (by decide) rfl rfl (Nat.le_of_ble_eq_true rfl) rfl ?_
  intro p e s m below meth c A ls C X hP hS hl
  refine zg_aload_n C dX4_repeat_0 rfl (lv_at hl 0 rfl) ?_
  refine zg_get (j := 2) C X hP (by decide) lyS_0 rfl (zmem uwX4) (by decide) (C.tb flX4_26) (fun _ h9 => h9) rfl dX4_repeat_1 ?_
  refine zg_iload_n C dX4_repeat_4 rfl (lv_at hl 1 rfl) ?_
  refine zg_callV C X hP hS (kX3_holds l σ hR i (by omega) (by omega)) (cwV 1 C.ts (zgV mlX4_83 imX3_holds slX3_holds iniX3 cdX3_holds) rfl rfl rfl (by decide +kernel) ⟨Nat.le_of_ble_eq_true rfl, Nat.le_of_ble_eq_true rfl⟩) (by decide) lyS_16 rfl rfl rfl hl.1 rfl (Nat.le_of_ble_eq_true rfl) dX4_repeat_5 ⟨Nat.zero_le _, Nat.zero_le _⟩ (fun r_2 σ1 H locs q3 hP hS => ?_)
  obtain ⟨rfl, q3⟩ := q3
  have b_4 := rgS_16_2 hR
  rw [q3] at hP
  refine zg_ifneB (tgt := 14) C dX4_repeat_8 (by decide) (fun c_5 => ?_) (fun c_5 => ?_)
  · have b_6 := kHolds_t c_5
    refine zg_aload_n C dX4_repeat_14 rfl (lv_at hl 0 rfl) ?_
    refine zg_get (j := 2) C X hP (by decide) lyS_0 rfl (zmem uwX4) (by decide) (C.tb flX4_26) (fun _ h9 => h9) rfl dX4_repeat_15 ?_
    refine zg_callV C X hP hS (kX3_isFull l σ hR) (cwV 0 C.ts (zgV mlX4_102 imX3_isFull slX3_isFull iniX3 cdX3_isFull) rfl rfl rfl (by decide +kernel) ⟨Nat.le_of_ble_eq_true rfl, Nat.le_of_ble_eq_true rfl⟩) (by decide) lyS_16 rfl rfl rfl hl.1 rfl (Nat.le_of_ble_eq_true rfl) dX4_repeat_18 ⟨Nat.zero_le _, Nat.zero_le _⟩ (fun r_8 σ7 H locs q9 hP hS => ?_)
    obtain ⟨rfl, q9⟩ := q9
    rw [q9] at hP
    refine zg_ifeqB (tgt := 27) C dX4_repeat_21 (by decide) (fun c_10 => ?_) (fun c_10 => ?_)
    · have b_11 := kWayF_f c_10
      refine zg_aload_n C dX4_repeat_27 rfl (lv_at hl 0 rfl) ?_
      refine zg_get (j := 2) C X hP (by decide) lyS_0 rfl (zmem uwX4) (by decide) (C.tb flX4_26) (fun _ h9 => h9) rfl dX4_repeat_28 ?_
      refine zg_aload_n C dX4_repeat_31 rfl (lv_at hl 0 rfl) ?_
      refine zg_get (j := 2) C X hP (by decide) lyS_0 rfl (zmem uwX4) (by decide) (C.tb flX4_26) (fun _ h9 => h9) rfl dX4_repeat_32 ?_
      refine zg_get (j := 0) C X hP (by decide) lyS_16 rfl (zmem uwX3) (by decide) (C.tb flX4_86) (fun _ h9 => h9) rfl dX4_repeat_35 ?_
      refine zg_iload_n C dX4_repeat_38 rfl (lv_at hl 1 rfl) ?_
      refine zg_iald (t0 := 0) C X hP (by decide) lyS_17 rfl (by decide) (by omega) (by omega) dX4_repeat_39 ?_
      have b_12 := rgS_17 hR ((i).toNat)
      refine zg_aload_n C dX4_repeat_40 rfl (lv_at hl 0 rfl) ?_
      refine zg_get (j := 2) C X hP (by decide) lyS_0 rfl (zmem uwX4) (by decide) (C.tb flX4_26) (fun _ h9 => h9) rfl dX4_repeat_41 ?_
      refine zg_get (j := 1) C X hP (by decide) lyS_16 rfl (zmem uwX3) (by decide) (C.tb flX4_89) (fun _ h9 => h9) rfl dX4_repeat_44 ?_
      refine zg_iload_n C dX4_repeat_47 rfl (lv_at hl 1 rfl) ?_
      refine zg_iald (t0 := 0) C X hP (by decide) lyS_18 rfl (by decide) (by omega) (by omega) dX4_repeat_48 ?_
      have b_13 := rgS_18 hR ((i).toNat)
      refine zg_callVv C X hP hS (kX3_send l σ hR (σ 17 (i).toNat) (σ 18 (i).toNat) (by omega) (by omega) (by omega) (by omega)) (cwV 2 C.ts (zgV mlX4_103 imX3_send slX3_send iniX3 cdX3_send) rfl rfl rfl (by decide +kernel) ⟨Nat.le_of_ble_eq_true rfl, Nat.le_of_ble_eq_true rfl⟩) (by decide) lyS_16 rfl rfl rfl hl.1 rfl (Nat.le_of_ble_eq_true rfl) dX4_repeat_49 ⟨Nat.zero_le _, Nat.zero_le _⟩ (fun σ14 H locs q16 hP hS => ?_)
      have hR17 : rgS σ14 := by rw [q16]; exact kSend_rg hR (by omega) (by omega) (by omega) (by omega)
      refine zg_aload_n C dX4_repeat_52 rfl (lv_at hl 0 rfl) ?_
      refine zg_get (j := 2) C X hP (by decide) lyS_0 rfl (zmem uwX4) (by decide) (C.tb flX4_26) (fun _ h9 => h9) rfl dX4_repeat_53 ?_
      refine zg_get (j := 2) C X hP (by decide) lyS_16 rfl (zmem uwX3) (by decide) (C.tb flX4_99) (fun _ h9 => h9) rfl dX4_repeat_56 ?_
      have b_18 := rgS_16_2 hR17
      refine zg_iret C hP hS dX4_repeat_59 ?_
      subst q16
      exact ⟨congrArg jI (by first | (simp [kRepR, c_5, c_10]; done) | (rw [kSend_16 (by omega)]; simp [kRepR, c_5, c_10])), by simp [kRepS, c_5, c_10]⟩
    · have b_19 := kWayF_t c_10
      refine zg_bipush C dX4_repeat_24 (by decide) ?_
      refine zg_iret C hP hS dX4_repeat_26 ?_
      exact ⟨congrArg jI (by first | (simp [kRepR, c_5, c_10]; done) | (rw [kSend_16 (by omega)]; simp [kRepR, c_5, c_10])), by simp [kRepS, c_5, c_10]⟩
  · refine zg_bipush C dX4_repeat_11 (by decide) ?_
    refine zg_iret C hP hS dX4_repeat_13 ?_
    exact ⟨congrArg jI (by first | (simp [kRepR, c_5]; done) | (rw [kSend_16 (by omega)]; simp [kRepR, c_5])), by simp [kRepS, c_5]⟩
set_option maxHeartbeats 4000000 in
set_option maxRecDepth 100000 in
theorem kX4_length (l : Launch) {D : va_G} {a : Nat → Nat} {cI cZ cR : ClassId} (σ : Zt) (hR : rgS σ) (x : Int) (x0 : -2147483648 ≤ x) (x1 : x < 2147483648) (hp : kPre σ) : zc l D vwCl (tyS cI cZ cR) 56 (layS cI cZ cR a) a yX4_length wsX4_length ({ frames := 4, cells := 0, slots := 0, locals := 85 }) [.ref (a 0), .int (jI x)] σ (fun r_ u_ => r_ = jI (kLenR σ x) ∧ u_ = σ) := by
  refine zc_of (cc := cX4_length) (maxL := 2) (ret := some .int) (own := RX4) (by decide) rfl rfl (Nat.le_of_ble_eq_true rfl) rfl ?_
  intro p e s m below meth c A ls C X hP hS hl
  refine zg_iload_n C dX4_length_0 rfl (lv_at hl 1 rfl) ?_
  refine zg_callS C X hP hS (kX4_isReplica l σ hR x (by omega) (by omega)) (cwS 1 C.ts (zgS mlX4_39 stX4_isReplica iniX4 cdX4_isReplica) rfl rfl rfl (by decide +kernel) ⟨Nat.le_of_ble_eq_true rfl, Nat.le_of_ble_eq_true rfl⟩) rfl hl.1 rfl (Nat.le_of_ble_eq_true rfl) dX4_length_1 ⟨Nat.zero_le _, Nat.zero_le _⟩ (fun r_2 σ1 H locs q3 hP hS => ?_)
  obtain ⟨rfl, q3⟩ := q3
  rw [q3] at hP
  refine zg_ifeqB (tgt := 19) C dX4_length_4 (by decide) (fun c_4 => ?_) (fun c_4 => ?_)
  · have b_5 := kIsR_f c_4
    refine zg_bipush C dX4_length_19 (by decide) ?_
    refine zg_iret C hP hS dX4_length_21 ?_
    exact ⟨congrArg jI (by simp [kLenR, c_4]), rfl⟩
  · have b_6 := kIsR_t c_4
    refine zg_aload_n C dX4_length_7 rfl (lv_at hl 0 rfl) ?_
    refine zg_get (j := 3) C X hP (by decide) lyS_0 rfl (zmem uwX4) (by decide) (C.tb flX4_32) (fun _ h9 => h9) rfl dX4_length_8 ?_
    refine zg_iload_n C dX4_length_11 rfl (lv_at hl 1 rfl) ?_
    have hr7 : (x).toNat < 6 := by omega
    refine zg_aald (t0 := 2) C X hP (by decide) lyS_19 rfl (by decide) (by omega) (by omega) rfl dX4_length_12 ?_
    refine zg_callV C X hP hS (kX2_textLength l σ hR ((x).toNat) hr7) (cwV 0 C.ts (zgV mlX4_115 imX2_textLength slX2_textLength iniX2 cdX2_textLength) rfl rfl rfl (by decide +kernel) ⟨Nat.le_of_ble_eq_true rfl, Nat.le_of_ble_eq_true rfl⟩) (hkS_20 hr7) (lyS_20 hr7) rfl rfl rfl hl.1 rfl (Nat.le_of_ble_eq_true rfl) dX4_length_13 ⟨Nat.zero_le _, Nat.zero_le _⟩ (fun r_9 σ8 H locs q10 hP hS => ?_)
    obtain ⟨rfl, q10⟩ := q10
    have b_11 := kLen_rg hR ((x).toNat)
    rw [q10] at hP
    refine zg_goto (tgt := 21) C dX4_length_16 (by decide) ?_
    refine zg_iret C hP hS dX4_length_21 ?_
    exact ⟨congrArg jI (by simp [kLenR, c_4]), rfl⟩
set_option maxHeartbeats 4000000 in
set_option maxRecDepth 100000 in
theorem kX4_cursor (l : Launch) {D : va_G} {a : Nat → Nat} {cI cZ cR : ClassId} (σ : Zt) (hR : rgS σ) (x : Int) (k : Int) (q : Int) (x0 : -2147483648 ≤ x) (x1 : x < 2147483648) (k0 : -2147483648 ≤ k) (k1 : k < 2147483648) (q0 : -2147483648 ≤ q) (q1 : q < 2147483648) (hp : kPre σ) : zc l D vwCl (tyS cI cZ cR) 56 (layS cI cZ cR a) a yX4_cursor wsX4_cursor ({ frames := 5, cells := 0, slots := 0, locals := 106 }) [.ref (a 0), .int (jI x), .int (jI k), .int (jI q)] σ (fun r_ u_ => r_ = jI (kCurR σ x k q) ∧ u_ = kCurS σ x k q) := by
  refine zc_of (cc := cX4_cursor) (maxL := 5) (ret := some .int) (own := RX4) (by decide) rfl rfl (Nat.le_of_ble_eq_true rfl) rfl ?_
  intro p e s m below meth c A ls C X hP hS hl
  refine zg_iload_n C dX4_cursor_0 rfl (lv_at hl 1 rfl) ?_
  refine zg_callS C X hP hS (kX4_isReplica l σ hR x (by omega) (by omega)) (cwS 1 C.ts (zgS mlX4_39 stX4_isReplica iniX4 cdX4_isReplica) rfl rfl rfl (by decide +kernel) ⟨Nat.le_of_ble_eq_true rfl, Nat.le_of_ble_eq_true rfl⟩) rfl hl.1 rfl (Nat.le_of_ble_eq_true rfl) dX4_cursor_1 ⟨Nat.zero_le _, Nat.zero_le _⟩ (fun r_2 σ1 H locs q3 hP hS => ?_)
  obtain ⟨rfl, q3⟩ := q3
  rw [q3] at hP
  refine zg_ifneB (tgt := 10) C dX4_cursor_4 (by decide) (fun c_4 => ?_) (fun c_4 => ?_)
  · have b_5 := kIsR_t c_4
    refine zg_iload_n C dX4_cursor_10 rfl (lv_at hl 2 rfl) ?_
    refine zg_callS C X hP hS (kX4_isCursor l σ hR k (by omega) (by omega)) (cwS 1 C.ts (zgS mlX4_150 stX4_isCursor iniX4 cdX4_isCursor) rfl rfl rfl (by decide +kernel) ⟨Nat.le_of_ble_eq_true rfl, Nat.le_of_ble_eq_true rfl⟩) rfl hl.1 rfl (Nat.le_of_ble_eq_true rfl) dX4_cursor_11 ⟨Nat.zero_le _, Nat.zero_le _⟩ (fun r_7 σ6 H locs q8 hP hS => ?_)
    obtain ⟨rfl, q8⟩ := q8
    rw [q8] at hP
    refine zg_ifeqB (tgt := 30) C dX4_cursor_14 (by decide) (fun c_9 => ?_) (fun c_9 => ?_)
    · have b_10 := kIsC_f c_9
      refine zg_bipush C dX4_cursor_30 (by decide) ?_
      refine zg_iret C hP hS dX4_cursor_32 ?_
      exact ⟨congrArg jI (by simp [kCurR, c_4, c_9]), by simp [kCurS, c_4, c_9]⟩
    · have b_11 := kIsC_t c_9
      refine zg_aload_n C dX4_cursor_17 rfl (lv_at hl 0 rfl) ?_
      refine zg_get (j := 3) C X hP (by decide) lyS_0 rfl (zmem uwX4) (by decide) (C.tb flX4_32) (fun _ h9 => h9) rfl dX4_cursor_18 ?_
      refine zg_iload_n C dX4_cursor_21 rfl (lv_at hl 1 rfl) ?_
      have hr12 : (x).toNat < 6 := by omega
      refine zg_aald (t0 := 2) C X hP (by decide) lyS_19 rfl (by decide) (by omega) (by omega) rfl dX4_cursor_22 ?_
      refine zg_iload_n C dX4_cursor_23 rfl (lv_at hl 3 rfl) ?_
      refine zg_callV C X hP hS (kX2_hasGap l σ hR ((x).toNat) hr12 q (by omega) (by omega)) (cwV 1 C.ts (zgV mlX4_47 imX2_hasGap slX2_hasGap iniX2 cdX2_hasGap) rfl rfl rfl (by decide +kernel) ⟨Nat.le_of_ble_eq_true rfl, Nat.le_of_ble_eq_true rfl⟩) (hkS_20 hr12) (lyS_20 hr12) rfl rfl rfl hl.1 rfl (Nat.le_of_ble_eq_true rfl) dX4_cursor_24 ⟨Nat.zero_le _, Nat.zero_le _⟩ (fun r_14 σ13 H locs q15 hP hS => ?_)
      obtain ⟨rfl, q15⟩ := q15
      rw [q15] at hP
      refine zg_ifneB (tgt := 33) C dX4_cursor_27 (by decide) (fun c_16 => ?_) (fun c_16 => ?_)
      · have b_17 := kGap_t c_16
        refine zg_aload_n C dX4_cursor_33 rfl (lv_at hl 0 rfl) ?_
        refine zg_get (j := 3) C X hP (by decide) lyS_0 rfl (zmem uwX4) (by decide) (C.tb flX4_32) (fun _ h9 => h9) rfl dX4_cursor_34 ?_
        refine zg_iload_n C dX4_cursor_37 rfl (lv_at hl 1 rfl) ?_
        have hr18 : (x).toNat < 6 := by omega
        refine zg_aald (t0 := 2) C X hP (by decide) lyS_19 rfl (by decide) (by omega) (by omega) rfl dX4_cursor_38 ?_
        refine zg_iload_n C dX4_cursor_39 rfl (lv_at hl 2 rfl) ?_
        refine zg_callV C X hP hS (kX2_cursorPlace l σ hR ((x).toNat) hr18 k (by omega) (by omega)) (cwV 1 C.ts (zgV mlX4_153 imX2_cursorPlace slX2_cursorPlace iniX2 cdX2_cursorPlace) rfl rfl rfl (by decide +kernel) ⟨Nat.le_of_ble_eq_true rfl, Nat.le_of_ble_eq_true rfl⟩) (hkS_20 hr18) (lyS_20 hr18) rfl rfl rfl hl.1 rfl (Nat.le_of_ble_eq_true rfl) dX4_cursor_40 ⟨Nat.zero_le _, Nat.zero_le _⟩ (fun r_20 σ19 H locs q21 hP hS => ?_)
        obtain ⟨rfl, q21⟩ := q21
        rw [q21] at hP
        refine zg_istore (lv' := [(4, .int (jI (kCur σ ((x).toNat) k))), (0, .ref (a 0)), (1, .int (jI x)), (2, .int (jI k)), (3, .int (jI q))]) C dX4_cursor_43 hl (by decide) rfl (fun ls hl => ?_)
        refine zg_aload_n C dX4_cursor_45 rfl (lv_at hl 1 rfl) ?_
        refine zg_get (j := 3) C X hP (by decide) lyS_0 rfl (zmem uwX4) (by decide) (C.tb flX4_32) (fun _ h9 => h9) rfl dX4_cursor_46 ?_
        refine zg_iload_n C dX4_cursor_49 rfl (lv_at hl 2 rfl) ?_
        have hr22 : (x).toNat < 6 := by omega
        refine zg_aald (t0 := 2) C X hP (by decide) lyS_19 rfl (by decide) (by omega) (by omega) rfl dX4_cursor_50 ?_
        refine zg_get (j := 10) C X hP (hkS_20 hr22) (lyS_20 hr22) rfl (zmem uwX2) (by decide) (C.tb flX4_156) (fun _ h9 => h9) rfl dX4_cursor_51 ?_
        refine zg_iload_n C dX4_cursor_54 rfl (lv_at hl 3 rfl) ?_
        refine zg_aload_n C dX4_cursor_55 rfl (lv_at hl 1 rfl) ?_
        refine zg_get (j := 3) C X hP (by decide) lyS_0 rfl (zmem uwX4) (by decide) (C.tb flX4_32) (fun _ h9 => h9) rfl dX4_cursor_56 ?_
        refine zg_iload_n C dX4_cursor_59 rfl (lv_at hl 2 rfl) ?_
        have hr23 : (x).toNat < 6 := by omega
        refine zg_aald (t0 := 2) C X hP (by decide) lyS_19 rfl (by decide) (by omega) (by omega) rfl dX4_cursor_60 ?_
        refine zg_iload_n C dX4_cursor_61 rfl (lv_at hl 4 rfl) ?_
        refine zg_callV C X hP hS (kX2_signBefore l σ hR ((x).toNat) hr23 q (by omega) (by omega)) (cwV 1 C.ts (zgV mlX4_159 imX2_signBefore slX2_signBefore iniX2 cdX2_signBefore) rfl rfl rfl (by decide +kernel) ⟨Nat.le_of_ble_eq_true rfl, Nat.le_of_ble_eq_true rfl⟩) (hkS_20 hr23) (lyS_20 hr23) rfl rfl rfl hl.1 rfl (Nat.le_of_ble_eq_true rfl) dX4_cursor_62 ⟨Nat.zero_le _, Nat.zero_le _⟩ (fun r_25 σ24 H locs q26 hP hS => ?_)
        obtain ⟨rfl, q26⟩ := q26
        have b_27 := kBefore_rg hR ((x).toNat) q
        rw [q26] at hP
        refine zg_iast (t0 := 0) C X hP hS (hkS_24 hr22) (fun x => (lyS_24 hr22)) rfl (by decide) (by omega) (by omega) dX4_cursor_65 (fun H locs hP hS => ?_)
        obtain ⟨σ28, e29⟩ : ∃ z_ : Zt, z_ = zu σ (24 + 6 * (x).toNat) (k).toNat (kBefore σ ((x).toNat) q) := ⟨_, rfl⟩
        rw [← e29] at hP
        have w_31 : σ28 (24 + 6 * (x).toNat) (k).toNat = kBefore σ ((x).toNat) q := by rw [e29]; exact zu_same _ _ _ _
        have hR30 : rgS σ28 := by rw [e29]; exact rzS_24 hR hr22 (by omega) (by omega)
        refine zg_iload C dX4_cursor_66 (lv_at hl 0 rfl) ?_
        refine zg_iret C hP hS dX4_cursor_68 ?_
        subst e29
        exact ⟨congrArg jI (by simp [kCurR, c_4, c_9, c_16]), by simp [kCurS, c_4, c_9, c_16]⟩
      · refine zg_bipush C dX4_cursor_30 (by decide) ?_
        refine zg_iret C hP hS dX4_cursor_32 ?_
        exact ⟨congrArg jI (by simp [kCurR, c_4, c_9, c_16]), by simp [kCurS, c_4, c_9, c_16]⟩
  · have b_32 := kIsR_f c_4
    refine zg_bipush C dX4_cursor_7 (by decide) ?_
    refine zg_iret C hP hS dX4_cursor_9 ?_
    exact ⟨congrArg jI (by simp [kCurR, c_4]), by simp [kCurS, c_4]⟩
set_option maxHeartbeats 4000000 in
set_option maxRecDepth 100000 in
theorem kX4_at (l : Launch) {D : va_G} {a : Nat → Nat} {cI cZ cR : ClassId} (σ : Zt) (hR : rgS σ) (x : Int) (k : Int) (x0 : -2147483648 ≤ x) (x1 : x < 2147483648) (k0 : -2147483648 ≤ k) (k1 : k < 2147483648) (hp : kPre σ) : zc l D vwCl (tyS cI cZ cR) 56 (layS cI cZ cR a) a yX4_at wsX4_at ({ frames := 4, cells := 0, slots := 0, locals := 87 }) [.ref (a 0), .int (jI x), .int (jI k)] σ (fun r_ u_ => r_ = jI (kAtR σ x k) ∧ u_ = σ) := by
  refine zc_of (cc := cX4_at) (maxL := 3) (ret := some .int) (own := RX4) (by decide) rfl rfl (Nat.le_of_ble_eq_true rfl) rfl ?_
  intro p e s m below meth c A ls C X hP hS hl
  refine zg_iload_n C dX4_at_0 rfl (lv_at hl 1 rfl) ?_
  refine zg_callS C X hP hS (kX4_isReplica l σ hR x (by omega) (by omega)) (cwS 1 C.ts (zgS mlX4_39 stX4_isReplica iniX4 cdX4_isReplica) rfl rfl rfl (by decide +kernel) ⟨Nat.le_of_ble_eq_true rfl, Nat.le_of_ble_eq_true rfl⟩) rfl hl.1 rfl (Nat.le_of_ble_eq_true rfl) dX4_at_1 ⟨Nat.zero_le _, Nat.zero_le _⟩ (fun r_2 σ1 H locs q3 hP hS => ?_)
  obtain ⟨rfl, q3⟩ := q3
  rw [q3] at hP
  refine zg_ifneB (tgt := 10) C dX4_at_4 (by decide) (fun c_4 => ?_) (fun c_4 => ?_)
  · have b_5 := kIsR_t c_4
    refine zg_iload_n C dX4_at_10 rfl (lv_at hl 2 rfl) ?_
    refine zg_callS C X hP hS (kX4_isCursor l σ hR k (by omega) (by omega)) (cwS 1 C.ts (zgS mlX4_150 stX4_isCursor iniX4 cdX4_isCursor) rfl rfl rfl (by decide +kernel) ⟨Nat.le_of_ble_eq_true rfl, Nat.le_of_ble_eq_true rfl⟩) rfl hl.1 rfl (Nat.le_of_ble_eq_true rfl) dX4_at_11 ⟨Nat.zero_le _, Nat.zero_le _⟩ (fun r_7 σ6 H locs q8 hP hS => ?_)
    obtain ⟨rfl, q8⟩ := q8
    rw [q8] at hP
    refine zg_ifeqB (tgt := 30) C dX4_at_14 (by decide) (fun c_9 => ?_) (fun c_9 => ?_)
    · have b_10 := kIsC_f c_9
      refine zg_bipush C dX4_at_30 (by decide) ?_
      refine zg_iret C hP hS dX4_at_32 ?_
      exact ⟨congrArg jI (by simp [kAtR, c_4, c_9]), rfl⟩
    · have b_11 := kIsC_t c_9
      refine zg_aload_n C dX4_at_17 rfl (lv_at hl 0 rfl) ?_
      refine zg_get (j := 3) C X hP (by decide) lyS_0 rfl (zmem uwX4) (by decide) (C.tb flX4_32) (fun _ h9 => h9) rfl dX4_at_18 ?_
      refine zg_iload_n C dX4_at_21 rfl (lv_at hl 1 rfl) ?_
      have hr12 : (x).toNat < 6 := by omega
      refine zg_aald (t0 := 2) C X hP (by decide) lyS_19 rfl (by decide) (by omega) (by omega) rfl dX4_at_22 ?_
      refine zg_iload_n C dX4_at_23 rfl (lv_at hl 2 rfl) ?_
      refine zg_callV C X hP hS (kX2_cursorPlace l σ hR ((x).toNat) hr12 k (by omega) (by omega)) (cwV 1 C.ts (zgV mlX4_153 imX2_cursorPlace slX2_cursorPlace iniX2 cdX2_cursorPlace) rfl rfl rfl (by decide +kernel) ⟨Nat.le_of_ble_eq_true rfl, Nat.le_of_ble_eq_true rfl⟩) (hkS_20 hr12) (lyS_20 hr12) rfl rfl rfl hl.1 rfl (Nat.le_of_ble_eq_true rfl) dX4_at_24 ⟨Nat.zero_le _, Nat.zero_le _⟩ (fun r_14 σ13 H locs q15 hP hS => ?_)
      obtain ⟨rfl, q15⟩ := q15
      rw [q15] at hP
      refine zg_goto (tgt := 32) C dX4_at_27 (by decide) ?_
      refine zg_iret C hP hS dX4_at_32 ?_
      exact ⟨congrArg jI (by simp [kAtR, c_4, c_9]), rfl⟩
  · have b_16 := kIsR_f c_4
    refine zg_bipush C dX4_at_7 (by decide) ?_
    refine zg_iret C hP hS dX4_at_9 ?_
    exact ⟨congrArg jI (by simp [kAtR, c_4]), rfl⟩
set_option maxHeartbeats 4000000 in
set_option maxRecDepth 100000 in
theorem kX4_message (l : Launch) {D : va_G} {a : Nat → Nat} {cI cZ cR : ClassId} (σ : Zt) (hR : rgS σ) (i : Int) (w : Int) (i0 : -2147483648 ≤ i) (i1 : i < 2147483648) (w0 : -2147483648 ≤ w) (w1 : w < 2147483648) (hp : kPre σ) : zc l D vwCl (tyS cI cZ cR) 56 (layS cI cZ cR a) a yX4_message wsX4_message ({ frames := 1, cells := 0, slots := 0, locals := 21 }) [.ref (a 0), .int (jI i), .int (jI w)] σ (fun r_ u_ => r_ = jI (kMesR σ i w) ∧ u_ = σ) := by
  refine zc_of (cc := cX4_message) (maxL := 3) (ret := some .int) (own := RX4) (by decide) rfl rfl (Nat.le_of_ble_eq_true rfl) rfl ?_
  intro p e s m below meth c A ls C X hP hS hl
  refine zg_aload_n C dX4_message_0 rfl (lv_at hl 0 rfl) ?_
  refine zg_get (j := 2) C X hP (by decide) lyS_0 rfl (zmem uwX4) (by decide) (C.tb flX4_26) (fun _ h9 => h9) rfl dX4_message_1 ?_
  refine zg_iload_n C dX4_message_4 rfl (lv_at hl 1 rfl) ?_
  refine zg_callV C X hP hS (kX3_holds l σ hR i (by omega) (by omega)) (cwV 1 C.ts (zgV mlX4_83 imX3_holds slX3_holds iniX3 cdX3_holds) rfl rfl rfl (by decide +kernel) ⟨Nat.le_of_ble_eq_true rfl, Nat.le_of_ble_eq_true rfl⟩) (by decide) lyS_16 rfl rfl rfl hl.1 rfl (Nat.le_of_ble_eq_true rfl) dX4_message_5 ⟨Nat.zero_le _, Nat.zero_le _⟩ (fun r_2 σ1 H locs q3 hP hS => ?_)
  obtain ⟨rfl, q3⟩ := q3
  have b_4 := rgS_16_2 hR
  rw [q3] at hP
  refine zg_ifneB (tgt := 14) C dX4_message_8 (by decide) (fun c_5 => ?_) (fun c_5 => ?_)
  · have b_6 := kHolds_t c_5
    refine zg_iload_n C dX4_message_14 rfl (lv_at hl 2 rfl) ?_
    refine zg_if_ne (tgt := 30) C (by omega) (by omega) dX4_message_15 (by decide) (fun c_7 => ?_) (fun c_7 => ?_)
    · refine zg_iload_n C dX4_message_30 rfl (lv_at hl 2 rfl) ?_
      refine zg_iconst C dX4_message_31 ?_
      refine zg_icmp_ne (tgt := 47) C (by omega) (by omega) (by omega) (by omega) dX4_message_32 (by decide) (fun c_8 => ?_) (fun c_8 => ?_)
      · refine zg_bipush C dX4_message_47 (by decide) ?_
        refine zg_iret C hP hS dX4_message_49 ?_
        exact ⟨congrArg jI (by simp [kMesR, c_5, c_7, c_8]), rfl⟩
      · refine zg_aload_n C dX4_message_35 rfl (lv_at hl 0 rfl) ?_
        refine zg_get (j := 2) C X hP (by decide) lyS_0 rfl (zmem uwX4) (by decide) (C.tb flX4_26) (fun _ h9 => h9) rfl dX4_message_36 ?_
        refine zg_get (j := 1) C X hP (by decide) lyS_16 rfl (zmem uwX3) (by decide) (C.tb flX4_89) (fun _ h9 => h9) rfl dX4_message_39 ?_
        refine zg_iload_n C dX4_message_42 rfl (lv_at hl 1 rfl) ?_
        refine zg_iald (t0 := 0) C X hP (by decide) lyS_18 rfl (by decide) (by omega) (by omega) dX4_message_43 ?_
        have b_9 := rgS_18 hR ((i).toNat)
        refine zg_goto (tgt := 49) C dX4_message_44 (by decide) ?_
        refine zg_iret C hP hS dX4_message_49 ?_
        exact ⟨congrArg jI (by simp [kMesR, c_5, c_7, c_8]), rfl⟩
    · refine zg_aload_n C dX4_message_18 rfl (lv_at hl 0 rfl) ?_
      refine zg_get (j := 2) C X hP (by decide) lyS_0 rfl (zmem uwX4) (by decide) (C.tb flX4_26) (fun _ h9 => h9) rfl dX4_message_19 ?_
      refine zg_get (j := 0) C X hP (by decide) lyS_16 rfl (zmem uwX3) (by decide) (C.tb flX4_86) (fun _ h9 => h9) rfl dX4_message_22 ?_
      refine zg_iload_n C dX4_message_25 rfl (lv_at hl 1 rfl) ?_
      refine zg_iald (t0 := 0) C X hP (by decide) lyS_17 rfl (by decide) (by omega) (by omega) dX4_message_26 ?_
      have b_10 := rgS_17 hR ((i).toNat)
      refine zg_goto (tgt := 49) C dX4_message_27 (by decide) ?_
      refine zg_iret C hP hS dX4_message_49 ?_
      exact ⟨congrArg jI (by simp [kMesR, c_5, c_7]), rfl⟩
  · refine zg_bipush C dX4_message_11 (by decide) ?_
    refine zg_iret C hP hS dX4_message_13 ?_
    exact ⟨congrArg jI (by simp [kMesR, c_5]), rfl⟩
set_option maxHeartbeats 4000000 in
set_option maxRecDepth 100000 in
theorem kX4_about (l : Launch) {D : va_G} {a : Nat → Nat} {cI cZ cR : ClassId} (σ : Zt) (hR : rgS σ) (x : Int) (y : Int) (w : Int) (x0 : -2147483648 ≤ x) (x1 : x < 2147483648) (y0 : -2147483648 ≤ y) (y1 : y < 2147483648) (w0 : -2147483648 ≤ w) (w1 : w < 2147483648) (hp : kPre σ) : zc l D vwCl (tyS cI cZ cR) 56 (layS cI cZ cR a) a yX4_about wsX4_about ({ frames := 1, cells := 0, slots := 0, locals := 20 }) [.ref (a 0), .int (jI x), .int (jI y), .int (jI w)] σ (fun r_ u_ => r_ = jI (kAboR σ x y w) ∧ u_ = σ) := by
  refine zc_of (cc := cX4_about) (maxL := 4) (ret := some .int) (own := RX4) (by decide) rfl rfl (Nat.le_of_ble_eq_true rfl) rfl ?_
  intro p e s m below meth c A ls C X hP hS hl
  refine zg_iload_n C dX4_about_0 rfl (lv_at hl 1 rfl) ?_
  refine zg_callS C X hP hS (kX4_isReplica l σ hR x (by omega) (by omega)) (cwS 1 C.ts (zgS mlX4_39 stX4_isReplica iniX4 cdX4_isReplica) rfl rfl rfl (by decide +kernel) ⟨Nat.le_of_ble_eq_true rfl, Nat.le_of_ble_eq_true rfl⟩) rfl hl.1 rfl (Nat.le_of_ble_eq_true rfl) dX4_about_1 ⟨Nat.zero_le _, Nat.zero_le _⟩ (fun r_2 σ1 H locs q3 hP hS => ?_)
  obtain ⟨rfl, q3⟩ := q3
  rw [q3] at hP
  refine zg_ifneB (tgt := 10) C dX4_about_4 (by decide) (fun c_4 => ?_) (fun c_4 => ?_)
  · have b_5 := kIsR_t c_4
    refine zg_iload_n C dX4_about_10 rfl (lv_at hl 3 rfl) ?_
    rcases (show (w < 0 ∨ 3 < w) ∨ w = 0 ∨ w = 1 ∨ w = 2 ∨ w = 3 by omega) with c_6 | c_6 | c_6 | c_6 | c_6
    · refine zg_tswO (tgt := 94) C (by omega) (by omega) dX4_about_11 c_6 (by decide) ?_
      refine zg_bipush C dX4_about_94 (by decide) ?_
      refine zg_iret C hP hS dX4_about_96 ?_
      exact ⟨congrArg jI (by first | (simp [kAboR, c_4, c_6]; done) | grind [kAboR]), rfl⟩
    · refine zg_tswI (v := 0) (tgt := 40) (off := 29) C c_6 (by decide) (by decide) dX4_about_11 (by decide) (by decide) (by decide) (by decide) ?_
      refine zg_iload_n C dX4_about_40 rfl (lv_at hl 2 rfl) ?_
      refine zg_callS C X hP hS (kX4_isReplica l σ hR y (by omega) (by omega)) (cwS 1 C.ts (zgS mlX4_39 stX4_isReplica iniX4 cdX4_isReplica) rfl rfl rfl (by decide +kernel) ⟨Nat.le_of_ble_eq_true rfl, Nat.le_of_ble_eq_true rfl⟩) rfl hl.1 rfl (Nat.le_of_ble_eq_true rfl) dX4_about_41 ⟨Nat.zero_le _, Nat.zero_le _⟩ (fun r_8 σ7 H locs q9 hP hS => ?_)
      obtain ⟨rfl, q9⟩ := q9
      rw [q9] at hP
      refine zg_ifeqB (tgt := 61) C dX4_about_44 (by decide) (fun c_10 => ?_) (fun c_10 => ?_)
      · have b_11 := kIsR_f c_10
        refine zg_bipush C dX4_about_61 (by decide) ?_
        refine zg_iret C hP hS dX4_about_63 ?_
        exact ⟨congrArg jI (by first | (simp [kAboR, c_4, c_6, c_10]; done) | grind [kAboR]), rfl⟩
      · have b_12 := kIsR_t c_10
        refine zg_aload_n C dX4_about_47 rfl (lv_at hl 0 rfl) ?_
        refine zg_get (j := 3) C X hP (by decide) lyS_0 rfl (zmem uwX4) (by decide) (C.tb flX4_32) (fun _ h9 => h9) rfl dX4_about_48 ?_
        refine zg_iload_n C dX4_about_51 rfl (lv_at hl 1 rfl) ?_
        have hr13 : (x).toNat < 6 := by omega
        refine zg_aald (t0 := 2) C X hP (by decide) lyS_19 rfl (by decide) (by omega) (by omega) rfl dX4_about_52 ?_
        refine zg_get (j := 7) C X hP (hkS_20 hr13) (lyS_20 hr13) rfl (zmem uwX2) (by decide) (C.tb flX4_162) (fun _ h9 => h9) rfl dX4_about_53 ?_
        refine zg_iload_n C dX4_about_56 rfl (lv_at hl 2 rfl) ?_
        refine zg_iald (t0 := 0) C X hP (hkS_21 hr13) (lyS_21 hr13) rfl (by decide) (by omega) (by omega) dX4_about_57 ?_
        have b_14 := rgS_21 hR hr13 ((y).toNat)
        refine zg_goto (tgt := 63) C dX4_about_58 (by decide) ?_
        refine zg_iret C hP hS dX4_about_63 ?_
        exact ⟨congrArg jI (by first | (simp [kAboR, c_4, c_6, c_10]; done) | grind [kAboR]), rfl⟩
    · refine zg_tswI (v := 1) (tgt := 64) (off := 53) C c_6 (by decide) (by decide) dX4_about_11 (by decide) (by decide) (by decide) (by decide) ?_
      refine zg_aload_n C dX4_about_64 rfl (lv_at hl 0 rfl) ?_
      refine zg_get (j := 3) C X hP (by decide) lyS_0 rfl (zmem uwX4) (by decide) (C.tb flX4_32) (fun _ h9 => h9) rfl dX4_about_65 ?_
      refine zg_iload_n C dX4_about_68 rfl (lv_at hl 1 rfl) ?_
      have hr15 : (x).toNat < 6 := by omega
      refine zg_aald (t0 := 2) C X hP (by decide) lyS_19 rfl (by decide) (by omega) (by omega) rfl dX4_about_69 ?_
      refine zg_get (j := 6) C X hP (hkS_20 hr15) (lyS_20 hr15) rfl (zmem uwX2) (by decide) (C.tb flX4_165) (fun _ h9 => h9) rfl dX4_about_70 ?_
      have b_16 := rgS_20_6 hR hr15
      refine zg_iret C hP hS dX4_about_73 ?_
      exact ⟨congrArg jI (by first | (simp [kAboR, c_4, c_6]; done) | grind [kAboR]), rfl⟩
    · refine zg_tswI (v := 2) (tgt := 74) (off := 63) C c_6 (by decide) (by decide) dX4_about_11 (by decide) (by decide) (by decide) (by decide) ?_
      refine zg_aload_n C dX4_about_74 rfl (lv_at hl 0 rfl) ?_
      refine zg_get (j := 3) C X hP (by decide) lyS_0 rfl (zmem uwX4) (by decide) (C.tb flX4_32) (fun _ h9 => h9) rfl dX4_about_75 ?_
      refine zg_iload_n C dX4_about_78 rfl (lv_at hl 1 rfl) ?_
      have hr17 : (x).toNat < 6 := by omega
      refine zg_aald (t0 := 2) C X hP (by decide) lyS_19 rfl (by decide) (by omega) (by omega) rfl dX4_about_79 ?_
      refine zg_get (j := 4) C X hP (hkS_20 hr17) (lyS_20 hr17) rfl (zmem uwX2) (by decide) (C.tb flX4_168) (fun _ h9 => h9) rfl dX4_about_80 ?_
      have b_18 := rgS_20_4 hR hr17
      refine zg_iret C hP hS dX4_about_83 ?_
      exact ⟨congrArg jI (by first | (simp [kAboR, c_4, c_6]; done) | grind [kAboR]), rfl⟩
    · refine zg_tswI (v := 3) (tgt := 84) (off := 73) C c_6 (by decide) (by decide) dX4_about_11 (by decide) (by decide) (by decide) (by decide) ?_
      refine zg_aload_n C dX4_about_84 rfl (lv_at hl 0 rfl) ?_
      refine zg_get (j := 3) C X hP (by decide) lyS_0 rfl (zmem uwX4) (by decide) (C.tb flX4_32) (fun _ h9 => h9) rfl dX4_about_85 ?_
      refine zg_iload_n C dX4_about_88 rfl (lv_at hl 1 rfl) ?_
      have hr19 : (x).toNat < 6 := by omega
      refine zg_aald (t0 := 2) C X hP (by decide) lyS_19 rfl (by decide) (by omega) (by omega) rfl dX4_about_89 ?_
      refine zg_get (j := 5) C X hP (hkS_20 hr19) (lyS_20 hr19) rfl (zmem uwX2) (by decide) (C.tb flX4_171) (fun _ h9 => h9) rfl dX4_about_90 ?_
      refine zg_iret C hP hS dX4_about_93 ?_
      exact ⟨congrArg jI (by first | (simp [kAboR, c_4, c_6]; done) | grind [kAboR]), rfl⟩
  · have b_20 := kIsR_f c_4
    refine zg_bipush C dX4_about_7 (by decide) ?_
    refine zg_iret C hP hS dX4_about_9 ?_
    exact ⟨congrArg jI (by first | (simp [kAboR, c_4]; done) | grind [kAboR]), rfl⟩
set_option maxHeartbeats 4000000 in
set_option maxRecDepth 100000 in
theorem kX4_deed (l : Launch) {D : va_G} {a : Nat → Nat} {cI cZ cR : ClassId} (σ : Zt) (hR : rgS σ) (d : Int) (w : Int) (d0 : -2147483648 ≤ d) (d1 : d < 2147483648) (w0 : -2147483648 ≤ w) (w1 : w < 2147483648) (hp : kPre σ) : zc l D vwCl (tyS cI cZ cR) 56 (layS cI cZ cR a) a yX4_deed wsX4_deed ({ frames := 0, cells := 0, slots := 0, locals := 0 }) [.ref (a 0), .int (jI d), .int (jI w)] σ (fun r_ u_ => r_ = jI (kDeeR σ d w) ∧ u_ = σ) := by
  refine zc_of (cc := cX4_deed) (maxL := 3) (ret := some .int) (own := RX4) (by decide) rfl rfl (Nat.le_of_ble_eq_true rfl) rfl ?_
  intro p e s m below meth c A ls C X hP hS hl
  refine zg_iload_n C dX4_deed_0 rfl (lv_at hl 1 rfl) ?_
  refine zg_if_lt (tgt := 15) C (by omega) (by omega) dX4_deed_1 (by decide) (fun c_1 => ?_) (fun c_1 => ?_)
  · refine zg_bipush C dX4_deed_15 (by decide) ?_
    refine zg_iret C hP hS dX4_deed_17 ?_
    exact ⟨congrArg jI (by first | (simp [kDeeR, c_1]; done) | grind [kDeeR]), rfl⟩
  · refine zg_iload_n C dX4_deed_4 rfl (lv_at hl 1 rfl) ?_
    refine zg_aload_n C dX4_deed_5 rfl (lv_at hl 0 rfl) ?_
    refine zg_get (j := 0) C X hP (by decide) lyS_0 rfl (zmem uwX4) (by decide) (C.tb flX4_10) (fun _ h9 => h9) rfl dX4_deed_6 ?_
    refine zg_get (j := 10) C X hP (by decide) lyS_1 rfl (zmem uwX0) (by decide) (C.tb flX4_111) (fun _ h9 => h9) rfl dX4_deed_9 ?_
    have b_2 := rgS_1_10 hR
    refine zg_icmp_lt (tgt := 18) C (by omega) (by omega) (by omega) (by omega) dX4_deed_12 (by decide) (fun c_3 => ?_) (fun c_3 => ?_)
    · refine zg_iload_n C dX4_deed_18 rfl (lv_at hl 2 rfl) ?_
      rcases (show (w < 0 ∨ 5 < w) ∨ w = 0 ∨ w = 1 ∨ w = 2 ∨ w = 3 ∨ w = 4 ∨ w = 5 by omega) with c_4 | c_4 | c_4 | c_4 | c_4 | c_4 | c_4
      · refine zg_tswO (tgt := 116) C (by omega) (by omega) dX4_deed_19 c_4 (by decide) ?_
        refine zg_bipush C dX4_deed_116 (by decide) ?_
        refine zg_iret C hP hS dX4_deed_118 ?_
        exact ⟨congrArg jI (by first | (simp [kDeeR, c_1, c_3, c_4]; done) | grind [kDeeR]), rfl⟩
      · refine zg_tswI (v := 0) (tgt := 56) (off := 37) C c_4 (by decide) (by decide) dX4_deed_19 (by decide) (by decide) (by decide) (by decide) ?_
        refine zg_aload_n C dX4_deed_56 rfl (lv_at hl 0 rfl) ?_
        refine zg_get (j := 0) C X hP (by decide) lyS_0 rfl (zmem uwX4) (by decide) (C.tb flX4_10) (fun _ h9 => h9) rfl dX4_deed_57 ?_
        refine zg_get (j := 0) C X hP (by decide) lyS_1 rfl (zmem uwX0) (by decide) (C.tb flX4_182) (fun _ h9 => h9) rfl dX4_deed_60 ?_
        refine zg_iload_n C dX4_deed_63 rfl (lv_at hl 1 rfl) ?_
        refine zg_iald (t0 := 0) C X hP (by decide) lyS_2 rfl (by decide) (by omega) (by omega) dX4_deed_64 ?_
        have b_5 := rgS_2 hR ((d).toNat)
        refine zg_iret C hP hS dX4_deed_65 ?_
        exact ⟨congrArg jI (by first | (simp [kDeeR, c_1, c_3, c_4]; done) | grind [kDeeR]), rfl⟩
      · refine zg_tswI (v := 1) (tgt := 66) (off := 47) C c_4 (by decide) (by decide) dX4_deed_19 (by decide) (by decide) (by decide) (by decide) ?_
        refine zg_aload_n C dX4_deed_66 rfl (lv_at hl 0 rfl) ?_
        refine zg_get (j := 0) C X hP (by decide) lyS_0 rfl (zmem uwX4) (by decide) (C.tb flX4_10) (fun _ h9 => h9) rfl dX4_deed_67 ?_
        refine zg_get (j := 1) C X hP (by decide) lyS_1 rfl (zmem uwX0) (by decide) (C.tb flX4_185) (fun _ h9 => h9) rfl dX4_deed_70 ?_
        refine zg_iload_n C dX4_deed_73 rfl (lv_at hl 1 rfl) ?_
        refine zg_iald (t0 := 0) C X hP (by decide) lyS_3 rfl (by decide) (by omega) (by omega) dX4_deed_74 ?_
        have b_6 := rgS_3 hR ((d).toNat)
        refine zg_iret C hP hS dX4_deed_75 ?_
        exact ⟨congrArg jI (by first | (simp [kDeeR, c_1, c_3, c_4]; done) | grind [kDeeR]), rfl⟩
      · refine zg_tswI (v := 2) (tgt := 76) (off := 57) C c_4 (by decide) (by decide) dX4_deed_19 (by decide) (by decide) (by decide) (by decide) ?_
        refine zg_aload_n C dX4_deed_76 rfl (lv_at hl 0 rfl) ?_
        refine zg_get (j := 0) C X hP (by decide) lyS_0 rfl (zmem uwX4) (by decide) (C.tb flX4_10) (fun _ h9 => h9) rfl dX4_deed_77 ?_
        refine zg_get (j := 2) C X hP (by decide) lyS_1 rfl (zmem uwX0) (by decide) (C.tb flX4_188) (fun _ h9 => h9) rfl dX4_deed_80 ?_
        refine zg_iload_n C dX4_deed_83 rfl (lv_at hl 1 rfl) ?_
        refine zg_iald (t0 := 0) C X hP (by decide) lyS_4 rfl (by decide) (by omega) (by omega) dX4_deed_84 ?_
        have b_7 := rgS_4 hR ((d).toNat)
        refine zg_iret C hP hS dX4_deed_85 ?_
        exact ⟨congrArg jI (by first | (simp [kDeeR, c_1, c_3, c_4]; done) | grind [kDeeR]), rfl⟩
      · refine zg_tswI (v := 3) (tgt := 86) (off := 67) C c_4 (by decide) (by decide) dX4_deed_19 (by decide) (by decide) (by decide) (by decide) ?_
        refine zg_aload_n C dX4_deed_86 rfl (lv_at hl 0 rfl) ?_
        refine zg_get (j := 0) C X hP (by decide) lyS_0 rfl (zmem uwX4) (by decide) (C.tb flX4_10) (fun _ h9 => h9) rfl dX4_deed_87 ?_
        refine zg_get (j := 3) C X hP (by decide) lyS_1 rfl (zmem uwX0) (by decide) (C.tb flX4_76) (fun _ h9 => h9) rfl dX4_deed_90 ?_
        refine zg_iload_n C dX4_deed_93 rfl (lv_at hl 1 rfl) ?_
        refine zg_iald (t0 := 0) C X hP (by decide) lyS_5 rfl (by decide) (by omega) (by omega) dX4_deed_94 ?_
        have b_8 := rgS_5 hR ((d).toNat)
        refine zg_iret C hP hS dX4_deed_95 ?_
        exact ⟨congrArg jI (by first | (simp [kDeeR, c_1, c_3, c_4]; done) | grind [kDeeR]), rfl⟩
      · refine zg_tswI (v := 4) (tgt := 96) (off := 77) C c_4 (by decide) (by decide) dX4_deed_19 (by decide) (by decide) (by decide) (by decide) ?_
        refine zg_aload_n C dX4_deed_96 rfl (lv_at hl 0 rfl) ?_
        refine zg_get (j := 0) C X hP (by decide) lyS_0 rfl (zmem uwX4) (by decide) (C.tb flX4_10) (fun _ h9 => h9) rfl dX4_deed_97 ?_
        refine zg_get (j := 4) C X hP (by decide) lyS_1 rfl (zmem uwX0) (by decide) (C.tb flX4_118) (fun _ h9 => h9) rfl dX4_deed_100 ?_
        refine zg_iload_n C dX4_deed_103 rfl (lv_at hl 1 rfl) ?_
        refine zg_iald (t0 := 0) C X hP (by decide) lyS_6 rfl (by decide) (by omega) (by omega) dX4_deed_104 ?_
        have b_9 := rgS_6 hR ((d).toNat)
        refine zg_iret C hP hS dX4_deed_105 ?_
        exact ⟨congrArg jI (by first | (simp [kDeeR, c_1, c_3, c_4]; done) | grind [kDeeR]), rfl⟩
      · refine zg_tswI (v := 5) (tgt := 106) (off := 87) C c_4 (by decide) (by decide) dX4_deed_19 (by decide) (by decide) (by decide) (by decide) ?_
        refine zg_aload_n C dX4_deed_106 rfl (lv_at hl 0 rfl) ?_
        refine zg_get (j := 0) C X hP (by decide) lyS_0 rfl (zmem uwX4) (by decide) (C.tb flX4_10) (fun _ h9 => h9) rfl dX4_deed_107 ?_
        refine zg_get (j := 5) C X hP (by decide) lyS_1 rfl (zmem uwX0) (by decide) (C.tb flX4_72) (fun _ h9 => h9) rfl dX4_deed_110 ?_
        refine zg_iload_n C dX4_deed_113 rfl (lv_at hl 1 rfl) ?_
        refine zg_iald (t0 := 0) C X hP (by decide) lyS_7 rfl (by decide) (by omega) (by omega) dX4_deed_114 ?_
        have b_10 := rgS_7 hR ((d).toNat)
        refine zg_iret C hP hS dX4_deed_115 ?_
        exact ⟨congrArg jI (by first | (simp [kDeeR, c_1, c_3, c_4]; done) | grind [kDeeR]), rfl⟩
    · refine zg_bipush C dX4_deed_15 (by decide) ?_
      refine zg_iret C hP hS dX4_deed_17 ?_
      exact ⟨congrArg jI (by first | (simp [kDeeR, c_1, c_3]; done) | grind [kDeeR]), rfl⟩
set_option maxHeartbeats 4000000 in
set_option maxRecDepth 100000 in
theorem kX4_count (l : Launch) {D : va_G} {a : Nat → Nat} {cI cZ cR : ClassId} (σ : Zt) (hR : rgS σ) (w : Int) (w0 : -2147483648 ≤ w) (w1 : w < 2147483648) (hp : kPre σ) : zc l D vwCl (tyS cI cZ cR) 56 (layS cI cZ cR a) a yX4_count wsX4_count ({ frames := 0, cells := 0, slots := 0, locals := 0 }) [.ref (a 0), .int (jI w)] σ (fun r_ u_ => r_ = jI (kCouR σ w) ∧ u_ = σ) := by
  refine zc_of (cc := cX4_count) (maxL := 2) (ret := some .int) (own := RX4) (by decide) rfl rfl (Nat.le_of_ble_eq_true rfl) rfl ?_
  intro p e s m below meth c A ls C X hP hS hl
  refine zg_iload_n C dX4_count_0 rfl (lv_at hl 1 rfl) ?_
  rcases (show (w < 0 ∨ 2 < w) ∨ w = 0 ∨ w = 1 ∨ w = 2 by omega) with c_1 | c_1 | c_1 | c_1
  · refine zg_tswO (tgt := 52) C (by omega) (by omega) dX4_count_1 c_1 (by decide) ?_
    refine zg_bipush C dX4_count_52 (by decide) ?_
    refine zg_iret C hP hS dX4_count_54 ?_
    exact ⟨congrArg jI (by first | (simp [kCouR, c_1]; done) | grind [kCouR]), rfl⟩
  · refine zg_tswI (v := 0) (tgt := 28) (off := 27) C c_1 (by decide) (by decide) dX4_count_1 (by decide) (by decide) (by decide) (by decide) ?_
    refine zg_aload_n C dX4_count_28 rfl (lv_at hl 0 rfl) ?_
    refine zg_get (j := 0) C X hP (by decide) lyS_0 rfl (zmem uwX4) (by decide) (C.tb flX4_10) (fun _ h9 => h9) rfl dX4_count_29 ?_
    refine zg_get (j := 10) C X hP (by decide) lyS_1 rfl (zmem uwX0) (by decide) (C.tb flX4_111) (fun _ h9 => h9) rfl dX4_count_32 ?_
    have b_2 := rgS_1_10 hR
    refine zg_iret C hP hS dX4_count_35 ?_
    exact ⟨congrArg jI (by first | (simp [kCouR, c_1]; done) | grind [kCouR]), rfl⟩
  · refine zg_tswI (v := 1) (tgt := 36) (off := 35) C c_1 (by decide) (by decide) dX4_count_1 (by decide) (by decide) (by decide) (by decide) ?_
    refine zg_aload_n C dX4_count_36 rfl (lv_at hl 0 rfl) ?_
    refine zg_get (j := 2) C X hP (by decide) lyS_0 rfl (zmem uwX4) (by decide) (C.tb flX4_26) (fun _ h9 => h9) rfl dX4_count_37 ?_
    refine zg_get (j := 2) C X hP (by decide) lyS_16 rfl (zmem uwX3) (by decide) (C.tb flX4_99) (fun _ h9 => h9) rfl dX4_count_40 ?_
    have b_3 := rgS_16_2 hR
    refine zg_iret C hP hS dX4_count_43 ?_
    exact ⟨congrArg jI (by first | (simp [kCouR, c_1]; done) | grind [kCouR]), rfl⟩
  · refine zg_tswI (v := 2) (tgt := 44) (off := 43) C c_1 (by decide) (by decide) dX4_count_1 (by decide) (by decide) (by decide) (by decide) ?_
    refine zg_aload_n C dX4_count_44 rfl (lv_at hl 0 rfl) ?_
    refine zg_get (j := 2) C X hP (by decide) lyS_0 rfl (zmem uwX4) (by decide) (C.tb flX4_26) (fun _ h9 => h9) rfl dX4_count_45 ?_
    refine zg_get (j := 3) C X hP (by decide) lyS_16 rfl (zmem uwX3) (by decide) (C.tb flX4_190) (fun _ h9 => h9) rfl dX4_count_48 ?_
    refine zg_iret C hP hS dX4_count_51 ?_
    exact ⟨congrArg jI (by first | (simp [kCouR, c_1]; done) | grind [kCouR]), rfl⟩
end
section
set_option maxHeartbeats 4000000 in
set_option maxRecDepth 100000 in
theorem lpX4_same_19 {l : Launch} {D : va_G} {a : Nat → Nat} {cI cZ cR : ClassId} {p : Program} {e : Env} {s : State} {m : MethodId} {below : List Frame} {meth : Method} {c : Code} {A : Nat → Prop} (σ : Zt) (hR : rgS σ) (x : Int) (y : Int) (x0 : -2147483648 ≤ x) (x1 : x < 2147483648) (y0 : -2147483648 ≤ y) (y1 : y < 2147483648) (hp : kPre σ) (x2 : 0 ≤ x ∧ x < 6) (y2 : 0 ≤ y ∧ y < 6) (g1 : kIsR x = true) (g2 : kIsR y = true) (C : zk p s m ([.ref (a 0), .int (jI x), .int (jI y)] : List Value).toArray meth c cX4_same 4 (some .int) wsX4_same RX4) (X : zx D vwCl (tyS cI cZ cR) A a 56 s) :
    ∀ (n : Nat) (i : Int) (τ : Zt) (H : Heap) (locs : List Loc) (ls : Array Slot), ((401 - i).toNat < n) → (rgS τ) → (zq σ τ) → (0 ≤ i) → (i ≤ 400) → (kSame σ x.toNat y.toNat (σ 11 4).toNat 0 = kSame σ x.toNat y.toNat (σ 11 4 - i).toNat i.toNat) → va_P D vwCl (zw 56 (layS cI cZ cR a) a τ) H → va_S A s.heap H locs → lv_has ls 4 [(0, .ref (a 0)), (1, .int (jI x)), (2, .int (jI y)), (3, .int (jI i))] →
      W p l e ({ frames := 4, cells := 0, slots := 0, locals := 91 }) s m ([.ref (a 0), .int (jI x), .int (jI y)] : List Value).toArray below meth c H locs 0 0 (MQ below (va_Qi (fun r_ u_ => r_ = jI (kSamR σ x y) ∧ zq σ u_) (fun (u : Zt) t => va_P D vwCl (zw 56 (layS cI cZ cR a) a u) t.heap) A) ([.ref (a 0), .int (jI x), .int (jI y)] : List Value).toArray s 0 0 A) (F0 m 19 ls []) := by
  intro n
  induction n with
  | zero =>
    intro i τ H locs ls hn hτ hz i0 i1 hE hP hS hl
    exact absurd hn (by omega)
  | succ n ih =>
    intro i τ H locs ls hn hτ hz i0 i1 hE hP hS hl
    have e11 : τ 11 4 = σ 11 4 := congrFun (hz.2 11 (by omega)) 4
    have e14 : τ 14 = σ 14 := hz.2 14 (by omega)
    refine zg_iload_n C dX4_same_19 rfl (lv_at hl 3 rfl) ?_
    refine zg_aload_n C dX4_same_20 rfl (lv_at hl 0 rfl) ?_
    refine zg_get (j := 1) C X hP (by decide) lyS_0 rfl (zmem uwX4) (by decide) (C.tb flX4_19) (fun _ h9 => h9) rfl dX4_same_21 ?_
    refine zg_get (j := 4) C X hP (by decide) lyS_11 rfl (zmem uwX1) (by decide) (C.tb flX4_174) (fun _ h9 => h9) rfl dX4_same_24 ?_
    have b_1 := rgS_11_4 hτ
    refine zg_icmp_ge (tgt := 65) C (by omega) (by omega) (by omega) (by omega) dX4_same_27 (by decide) (fun c_2 => ?_) (fun c_2 => ?_)
    · refine zg_iconst C dX4_same_65 ?_
      refine zg_iret C hP hS dX4_same_66 ?_
      exact ⟨congrArg jI (by simp only [kSamR, g1, g2, if_true]; rw [hE, kSame_end (by omega)]), hz⟩
    · refine zg_aload_n C dX4_same_30 rfl (lv_at hl 0 rfl) ?_
      refine zg_get (j := 3) C X hP (by decide) lyS_0 rfl (zmem uwX4) (by decide) (C.tb flX4_32) (fun _ h9 => h9) rfl dX4_same_31 ?_
      refine zg_iload_n C dX4_same_34 rfl (lv_at hl 1 rfl) ?_
      have hr3 : (x).toNat < 6 := by omega
      refine zg_aald (t0 := 2) C X hP (by decide) lyS_19 rfl (by decide) (by omega) (by omega) rfl dX4_same_35 ?_
      refine zg_aload_n C dX4_same_36 rfl (lv_at hl 0 rfl) ?_
      refine zg_get (j := 3) C X hP (by decide) lyS_0 rfl (zmem uwX4) (by decide) (C.tb flX4_32) (fun _ h9 => h9) rfl dX4_same_37 ?_
      refine zg_iload_n C dX4_same_40 rfl (lv_at hl 2 rfl) ?_
      have hr4 : (y).toNat < 6 := by omega
      refine zg_aald (t0 := 2) C X hP (by decide) lyS_19 rfl (by decide) (by omega) (by omega) rfl dX4_same_41 ?_
      refine zg_aload_n C dX4_same_42 rfl (lv_at hl 0 rfl) ?_
      refine zg_get (j := 1) C X hP (by decide) lyS_0 rfl (zmem uwX4) (by decide) (C.tb flX4_19) (fun _ h9 => h9) rfl dX4_same_43 ?_
      refine zg_get (j := 2) C X hP (by decide) lyS_11 rfl (zmem uwX1) (by decide) (C.tb flX4_175) (fun _ h9 => h9) rfl dX4_same_46 ?_
      refine zg_iload_n C dX4_same_49 rfl (lv_at hl 3 rfl) ?_
      refine zg_iald (t0 := 0) C X hP (by decide) lyS_14 rfl (by decide) (by omega) (by omega) dX4_same_50 ?_
      have b_5 := rgS_14 hτ ((i).toNat)
      refine zg_callS C X hP hS (kX4_isAlike l τ hτ ((x).toNat) hr3 ((y).toNat) hr4 (τ 14 (i).toNat) (by omega) (by omega)) (cwS 3 C.ts (zgS mlX4_178 stX4_isAlike iniX4 cdX4_isAlike) rfl rfl rfl (by decide +kernel) ⟨Nat.le_of_ble_eq_true rfl, Nat.le_of_ble_eq_true rfl⟩) rfl hl.1 rfl (Nat.le_of_ble_eq_true rfl) dX4_same_51 ⟨Nat.zero_le _, Nat.zero_le _⟩ (fun r_7 σ6 H locs q8 hP hS => ?_)
      obtain ⟨rfl, q8⟩ := q8
      have hR9 : rgS σ6 := q8.1
      refine zg_ifneB (tgt := 59) C dX4_same_54 (by decide) (fun c_10 => ?_) (fun c_10 => ?_)
      · refine zg_iinc (k := 3) (lv' := [(3, .int (jI (i + 1))), (0, .ref (a 0)), (1, .int (jI x)), (2, .int (jI y))]) C dX4_same_59 hl rfl (by decide) rfl (fun ls hl => ?_)
        refine zg_goto (tgt := 19) C dX4_same_62 (by decide) ?_
        exact ih (i + 1) σ6 _ _ _ (by omega) (by assumption) (zq_tr hz q8) (by omega) (by omega) (hE.trans (kSame_go (by omega) (by omega) (by rw [← zq_alike hz, ← e14]; assumption))) hP hS (lv_sub hl [1, 2, 3, 0] rfl)
      · refine zg_iconst C dX4_same_57 ?_
        refine zg_iret C hP hS dX4_same_58 ?_
        exact ⟨congrArg jI (by simp only [kSamR, g1, g2, if_true]; rw [hE, kSame_no (by omega) (by rw [← zq_alike hz, ← e14]; assumption)]), zq_tr hz q8⟩
set_option maxHeartbeats 4000000 in
set_option maxRecDepth 100000 in
theorem kX4_same (l : Launch) {D : va_G} {a : Nat → Nat} {cI cZ cR : ClassId} (σ : Zt) (hR : rgS σ) (x : Int) (y : Int) (x0 : -2147483648 ≤ x) (x1 : x < 2147483648) (y0 : -2147483648 ≤ y) (y1 : y < 2147483648) (hp : kPre σ) : zc l D vwCl (tyS cI cZ cR) 56 (layS cI cZ cR a) a yX4_same wsX4_same ({ frames := 4, cells := 0, slots := 0, locals := 91 }) [.ref (a 0), .int (jI x), .int (jI y)] σ (fun r_ u_ => r_ = jI (kSamR σ x y) ∧ zq σ u_) := by
  refine zc_of (cc := cX4_same) (maxL := 4) (ret := some .int) (own := RX4) (by decide) rfl rfl (Nat.le_of_ble_eq_true rfl) rfl ?_
  intro p e s m below meth c A ls C X hP hS hl
  refine zg_iload_n C dX4_same_0 rfl (lv_at hl 1 rfl) ?_
  refine zg_callS C X hP hS (kX4_isReplica l σ hR x (by omega) (by omega)) (cwS 1 C.ts (zgS mlX4_39 stX4_isReplica iniX4 cdX4_isReplica) rfl rfl rfl (by decide +kernel) ⟨Nat.le_of_ble_eq_true rfl, Nat.le_of_ble_eq_true rfl⟩) rfl hl.1 rfl (Nat.le_of_ble_eq_true rfl) dX4_same_1 ⟨Nat.zero_le _, Nat.zero_le _⟩ (fun r_12 σ11 H locs q13 hP hS => ?_)
  obtain ⟨rfl, q13⟩ := q13
  rw [q13] at hP
  refine zg_ifeqB (tgt := 14) C dX4_same_4 (by decide) (fun c_14 => ?_) (fun c_14 => ?_)
  · have b_15 := kIsR_f c_14
    refine zg_bipush C dX4_same_14 (by decide) ?_
    refine zg_iret C hP hS dX4_same_16 ?_
    exact ⟨congrArg jI (by simp [kSamR, c_14]), zq_rf hR⟩
  · have b_16 := kIsR_t c_14
    refine zg_iload_n C dX4_same_7 rfl (lv_at hl 2 rfl) ?_
    refine zg_callS C X hP hS (kX4_isReplica l σ hR y (by omega) (by omega)) (cwS 1 C.ts (zgS mlX4_39 stX4_isReplica iniX4 cdX4_isReplica) rfl rfl rfl (by decide +kernel) ⟨Nat.le_of_ble_eq_true rfl, Nat.le_of_ble_eq_true rfl⟩) rfl hl.1 rfl (Nat.le_of_ble_eq_true rfl) dX4_same_8 ⟨Nat.zero_le _, Nat.zero_le _⟩ (fun r_18 σ17 H locs q19 hP hS => ?_)
    obtain ⟨rfl, q19⟩ := q19
    rw [q19] at hP
    refine zg_ifneB (tgt := 17) C dX4_same_11 (by decide) (fun c_20 => ?_) (fun c_20 => ?_)
    · have b_21 := kIsR_t c_20
      refine zg_iconst C dX4_same_17 ?_
      refine zg_istore_n (lv' := [(3, .int (jI 0)), (0, .ref (a 0)), (1, .int (jI x)), (2, .int (jI y))]) C dX4_same_18 rfl hl (by decide) rfl (fun ls hl => ?_)
      exact lpX4_same_19 σ hR x y x0 x1 y0 y1 hp (by omega) (by omega) (by assumption) (by assumption) C X 402 0 σ _ _ _ (by omega) hR (zq_rf hR) (by omega) (by omega) (by rw [Int.sub_zero]; rfl) hP hS (lv_sub hl [1, 2, 3, 0] rfl)
    · have b_22 := kIsR_f c_20
      refine zg_bipush C dX4_same_14 (by decide) ?_
      refine zg_iret C hP hS dX4_same_16 ?_
      exact ⟨congrArg jI (by simp [kSamR, c_14, c_20]), zq_rf hR⟩
set_option maxHeartbeats 4000000 in
set_option maxRecDepth 100000 in
theorem lpX4_paste_52 {l : Launch} {D : va_G} {a : Nat → Nat} {cI cZ cR : ClassId} {p : Program} {e : Env} {s : State} {m : MethodId} {below : List Frame} {meth : Method} {c : Code} {A : Nat → Prop} (σ : Zt) (hR : rgS σ) (x : Int) (q : Int) (w : Int) (v : Int) (x0 : -2147483648 ≤ x) (x1 : x < 2147483648) (q0 : -2147483648 ≤ q) (q1 : q < 2147483648) (w0 : -2147483648 ≤ w) (w1 : w < 2147483648) (v0 : -2147483648 ≤ v) (v1 : v < 2147483648) (hp : kPre σ) (I : Zt → Prop) (hI0 : ∀ τ, I τ → rgS τ ∧ kPre τ) (hI1 : ∀ τ (r : Nat) (q v : Int), I τ → r < 6 → 32 ≤ v → v ≤ 126 → I (kPutS τ r q v)) (hI : I σ) (x2 : 0 ≤ x ∧ x < 6) (q2 : 0 ≤ q ∧ q ≤ 400) (w2 : 1 ≤ w ∧ w ≤ 20) (g1 : kIsR x = true) (g2 : kPasB σ x q w v = true) (C : zk p s m ([.ref (a 0), .int (jI x), .int (jI q), .int (jI w), .int (jI v)] : List Value).toArray meth c cX4_paste 7 (some .int) wsX4_paste RX4) (X : zx D vwCl (tyS cI cZ cR) A a 56 s) :
    ∀ (n : Nat) (t k : Int) (τ : Zt) (H : Heap) (locs : List Loc) (ls : Array Slot), ((w - k).toNat < n) → (rgS τ) → (I τ) → (0 ≤ k) → (k ≤ w) → (32 ≤ t) → (t ≤ 126) → (kPas x q w w.toNat 0 v σ = kPas x q w (w - k).toNat k t τ) → va_P D vwCl (zw 56 (layS cI cZ cR a) a τ) H → va_S A s.heap H locs → lv_has ls 7 [(0, .ref (a 0)), (1, .int (jI x)), (2, .int (jI q)), (3, .int (jI w)), (4, .int (jI v)), (5, .int (jI t)), (6, .int (jI k))] →
      W p l e ({ frames := 5, cells := 0, slots := 0, locals := 111 }) s m ([.ref (a 0), .int (jI x), .int (jI q), .int (jI w), .int (jI v)] : List Value).toArray below meth c H locs 0 0 (MQ below (va_Qi (fun r_ u_ => r_ = jI (kPasR σ x q w v) ∧ u_ = kPasS σ x q w v) (fun (u : Zt) t => va_P D vwCl (zw 56 (layS cI cZ cR a) a u) t.heap) A) ([.ref (a 0), .int (jI x), .int (jI q), .int (jI w), .int (jI v)] : List Value).toArray s 0 0 A) (F0 m 52 ls []) := by
  intro n
  induction n with
  | zero =>
    intro t k τ H locs ls hn hτ hIt k0 k1 t0 t1 hE hP hS hl
    exact absurd hn (by omega)
  | succ n ih =>
    intro t k τ H locs ls hn hτ hIt k0 k1 t0 t1 hE hP hS hl
    have hp2 := (hI0 τ hIt).2
    refine zg_iload C dX4_paste_52 (lv_at hl 6 rfl) ?_
    refine zg_iload_n C dX4_paste_54 rfl (lv_at hl 3 rfl) ?_
    refine zg_icmp_ge (tgt := 106) C (by omega) (by omega) (by omega) (by omega) dX4_paste_55 (by decide) (fun c_1 => ?_) (fun c_1 => ?_)
    · refine zg_iload_n C dX4_paste_106 rfl (lv_at hl 3 rfl) ?_
      refine zg_iret C hP hS dX4_paste_107 ?_
      have h9 := hE.trans (kPas_end (by omega))
      exact ⟨congrArg jI (by simp [kPasR, g1, g2, h9]), by simp [kPasS, g1, g2, h9]⟩
    · refine zg_aload_n C dX4_paste_58 rfl (lv_at hl 0 rfl) ?_
      refine zg_aload_n C dX4_paste_59 rfl (lv_at hl 0 rfl) ?_
      refine zg_get (j := 3) C X hP (by decide) lyS_0 rfl (zmem uwX4) (by decide) (C.tb flX4_32) (fun _ h9 => h9) rfl dX4_paste_60 ?_
      refine zg_iload_n C dX4_paste_63 rfl (lv_at hl 1 rfl) ?_
      have hr2 : (x).toNat < 6 := by omega
      refine zg_aald (t0 := 2) C X hP (by decide) lyS_19 rfl (by decide) (by omega) (by omega) rfl dX4_paste_64 ?_
      refine zg_iload_n C dX4_paste_65 rfl (lv_at hl 2 rfl) ?_
      refine zg_iload C dX4_paste_66 (lv_at hl 6 rfl) ?_
      refine zg_iadd C dX4_paste_68 ?_
      refine zg_iload C dX4_paste_69 (lv_at hl 5 rfl) ?_
      refine zg_callV C X hP hS (kX4_putSign l τ hτ ((x).toNat) hr2 (q + k) t (by omega) (by omega) (by omega) (by omega) hp2.1 hp2.2.1 (hp2.2.2.1 _ (by omega)).1 (hp2.2.2.1 _ (by omega)).2 (kBefore_bk hτ hp2 _ _)) (cwV 3 C.ts (zgV mlX4_53 imX4_putSign slX4_putSign iniX4 cdX4_putSign) rfl rfl rfl (by decide +kernel) ⟨Nat.le_of_ble_eq_true rfl, Nat.le_of_ble_eq_true rfl⟩) (by decide) lyS_0 rfl rfl rfl hl.1 rfl (Nat.le_of_ble_eq_true rfl) dX4_paste_71 ⟨Nat.zero_le _, Nat.zero_le _⟩ (fun r_4 σ3 H locs q5 hP hS => ?_)
      obtain ⟨rfl, q5⟩ := q5
      have b_6 := kPutR_rg hτ ((x).toNat) (q + k)
      have hR7 : rgS σ3 := by rw [q5]; exact kPutS_rg hτ (by omega) (by omega) (by omega) hp2.1 hp2.2.1 (hp2.2.2.1 _ (by omega)).1 (hp2.2.2.1 _ (by omega)).2 (kBefore_bk hτ hp2 _ _)
      refine zg_bipush C dX4_paste_74 (by decide) ?_
      refine zg_icmp_ne (tgt := 82) C (by omega) (by omega) (by omega) (by omega) dX4_paste_76 (by decide) (fun c_8 => ?_) (fun c_8 => ?_)
      · refine zg_iload C dX4_paste_82 (lv_at hl 5 rfl) ?_
        refine zg_bipush C dX4_paste_84 (by decide) ?_
        refine zg_icmp_ne (tgt := 94) C (by omega) (by omega) (by omega) (by omega) dX4_paste_86 (by decide) (fun c_9 => ?_) (fun c_9 => ?_)
        · refine zg_iload C dX4_paste_94 (lv_at hl 5 rfl) ?_
          refine zg_iconst C dX4_paste_96 ?_
          refine zg_iadd C dX4_paste_97 ?_
          refine zg_istore (lv' := [(5, .int (jI (t + 1))), (0, .ref (a 0)), (1, .int (jI x)), (2, .int (jI q)), (3, .int (jI w)), (4, .int (jI v)), (6, .int (jI k))]) C dX4_paste_98 hl (by decide) rfl (fun ls hl => ?_)
          refine zg_iinc (k := 6) (lv' := [(6, .int (jI (k + 1))), (5, .int (jI (t + 1))), (0, .ref (a 0)), (1, .int (jI x)), (2, .int (jI q)), (3, .int (jI w)), (4, .int (jI v))]) C dX4_paste_100 hl rfl (by decide) rfl (fun ls hl => ?_)
          refine zg_goto (tgt := 52) C dX4_paste_103 (by decide) ?_
          exact ih (t + 1) (k + 1) σ3 _ _ _ (by omega) (by assumption) (by subst q5; exact hI1 _ _ _ _ hIt (by omega) (by omega) (by omega)) (by omega) (by omega) (by omega) (by omega) (by subst q5; rw [hE, kPas_go (by omega) (by assumption)]; first | rw [if_pos (by assumption)] | rw [if_neg (by assumption)]) hP hS (lv_sub hl [2, 3, 4, 5, 6, 1, 0] rfl)
        · refine zg_bipush C dX4_paste_89 (by decide) ?_
          refine zg_goto (tgt := 98) C dX4_paste_91 (by decide) ?_
          refine zg_istore (lv' := [(5, .int (jI 32)), (0, .ref (a 0)), (1, .int (jI x)), (2, .int (jI q)), (3, .int (jI w)), (4, .int (jI v)), (6, .int (jI k))]) C dX4_paste_98 hl (by decide) rfl (fun ls hl => ?_)
          refine zg_iinc (k := 6) (lv' := [(6, .int (jI (k + 1))), (5, .int (jI 32)), (0, .ref (a 0)), (1, .int (jI x)), (2, .int (jI q)), (3, .int (jI w)), (4, .int (jI v))]) C dX4_paste_100 hl rfl (by decide) rfl (fun ls hl => ?_)
          refine zg_goto (tgt := 52) C dX4_paste_103 (by decide) ?_
          exact ih 32 (k + 1) σ3 _ _ _ (by omega) (by assumption) (by subst q5; exact hI1 _ _ _ _ hIt (by omega) (by omega) (by omega)) (by omega) (by omega) (by omega) (by omega) (by subst q5; rw [hE, kPas_go (by omega) (by assumption)]; first | rw [if_pos (by assumption)] | rw [if_neg (by assumption)]) hP hS (lv_sub hl [2, 3, 4, 5, 6, 1, 0] rfl)
      · refine zg_iload C dX4_paste_79 (lv_at hl 6 rfl) ?_
        refine zg_iret C hP hS dX4_paste_81 ?_
        subst q5
        have h9 := hE.trans (kPas_room (by omega) (by assumption))
        exact ⟨congrArg jI (by simp [kPasR, g1, g2, h9]), by simp [kPasS, g1, g2, h9]⟩
set_option maxHeartbeats 4000000 in
set_option maxRecDepth 100000 in
theorem kX4_paste (l : Launch) {D : va_G} {a : Nat → Nat} {cI cZ cR : ClassId} (σ : Zt) (hR : rgS σ) (x : Int) (q : Int) (w : Int) (v : Int) (x0 : -2147483648 ≤ x) (x1 : x < 2147483648) (q0 : -2147483648 ≤ q) (q1 : q < 2147483648) (w0 : -2147483648 ≤ w) (w1 : w < 2147483648) (v0 : -2147483648 ≤ v) (v1 : v < 2147483648) (hp : kPre σ) (I : Zt → Prop) (hI0 : ∀ τ, I τ → rgS τ ∧ kPre τ) (hI1 : ∀ τ (r : Nat) (q v : Int), I τ → r < 6 → 32 ≤ v → v ≤ 126 → I (kPutS τ r q v)) (hI : I σ) : zc l D vwCl (tyS cI cZ cR) 56 (layS cI cZ cR a) a yX4_paste wsX4_paste ({ frames := 5, cells := 0, slots := 0, locals := 111 }) [.ref (a 0), .int (jI x), .int (jI q), .int (jI w), .int (jI v)] σ (fun r_ u_ => r_ = jI (kPasR σ x q w v) ∧ u_ = kPasS σ x q w v) := by
  refine zc_of (cc := cX4_paste) (maxL := 7) (ret := some .int) (own := RX4) (by decide) rfl rfl (Nat.le_of_ble_eq_true rfl) rfl ?_
  intro p e s m below meth c A ls C X hP hS hl
  refine zg_iload_n C dX4_paste_0 rfl (lv_at hl 1 rfl) ?_
  refine zg_callS C X hP hS (kX4_isReplica l σ hR x (by omega) (by omega)) (cwS 1 C.ts (zgS mlX4_39 stX4_isReplica iniX4 cdX4_isReplica) rfl rfl rfl (by decide +kernel) ⟨Nat.le_of_ble_eq_true rfl, Nat.le_of_ble_eq_true rfl⟩) rfl hl.1 rfl (Nat.le_of_ble_eq_true rfl) dX4_paste_1 ⟨Nat.zero_le _, Nat.zero_le _⟩ (fun r_11 σ10 H locs q12 hP hS => ?_)
  obtain ⟨rfl, q12⟩ := q12
  rw [q12] at hP
  refine zg_ifneB (tgt := 10) C dX4_paste_4 (by decide) (fun c_13 => ?_) (fun c_13 => ?_)
  · have b_14 := kIsR_t c_13
    refine zg_aload_n C dX4_paste_10 rfl (lv_at hl 0 rfl) ?_
    refine zg_get (j := 3) C X hP (by decide) lyS_0 rfl (zmem uwX4) (by decide) (C.tb flX4_32) (fun _ h9 => h9) rfl dX4_paste_11 ?_
    refine zg_iload_n C dX4_paste_14 rfl (lv_at hl 1 rfl) ?_
    have hr15 : (x).toNat < 6 := by omega
    refine zg_aald (t0 := 2) C X hP (by decide) lyS_19 rfl (by decide) (by omega) (by omega) rfl dX4_paste_15 ?_
    refine zg_iload_n C dX4_paste_16 rfl (lv_at hl 2 rfl) ?_
    refine zg_callV C X hP hS (kX2_hasGap l σ hR ((x).toNat) hr15 q (by omega) (by omega)) (cwV 1 C.ts (zgV mlX4_47 imX2_hasGap slX2_hasGap iniX2 cdX2_hasGap) rfl rfl rfl (by decide +kernel) ⟨Nat.le_of_ble_eq_true rfl, Nat.le_of_ble_eq_true rfl⟩) (hkS_20 hr15) (lyS_20 hr15) rfl rfl rfl hl.1 rfl (Nat.le_of_ble_eq_true rfl) dX4_paste_17 ⟨Nat.zero_le _, Nat.zero_le _⟩ (fun r_17 σ16 H locs q18 hP hS => ?_)
    obtain ⟨rfl, q18⟩ := q18
    rw [q18] at hP
    refine zg_ifeqB (tgt := 42) C dX4_paste_20 (by decide) (fun c_19 => ?_) (fun c_19 => ?_)
    · refine zg_bipush C dX4_paste_42 (by decide) ?_
      refine zg_iret C hP hS dX4_paste_44 ?_
      exact ⟨congrArg jI (by first | (simp [kPasR, c_13, c_19]; done) | grind [kPasR, kPasB]), by first | (simp [kPasS, c_13, c_19]; done) | grind [kPasS, kPasB]⟩
    · have b_20 := kGap_t c_19
      refine zg_iload_n C dX4_paste_23 rfl (lv_at hl 3 rfl) ?_
      refine zg_iconst C dX4_paste_24 ?_
      refine zg_icmp_lt (tgt := 42) C (by omega) (by omega) (by omega) (by omega) dX4_paste_25 (by decide) (fun c_21 => ?_) (fun c_21 => ?_)
      · refine zg_bipush C dX4_paste_42 (by decide) ?_
        refine zg_iret C hP hS dX4_paste_44 ?_
        exact ⟨congrArg jI (by first | (simp [kPasR, c_13, c_19, c_21]; done) | grind [kPasR, kPasB]), by first | (simp [kPasS, c_13, c_19, c_21]; done) | grind [kPasS, kPasB]⟩
      · refine zg_iload_n C dX4_paste_28 rfl (lv_at hl 3 rfl) ?_
        refine zg_bipush C dX4_paste_29 (by decide) ?_
        refine zg_icmp_gt (tgt := 42) C (by omega) (by omega) (by omega) (by omega) dX4_paste_31 (by decide) (fun c_22 => ?_) (fun c_22 => ?_)
        · refine zg_bipush C dX4_paste_42 (by decide) ?_
          refine zg_iret C hP hS dX4_paste_44 ?_
          exact ⟨congrArg jI (by first | (simp [kPasR, c_13, c_19, c_21, c_22]; done) | grind [kPasR, kPasB]), by first | (simp [kPasS, c_13, c_19, c_21, c_22]; done) | grind [kPasS, kPasB]⟩
        · refine zg_iload C dX4_paste_34 (lv_at hl 4 rfl) ?_
          refine zg_callS C X hP hS (kX4_isByte l σ hR v (by omega) (by omega)) (cwS 1 C.ts (zgS mlX4_50 stX4_isByte iniX4 cdX4_isByte) rfl rfl rfl (by decide +kernel) ⟨Nat.le_of_ble_eq_true rfl, Nat.le_of_ble_eq_true rfl⟩) rfl hl.1 rfl (Nat.le_of_ble_eq_true rfl) dX4_paste_36 ⟨Nat.zero_le _, Nat.zero_le _⟩ (fun r_24 σ23 H locs q25 hP hS => ?_)
          obtain ⟨rfl, q25⟩ := q25
          rw [q25] at hP
          refine zg_ifneB (tgt := 45) C dX4_paste_39 (by decide) (fun c_26 => ?_) (fun c_26 => ?_)
          · have b_27 := kIsB_t c_26
            refine zg_iload C dX4_paste_45 (lv_at hl 4 rfl) ?_
            refine zg_istore (lv' := [(5, .int (jI v)), (0, .ref (a 0)), (1, .int (jI x)), (2, .int (jI q)), (3, .int (jI w)), (4, .int (jI v))]) C dX4_paste_47 hl (by decide) rfl (fun ls hl => ?_)
            refine zg_iconst C dX4_paste_49 ?_
            refine zg_istore (lv' := [(6, .int (jI 0)), (5, .int (jI v)), (0, .ref (a 0)), (1, .int (jI x)), (2, .int (jI q)), (3, .int (jI w)), (4, .int (jI v))]) C dX4_paste_50 hl (by decide) rfl (fun ls hl => ?_)
            exact lpX4_paste_52 σ hR x q w v x0 x1 q0 q1 w0 w1 v0 v1 hp I hI0 hI1 hI (by omega) (by have := kLen_rg hR x.toNat; omega) (by omega) (by assumption) (by grind [kPasB]) C X 21 v 0 σ _ _ _ (by omega) hR hI (by omega) (by omega) (by omega) (by omega) (by rw [Int.sub_zero]) hP hS (lv_sub hl [2, 3, 4, 5, 6, 1, 0] rfl)
          · have b_28 := kIsB_f c_26
            refine zg_bipush C dX4_paste_42 (by decide) ?_
            refine zg_iret C hP hS dX4_paste_44 ?_
            exact ⟨congrArg jI (by first | (simp [kPasR, c_13, c_19, c_21, c_22, c_26]; done) | grind [kPasR, kPasB]), by first | (simp [kPasS, c_13, c_19, c_21, c_22, c_26]; done) | grind [kPasS, kPasB]⟩
  · have b_29 := kIsR_f c_13
    refine zg_bipush C dX4_paste_7 (by decide) ?_
    refine zg_iret C hP hS dX4_paste_9 ?_
    exact ⟨congrArg jI (by first | (simp [kPasR, c_13]; done) | grind [kPasR, kPasB]), by first | (simp [kPasS, c_13]; done) | grind [kPasS, kPasB]⟩
set_option maxHeartbeats 4000000 in
set_option maxRecDepth 100000 in
theorem lpX4_sync_33 {l : Launch} {D : va_G} {a : Nat → Nat} {cI cZ cR : ClassId} {p : Program} {e : Env} {s : State} {m : MethodId} {below : List Frame} {meth : Method} {c : Code} {A : Nat → Prop} (σ : Zt) (hR : rgS σ) (x : Int) (y : Int) (x0 : -2147483648 ≤ x) (x1 : x < 2147483648) (y0 : -2147483648 ≤ y) (y1 : y < 2147483648) (hp : kPre σ) (I : Zt → Prop) (hI0 : ∀ τ, I τ → rgS τ ∧ kPre τ) (hI1 : ∀ τ (r : Nat) (d : Int), I τ → r < 6 → 0 ≤ d → d < τ 1 10 → I (kRecS τ r d)) (hI : I σ) (x2 : 0 ≤ x ∧ x < 6) (y2 : 0 ≤ y ∧ y < 6) (hx : x.toNat < 6) (g1 : kIsR x = true) (g2 : kIsR y = true) (C : zk p s m ([.ref (a 0), .int (jI x), .int (jI y)] : List Value).toArray meth c cX4_sync 6 (some .int) wsX4_sync RX4) (X : zx D vwCl (tyS cI cZ cR) A a 56 s) :
    ∀ (n : Nat) (d : Int) (τ : Zt) (H : Heap) (locs : List Loc) (ls : Array Slot), ((401 - d).toNat < n) → (rgS τ) → (I τ) → (0 ≤ d) → (d ≤ 400) → (τ 1 10 = σ 1 10) → (kSynT σ x y = kSyn x.toNat y.toNat (σ 1 10 - d).toNat d τ) → va_P D vwCl (zw 56 (layS cI cZ cR a) a τ) H → va_S A s.heap H locs → lv_has ls 6 [(0, .ref (a 0)), (1, .int (jI x)), (2, .int (jI y)), (3, .ref (a (20 + 6 * x.toNat))), (4, .int (jI (kAll σ x.toNat))), (5, .int (jI d))] →
      W p l e ({ frames := 5, cells := 0, slots := 0, locals := 106 }) s m ([.ref (a 0), .int (jI x), .int (jI y)] : List Value).toArray below meth c H locs 0 0 (MQ below (va_Qi (fun r_ u_ => r_ = jI (kSynR σ x y) ∧ u_ = kSynS σ x y) (fun (u : Zt) t => va_P D vwCl (zw 56 (layS cI cZ cR a) a u) t.heap) A) ([.ref (a 0), .int (jI x), .int (jI y)] : List Value).toArray s 0 0 A) (F0 m 33 ls []) := by
  intro n
  induction n with
  | zero =>
    intro d τ H locs ls hn hτ hIt d0 d1 ht hE hP hS hl
    exact absurd hn (by omega)
  | succ n ih =>
    intro d τ H locs ls hn hτ hIt d0 d1 ht hE hP hS hl
    have hp2 := (hI0 τ hIt).2
    refine zg_iload C dX4_sync_33 (lv_at hl 5 rfl) ?_
    refine zg_aload_n C dX4_sync_35 rfl (lv_at hl 0 rfl) ?_
    refine zg_get (j := 0) C X hP (by decide) lyS_0 rfl (zmem uwX4) (by decide) (C.tb flX4_10) (fun _ h9 => h9) rfl dX4_sync_36 ?_
    refine zg_get (j := 10) C X hP (by decide) lyS_1 rfl (zmem uwX0) (by decide) (C.tb flX4_111) (fun _ h9 => h9) rfl dX4_sync_39 ?_
    have b_1 := rgS_1_10 hτ
    refine zg_icmp_ge (tgt := 72) C (by omega) (by omega) (by omega) (by omega) dX4_sync_42 (by decide) (fun c_2 => ?_) (fun c_2 => ?_)
    · refine zg_aload_n C dX4_sync_72 rfl (lv_at hl 3 rfl) ?_
      refine zg_callV C X hP hS (kX2_doneInAll l τ hτ x.toNat hx) (cwV 0 C.ts (zgV mlX4_107 imX2_doneInAll slX2_doneInAll iniX2 cdX2_doneInAll) rfl rfl rfl (by decide +kernel) ⟨Nat.le_of_ble_eq_true rfl, Nat.le_of_ble_eq_true rfl⟩) (hkS_20 hx) (lyS_20 hx) rfl rfl rfl hl.1 rfl (Nat.le_of_ble_eq_true rfl) dX4_sync_73 ⟨Nat.zero_le _, Nat.zero_le _⟩ (fun r_4 σ3 H locs q5 hP hS => ?_)
      obtain ⟨rfl, q5⟩ := q5
      rw [q5] at hP
      refine zg_iload C dX4_sync_76 (lv_at hl 4 rfl) ?_
      refine zg_isub C dX4_sync_78 ?_
      refine zg_iret C hP hS dX4_sync_79 ?_
      have h9 := hE.trans (kSyn_end (by omega))
      exact ⟨congrArg jI (by simp [kSynR, g1, g2, h9]), by simp [kSynS, g1, g2, h9]⟩
    · refine zg_aload_n C dX4_sync_45 rfl (lv_at hl 0 rfl) ?_
      refine zg_get (j := 3) C X hP (by decide) lyS_0 rfl (zmem uwX4) (by decide) (C.tb flX4_32) (fun _ h9 => h9) rfl dX4_sync_46 ?_
      refine zg_iload_n C dX4_sync_49 rfl (lv_at hl 2 rfl) ?_
      have hr6 : (y).toNat < 6 := by omega
      refine zg_aald (t0 := 2) C X hP (by decide) lyS_19 rfl (by decide) (by omega) (by omega) rfl dX4_sync_50 ?_
      refine zg_iload C dX4_sync_51 (lv_at hl 5 rfl) ?_
      refine zg_callV C X hP hS (kX2_didDeed l τ hτ ((y).toNat) hr6 d (by omega) (by omega)) (cwV 1 C.ts (zgV mlX4_112 imX2_didDeed slX2_didDeed iniX2 cdX2_didDeed) rfl rfl rfl (by decide +kernel) ⟨Nat.le_of_ble_eq_true rfl, Nat.le_of_ble_eq_true rfl⟩) (hkS_20 hr6) (lyS_20 hr6) rfl rfl rfl hl.1 rfl (Nat.le_of_ble_eq_true rfl) dX4_sync_53 ⟨Nat.zero_le _, Nat.zero_le _⟩ (fun r_8 σ7 H locs q9 hP hS => ?_)
      obtain ⟨rfl, q9⟩ := q9
      rw [q9] at hP
      refine zg_ifeqB (tgt := 66) C dX4_sync_56 (by decide) (fun c_10 => ?_) (fun c_10 => ?_)
      · refine zg_iinc (k := 5) (lv' := [(5, .int (jI (d + 1))), (0, .ref (a 0)), (1, .int (jI x)), (2, .int (jI y)), (3, .ref (a (20 + 6 * x.toNat))), (4, .int (jI (kAll σ x.toNat)))]) C dX4_sync_66 hl rfl (by decide) rfl (fun ls hl => ?_)
        refine zg_goto (tgt := 33) C dX4_sync_69 (by decide) ?_
        exact ih (d + 1) τ _ _ _ (by omega) (by assumption) (by first | exact hIt | (exact hI1 _ _ _ hIt (by omega) (by omega) (by omega))) (by omega) (by omega) (by first | exact ht | (rw [kRecS_fr (by omega)]; exact ht)) (by first | exact hE.trans (kSyn_skip (by omega) (by assumption)) | (exact hE.trans (kSyn_go (by omega) (by assumption)))) hP hS (lv_sub hl [1, 2, 3, 4, 5, 0] rfl)
      · refine zg_aload_n C dX4_sync_59 rfl (lv_at hl 3 rfl) ?_
        refine zg_iload C dX4_sync_60 (lv_at hl 5 rfl) ?_
        refine zg_callV C X hP hS (kX2_receive l τ hτ x.toNat hx d (by omega) (by omega) (fun g1 g2 => hp2.2.2.2.2.1 _ (by omega) _ (by omega) (by omega) g1 g2)) (cwV 1 C.ts (zgV mlX4_96 imX2_receive slX2_receive iniX2 cdX2_receive) rfl rfl rfl (by decide +kernel) ⟨Nat.le_of_ble_eq_true rfl, Nat.le_of_ble_eq_true rfl⟩) (hkS_20 hx) (lyS_20 hx) rfl rfl rfl hl.1 rfl (Nat.le_of_ble_eq_true rfl) dX4_sync_62 ⟨Nat.zero_le _, Nat.zero_le _⟩ (fun r_12 σ11 H locs q13 hP hS => ?_)
        obtain ⟨rfl, q13⟩ := q13
        have hR14 : rgS σ11 := by rw [q13]; exact kRecS_rg hτ (by omega) (by omega) (by omega) (fun g1 g2 => hp2.2.2.2.2.1 _ (by omega) _ (by omega) (by omega) g1 g2)
        refine zg_pop C dX4_sync_65 rfl ?_
        refine zg_iinc (k := 5) (lv' := [(5, .int (jI (d + 1))), (0, .ref (a 0)), (1, .int (jI x)), (2, .int (jI y)), (3, .ref (a (20 + 6 * x.toNat))), (4, .int (jI (kAll σ x.toNat)))]) C dX4_sync_66 hl rfl (by decide) rfl (fun ls hl => ?_)
        refine zg_goto (tgt := 33) C dX4_sync_69 (by decide) ?_
        exact ih (d + 1) σ11 _ _ _ (by omega) (by assumption) (by first | exact hIt | (subst q13; exact hI1 _ _ _ hIt (by omega) (by omega) (by omega))) (by omega) (by omega) (by first | exact ht | (subst q13; rw [kRecS_fr (by omega)]; exact ht)) (by first | exact hE.trans (kSyn_skip (by omega) (by assumption)) | (subst q13; exact hE.trans (kSyn_go (by omega) (by assumption)))) hP hS (lv_sub hl [1, 2, 3, 4, 5, 0] rfl)
set_option maxHeartbeats 4000000 in
set_option maxRecDepth 100000 in
theorem kX4_sync (l : Launch) {D : va_G} {a : Nat → Nat} {cI cZ cR : ClassId} (σ : Zt) (hR : rgS σ) (x : Int) (y : Int) (x0 : -2147483648 ≤ x) (x1 : x < 2147483648) (y0 : -2147483648 ≤ y) (y1 : y < 2147483648) (hp : kPre σ) (I : Zt → Prop) (hI0 : ∀ τ, I τ → rgS τ ∧ kPre τ) (hI1 : ∀ τ (r : Nat) (d : Int), I τ → r < 6 → 0 ≤ d → d < τ 1 10 → I (kRecS τ r d)) (hI : I σ) : zc l D vwCl (tyS cI cZ cR) 56 (layS cI cZ cR a) a yX4_sync wsX4_sync ({ frames := 5, cells := 0, slots := 0, locals := 106 }) [.ref (a 0), .int (jI x), .int (jI y)] σ (fun r_ u_ => r_ = jI (kSynR σ x y) ∧ u_ = kSynS σ x y) := by
  refine zc_of (cc := cX4_sync) (maxL := 6) (ret := some .int) (own := RX4) (by decide) rfl rfl (Nat.le_of_ble_eq_true rfl) rfl ?_
  intro p e s m below meth c A ls C X hP hS hl
  refine zg_iload_n C dX4_sync_0 rfl (lv_at hl 1 rfl) ?_
  refine zg_callS C X hP hS (kX4_isReplica l σ hR x (by omega) (by omega)) (cwS 1 C.ts (zgS mlX4_39 stX4_isReplica iniX4 cdX4_isReplica) rfl rfl rfl (by decide +kernel) ⟨Nat.le_of_ble_eq_true rfl, Nat.le_of_ble_eq_true rfl⟩) rfl hl.1 rfl (Nat.le_of_ble_eq_true rfl) dX4_sync_1 ⟨Nat.zero_le _, Nat.zero_le _⟩ (fun r_16 σ15 H locs q17 hP hS => ?_)
  obtain ⟨rfl, q17⟩ := q17
  rw [q17] at hP
  refine zg_ifeqB (tgt := 14) C dX4_sync_4 (by decide) (fun c_18 => ?_) (fun c_18 => ?_)
  · have b_19 := kIsR_f c_18
    refine zg_bipush C dX4_sync_14 (by decide) ?_
    refine zg_iret C hP hS dX4_sync_16 ?_
    exact ⟨congrArg jI (by simp [kSynR, c_18]), by simp [kSynS, c_18]⟩
  · have b_20 := kIsR_t c_18
    refine zg_iload_n C dX4_sync_7 rfl (lv_at hl 2 rfl) ?_
    refine zg_callS C X hP hS (kX4_isReplica l σ hR y (by omega) (by omega)) (cwS 1 C.ts (zgS mlX4_39 stX4_isReplica iniX4 cdX4_isReplica) rfl rfl rfl (by decide +kernel) ⟨Nat.le_of_ble_eq_true rfl, Nat.le_of_ble_eq_true rfl⟩) rfl hl.1 rfl (Nat.le_of_ble_eq_true rfl) dX4_sync_8 ⟨Nat.zero_le _, Nat.zero_le _⟩ (fun r_22 σ21 H locs q23 hP hS => ?_)
    obtain ⟨rfl, q23⟩ := q23
    rw [q23] at hP
    refine zg_ifneB (tgt := 17) C dX4_sync_11 (by decide) (fun c_24 => ?_) (fun c_24 => ?_)
    · have b_25 := kIsR_t c_24
      refine zg_aload_n C dX4_sync_17 rfl (lv_at hl 0 rfl) ?_
      refine zg_get (j := 3) C X hP (by decide) lyS_0 rfl (zmem uwX4) (by decide) (C.tb flX4_32) (fun _ h9 => h9) rfl dX4_sync_18 ?_
      refine zg_iload_n C dX4_sync_21 rfl (lv_at hl 1 rfl) ?_
      have hr26 : (x).toNat < 6 := by omega
      refine zg_aald (t0 := 2) C X hP (by decide) lyS_19 rfl (by decide) (by omega) (by omega) rfl dX4_sync_22 ?_
      refine zg_astore_n (lv' := [(3, .ref (a (20 + 6 * (x).toNat))), (0, .ref (a 0)), (1, .int (jI x)), (2, .int (jI y))]) C dX4_sync_23 rfl hl (by decide) rfl (fun ls hl => ?_)
      refine zg_aload_n C dX4_sync_24 rfl (lv_at hl 0 rfl) ?_
      refine zg_callV C X hP hS (kX2_doneInAll l σ hR ((x).toNat) hr26) (cwV 0 C.ts (zgV mlX4_107 imX2_doneInAll slX2_doneInAll iniX2 cdX2_doneInAll) rfl rfl rfl (by decide +kernel) ⟨Nat.le_of_ble_eq_true rfl, Nat.le_of_ble_eq_true rfl⟩) (hkS_20 hr26) (lyS_20 hr26) rfl rfl rfl hl.1 rfl (Nat.le_of_ble_eq_true rfl) dX4_sync_25 ⟨Nat.zero_le _, Nat.zero_le _⟩ (fun r_28 σ27 H locs q29 hP hS => ?_)
      obtain ⟨rfl, q29⟩ := q29
      rw [q29] at hP
      refine zg_istore (lv' := [(4, .int (jI (kAll σ ((x).toNat)))), (3, .ref (a (20 + 6 * (x).toNat))), (0, .ref (a 0)), (1, .int (jI x)), (2, .int (jI y))]) C dX4_sync_28 hl (by decide) rfl (fun ls hl => ?_)
      refine zg_iconst C dX4_sync_30 ?_
      refine zg_istore (lv' := [(5, .int (jI 0)), (4, .int (jI (kAll σ ((x).toNat)))), (3, .ref (a (20 + 6 * (x).toNat))), (0, .ref (a 0)), (1, .int (jI x)), (2, .int (jI y))]) C dX4_sync_31 hl (by decide) rfl (fun ls hl => ?_)
      exact lpX4_sync_33 σ hR x y x0 x1 y0 y1 hp I hI0 hI1 hI (by omega) (by omega) (by omega) (by assumption) (by assumption) C X 402 0 σ _ _ _ (by omega) hR hI (by omega) (by omega) rfl (by rw [Int.sub_zero]; rfl) hP hS (lv_sub hl [3, 4, 5, 2, 1, 0] rfl)
    · have b_30 := kIsR_f c_24
      refine zg_bipush C dX4_sync_14 (by decide) ?_
      refine zg_iret C hP hS dX4_sync_16 ?_
      exact ⟨congrArg jI (by simp [kSynR, c_18, c_24]), by simp [kSynS, c_18, c_24]⟩
end
