section
-- ===== PART A: goes FIRST, ahead of the names: the tables' words, and 'selects' of the private methods out of them =====
/-- a private method of a class that the tables say can be made, by its rows of tables_1 -/
def lw_okq (q : MethodName × Nat) : Prop := (q.1.cls ≠ "java/lang/invoke/MethodHandle" ∧ q.1.cls ≠ "java/lang/invoke/VarHandle") ∧ Cond.instantiable q.1.cls q.2 ∈ tables_1 ∧ Cond.privateMethod q.1 ∈ tables_1 ∧ Cond.instanceMethod q.1 ∈ tables_1
theorem lw_p0 : lw_okq (⟨"BookShows$Text", "endOf", "(II)I"⟩, 2) := ⟨⟨by decide +kernel, by decide +kernel⟩, List.mem_of_getElem? (i := 21) (by decide +kernel), List.mem_of_getElem? (i := 216) (by decide +kernel), List.mem_of_getElem? (i := 217) (by decide +kernel)⟩
theorem lw_p1 : lw_okq (⟨"BookShows$Reckoner", "part", "(LBookShows$Text;II)I"⟩, 5) := ⟨⟨by decide +kernel, by decide +kernel⟩, List.mem_of_getElem? (i := 73) (by decide +kernel), List.mem_of_getElem? (i := 302) (by decide +kernel), List.mem_of_getElem? (i := 303) (by decide +kernel)⟩
theorem lw_p2 : lw_okq (⟨"BookShows$Reckoner", "give", "(II)I"⟩, 5) := ⟨⟨by decide +kernel, by decide +kernel⟩, List.mem_of_getElem? (i := 73) (by decide +kernel), List.mem_of_getElem? (i := 313) (by decide +kernel), List.mem_of_getElem? (i := 314) (by decide +kernel)⟩
theorem lw_p3 : lw_okq (⟨"BookShows$Book", "add", "(ILBookShows$Text;I)I"⟩, 8) := ⟨⟨by decide +kernel, by decide +kernel⟩, List.mem_of_getElem? (i := 38) (by decide +kernel), List.mem_of_getElem? (i := 344) (by decide +kernel), List.mem_of_getElem? (i := 345) (by decide +kernel)⟩
theorem lw_p4 : lw_okq (⟨"BookShows", "holdsTakenBack", "(III)Z"⟩, 9) := ⟨⟨by decide +kernel, by decide +kernel⟩, List.mem_of_getElem? (i := 13) (by decide +kernel), List.mem_of_getElem? (i := 446) (by decide +kernel), List.mem_of_getElem? (i := 447) (by decide +kernel)⟩
theorem lw_p5 : lw_okq (⟨"BookShows", "earlyAsTheyStand", "()I"⟩, 9) := ⟨⟨by decide +kernel, by decide +kernel⟩, List.mem_of_getElem? (i := 13) (by decide +kernel), List.mem_of_getElem? (i := 458) (by decide +kernel), List.mem_of_getElem? (i := 459) (by decide +kernel)⟩
theorem lw_p6 : lw_okq (⟨"BookShows", "leastEarly", "()I"⟩, 9) := ⟨⟨by decide +kernel, by decide +kernel⟩, List.mem_of_getElem? (i := 13) (by decide +kernel), List.mem_of_getElem? (i := 462) (by decide +kernel), List.mem_of_getElem? (i := 463) (by decide +kernel)⟩
theorem lw_p7 : lw_okq (⟨"BookShows", "placedAt", "(I)I"⟩, 9) := ⟨⟨by decide +kernel, by decide +kernel⟩, List.mem_of_getElem? (i := 13) (by decide +kernel), List.mem_of_getElem? (i := 471) (by decide +kernel), List.mem_of_getElem? (i := 472) (by decide +kernel)⟩
theorem lw_p8 : lw_okq (⟨"BookShows", "firstFree", "(II)I"⟩, 9) := ⟨⟨by decide +kernel, by decide +kernel⟩, List.mem_of_getElem? (i := 13) (by decide +kernel), List.mem_of_getElem? (i := 475) (by decide +kernel), List.mem_of_getElem? (i := 476) (by decide +kernel)⟩
theorem lw_p9 : lw_okq (⟨"BookShows$Needs", "isEnough", "(I)Z"⟩, 2) := ⟨⟨by decide +kernel, by decide +kernel⟩, List.mem_of_getElem? (i := 147) (by decide +kernel), List.mem_of_getElem? (i := 507) (by decide +kernel), List.mem_of_getElem? (i := 508) (by decide +kernel)⟩
theorem lw_p10 : lw_okq (⟨"BookShows$Slips", "reckonNoticers", "(III)I"⟩, 7) := ⟨⟨by decide +kernel, by decide +kernel⟩, List.mem_of_getElem? (i := 119) (by decide +kernel), List.mem_of_getElem? (i := 549) (by decide +kernel), List.mem_of_getElem? (i := 550) (by decide +kernel)⟩
theorem lw_p11 : lw_okq (⟨"BookShows", "mendingWord", "(LBookShows$Text;II)I"⟩, 9) := ⟨⟨by decide +kernel, by decide +kernel⟩, List.mem_of_getElem? (i := 13) (by decide +kernel), List.mem_of_getElem? (i := 591) (by decide +kernel), List.mem_of_getElem? (i := 592) (by decide +kernel)⟩
theorem lw_p12 : lw_okq (⟨"BookShowsModel", "faultOf", "()I"⟩, 27) := ⟨⟨by decide +kernel, by decide +kernel⟩, List.mem_of_getElem? (i := 625) (by decide +kernel), List.mem_of_getElem? (i := 728) (by decide +kernel), List.mem_of_getElem? (i := 729) (by decide +kernel)⟩
theorem lw_p13 : lw_okq (⟨"BookShowsModel", "copyText", "(II)V"⟩, 27) := ⟨⟨by decide +kernel, by decide +kernel⟩, List.mem_of_getElem? (i := 625) (by decide +kernel), List.mem_of_getElem? (i := 739) (by decide +kernel), List.mem_of_getElem? (i := 740) (by decide +kernel)⟩
theorem lw_p14 : lw_okq (⟨"BookShowsModel", "measure", "(I)V"⟩, 27) := ⟨⟨by decide +kernel, by decide +kernel⟩, List.mem_of_getElem? (i := 625) (by decide +kernel), List.mem_of_getElem? (i := 743) (by decide +kernel), List.mem_of_getElem? (i := 744) (by decide +kernel)⟩
theorem lw_p15 : lw_okq (⟨"BookShowsModel", "isVersion", "(I)Z"⟩, 27) := ⟨⟨by decide +kernel, by decide +kernel⟩, List.mem_of_getElem? (i := 625) (by decide +kernel), List.mem_of_getElem? (i := 758) (by decide +kernel), List.mem_of_getElem? (i := 759) (by decide +kernel)⟩
def lw_privs_1 : List (MethodName × Nat) := [(⟨"BookShows$Text", "endOf", "(II)I"⟩, 2), (⟨"BookShows$Reckoner", "part", "(LBookShows$Text;II)I"⟩, 5), (⟨"BookShows$Reckoner", "give", "(II)I"⟩, 5), (⟨"BookShows$Book", "add", "(ILBookShows$Text;I)I"⟩, 8), (⟨"BookShows", "holdsTakenBack", "(III)Z"⟩, 9), (⟨"BookShows", "earlyAsTheyStand", "()I"⟩, 9), (⟨"BookShows", "leastEarly", "()I"⟩, 9), (⟨"BookShows", "placedAt", "(I)I"⟩, 9), (⟨"BookShows", "firstFree", "(II)I"⟩, 9), (⟨"BookShows$Needs", "isEnough", "(I)Z"⟩, 2), (⟨"BookShows$Slips", "reckonNoticers", "(III)I"⟩, 7), (⟨"BookShows", "mendingWord", "(LBookShows$Text;II)I"⟩, 9), (⟨"BookShowsModel", "faultOf", "()I"⟩, 27), (⟨"BookShowsModel", "copyText", "(II)V"⟩, 27), (⟨"BookShowsModel", "measure", "(I)V"⟩, 27), (⟨"BookShowsModel", "isVersion", "(I)Z"⟩, 27)]
theorem lw_r1 : ∀ q ∈ lw_privs_1, lw_okq q := List.forall_mem_cons.mpr ⟨lw_p0, List.forall_mem_cons.mpr ⟨lw_p1, List.forall_mem_cons.mpr ⟨lw_p2, List.forall_mem_cons.mpr ⟨lw_p3, List.forall_mem_cons.mpr ⟨lw_p4, List.forall_mem_cons.mpr ⟨lw_p5, List.forall_mem_cons.mpr ⟨lw_p6, List.forall_mem_cons.mpr ⟨lw_p7, List.forall_mem_cons.mpr ⟨lw_p8, List.forall_mem_cons.mpr ⟨lw_p9, List.forall_mem_cons.mpr ⟨lw_p10, List.forall_mem_cons.mpr ⟨lw_p11, List.forall_mem_cons.mpr ⟨lw_p12, List.forall_mem_cons.mpr ⟨lw_p13, List.forall_mem_cons.mpr ⟨lw_p14, List.forall_mem_cons.mpr ⟨lw_p15, fun _ h => absurd h List.not_mem_nil⟩⟩⟩⟩⟩⟩⟩⟩⟩⟩⟩⟩⟩⟩⟩⟩
theorem lw_p16 : lw_okq (⟨"BookShowsModel", "byVersion", "(I)V"⟩, 27) := ⟨⟨by decide +kernel, by decide +kernel⟩, List.mem_of_getElem? (i := 625) (by decide +kernel), List.mem_of_getElem? (i := 766) (by decide +kernel), List.mem_of_getElem? (i := 767) (by decide +kernel)⟩
theorem lw_p17 : lw_okq (⟨"BookShowsModel", "comeTo", "(II)I"⟩, 27) := ⟨⟨by decide +kernel, by decide +kernel⟩, List.mem_of_getElem? (i := 625) (by decide +kernel), List.mem_of_getElem? (i := 770) (by decide +kernel), List.mem_of_getElem? (i := 771) (by decide +kernel)⟩
theorem lw_p18 : lw_okq (⟨"BookShowsModel", "isPage", "(I)Z"⟩, 27) := ⟨⟨by decide +kernel, by decide +kernel⟩, List.mem_of_getElem? (i := 625) (by decide +kernel), List.mem_of_getElem? (i := 789) (by decide +kernel), List.mem_of_getElem? (i := 790) (by decide +kernel)⟩
theorem lw_p19 : lw_okq (⟨"BookShowsModel", "namedIn", "(I)I"⟩, 27) := ⟨⟨by decide +kernel, by decide +kernel⟩, List.mem_of_getElem? (i := 625) (by decide +kernel), List.mem_of_getElem? (i := 793) (by decide +kernel), List.mem_of_getElem? (i := 794) (by decide +kernel)⟩
theorem lw_p20 : lw_okq (⟨"BookShowsModel", "isExample", "(I)Z"⟩, 27) := ⟨⟨by decide +kernel, by decide +kernel⟩, List.mem_of_getElem? (i := 625) (by decide +kernel), List.mem_of_getElem? (i := 801) (by decide +kernel), List.mem_of_getElem? (i := 802) (by decide +kernel)⟩
theorem lw_p21 : lw_okq (⟨"BookShowsModel", "holdsIn", "(II)Z"⟩, 27) := ⟨⟨by decide +kernel, by decide +kernel⟩, List.mem_of_getElem? (i := 625) (by decide +kernel), List.mem_of_getElem? (i := 809) (by decide +kernel), List.mem_of_getElem? (i := 810) (by decide +kernel)⟩
theorem lw_p22 : lw_okq (⟨"BookShowsModel", "holds", "(I)Z"⟩, 27) := ⟨⟨by decide +kernel, by decide +kernel⟩, List.mem_of_getElem? (i := 625) (by decide +kernel), List.mem_of_getElem? (i := 813) (by decide +kernel), List.mem_of_getElem? (i := 814) (by decide +kernel)⟩
theorem lw_p23 : lw_okq (⟨"BookShowsModel", "toldBy", "(I)I"⟩, 27) := ⟨⟨by decide +kernel, by decide +kernel⟩, List.mem_of_getElem? (i := 625) (by decide +kernel), List.mem_of_getElem? (i := 828) (by decide +kernel), List.mem_of_getElem? (i := 829) (by decide +kernel)⟩
theorem lw_p24 : lw_okq (⟨"BookShowsModel", "layOrders", "()V"⟩, 27) := ⟨⟨by decide +kernel, by decide +kernel⟩, List.mem_of_getElem? (i := 625) (by decide +kernel), List.mem_of_getElem? (i := 832) (by decide +kernel), List.mem_of_getElem? (i := 833) (by decide +kernel)⟩
theorem lw_p25 : lw_okq (⟨"BookShowsModel", "fewest", "()I"⟩, 27) := ⟨⟨by decide +kernel, by decide +kernel⟩, List.mem_of_getElem? (i := 625) (by decide +kernel), List.mem_of_getElem? (i := 840) (by decide +kernel), List.mem_of_getElem? (i := 841) (by decide +kernel)⟩
theorem lw_p26 : lw_okq (⟨"BookShowsModel", "laySlips", "(I)V"⟩, 27) := ⟨⟨by decide +kernel, by decide +kernel⟩, List.mem_of_getElem? (i := 625) (by decide +kernel), List.mem_of_getElem? (i := 852) (by decide +kernel), List.mem_of_getElem? (i := 853) (by decide +kernel)⟩
def lw_privs_2 : List (MethodName × Nat) := [(⟨"BookShowsModel", "byVersion", "(I)V"⟩, 27), (⟨"BookShowsModel", "comeTo", "(II)I"⟩, 27), (⟨"BookShowsModel", "isPage", "(I)Z"⟩, 27), (⟨"BookShowsModel", "namedIn", "(I)I"⟩, 27), (⟨"BookShowsModel", "isExample", "(I)Z"⟩, 27), (⟨"BookShowsModel", "holdsIn", "(II)Z"⟩, 27), (⟨"BookShowsModel", "holds", "(I)Z"⟩, 27), (⟨"BookShowsModel", "toldBy", "(I)I"⟩, 27), (⟨"BookShowsModel", "layOrders", "()V"⟩, 27), (⟨"BookShowsModel", "fewest", "()I"⟩, 27), (⟨"BookShowsModel", "laySlips", "(I)V"⟩, 27)]
theorem lw_r2 : ∀ q ∈ lw_privs_2, lw_okq q := List.forall_mem_cons.mpr ⟨lw_p16, List.forall_mem_cons.mpr ⟨lw_p17, List.forall_mem_cons.mpr ⟨lw_p18, List.forall_mem_cons.mpr ⟨lw_p19, List.forall_mem_cons.mpr ⟨lw_p20, List.forall_mem_cons.mpr ⟨lw_p21, List.forall_mem_cons.mpr ⟨lw_p22, List.forall_mem_cons.mpr ⟨lw_p23, List.forall_mem_cons.mpr ⟨lw_p24, List.forall_mem_cons.mpr ⟨lw_p25, List.forall_mem_cons.mpr ⟨lw_p26, fun _ h => absurd h List.not_mem_nil⟩⟩⟩⟩⟩⟩⟩⟩⟩⟩⟩
def lw_privs : List (MethodName × Nat) := lw_privs_1 ++ (lw_privs_2)
def lw_tbl : List Cond := k2_sels lw_privs ++ tables_1
theorem lw_privs_ok : ∀ q ∈ lw_privs, lw_okq q := by
  show ∀ q ∈ lw_privs_1 ++ (lw_privs_2), lw_okq q
  exact List.forall_mem_append.mpr ⟨lw_r1, lw_r2⟩
end
section
def RX0 : String := "BookShows$Book"
def TX0 : u_T := fun k => match k with
  | 0 => ("BookShows$Book", "nothing", "LBookShows$Text;", true)
  | 1 => ("BookShows$Book", "texts", "[LBookShows$Text;", true)
  | 2 => ("BookShows$Book", "telling", "[I", true)
  | 3 => ("BookShows$Book", "shown", "[LBookShows$Text;", true)
  | 4 => ("BookShows$Book", "names", "[I", true)
  | 5 => ("BookShows$Book", "dues", "[I", true)
  | 6 => ("BookShows$Book", "versions", "I", false)
  | _ => ("BookShows$Book", "pages", "I", false)
def tyX0 : Nat → FieldType := fun k => match k with
  | 0 => .object "BookShows$Text"
  | 1 => .array (.object "BookShows$Text")
  | 2 => .array .int
  | 3 => .array (.object "BookShows$Text")
  | 4 => .array .int
  | 5 => .array .int
  | 6 => .int
  | _ => .int
theorem nmX0 : ∀ a, a < 8 → ∀ b, b < 8 → a ≠ b → (TX0 a).2.1 ≠ (TX0 b).2.1 := by decide +kernel
theorem tyX0_ok : ∀ k, k < 8 → parseFieldDescriptor (TX0 k).2.2.1 = some (tyX0 k) := by decide +kernel
abbrev cX0_init : ByteArray := prog_2_method_1_code
def yX0_init : MethodName := ⟨RX0, "<init>", "(LBookShows$Text;)V"⟩
abbrev cX0_become : ByteArray := prog_2_method_2_code
def yX0_become : MethodName := ⟨RX0, "become", "(LBookShows$Book;)V"⟩
abbrev cX0_versions : ByteArray := prog_2_method_3_code
def yX0_versions : MethodName := ⟨RX0, "versions", "()I"⟩
abbrev cX0_hasVersion : ByteArray := prog_2_method_4_code
def yX0_hasVersion : MethodName := ⟨RX0, "hasVersion", "(I)Z"⟩
abbrev cX0_addVersion : ByteArray := prog_2_method_5_code
def yX0_addVersion : MethodName := ⟨RX0, "addVersion", "()I"⟩
abbrev cX0_text : ByteArray := prog_2_method_6_code
def yX0_text : MethodName := ⟨RX0, "text", "(II)LBookShows$Text;"⟩
abbrev cX0_rewrite : ByteArray := prog_2_method_7_code
def yX0_rewrite : MethodName := ⟨RX0, "rewrite", "(ILBookShows$Text;)V"⟩
abbrev cX0_changed : ByteArray := prog_2_method_8_code
def yX0_changed : MethodName := ⟨RX0, "changed", "(I)I"⟩
abbrev cX0_pages : ByteArray := prog_2_method_9_code
def yX0_pages : MethodName := ⟨RX0, "pages", "()I"⟩
abbrev cX0_hasPage : ByteArray := prog_2_method_10_code
def yX0_hasPage : MethodName := ⟨RX0, "hasPage", "(I)Z"⟩
abbrev cX0_isExample : ByteArray := prog_2_method_11_code
def yX0_isExample : MethodName := ⟨RX0, "isExample", "(I)Z"⟩
abbrev cX0_examples : ByteArray := prog_2_method_12_code
def yX0_examples : MethodName := ⟨RX0, "examples", "()I"⟩
abbrev cX0_addTelling : ByteArray := prog_2_method_13_code
def yX0_addTelling : MethodName := ⟨RX0, "addTelling", "(I)I"⟩
abbrev cX0_addExample : ByteArray := prog_2_method_14_code
def yX0_addExample : MethodName := ⟨RX0, "addExample", "(LBookShows$Text;I)I"⟩
abbrev cX0_add : ByteArray := prog_2_method_15_code
def yX0_add : MethodName := ⟨RX0, "add", "(ILBookShows$Text;I)I"⟩
abbrev cX0_toldWord : ByteArray := prog_2_method_16_code
def yX0_toldWord : MethodName := ⟨RX0, "toldWord", "(I)I"⟩
abbrev cX0_toldWords : ByteArray := prog_2_method_17_code
def yX0_toldWords : MethodName := ⟨RX0, "toldWords", "()I"⟩
abbrev cX0_example : ByteArray := prog_2_method_18_code
def yX0_example : MethodName := ⟨RX0, "example", "(I)LBookShows$Text;"⟩
abbrev cX0_named : ByteArray := prog_2_method_19_code
def yX0_named : MethodName := ⟨RX0, "named", "(I)I"⟩
abbrev cX0_due : ByteArray := prog_2_method_20_code
def yX0_due : MethodName := ⟨RX0, "due", "(I)I"⟩
abbrev cX0_setDue : ByteArray := prog_2_method_21_code
def yX0_setDue : MethodName := ⟨RX0, "setDue", "(II)V"⟩
def RX1 : String := "BookShows$Needs"
def TX1 : u_T := fun k => match k with
  | 0 => ("BookShows$Needs", "sets", "[I", true)
  | _ => ("BookShows$Needs", "count", "I", false)
def tyX1 : Nat → FieldType := fun k => match k with
  | 0 => .array .int
  | _ => .int
theorem nmX1 : ∀ a, a < 2 → ∀ b, b < 2 → a ≠ b → (TX1 a).2.1 ≠ (TX1 b).2.1 := by decide +kernel
theorem tyX1_ok : ∀ k, k < 2 → parseFieldDescriptor (TX1 k).2.2.1 = some (tyX1 k) := by decide +kernel
abbrev cX1_init : ByteArray := prog_3_method_1_code
def yX1_init : MethodName := ⟨RX1, "<init>", "()V"⟩
abbrev cX1_clear : ByteArray := prog_3_method_2_code
def yX1_clear : MethodName := ⟨RX1, "clear", "()V"⟩
abbrev cX1_add : ByteArray := prog_3_method_3_code
def yX1_add : MethodName := ⟨RX1, "add", "(I)V"⟩
abbrev cX1_fewest : ByteArray := prog_3_method_4_code
def yX1_fewest : MethodName := ⟨RX1, "fewest", "(I)I"⟩
abbrev cX1_isEnough : ByteArray := prog_3_method_5_code
def yX1_isEnough : MethodName := ⟨RX1, "isEnough", "(I)Z"⟩
def RX2 : String := "BookShows$Outcomes"
def TX2 : u_T := fun k => match k with
  | 0 => ("BookShows$Outcomes", "book", "LBookShows$Book;", true)
  | 1 => ("BookShows$Outcomes", "reckoner", "LBookShows$Reckoner;", true)
  | 2 => ("BookShows$Outcomes", "known", "[Z", true)
  | 3 => ("BookShows$Outcomes", "came", "[I", true)
  | _ => ("BookShows$Outcomes", "uses", "[I", true)
def tyX2 : Nat → FieldType := fun k => match k with
  | 0 => .object "BookShows$Book"
  | 1 => .object "BookShows$Reckoner"
  | 2 => .array .boolean
  | 3 => .array .int
  | _ => .array .int
theorem nmX2 : ∀ a, a < 5 → ∀ b, b < 5 → a ≠ b → (TX2 a).2.1 ≠ (TX2 b).2.1 := by decide +kernel
theorem tyX2_ok : ∀ k, k < 5 → parseFieldDescriptor (TX2 k).2.2.1 = some (tyX2 k) := by decide +kernel
abbrev cX2_init : ByteArray := prog_4_method_1_code
def yX2_init : MethodName := ⟨RX2, "<init>", "(LBookShows$Book;LBookShows$Reckoner;)V"⟩
abbrev cX2_forget : ByteArray := prog_4_method_2_code
def yX2_forget : MethodName := ⟨RX2, "forget", "(I)V"⟩
abbrev cX2_forgetAll : ByteArray := prog_4_method_3_code
def yX2_forgetAll : MethodName := ⟨RX2, "forgetAll", "()V"⟩
abbrev cX2_learn : ByteArray := prog_4_method_4_code
def yX2_learn : MethodName := ⟨RX2, "learn", "(II)V"⟩
abbrev cX2_learnAll : ByteArray := prog_4_method_5_code
def yX2_learnAll : MethodName := ⟨RX2, "learnAll", "(I)V"⟩
abbrev cX2_of : ByteArray := prog_4_method_6_code
def yX2_of : MethodName := ⟨RX2, "of", "(II)I"⟩
abbrev cX2_used : ByteArray := prog_4_method_7_code
def yX2_used : MethodName := ⟨RX2, "used", "(II)I"⟩
abbrev cX2_holds : ByteArray := prog_4_method_8_code
def yX2_holds : MethodName := ⟨RX2, "holds", "(II)Z"⟩
abbrev cX2_holding : ByteArray := prog_4_method_9_code
def yX2_holding : MethodName := ⟨RX2, "holding", "(I)I"⟩
abbrev cX2_users : ByteArray := prog_4_method_10_code
def yX2_users : MethodName := ⟨RX2, "users", "(II)I"⟩
def RX3 : String := "BookShows$Reckoner"
def TX3 : u_T := fun k => match k with
  | 0 => ("BookShows$Reckoner", "words", "[LBookShows$Text;", true)
  | 1 => ("BookShows$Reckoner", "place", "I", false)
  | 2 => ("BookShows$Reckoner", "given", "I", false)
  | 3 => ("BookShows$Reckoner", "open", "I", false)
  | _ => ("BookShows$Reckoner", "used", "I", false)
def tyX3 : Nat → FieldType := fun k => match k with
  | 0 => .array (.object "BookShows$Text")
  | 1 => .int
  | 2 => .int
  | 3 => .int
  | _ => .int
theorem nmX3 : ∀ a, a < 5 → ∀ b, b < 5 → a ≠ b → (TX3 a).2.1 ≠ (TX3 b).2.1 := by decide +kernel
theorem tyX3_ok : ∀ k, k < 5 → parseFieldDescriptor (TX3 k).2.2.1 = some (tyX3 k) := by decide +kernel
abbrev cX3_init : ByteArray := prog_5_method_1_code
def yX3_init : MethodName := ⟨RX3, "<init>", "(LBookShows$Text;)V"⟩
abbrev cX3_take : ByteArray := prog_5_method_2_code
def yX3_take : MethodName := ⟨RX3, "take", "(LBookShows$Book;I)V"⟩
abbrev cX3_replace : ByteArray := prog_5_method_3_code
def yX3_replace : MethodName := ⟨RX3, "replace", "(ILBookShows$Text;)V"⟩
abbrev cX3_outcome : ByteArray := prog_5_method_4_code
def yX3_outcome : MethodName := ⟨RX3, "outcome", "(LBookShows$Text;I)I"⟩
abbrev cX3_used : ByteArray := prog_5_method_5_code
def yX3_used : MethodName := ⟨RX3, "used", "()I"⟩
abbrev cX3_part : ByteArray := prog_5_method_6_code
def yX3_part : MethodName := ⟨RX3, "part", "(LBookShows$Text;II)I"⟩
abbrev cX3_give : ByteArray := prog_5_method_7_code
def yX3_give : MethodName := ⟨RX3, "give", "(II)I"⟩
def RX4 : String := "BookShows$Signs"
def TX4 : u_T := fun k => match k with
  | _ => ("", "", "", false)
def tyX4 : Nat → FieldType := fun k => match k with
  | _ => .int
theorem nmX4 : ∀ a, a < 0 → ∀ b, b < 0 → a ≠ b → (TX4 a).2.1 ≠ (TX4 b).2.1 := by decide +kernel
theorem tyX4_ok : ∀ k, k < 0 → parseFieldDescriptor (TX4 k).2.2.1 = some (tyX4 k) := by decide +kernel
abbrev cX4_isWord : ByteArray := prog_6_method_2_code
def yX4_isWord : MethodName := ⟨RX4, "isWord", "(I)Z"⟩
abbrev cX4_isDigit : ByteArray := prog_6_method_3_code
def yX4_isDigit : MethodName := ⟨RX4, "isDigit", "(I)Z"⟩
abbrev cX4_needs : ByteArray := prog_6_method_4_code
def yX4_needs : MethodName := ⟨RX4, "needs", "(I)I"⟩
abbrev cX4_slipped : ByteArray := prog_6_method_5_code
def yX4_slipped : MethodName := ⟨RX4, "slipped", "(I)I"⟩
abbrev cX4_joined : ByteArray := prog_6_method_6_code
def yX4_joined : MethodName := ⟨RX4, "joined", "(III)I"⟩
def RX5 : String := "BookShows$Slips"
def TX5 : u_T := fun k => match k with
  | 0 => ("BookShows$Slips", "book", "LBookShows$Book;", true)
  | 1 => ("BookShows$Slips", "outcomes", "LBookShows$Outcomes;", true)
  | 2 => ("BookShows$Slips", "reckoner", "LBookShows$Reckoner;", true)
  | 3 => ("BookShows$Slips", "trial", "LBookShows$Text;", true)
  | 4 => ("BookShows$Slips", "codes", "[I", true)
  | 5 => ("BookShows$Slips", "known", "[Z", true)
  | _ => ("BookShows$Slips", "noticers", "[I", true)
def tyX5 : Nat → FieldType := fun k => match k with
  | 0 => .object "BookShows$Book"
  | 1 => .object "BookShows$Outcomes"
  | 2 => .object "BookShows$Reckoner"
  | 3 => .object "BookShows$Text"
  | 4 => .array .int
  | 5 => .array .boolean
  | _ => .array .int
theorem nmX5 : ∀ a, a < 7 → ∀ b, b < 7 → a ≠ b → (TX5 a).2.1 ≠ (TX5 b).2.1 := by decide +kernel
theorem tyX5_ok : ∀ k, k < 7 → parseFieldDescriptor (TX5 k).2.2.1 = some (tyX5 k) := by decide +kernel
abbrev cX5_init : ByteArray := prog_7_method_1_code
def yX5_init : MethodName := ⟨RX5, "<init>", "(LBookShows$Book;LBookShows$Outcomes;LBookShows$Reckoner;LBookShows$Text;)V"⟩
abbrev cX5_forget : ByteArray := prog_7_method_2_code
def yX5_forget : MethodName := ⟨RX5, "forget", "()V"⟩
abbrev cX5_list : ByteArray := prog_7_method_3_code
def yX5_list : MethodName := ⟨RX5, "list", "(I)I"⟩
abbrev cX5_code : ByteArray := prog_7_method_4_code
def yX5_code : MethodName := ⟨RX5, "code", "(I)I"⟩
abbrev cX5_learn : ByteArray := prog_7_method_5_code
def yX5_learn : MethodName := ⟨RX5, "learn", "(I)I"⟩
abbrev cX5_noticers : ByteArray := prog_7_method_6_code
def yX5_noticers : MethodName := ⟨RX5, "noticers", "(II)I"⟩
abbrev cX5_reckonNoticers : ByteArray := prog_7_method_7_code
def yX5_reckonNoticers : MethodName := ⟨RX5, "reckonNoticers", "(III)I"⟩
def RX6 : String := "BookShows$Text"
def TX6 : u_T := fun k => match k with
  | 0 => ("BookShows$Text", "signs", "[C", true)
  | _ => ("BookShows$Text", "count", "I", false)
def tyX6 : Nat → FieldType := fun k => match k with
  | 0 => .array .char
  | _ => .int
theorem nmX6 : ∀ a, a < 2 → ∀ b, b < 2 → a ≠ b → (TX6 a).2.1 ≠ (TX6 b).2.1 := by decide +kernel
theorem tyX6_ok : ∀ k, k < 2 → parseFieldDescriptor (TX6 k).2.2.1 = some (tyX6 k) := by decide +kernel
abbrev cX6_init : ByteArray := prog_8_method_1_code
def yX6_init : MethodName := ⟨RX6, "<init>", "(I)V"⟩
abbrev cX6_count : ByteArray := prog_8_method_2_code
def yX6_count : MethodName := ⟨RX6, "count", "()I"⟩
abbrev cX6_sign : ByteArray := prog_8_method_3_code
def yX6_sign : MethodName := ⟨RX6, "sign", "(I)I"⟩
abbrev cX6_add : ByteArray := prog_8_method_4_code
def yX6_add : MethodName := ⟨RX6, "add", "(I)V"⟩
abbrev cX6_put : ByteArray := prog_8_method_5_code
def yX6_put : MethodName := ⟨RX6, "put", "(II)V"⟩
abbrev cX6_clear : ByteArray := prog_8_method_6_code
def yX6_clear : MethodName := ⟨RX6, "clear", "()V"⟩
abbrev cX6_become : ByteArray := prog_8_method_7_code
def yX6_become : MethodName := ⟨RX6, "become", "(LBookShows$Text;)V"⟩
abbrev cX6_copy : ByteArray := prog_8_method_8_code
def yX6_copy : MethodName := ⟨RX6, "copy", "()LBookShows$Text;"⟩
abbrev cX6_isLike : ByteArray := prog_8_method_9_code
def yX6_isLike : MethodName := ⟨RX6, "isLike", "(LBookShows$Text;)Z"⟩
abbrev cX6_has : ByteArray := prog_8_method_10_code
def yX6_has : MethodName := ⟨RX6, "has", "(I)Z"⟩
abbrev cX6_named : ByteArray := prog_8_method_11_code
def yX6_named : MethodName := ⟨RX6, "named", "()I"⟩
abbrev cX6_firstFault : ByteArray := prog_8_method_12_code
def yX6_firstFault : MethodName := ⟨RX6, "firstFault", "()I"⟩
abbrev cX6_endOf : ByteArray := prog_8_method_13_code
def yX6_endOf : MethodName := ⟨RX6, "endOf", "(II)I"⟩
abbrev cX6_behind : ByteArray := prog_8_method_14_code
def yX6_behind : MethodName := ⟨RX6, "behind", "(I)I"⟩
def RX7 : String := "BookShows"
def TX7 : u_T := fun k => match k with
  | 0 => ("BookShows", "pad", "LBookShows$Text;", true)
  | 1 => ("BookShows", "trial", "LBookShows$Text;", true)
  | 2 => ("BookShows", "book", "LBookShows$Book;", true)
  | 3 => ("BookShows", "images", "[LBookShows$Book;", true)
  | 4 => ("BookShows", "kept", "[Z", true)
  | 5 => ("BookShows", "reckoner", "LBookShows$Reckoner;", true)
  | 6 => ("BookShows", "outcomes", "LBookShows$Outcomes;", true)
  | 7 => ("BookShows", "slips", "LBookShows$Slips;", true)
  | _ => ("BookShows", "needs", "LBookShows$Needs;", true)
def tyX7 : Nat → FieldType := fun k => match k with
  | 0 => .object "BookShows$Text"
  | 1 => .object "BookShows$Text"
  | 2 => .object "BookShows$Book"
  | 3 => .array (.object "BookShows$Book")
  | 4 => .array .boolean
  | 5 => .object "BookShows$Reckoner"
  | 6 => .object "BookShows$Outcomes"
  | 7 => .object "BookShows$Slips"
  | _ => .object "BookShows$Needs"
theorem nmX7 : ∀ a, a < 9 → ∀ b, b < 9 → a ≠ b → (TX7 a).2.1 ≠ (TX7 b).2.1 := by decide +kernel
theorem tyX7_ok : ∀ k, k < 9 → parseFieldDescriptor (TX7 k).2.2.1 = some (tyX7 k) := by decide +kernel
abbrev cX7_init : ByteArray := prog_1_method_1_code
def yX7_init : MethodName := ⟨RX7, "<init>", "()V"⟩
abbrev cX7_say : ByteArray := prog_1_method_2_code
def yX7_say : MethodName := ⟨RX7, "say", "(I)I"⟩
abbrev cX7_wipe : ByteArray := prog_1_method_3_code
def yX7_wipe : MethodName := ⟨RX7, "wipe", "()I"⟩
abbrev cX7_fault : ByteArray := prog_1_method_4_code
def yX7_fault : MethodName := ⟨RX7, "fault", "()I"⟩
abbrev cX7_version : ByteArray := prog_1_method_5_code
def yX7_version : MethodName := ⟨RX7, "version", "()I"⟩
abbrev cX7_word : ByteArray := prog_1_method_6_code
def yX7_word : MethodName := ⟨RX7, "word", "(I)I"⟩
abbrev cX7_written : ByteArray := prog_1_method_7_code
def yX7_written : MethodName := ⟨RX7, "written", "(III)I"⟩
abbrev cX7_comes : ByteArray := prog_1_method_8_code
def yX7_comes : MethodName := ⟨RX7, "comes", "(II)I"⟩
abbrev cX7_tells : ByteArray := prog_1_method_9_code
def yX7_tells : MethodName := ⟨RX7, "tells", "(I)I"⟩
abbrev cX7_shows : ByteArray := prog_1_method_10_code
def yX7_shows : MethodName := ⟨RX7, "shows", "(I)I"⟩
abbrev cX7_page : ByteArray := prog_1_method_11_code
def yX7_page : MethodName := ⟨RX7, "page", "(II)I"⟩
abbrev cX7_held : ByteArray := prog_1_method_12_code
def yX7_held : MethodName := ⟨RX7, "held", "(III)I"⟩
abbrev cX7_stale : ByteArray := prog_1_method_13_code
def yX7_stale : MethodName := ⟨RX7, "stale", "(I)I"⟩
abbrev cX7_blame : ByteArray := prog_1_method_14_code
def yX7_blame : MethodName := ⟨RX7, "blame", "(II)I"⟩
abbrev cX7_order : ByteArray := prog_1_method_15_code
def yX7_order : MethodName := ⟨RX7, "order", "(I)I"⟩
abbrev cX7_cover : ByteArray := prog_1_method_16_code
def yX7_cover : MethodName := ⟨RX7, "cover", "(I)I"⟩
abbrev cX7_apart : ByteArray := prog_1_method_17_code
def yX7_apart : MethodName := ⟨RX7, "apart", "()I"⟩
abbrev cX7_slip : ByteArray := prog_1_method_18_code
def yX7_slip : MethodName := ⟨RX7, "slip", "(II)I"⟩
abbrev cX7_noticed : ByteArray := prog_1_method_19_code
def yX7_noticed : MethodName := ⟨RX7, "noticed", "(II)I"⟩
abbrev cX7_unshown : ByteArray := prog_1_method_20_code
def yX7_unshown : MethodName := ⟨RX7, "unshown", "(II)I"⟩
abbrev cX7_notice : ByteArray := prog_1_method_21_code
def yX7_notice : MethodName := ⟨RX7, "notice", "(I)I"⟩
abbrev cX7_mend : ByteArray := prog_1_method_22_code
def yX7_mend : MethodName := ⟨RX7, "mend", "(II)I"⟩
abbrev cX7_instead : ByteArray := prog_1_method_23_code
def yX7_instead : MethodName := ⟨RX7, "instead", "(II)I"⟩
abbrev cX7_image : ByteArray := prog_1_method_24_code
def yX7_image : MethodName := ⟨RX7, "image", "(I)I"⟩
abbrev cX7_restore : ByteArray := prog_1_method_25_code
def yX7_restore : MethodName := ⟨RX7, "restore", "(I)I"⟩
abbrev cX7_told : ByteArray := prog_1_method_26_code
def yX7_told : MethodName := ⟨RX7, "told", "(I)I"⟩
abbrev cX7_isWord : ByteArray := prog_1_method_27_code
def yX7_isWord : MethodName := ⟨RX7, "isWord", "(I)Z"⟩
abbrev cX7_isNumber : ByteArray := prog_1_method_28_code
def yX7_isNumber : MethodName := ⟨RX7, "isNumber", "(I)Z"⟩
abbrev cX7_isImage : ByteArray := prog_1_method_29_code
def yX7_isImage : MethodName := ⟨RX7, "isImage", "(I)Z"⟩
abbrev cX7_holdsTakenBack : ByteArray := prog_1_method_30_code
def yX7_holdsTakenBack : MethodName := ⟨RX7, "holdsTakenBack", "(III)Z"⟩
abbrev cX7_earlyAsTheyStand : ByteArray := prog_1_method_31_code
def yX7_earlyAsTheyStand : MethodName := ⟨RX7, "earlyAsTheyStand", "()I"⟩
abbrev cX7_leastEarly : ByteArray := prog_1_method_32_code
def yX7_leastEarly : MethodName := ⟨RX7, "leastEarly", "()I"⟩
abbrev cX7_placedAt : ByteArray := prog_1_method_33_code
def yX7_placedAt : MethodName := ⟨RX7, "placedAt", "(I)I"⟩
abbrev cX7_firstFree : ByteArray := prog_1_method_34_code
def yX7_firstFree : MethodName := ⟨RX7, "firstFree", "(II)I"⟩
abbrev cX7_mendingWord : ByteArray := prog_1_method_35_code
def yX7_mendingWord : MethodName := ⟨RX7, "mendingWord", "(LBookShows$Text;II)I"⟩
def RX8 : String := "BookShowsModel"
def TX8 : u_T := fun k => match k with
  | 0 => ("BookShowsModel", "text", "[I", true)
  | 1 => ("BookShowsModel", "size", "[I", true)
  | 2 => ("BookShowsModel", "many", "[I", true)
  | 3 => ("BookShowsModel", "versions", "I", false)
  | 4 => ("BookShowsModel", "pages", "I", false)
  | 5 => ("BookShowsModel", "tells", "[I", true)
  | 6 => ("BookShowsModel", "due", "[I", true)
  | 7 => ("BookShowsModel", "rest", "[I", true)
  | 8 => ("BookShowsModel", "piled", "I", false)
  | 9 => ("BookShowsModel", "pileAt", "[I", true)
  | 10 => ("BookShowsModel", "pileStage", "[I", true)
  | 11 => ("BookShowsModel", "pileHeld", "[I", true)
  | 12 => ("BookShowsModel", "used", "I", false)
  | 13 => ("BookShowsModel", "given", "I", false)
  | 14 => ("BookShowsModel", "open", "I", false)
  | 15 => ("BookShowsModel", "by", "[I", true)
  | 16 => ("BookShowsModel", "best", "[I", true)
  | 17 => ("BookShowsModel", "things", "I", false)
  | 18 => ("BookShowsModel", "does", "[I", true)
  | 19 => ("BookShowsModel", "holdsBy", "[I", true)
  | 20 => ("BookShowsModel", "isLaid", "Z", false)
  | 21 => ("BookShowsModel", "laidVersion", "I", false)
  | 22 => ("BookShowsModel", "slips", "I", false)
  | 23 => ("BookShowsModel", "slipAt", "[I", true)
  | 24 => ("BookShowsModel", "noticed", "[I", true)
  | 25 => ("BookShowsModel", "image", "[I", true)
  | _ => ("BookShowsModel", "isKept", "[Z", true)
def tyX8 : Nat → FieldType := fun k => match k with
  | 0 => .array .int
  | 1 => .array .int
  | 2 => .array .int
  | 3 => .int
  | 4 => .int
  | 5 => .array .int
  | 6 => .array .int
  | 7 => .array .int
  | 8 => .int
  | 9 => .array .int
  | 10 => .array .int
  | 11 => .array .int
  | 12 => .int
  | 13 => .int
  | 14 => .int
  | 15 => .array .int
  | 16 => .array .int
  | 17 => .int
  | 18 => .array .int
  | 19 => .array .int
  | 20 => .boolean
  | 21 => .int
  | 22 => .int
  | 23 => .array .int
  | 24 => .array .int
  | 25 => .array .int
  | _ => .array .boolean
theorem nmX8 : ∀ a, a < 27 → ∀ b, b < 27 → a ≠ b → (TX8 a).2.1 ≠ (TX8 b).2.1 := by decide +kernel
theorem tyX8_ok : ∀ k, k < 27 → parseFieldDescriptor (TX8 k).2.2.1 = some (tyX8 k) := by decide +kernel
abbrev cX8_init : ByteArray := prog_10_method_1_code
def yX8_init : MethodName := ⟨RX8, "<init>", "()V"⟩
abbrev cX8_in : ByteArray := prog_10_method_2_code
def yX8_in : MethodName := ⟨RX8, "in", "(III)Z"⟩
abbrev cX8_isWord : ByteArray := prog_10_method_3_code
def yX8_isWord : MethodName := ⟨RX8, "isWord", "(I)Z"⟩
abbrev cX8_isVersion : ByteArray := prog_10_method_4_code
def yX8_isVersion : MethodName := ⟨RX8, "isVersion", "(I)Z"⟩
abbrev cX8_isPage : ByteArray := prog_10_method_5_code
def yX8_isPage : MethodName := ⟨RX8, "isPage", "(I)Z"⟩
abbrev cX8_isExample : ByteArray := prog_10_method_6_code
def yX8_isExample : MethodName := ⟨RX8, "isExample", "(I)Z"⟩
abbrev cX8_bits : ByteArray := prog_10_method_7_code
def yX8_bits : MethodName := ⟨RX8, "bits", "(I)I"⟩
abbrev cX8_say : ByteArray := prog_10_method_8_code
def yX8_say : MethodName := ⟨RX8, "say", "(I)I"⟩
abbrev cX8_wipe : ByteArray := prog_10_method_9_code
def yX8_wipe : MethodName := ⟨RX8, "wipe", "()I"⟩
abbrev cX8_partsOf : ByteArray := prog_10_method_10_code
def yX8_partsOf : MethodName := ⟨RX8, "partsOf", "(I)I"⟩
abbrev cX8_faultOf : ByteArray := prog_10_method_11_code
def yX8_faultOf : MethodName := ⟨RX8, "faultOf", "()I"⟩
abbrev cX8_fault : ByteArray := prog_10_method_12_code
def yX8_fault : MethodName := ⟨RX8, "fault", "()I"⟩
abbrev cX8_measure : ByteArray := prog_10_method_13_code
def yX8_measure : MethodName := ⟨RX8, "measure", "(I)V"⟩
abbrev cX8_copyText : ByteArray := prog_10_method_14_code
def yX8_copyText : MethodName := ⟨RX8, "copyText", "(II)V"⟩
abbrev cX8_version : ByteArray := prog_10_method_15_code
def yX8_version : MethodName := ⟨RX8, "version", "()I"⟩
abbrev cX8_word : ByteArray := prog_10_method_16_code
def yX8_word : MethodName := ⟨RX8, "word", "(I)I"⟩
abbrev cX8_written : ByteArray := prog_10_method_17_code
def yX8_written : MethodName := ⟨RX8, "written", "(III)I"⟩
abbrev cX8_byVersion : ByteArray := prog_10_method_18_code
def yX8_byVersion : MethodName := ⟨RX8, "byVersion", "(I)V"⟩
abbrev cX8_act : ByteArray := prog_10_method_19_code
def yX8_act : MethodName := ⟨RX8, "act", "(III)I"⟩
abbrev cX8_comeTo : ByteArray := prog_10_method_20_code
def yX8_comeTo : MethodName := ⟨RX8, "comeTo", "(II)I"⟩
abbrev cX8_comes : ByteArray := prog_10_method_21_code
def yX8_comes : MethodName := ⟨RX8, "comes", "(II)I"⟩
abbrev cX8_tells : ByteArray := prog_10_method_22_code
def yX8_tells : MethodName := ⟨RX8, "tells", "(I)I"⟩
abbrev cX8_shows : ByteArray := prog_10_method_23_code
def yX8_shows : MethodName := ⟨RX8, "shows", "(I)I"⟩
abbrev cX8_namedIn : ByteArray := prog_10_method_24_code
def yX8_namedIn : MethodName := ⟨RX8, "namedIn", "(I)I"⟩
abbrev cX8_page : ByteArray := prog_10_method_25_code
def yX8_page : MethodName := ⟨RX8, "page", "(II)I"⟩
abbrev cX8_holds : ByteArray := prog_10_method_26_code
def yX8_holds : MethodName := ⟨RX8, "holds", "(I)Z"⟩
abbrev cX8_holdsIn : ByteArray := prog_10_method_27_code
def yX8_holdsIn : MethodName := ⟨RX8, "holdsIn", "(II)Z"⟩
abbrev cX8_held : ByteArray := prog_10_method_28_code
def yX8_held : MethodName := ⟨RX8, "held", "(III)I"⟩
abbrev cX8_stale : ByteArray := prog_10_method_29_code
def yX8_stale : MethodName := ⟨RX8, "stale", "(I)I"⟩
abbrev cX8_blame : ByteArray := prog_10_method_30_code
def yX8_blame : MethodName := ⟨RX8, "blame", "(II)I"⟩
abbrev cX8_toldBy : ByteArray := prog_10_method_31_code
def yX8_toldBy : MethodName := ⟨RX8, "toldBy", "(I)I"⟩
abbrev cX8_layOrders : ByteArray := prog_10_method_32_code
def yX8_layOrders : MethodName := ⟨RX8, "layOrders", "()V"⟩
abbrev cX8_order : ByteArray := prog_10_method_33_code
def yX8_order : MethodName := ⟨RX8, "order", "(I)I"⟩
abbrev cX8_fewest : ByteArray := prog_10_method_34_code
def yX8_fewest : MethodName := ⟨RX8, "fewest", "()I"⟩
abbrev cX8_cover : ByteArray := prog_10_method_35_code
def yX8_cover : MethodName := ⟨RX8, "cover", "(I)I"⟩
abbrev cX8_apart : ByteArray := prog_10_method_36_code
def yX8_apart : MethodName := ⟨RX8, "apart", "()I"⟩
abbrev cX8_slipped : ByteArray := prog_10_method_37_code
def yX8_slipped : MethodName := ⟨RX8, "slipped", "(I)I"⟩
abbrev cX8_laySlips : ByteArray := prog_10_method_38_code
def yX8_laySlips : MethodName := ⟨RX8, "laySlips", "(I)V"⟩
abbrev cX8_slip : ByteArray := prog_10_method_39_code
def yX8_slip : MethodName := ⟨RX8, "slip", "(II)I"⟩
abbrev cX8_noticed : ByteArray := prog_10_method_40_code
def yX8_noticed : MethodName := ⟨RX8, "noticed", "(II)I"⟩
abbrev cX8_unshown : ByteArray := prog_10_method_41_code
def yX8_unshown : MethodName := ⟨RX8, "unshown", "(II)I"⟩
abbrev cX8_notice : ByteArray := prog_10_method_42_code
def yX8_notice : MethodName := ⟨RX8, "notice", "(I)I"⟩
abbrev cX8_mend : ByteArray := prog_10_method_43_code
def yX8_mend : MethodName := ⟨RX8, "mend", "(II)I"⟩
abbrev cX8_instead : ByteArray := prog_10_method_44_code
def yX8_instead : MethodName := ⟨RX8, "instead", "(II)I"⟩
abbrev cX8_image : ByteArray := prog_10_method_45_code
def yX8_image : MethodName := ⟨RX8, "image", "(I)I"⟩
abbrev cX8_restore : ByteArray := prog_10_method_46_code
def yX8_restore : MethodName := ⟨RX8, "restore", "(I)I"⟩
abbrev cX8_told : ByteArray := prog_10_method_47_code
def yX8_told : MethodName := ⟨RX8, "told", "(I)I"⟩
def RJ6 : String := "java/lang/Integer"
def TJ6 : u_T := fun k => match k with
  | _ => ("", "", "", false)
def tyJ6 : Nat → FieldType := fun k => match k with
  | _ => .int
theorem nmJ6 : ∀ a, a < 0 → ∀ b, b < 0 → a ≠ b → (TJ6 a).2.1 ≠ (TJ6 b).2.1 := by decide +kernel
theorem tyJ6_ok : ∀ k, k < 0 → parseFieldDescriptor (TJ6 k).2.2.1 = some (tyJ6 k) := by decide +kernel
abbrev cJ6_bitCount_0f7a4 : ByteArray := prog_11_method_49_code
def yJ6_bitCount_0f7a4 : MethodName := ⟨RJ6, "bitCount", "(I)I"⟩
def RJ9 : String := "java/lang/Math"
def TJ9 : u_T := fun k => match k with
  | _ => ("", "", "", false)
def tyJ9 : Nat → FieldType := fun k => match k with
  | _ => .int
theorem nmJ9 : ∀ a, a < 0 → ∀ b, b < 0 → a ≠ b → (TJ9 a).2.1 ≠ (TJ9 b).2.1 := by decide +kernel
theorem tyJ9_ok : ∀ k, k < 0 → parseFieldDescriptor (TJ9 k).2.2.1 = some (tyJ9 k) := by decide +kernel
abbrev cJ9_floorMod_7cf53 : ByteArray := prog_12_method_50_code
def yJ9_floorMod_7cf53 : MethodName := ⟨RJ9, "floorMod", "(II)I"⟩
abbrev cJ9_max_7cf53 : ByteArray := prog_12_method_65_code
def yJ9_max_7cf53 : MethodName := ⟨RJ9, "max", "(II)I"⟩
abbrev cJ9_min_7cf53 : ByteArray := prog_12_method_69_code
def yJ9_min_7cf53 : MethodName := ⟨RJ9, "min", "(II)I"⟩
def RL : String := "BookShowsLaw"
abbrev cL_law : ByteArray := code
def yL_law : MethodName := ⟨RL, "law", "([I)Z"⟩
abbrev classes : List vw_C := [(RX0, TX0, 8), (RX1, TX1, 2), (RX2, TX2, 5), (RX3, TX3, 5), (RX4, TX4, 0), (RX5, TX5, 7), (RX6, TX6, 2), (RX7, TX7, 9), (RX8, TX8, 27)]
def mw : List Cond := lw_tbl.filter goodWord
theorem mwT (i : Nat) {w : Cond} (h : tables_1[i]? = some w) (g : goodWord w = true) : w ∈ mw := List.mem_filter.mpr ⟨List.mem_append_right _ (List.mem_of_getElem? h), g⟩
theorem mwS (i : Nat) {w : Cond} (h : (k2_sels lw_privs)[i]? = some w) (g : goodWord w = true) : w ∈ mw := List.mem_filter.mpr ⟨List.mem_append_left _ (List.mem_of_getElem? h), g⟩
theorem mw_good {y : MethodName} {cc : ByteArray} {nL : Nat} {ret : Option FieldType} (h : Cond.code y cc nL ret ∈ mw) : GoodIn mw (Cond.code y cc nL ret :: mw) := by
  intro w hw
  rcases List.mem_cons.mp hw with rfl | hw
  · exact ⟨h, good_of_word (List.mem_filter.mp h).2⟩
  · exact ⟨hw, good_of_word (List.mem_filter.mp hw).2⟩
end
section
theorem dX0_init_0 : decode cX0_init 0 = .ok (.aload_n 0, 1) := by decide +kernel
theorem dX0_init_1 : decode cX0_init 1 = .ok (.invokespecial 3, 3) := by decide +kernel
theorem dX0_init_4 : decode cX0_init 4 = .ok (.aload_n 0, 1) := by decide +kernel
theorem dX0_init_5 : decode cX0_init 5 = .ok (.aload_n 1, 1) := by decide +kernel
theorem dX0_init_6 : decode cX0_init 6 = .ok (.putfield 9, 3) := by decide +kernel
theorem dX0_init_9 : decode cX0_init 9 = .ok (.aload_n 0, 1) := by decide +kernel
theorem dX0_init_10 : decode cX0_init 10 = .ok (.bipush 48, 2) := by decide +kernel
theorem dX0_init_12 : decode cX0_init 12 = .ok (.anewarray 15, 3) := by decide +kernel
theorem dX0_init_15 : decode cX0_init 15 = .ok (.putfield 17, 3) := by decide +kernel
theorem dX0_init_18 : decode cX0_init 18 = .ok (.iconst 0, 1) := by decide +kernel
theorem dX0_init_19 : decode cX0_init 19 = .ok (.istore_n 2, 1) := by decide +kernel
theorem dX0_init_20 : decode cX0_init 20 = .ok (.iload_n 2, 1) := by decide +kernel
theorem dX0_init_21 : decode cX0_init 21 = .ok (.bipush 48, 2) := by decide +kernel
theorem dX0_init_23 : decode cX0_init 23 = .ok (.if_icmp .ge 16, 3) := by decide +kernel
theorem dX0_init_26 : decode cX0_init 26 = .ok (.aload_n 0, 1) := by decide +kernel
theorem dX0_init_27 : decode cX0_init 27 = .ok (.getfield 17, 3) := by decide +kernel
theorem dX0_init_30 : decode cX0_init 30 = .ok (.iload_n 2, 1) := by decide +kernel
theorem dX0_init_31 : decode cX0_init 31 = .ok (.aload_n 1, 1) := by decide +kernel
theorem dX0_init_32 : decode cX0_init 32 = .ok (.aastore, 1) := by decide +kernel
theorem dX0_init_33 : decode cX0_init 33 = .ok (.iinc 2 1, 3) := by decide +kernel
theorem dX0_init_36 : decode cX0_init 36 = .ok (.goto (-16), 3) := by decide +kernel
theorem dX0_init_39 : decode cX0_init 39 = .ok (.aload_n 0, 1) := by decide +kernel
theorem dX0_init_40 : decode cX0_init 40 = .ok (.bipush 12, 2) := by decide +kernel
theorem dX0_init_42 : decode cX0_init 42 = .ok (.newarray .int, 2) := by decide +kernel
theorem dX0_init_44 : decode cX0_init 44 = .ok (.putfield 21, 3) := by decide +kernel
theorem dX0_init_47 : decode cX0_init 47 = .ok (.aload_n 0, 1) := by decide +kernel
theorem dX0_init_48 : decode cX0_init 48 = .ok (.bipush 12, 2) := by decide +kernel
theorem dX0_init_50 : decode cX0_init 50 = .ok (.anewarray 15, 3) := by decide +kernel
theorem dX0_init_53 : decode cX0_init 53 = .ok (.putfield 25, 3) := by decide +kernel
theorem dX0_init_56 : decode cX0_init 56 = .ok (.iconst 0, 1) := by decide +kernel
theorem dX0_init_57 : decode cX0_init 57 = .ok (.istore_n 2, 1) := by decide +kernel
theorem dX0_init_58 : decode cX0_init 58 = .ok (.iload_n 2, 1) := by decide +kernel
theorem dX0_init_59 : decode cX0_init 59 = .ok (.bipush 12, 2) := by decide +kernel
theorem dX0_init_61 : decode cX0_init 61 = .ok (.if_icmp .ge 16, 3) := by decide +kernel
theorem dX0_init_64 : decode cX0_init 64 = .ok (.aload_n 0, 1) := by decide +kernel
theorem dX0_init_65 : decode cX0_init 65 = .ok (.getfield 25, 3) := by decide +kernel
theorem dX0_init_68 : decode cX0_init 68 = .ok (.iload_n 2, 1) := by decide +kernel
theorem dX0_init_69 : decode cX0_init 69 = .ok (.aload_n 1, 1) := by decide +kernel
theorem dX0_init_70 : decode cX0_init 70 = .ok (.aastore, 1) := by decide +kernel
theorem dX0_init_71 : decode cX0_init 71 = .ok (.iinc 2 1, 3) := by decide +kernel
theorem dX0_init_74 : decode cX0_init 74 = .ok (.goto (-16), 3) := by decide +kernel
theorem dX0_init_77 : decode cX0_init 77 = .ok (.aload_n 0, 1) := by decide +kernel
theorem dX0_init_78 : decode cX0_init 78 = .ok (.bipush 12, 2) := by decide +kernel
theorem dX0_init_80 : decode cX0_init 80 = .ok (.newarray .int, 2) := by decide +kernel
theorem dX0_init_82 : decode cX0_init 82 = .ok (.putfield 28, 3) := by decide +kernel
theorem dX0_init_85 : decode cX0_init 85 = .ok (.aload_n 0, 1) := by decide +kernel
theorem dX0_init_86 : decode cX0_init 86 = .ok (.bipush 12, 2) := by decide +kernel
theorem dX0_init_88 : decode cX0_init 88 = .ok (.newarray .int, 2) := by decide +kernel
theorem dX0_init_90 : decode cX0_init 90 = .ok (.putfield 31, 3) := by decide +kernel
theorem dX0_init_93 : decode cX0_init 93 = .ok (.aload_n 0, 1) := by decide +kernel
theorem dX0_init_94 : decode cX0_init 94 = .ok (.iconst 1, 1) := by decide +kernel
theorem dX0_init_95 : decode cX0_init 95 = .ok (.putfield 34, 3) := by decide +kernel
theorem dX0_init_98 : decode cX0_init 98 = .ok (.aload_n 0, 1) := by decide +kernel
theorem dX0_init_99 : decode cX0_init 99 = .ok (.iconst 0, 1) := by decide +kernel
theorem dX0_init_100 : decode cX0_init 100 = .ok (.putfield 38, 3) := by decide +kernel
theorem dX0_init_103 : decode cX0_init 103 = .ok (.return_, 1) := by decide +kernel
theorem dX0_become_0 : decode cX0_become 0 = .ok (.iconst 0, 1) := by decide +kernel
theorem dX0_become_1 : decode cX0_become 1 = .ok (.istore_n 2, 1) := by decide +kernel
theorem dX0_become_2 : decode cX0_become 2 = .ok (.iload_n 2, 1) := by decide +kernel
theorem dX0_become_3 : decode cX0_become 3 = .ok (.bipush 48, 2) := by decide +kernel
theorem dX0_become_5 : decode cX0_become 5 = .ok (.if_icmp .ge 21, 3) := by decide +kernel
theorem dX0_become_8 : decode cX0_become 8 = .ok (.aload_n 0, 1) := by decide +kernel
theorem dX0_become_9 : decode cX0_become 9 = .ok (.getfield 17, 3) := by decide +kernel
theorem dX0_become_12 : decode cX0_become 12 = .ok (.iload_n 2, 1) := by decide +kernel
theorem dX0_become_13 : decode cX0_become 13 = .ok (.aload_n 1, 1) := by decide +kernel
theorem dX0_become_14 : decode cX0_become 14 = .ok (.getfield 17, 3) := by decide +kernel
theorem dX0_become_17 : decode cX0_become 17 = .ok (.iload_n 2, 1) := by decide +kernel
theorem dX0_become_18 : decode cX0_become 18 = .ok (.aaload, 1) := by decide +kernel
theorem dX0_become_19 : decode cX0_become 19 = .ok (.aastore, 1) := by decide +kernel
theorem dX0_become_20 : decode cX0_become 20 = .ok (.iinc 2 1, 3) := by decide +kernel
theorem dX0_become_23 : decode cX0_become 23 = .ok (.goto (-21), 3) := by decide +kernel
theorem dX0_become_26 : decode cX0_become 26 = .ok (.iconst 0, 1) := by decide +kernel
theorem dX0_become_27 : decode cX0_become 27 = .ok (.istore_n 2, 1) := by decide +kernel
theorem dX0_become_28 : decode cX0_become 28 = .ok (.iload_n 2, 1) := by decide +kernel
theorem dX0_become_29 : decode cX0_become 29 = .ok (.bipush 12, 2) := by decide +kernel
theorem dX0_become_31 : decode cX0_become 31 = .ok (.if_icmp .ge 57, 3) := by decide +kernel
theorem dX0_become_34 : decode cX0_become 34 = .ok (.aload_n 0, 1) := by decide +kernel
theorem dX0_become_35 : decode cX0_become 35 = .ok (.getfield 21, 3) := by decide +kernel
theorem dX0_become_38 : decode cX0_become 38 = .ok (.iload_n 2, 1) := by decide +kernel
theorem dX0_become_39 : decode cX0_become 39 = .ok (.aload_n 1, 1) := by decide +kernel
theorem dX0_become_40 : decode cX0_become 40 = .ok (.getfield 21, 3) := by decide +kernel
theorem dX0_become_43 : decode cX0_become 43 = .ok (.iload_n 2, 1) := by decide +kernel
theorem dX0_become_44 : decode cX0_become 44 = .ok (.iaload, 1) := by decide +kernel
theorem dX0_become_45 : decode cX0_become 45 = .ok (.iastore, 1) := by decide +kernel
theorem dX0_become_46 : decode cX0_become 46 = .ok (.aload_n 0, 1) := by decide +kernel
theorem dX0_become_47 : decode cX0_become 47 = .ok (.getfield 25, 3) := by decide +kernel
theorem dX0_become_50 : decode cX0_become 50 = .ok (.iload_n 2, 1) := by decide +kernel
theorem dX0_become_51 : decode cX0_become 51 = .ok (.aload_n 1, 1) := by decide +kernel
theorem dX0_become_52 : decode cX0_become 52 = .ok (.getfield 25, 3) := by decide +kernel
theorem dX0_become_55 : decode cX0_become 55 = .ok (.iload_n 2, 1) := by decide +kernel
theorem dX0_become_56 : decode cX0_become 56 = .ok (.aaload, 1) := by decide +kernel
theorem dX0_become_57 : decode cX0_become 57 = .ok (.aastore, 1) := by decide +kernel
theorem dX0_become_58 : decode cX0_become 58 = .ok (.aload_n 0, 1) := by decide +kernel
theorem dX0_become_59 : decode cX0_become 59 = .ok (.getfield 28, 3) := by decide +kernel
theorem dX0_become_62 : decode cX0_become 62 = .ok (.iload_n 2, 1) := by decide +kernel
theorem dX0_become_63 : decode cX0_become 63 = .ok (.aload_n 1, 1) := by decide +kernel
theorem dX0_become_64 : decode cX0_become 64 = .ok (.getfield 28, 3) := by decide +kernel
theorem dX0_become_67 : decode cX0_become 67 = .ok (.iload_n 2, 1) := by decide +kernel
theorem dX0_become_68 : decode cX0_become 68 = .ok (.iaload, 1) := by decide +kernel
theorem dX0_become_69 : decode cX0_become 69 = .ok (.iastore, 1) := by decide +kernel
theorem dX0_become_70 : decode cX0_become 70 = .ok (.aload_n 0, 1) := by decide +kernel
theorem dX0_become_71 : decode cX0_become 71 = .ok (.getfield 31, 3) := by decide +kernel
theorem dX0_become_74 : decode cX0_become 74 = .ok (.iload_n 2, 1) := by decide +kernel
theorem dX0_become_75 : decode cX0_become 75 = .ok (.aload_n 1, 1) := by decide +kernel
theorem dX0_become_76 : decode cX0_become 76 = .ok (.getfield 31, 3) := by decide +kernel
theorem dX0_become_79 : decode cX0_become 79 = .ok (.iload_n 2, 1) := by decide +kernel
theorem dX0_become_80 : decode cX0_become 80 = .ok (.iaload, 1) := by decide +kernel
theorem dX0_become_81 : decode cX0_become 81 = .ok (.iastore, 1) := by decide +kernel
theorem dX0_become_82 : decode cX0_become 82 = .ok (.iinc 2 1, 3) := by decide +kernel
theorem dX0_become_85 : decode cX0_become 85 = .ok (.goto (-57), 3) := by decide +kernel
theorem dX0_become_88 : decode cX0_become 88 = .ok (.aload_n 0, 1) := by decide +kernel
theorem dX0_become_89 : decode cX0_become 89 = .ok (.aload_n 1, 1) := by decide +kernel
theorem dX0_become_90 : decode cX0_become 90 = .ok (.getfield 34, 3) := by decide +kernel
theorem dX0_become_93 : decode cX0_become 93 = .ok (.putfield 34, 3) := by decide +kernel
theorem dX0_become_96 : decode cX0_become 96 = .ok (.aload_n 0, 1) := by decide +kernel
theorem dX0_become_97 : decode cX0_become 97 = .ok (.aload_n 1, 1) := by decide +kernel
theorem dX0_become_98 : decode cX0_become 98 = .ok (.getfield 38, 3) := by decide +kernel
theorem dX0_become_101 : decode cX0_become 101 = .ok (.putfield 38, 3) := by decide +kernel
theorem dX0_become_104 : decode cX0_become 104 = .ok (.return_, 1) := by decide +kernel
theorem dX0_versions_0 : decode cX0_versions 0 = .ok (.aload_n 0, 1) := by decide +kernel
theorem dX0_versions_1 : decode cX0_versions 1 = .ok (.getfield 34, 3) := by decide +kernel
theorem dX0_versions_4 : decode cX0_versions 4 = .ok (.ireturn, 1) := by decide +kernel
theorem dX0_hasVersion_0 : decode cX0_hasVersion 0 = .ok (.iload_n 1, 1) := by decide +kernel
theorem dX0_hasVersion_1 : decode cX0_hasVersion 1 = .ok (.ifCond .lt 15, 3) := by decide +kernel
theorem dX0_hasVersion_4 : decode cX0_hasVersion 4 = .ok (.iload_n 1, 1) := by decide +kernel
theorem dX0_hasVersion_5 : decode cX0_hasVersion 5 = .ok (.aload_n 0, 1) := by decide +kernel
theorem dX0_hasVersion_6 : decode cX0_hasVersion 6 = .ok (.getfield 34, 3) := by decide +kernel
theorem dX0_hasVersion_9 : decode cX0_hasVersion 9 = .ok (.if_icmp .ge 7, 3) := by decide +kernel
theorem dX0_hasVersion_12 : decode cX0_hasVersion 12 = .ok (.iconst 1, 1) := by decide +kernel
theorem dX0_hasVersion_13 : decode cX0_hasVersion 13 = .ok (.goto 4, 3) := by decide +kernel
theorem dX0_hasVersion_16 : decode cX0_hasVersion 16 = .ok (.iconst 0, 1) := by decide +kernel
theorem dX0_hasVersion_17 : decode cX0_hasVersion 17 = .ok (.ireturn, 1) := by decide +kernel
theorem dX0_addVersion_0 : decode cX0_addVersion 0 = .ok (.aload_n 0, 1) := by decide +kernel
theorem dX0_addVersion_1 : decode cX0_addVersion 1 = .ok (.getfield 34, 3) := by decide +kernel
theorem dX0_addVersion_4 : decode cX0_addVersion 4 = .ok (.bipush 6, 2) := by decide +kernel
theorem dX0_addVersion_6 : decode cX0_addVersion 6 = .ok (.if_icmp .lt 6, 3) := by decide +kernel
theorem dX0_addVersion_9 : decode cX0_addVersion 9 = .ok (.bipush (-4), 2) := by decide +kernel
theorem dX0_addVersion_11 : decode cX0_addVersion 11 = .ok (.ireturn, 1) := by decide +kernel
theorem dX0_addVersion_12 : decode cX0_addVersion 12 = .ok (.iconst 0, 1) := by decide +kernel
theorem dX0_addVersion_13 : decode cX0_addVersion 13 = .ok (.istore_n 1, 1) := by decide +kernel
theorem dX0_addVersion_14 : decode cX0_addVersion 14 = .ok (.iload_n 1, 1) := by decide +kernel
theorem dX0_addVersion_15 : decode cX0_addVersion 15 = .ok (.bipush 8, 2) := by decide +kernel
theorem dX0_addVersion_17 : decode cX0_addVersion 17 = .ok (.if_icmp .ge 34, 3) := by decide +kernel
theorem dX0_addVersion_20 : decode cX0_addVersion 20 = .ok (.aload_n 0, 1) := by decide +kernel
theorem dX0_addVersion_21 : decode cX0_addVersion 21 = .ok (.getfield 17, 3) := by decide +kernel
theorem dX0_addVersion_24 : decode cX0_addVersion 24 = .ok (.aload_n 0, 1) := by decide +kernel
theorem dX0_addVersion_25 : decode cX0_addVersion 25 = .ok (.getfield 34, 3) := by decide +kernel
theorem dX0_addVersion_28 : decode cX0_addVersion 28 = .ok (.bipush 8, 2) := by decide +kernel
theorem dX0_addVersion_30 : decode cX0_addVersion 30 = .ok (.imul, 1) := by decide +kernel
theorem dX0_addVersion_31 : decode cX0_addVersion 31 = .ok (.iload_n 1, 1) := by decide +kernel
theorem dX0_addVersion_32 : decode cX0_addVersion 32 = .ok (.iadd, 1) := by decide +kernel
theorem dX0_addVersion_33 : decode cX0_addVersion 33 = .ok (.aload_n 0, 1) := by decide +kernel
theorem dX0_addVersion_34 : decode cX0_addVersion 34 = .ok (.aload_n 0, 1) := by decide +kernel
theorem dX0_addVersion_35 : decode cX0_addVersion 35 = .ok (.getfield 34, 3) := by decide +kernel
theorem dX0_addVersion_38 : decode cX0_addVersion 38 = .ok (.iconst 1, 1) := by decide +kernel
theorem dX0_addVersion_39 : decode cX0_addVersion 39 = .ok (.isub, 1) := by decide +kernel
theorem dX0_addVersion_40 : decode cX0_addVersion 40 = .ok (.iload_n 1, 1) := by decide +kernel
theorem dX0_addVersion_41 : decode cX0_addVersion 41 = .ok (.invokevirtual 41, 3) := by decide +kernel
theorem dX0_addVersion_44 : decode cX0_addVersion 44 = .ok (.aastore, 1) := by decide +kernel
theorem dX0_addVersion_45 : decode cX0_addVersion 45 = .ok (.iinc 1 1, 3) := by decide +kernel
theorem dX0_addVersion_48 : decode cX0_addVersion 48 = .ok (.goto (-34), 3) := by decide +kernel
theorem dX0_addVersion_51 : decode cX0_addVersion 51 = .ok (.aload_n 0, 1) := by decide +kernel
theorem dX0_addVersion_52 : decode cX0_addVersion 52 = .ok (.dup, 1) := by decide +kernel
theorem dX0_addVersion_53 : decode cX0_addVersion 53 = .ok (.getfield 34, 3) := by decide +kernel
theorem dX0_addVersion_56 : decode cX0_addVersion 56 = .ok (.iconst 1, 1) := by decide +kernel
theorem dX0_addVersion_57 : decode cX0_addVersion 57 = .ok (.iadd, 1) := by decide +kernel
theorem dX0_addVersion_58 : decode cX0_addVersion 58 = .ok (.putfield 34, 3) := by decide +kernel
theorem dX0_addVersion_61 : decode cX0_addVersion 61 = .ok (.aload_n 0, 1) := by decide +kernel
theorem dX0_addVersion_62 : decode cX0_addVersion 62 = .ok (.getfield 34, 3) := by decide +kernel
theorem dX0_addVersion_65 : decode cX0_addVersion 65 = .ok (.iconst 1, 1) := by decide +kernel
theorem dX0_addVersion_66 : decode cX0_addVersion 66 = .ok (.isub, 1) := by decide +kernel
theorem dX0_addVersion_67 : decode cX0_addVersion 67 = .ok (.ireturn, 1) := by decide +kernel
theorem dX0_text_0 : decode cX0_text 0 = .ok (.aload_n 0, 1) := by decide +kernel
theorem dX0_text_1 : decode cX0_text 1 = .ok (.iload_n 1, 1) := by decide +kernel
theorem dX0_text_2 : decode cX0_text 2 = .ok (.invokevirtual 45, 3) := by decide +kernel
theorem dX0_text_5 : decode cX0_text 5 = .ok (.ifCond .eq 10, 3) := by decide +kernel
theorem dX0_text_8 : decode cX0_text 8 = .ok (.iload_n 2, 1) := by decide +kernel
theorem dX0_text_9 : decode cX0_text 9 = .ok (.invokestatic 49, 3) := by decide +kernel
theorem dX0_text_12 : decode cX0_text 12 = .ok (.ifCond .ne 8, 3) := by decide +kernel
theorem dX0_text_15 : decode cX0_text 15 = .ok (.aload_n 0, 1) := by decide +kernel
theorem dX0_text_16 : decode cX0_text 16 = .ok (.getfield 9, 3) := by decide +kernel
theorem dX0_text_19 : decode cX0_text 19 = .ok (.areturn, 1) := by decide +kernel
theorem dX0_text_20 : decode cX0_text 20 = .ok (.aload_n 0, 1) := by decide +kernel
theorem dX0_text_21 : decode cX0_text 21 = .ok (.getfield 17, 3) := by decide +kernel
theorem dX0_text_24 : decode cX0_text 24 = .ok (.iload_n 1, 1) := by decide +kernel
theorem dX0_text_25 : decode cX0_text 25 = .ok (.bipush 8, 2) := by decide +kernel
theorem dX0_text_27 : decode cX0_text 27 = .ok (.imul, 1) := by decide +kernel
theorem dX0_text_28 : decode cX0_text 28 = .ok (.iload_n 2, 1) := by decide +kernel
theorem dX0_text_29 : decode cX0_text 29 = .ok (.iadd, 1) := by decide +kernel
theorem dX0_text_30 : decode cX0_text 30 = .ok (.aaload, 1) := by decide +kernel
theorem dX0_text_31 : decode cX0_text 31 = .ok (.areturn, 1) := by decide +kernel
theorem dX0_rewrite_0 : decode cX0_rewrite 0 = .ok (.iload_n 1, 1) := by decide +kernel
theorem dX0_rewrite_1 : decode cX0_rewrite 1 = .ok (.invokestatic 49, 3) := by decide +kernel
theorem dX0_rewrite_4 : decode cX0_rewrite 4 = .ok (.ifCond .eq 20, 3) := by decide +kernel
theorem dX0_rewrite_7 : decode cX0_rewrite 7 = .ok (.aload_n 0, 1) := by decide +kernel
theorem dX0_rewrite_8 : decode cX0_rewrite 8 = .ok (.getfield 17, 3) := by decide +kernel
theorem dX0_rewrite_11 : decode cX0_rewrite 11 = .ok (.aload_n 0, 1) := by decide +kernel
theorem dX0_rewrite_12 : decode cX0_rewrite 12 = .ok (.getfield 34, 3) := by decide +kernel
theorem dX0_rewrite_15 : decode cX0_rewrite 15 = .ok (.iconst 1, 1) := by decide +kernel
theorem dX0_rewrite_16 : decode cX0_rewrite 16 = .ok (.isub, 1) := by decide +kernel
theorem dX0_rewrite_17 : decode cX0_rewrite 17 = .ok (.bipush 8, 2) := by decide +kernel
theorem dX0_rewrite_19 : decode cX0_rewrite 19 = .ok (.imul, 1) := by decide +kernel
theorem dX0_rewrite_20 : decode cX0_rewrite 20 = .ok (.iload_n 1, 1) := by decide +kernel
theorem dX0_rewrite_21 : decode cX0_rewrite 21 = .ok (.iadd, 1) := by decide +kernel
theorem dX0_rewrite_22 : decode cX0_rewrite 22 = .ok (.aload_n 2, 1) := by decide +kernel
theorem dX0_rewrite_23 : decode cX0_rewrite 23 = .ok (.aastore, 1) := by decide +kernel
theorem dX0_rewrite_24 : decode cX0_rewrite 24 = .ok (.return_, 1) := by decide +kernel
theorem dX0_changed_0 : decode cX0_changed 0 = .ok (.iconst 0, 1) := by decide +kernel
theorem dX0_changed_1 : decode cX0_changed 1 = .ok (.istore_n 2, 1) := by decide +kernel
theorem dX0_changed_2 : decode cX0_changed 2 = .ok (.iconst 0, 1) := by decide +kernel
theorem dX0_changed_3 : decode cX0_changed 3 = .ok (.istore_n 3, 1) := by decide +kernel
theorem dX0_changed_4 : decode cX0_changed 4 = .ok (.iload_n 3, 1) := by decide +kernel
theorem dX0_changed_5 : decode cX0_changed 5 = .ok (.bipush 8, 2) := by decide +kernel
theorem dX0_changed_7 : decode cX0_changed 7 = .ok (.if_icmp .ge 35, 3) := by decide +kernel
theorem dX0_changed_10 : decode cX0_changed 10 = .ok (.aload_n 0, 1) := by decide +kernel
theorem dX0_changed_11 : decode cX0_changed 11 = .ok (.iload_n 1, 1) := by decide +kernel
theorem dX0_changed_12 : decode cX0_changed 12 = .ok (.iload_n 3, 1) := by decide +kernel
theorem dX0_changed_13 : decode cX0_changed 13 = .ok (.invokevirtual 41, 3) := by decide +kernel
theorem dX0_changed_16 : decode cX0_changed 16 = .ok (.aload_n 0, 1) := by decide +kernel
theorem dX0_changed_17 : decode cX0_changed 17 = .ok (.iload_n 1, 1) := by decide +kernel
theorem dX0_changed_18 : decode cX0_changed 18 = .ok (.iconst 1, 1) := by decide +kernel
theorem dX0_changed_19 : decode cX0_changed 19 = .ok (.isub, 1) := by decide +kernel
theorem dX0_changed_20 : decode cX0_changed 20 = .ok (.iload_n 3, 1) := by decide +kernel
theorem dX0_changed_21 : decode cX0_changed 21 = .ok (.invokevirtual 41, 3) := by decide +kernel
theorem dX0_changed_24 : decode cX0_changed 24 = .ok (.invokevirtual 52, 3) := by decide +kernel
theorem dX0_changed_27 : decode cX0_changed 27 = .ok (.ifCond .ne 9, 3) := by decide +kernel
theorem dX0_changed_30 : decode cX0_changed 30 = .ok (.iload_n 2, 1) := by decide +kernel
theorem dX0_changed_31 : decode cX0_changed 31 = .ok (.iconst 1, 1) := by decide +kernel
theorem dX0_changed_32 : decode cX0_changed 32 = .ok (.iload_n 3, 1) := by decide +kernel
theorem dX0_changed_33 : decode cX0_changed 33 = .ok (.ishl, 1) := by decide +kernel
theorem dX0_changed_34 : decode cX0_changed 34 = .ok (.ior, 1) := by decide +kernel
theorem dX0_changed_35 : decode cX0_changed 35 = .ok (.istore_n 2, 1) := by decide +kernel
theorem dX0_changed_36 : decode cX0_changed 36 = .ok (.iinc 3 1, 3) := by decide +kernel
theorem dX0_changed_39 : decode cX0_changed 39 = .ok (.goto (-35), 3) := by decide +kernel
theorem dX0_changed_42 : decode cX0_changed 42 = .ok (.iload_n 2, 1) := by decide +kernel
theorem dX0_changed_43 : decode cX0_changed 43 = .ok (.ireturn, 1) := by decide +kernel
theorem dX0_pages_0 : decode cX0_pages 0 = .ok (.aload_n 0, 1) := by decide +kernel
theorem dX0_pages_1 : decode cX0_pages 1 = .ok (.getfield 38, 3) := by decide +kernel
theorem dX0_pages_4 : decode cX0_pages 4 = .ok (.ireturn, 1) := by decide +kernel
theorem dX0_hasPage_0 : decode cX0_hasPage 0 = .ok (.iload_n 1, 1) := by decide +kernel
theorem dX0_hasPage_1 : decode cX0_hasPage 1 = .ok (.ifCond .lt 15, 3) := by decide +kernel
theorem dX0_hasPage_4 : decode cX0_hasPage 4 = .ok (.iload_n 1, 1) := by decide +kernel
theorem dX0_hasPage_5 : decode cX0_hasPage 5 = .ok (.aload_n 0, 1) := by decide +kernel
theorem dX0_hasPage_6 : decode cX0_hasPage 6 = .ok (.getfield 38, 3) := by decide +kernel
theorem dX0_hasPage_9 : decode cX0_hasPage 9 = .ok (.if_icmp .ge 7, 3) := by decide +kernel
theorem dX0_hasPage_12 : decode cX0_hasPage 12 = .ok (.iconst 1, 1) := by decide +kernel
theorem dX0_hasPage_13 : decode cX0_hasPage 13 = .ok (.goto 4, 3) := by decide +kernel
theorem dX0_hasPage_16 : decode cX0_hasPage 16 = .ok (.iconst 0, 1) := by decide +kernel
theorem dX0_hasPage_17 : decode cX0_hasPage 17 = .ok (.ireturn, 1) := by decide +kernel
theorem dX0_isExample_0 : decode cX0_isExample 0 = .ok (.aload_n 0, 1) := by decide +kernel
theorem dX0_isExample_1 : decode cX0_isExample 1 = .ok (.iload_n 1, 1) := by decide +kernel
theorem dX0_isExample_2 : decode cX0_isExample 2 = .ok (.invokevirtual 56, 3) := by decide +kernel
theorem dX0_isExample_5 : decode cX0_isExample 5 = .ok (.ifCond .eq 18, 3) := by decide +kernel
theorem dX0_isExample_8 : decode cX0_isExample 8 = .ok (.aload_n 0, 1) := by decide +kernel
theorem dX0_isExample_9 : decode cX0_isExample 9 = .ok (.getfield 21, 3) := by decide +kernel
theorem dX0_isExample_12 : decode cX0_isExample 12 = .ok (.iload_n 1, 1) := by decide +kernel
theorem dX0_isExample_13 : decode cX0_isExample 13 = .ok (.iaload, 1) := by decide +kernel
theorem dX0_isExample_14 : decode cX0_isExample 14 = .ok (.bipush (-6), 2) := by decide +kernel
theorem dX0_isExample_16 : decode cX0_isExample 16 = .ok (.if_icmp .ne 7, 3) := by decide +kernel
theorem dX0_isExample_19 : decode cX0_isExample 19 = .ok (.iconst 1, 1) := by decide +kernel
theorem dX0_isExample_20 : decode cX0_isExample 20 = .ok (.goto 4, 3) := by decide +kernel
theorem dX0_isExample_23 : decode cX0_isExample 23 = .ok (.iconst 0, 1) := by decide +kernel
theorem dX0_isExample_24 : decode cX0_isExample 24 = .ok (.ireturn, 1) := by decide +kernel
theorem dX0_examples_0 : decode cX0_examples 0 = .ok (.iconst 0, 1) := by decide +kernel
theorem dX0_examples_1 : decode cX0_examples 1 = .ok (.istore_n 1, 1) := by decide +kernel
theorem dX0_examples_2 : decode cX0_examples 2 = .ok (.iconst 0, 1) := by decide +kernel
theorem dX0_examples_3 : decode cX0_examples 3 = .ok (.istore_n 2, 1) := by decide +kernel
theorem dX0_examples_4 : decode cX0_examples 4 = .ok (.iload_n 2, 1) := by decide +kernel
theorem dX0_examples_5 : decode cX0_examples 5 = .ok (.aload_n 0, 1) := by decide +kernel
theorem dX0_examples_6 : decode cX0_examples 6 = .ok (.getfield 38, 3) := by decide +kernel
theorem dX0_examples_9 : decode cX0_examples 9 = .ok (.if_icmp .ge 23, 3) := by decide +kernel
theorem dX0_examples_12 : decode cX0_examples 12 = .ok (.aload_n 0, 1) := by decide +kernel
theorem dX0_examples_13 : decode cX0_examples 13 = .ok (.iload_n 2, 1) := by decide +kernel
theorem dX0_examples_14 : decode cX0_examples 14 = .ok (.invokevirtual 59, 3) := by decide +kernel
theorem dX0_examples_17 : decode cX0_examples 17 = .ok (.ifCond .eq 9, 3) := by decide +kernel
theorem dX0_examples_20 : decode cX0_examples 20 = .ok (.iload_n 1, 1) := by decide +kernel
theorem dX0_examples_21 : decode cX0_examples 21 = .ok (.iconst 1, 1) := by decide +kernel
theorem dX0_examples_22 : decode cX0_examples 22 = .ok (.iload_n 2, 1) := by decide +kernel
theorem dX0_examples_23 : decode cX0_examples 23 = .ok (.ishl, 1) := by decide +kernel
theorem dX0_examples_24 : decode cX0_examples 24 = .ok (.ior, 1) := by decide +kernel
theorem dX0_examples_25 : decode cX0_examples 25 = .ok (.istore_n 1, 1) := by decide +kernel
theorem dX0_examples_26 : decode cX0_examples 26 = .ok (.iinc 2 1, 3) := by decide +kernel
theorem dX0_examples_29 : decode cX0_examples 29 = .ok (.goto (-25), 3) := by decide +kernel
theorem dX0_examples_32 : decode cX0_examples 32 = .ok (.iload_n 1, 1) := by decide +kernel
theorem dX0_examples_33 : decode cX0_examples 33 = .ok (.ireturn, 1) := by decide +kernel
theorem dX0_addTelling_0 : decode cX0_addTelling 0 = .ok (.aload_n 0, 1) := by decide +kernel
theorem dX0_addTelling_1 : decode cX0_addTelling 1 = .ok (.iload_n 1, 1) := by decide +kernel
theorem dX0_addTelling_2 : decode cX0_addTelling 2 = .ok (.aload_n 0, 1) := by decide +kernel
theorem dX0_addTelling_3 : decode cX0_addTelling 3 = .ok (.getfield 9, 3) := by decide +kernel
theorem dX0_addTelling_6 : decode cX0_addTelling 6 = .ok (.iconst 0, 1) := by decide +kernel
theorem dX0_addTelling_7 : decode cX0_addTelling 7 = .ok (.invokevirtual 62, 3) := by decide +kernel
theorem dX0_addTelling_10 : decode cX0_addTelling 10 = .ok (.ireturn, 1) := by decide +kernel
theorem dX0_addExample_0 : decode cX0_addExample 0 = .ok (.aload_n 0, 1) := by decide +kernel
theorem dX0_addExample_1 : decode cX0_addExample 1 = .ok (.bipush (-6), 2) := by decide +kernel
theorem dX0_addExample_3 : decode cX0_addExample 3 = .ok (.aload_n 1, 1) := by decide +kernel
theorem dX0_addExample_4 : decode cX0_addExample 4 = .ok (.iload_n 2, 1) := by decide +kernel
theorem dX0_addExample_5 : decode cX0_addExample 5 = .ok (.invokevirtual 62, 3) := by decide +kernel
theorem dX0_addExample_8 : decode cX0_addExample 8 = .ok (.ireturn, 1) := by decide +kernel
theorem dX0_add_0 : decode cX0_add 0 = .ok (.aload_n 0, 1) := by decide +kernel
theorem dX0_add_1 : decode cX0_add 1 = .ok (.getfield 38, 3) := by decide +kernel
theorem dX0_add_4 : decode cX0_add 4 = .ok (.bipush 12, 2) := by decide +kernel
theorem dX0_add_6 : decode cX0_add 6 = .ok (.if_icmp .lt 6, 3) := by decide +kernel
theorem dX0_add_9 : decode cX0_add 9 = .ok (.bipush (-4), 2) := by decide +kernel
theorem dX0_add_11 : decode cX0_add 11 = .ok (.ireturn, 1) := by decide +kernel
theorem dX0_add_12 : decode cX0_add 12 = .ok (.aload_n 0, 1) := by decide +kernel
theorem dX0_add_13 : decode cX0_add 13 = .ok (.getfield 21, 3) := by decide +kernel
theorem dX0_add_16 : decode cX0_add 16 = .ok (.aload_n 0, 1) := by decide +kernel
theorem dX0_add_17 : decode cX0_add 17 = .ok (.getfield 38, 3) := by decide +kernel
theorem dX0_add_20 : decode cX0_add 20 = .ok (.iload_n 1, 1) := by decide +kernel
theorem dX0_add_21 : decode cX0_add 21 = .ok (.iastore, 1) := by decide +kernel
theorem dX0_add_22 : decode cX0_add 22 = .ok (.aload_n 0, 1) := by decide +kernel
theorem dX0_add_23 : decode cX0_add 23 = .ok (.getfield 25, 3) := by decide +kernel
theorem dX0_add_26 : decode cX0_add 26 = .ok (.aload_n 0, 1) := by decide +kernel
theorem dX0_add_27 : decode cX0_add 27 = .ok (.getfield 38, 3) := by decide +kernel
theorem dX0_add_30 : decode cX0_add 30 = .ok (.aload_n 2, 1) := by decide +kernel
theorem dX0_add_31 : decode cX0_add 31 = .ok (.aastore, 1) := by decide +kernel
theorem dX0_add_32 : decode cX0_add 32 = .ok (.aload_n 0, 1) := by decide +kernel
theorem dX0_add_33 : decode cX0_add 33 = .ok (.getfield 28, 3) := by decide +kernel
theorem dX0_add_36 : decode cX0_add 36 = .ok (.aload_n 0, 1) := by decide +kernel
theorem dX0_add_37 : decode cX0_add 37 = .ok (.getfield 38, 3) := by decide +kernel
theorem dX0_add_40 : decode cX0_add 40 = .ok (.aload_n 2, 1) := by decide +kernel
theorem dX0_add_41 : decode cX0_add 41 = .ok (.invokevirtual 66, 3) := by decide +kernel
theorem dX0_add_44 : decode cX0_add 44 = .ok (.iastore, 1) := by decide +kernel
theorem dX0_add_45 : decode cX0_add 45 = .ok (.aload_n 0, 1) := by decide +kernel
theorem dX0_add_46 : decode cX0_add 46 = .ok (.getfield 31, 3) := by decide +kernel
theorem dX0_add_49 : decode cX0_add 49 = .ok (.aload_n 0, 1) := by decide +kernel
theorem dX0_add_50 : decode cX0_add 50 = .ok (.getfield 38, 3) := by decide +kernel
theorem dX0_add_53 : decode cX0_add 53 = .ok (.iload_n 3, 1) := by decide +kernel
theorem dX0_add_54 : decode cX0_add 54 = .ok (.iastore, 1) := by decide +kernel
theorem dX0_add_55 : decode cX0_add 55 = .ok (.aload_n 0, 1) := by decide +kernel
theorem dX0_add_56 : decode cX0_add 56 = .ok (.dup, 1) := by decide +kernel
theorem dX0_add_57 : decode cX0_add 57 = .ok (.getfield 38, 3) := by decide +kernel
theorem dX0_add_60 : decode cX0_add 60 = .ok (.iconst 1, 1) := by decide +kernel
theorem dX0_add_61 : decode cX0_add 61 = .ok (.iadd, 1) := by decide +kernel
theorem dX0_add_62 : decode cX0_add 62 = .ok (.putfield 38, 3) := by decide +kernel
theorem dX0_add_65 : decode cX0_add 65 = .ok (.aload_n 0, 1) := by decide +kernel
theorem dX0_add_66 : decode cX0_add 66 = .ok (.getfield 38, 3) := by decide +kernel
theorem dX0_add_69 : decode cX0_add 69 = .ok (.iconst 1, 1) := by decide +kernel
theorem dX0_add_70 : decode cX0_add 70 = .ok (.isub, 1) := by decide +kernel
theorem dX0_add_71 : decode cX0_add 71 = .ok (.ireturn, 1) := by decide +kernel
theorem dX0_toldWord_0 : decode cX0_toldWord 0 = .ok (.aload_n 0, 1) := by decide +kernel
theorem dX0_toldWord_1 : decode cX0_toldWord 1 = .ok (.iload_n 1, 1) := by decide +kernel
theorem dX0_toldWord_2 : decode cX0_toldWord 2 = .ok (.invokevirtual 56, 3) := by decide +kernel
theorem dX0_toldWord_5 : decode cX0_toldWord 5 = .ok (.ifCond .eq 12, 3) := by decide +kernel
theorem dX0_toldWord_8 : decode cX0_toldWord 8 = .ok (.aload_n 0, 1) := by decide +kernel
theorem dX0_toldWord_9 : decode cX0_toldWord 9 = .ok (.getfield 21, 3) := by decide +kernel
theorem dX0_toldWord_12 : decode cX0_toldWord 12 = .ok (.iload_n 1, 1) := by decide +kernel
theorem dX0_toldWord_13 : decode cX0_toldWord 13 = .ok (.iaload, 1) := by decide +kernel
theorem dX0_toldWord_14 : decode cX0_toldWord 14 = .ok (.goto 5, 3) := by decide +kernel
theorem dX0_toldWord_17 : decode cX0_toldWord 17 = .ok (.bipush (-6), 2) := by decide +kernel
theorem dX0_toldWord_19 : decode cX0_toldWord 19 = .ok (.ireturn, 1) := by decide +kernel
theorem dX0_toldWords_0 : decode cX0_toldWords 0 = .ok (.iconst 0, 1) := by decide +kernel
theorem dX0_toldWords_1 : decode cX0_toldWords 1 = .ok (.istore_n 1, 1) := by decide +kernel
theorem dX0_toldWords_2 : decode cX0_toldWords 2 = .ok (.iconst 0, 1) := by decide +kernel
theorem dX0_toldWords_3 : decode cX0_toldWords 3 = .ok (.istore_n 2, 1) := by decide +kernel
theorem dX0_toldWords_4 : decode cX0_toldWords 4 = .ok (.iload_n 2, 1) := by decide +kernel
theorem dX0_toldWords_5 : decode cX0_toldWords 5 = .ok (.aload_n 0, 1) := by decide +kernel
theorem dX0_toldWords_6 : decode cX0_toldWords 6 = .ok (.getfield 38, 3) := by decide +kernel
theorem dX0_toldWords_9 : decode cX0_toldWords 9 = .ok (.if_icmp .ge 28, 3) := by decide +kernel
theorem dX0_toldWords_12 : decode cX0_toldWords 12 = .ok (.aload_n 0, 1) := by decide +kernel
theorem dX0_toldWords_13 : decode cX0_toldWords 13 = .ok (.iload_n 2, 1) := by decide +kernel
theorem dX0_toldWords_14 : decode cX0_toldWords 14 = .ok (.invokevirtual 59, 3) := by decide +kernel
theorem dX0_toldWords_17 : decode cX0_toldWords 17 = .ok (.ifCond .ne 14, 3) := by decide +kernel
theorem dX0_toldWords_20 : decode cX0_toldWords 20 = .ok (.iload_n 1, 1) := by decide +kernel
theorem dX0_toldWords_21 : decode cX0_toldWords 21 = .ok (.iconst 1, 1) := by decide +kernel
theorem dX0_toldWords_22 : decode cX0_toldWords 22 = .ok (.aload_n 0, 1) := by decide +kernel
theorem dX0_toldWords_23 : decode cX0_toldWords 23 = .ok (.getfield 21, 3) := by decide +kernel
theorem dX0_toldWords_26 : decode cX0_toldWords 26 = .ok (.iload_n 2, 1) := by decide +kernel
theorem dX0_toldWords_27 : decode cX0_toldWords 27 = .ok (.iaload, 1) := by decide +kernel
theorem dX0_toldWords_28 : decode cX0_toldWords 28 = .ok (.ishl, 1) := by decide +kernel
theorem dX0_toldWords_29 : decode cX0_toldWords 29 = .ok (.ior, 1) := by decide +kernel
theorem dX0_toldWords_30 : decode cX0_toldWords 30 = .ok (.istore_n 1, 1) := by decide +kernel
theorem dX0_toldWords_31 : decode cX0_toldWords 31 = .ok (.iinc 2 1, 3) := by decide +kernel
theorem dX0_toldWords_34 : decode cX0_toldWords 34 = .ok (.goto (-30), 3) := by decide +kernel
theorem dX0_toldWords_37 : decode cX0_toldWords 37 = .ok (.iload_n 1, 1) := by decide +kernel
theorem dX0_toldWords_38 : decode cX0_toldWords 38 = .ok (.ireturn, 1) := by decide +kernel
theorem dX0_example_0 : decode cX0_example 0 = .ok (.aload_n 0, 1) := by decide +kernel
theorem dX0_example_1 : decode cX0_example 1 = .ok (.iload_n 1, 1) := by decide +kernel
theorem dX0_example_2 : decode cX0_example 2 = .ok (.invokevirtual 56, 3) := by decide +kernel
theorem dX0_example_5 : decode cX0_example 5 = .ok (.ifCond .eq 12, 3) := by decide +kernel
theorem dX0_example_8 : decode cX0_example 8 = .ok (.aload_n 0, 1) := by decide +kernel
theorem dX0_example_9 : decode cX0_example 9 = .ok (.getfield 25, 3) := by decide +kernel
theorem dX0_example_12 : decode cX0_example 12 = .ok (.iload_n 1, 1) := by decide +kernel
theorem dX0_example_13 : decode cX0_example 13 = .ok (.aaload, 1) := by decide +kernel
theorem dX0_example_14 : decode cX0_example 14 = .ok (.goto 7, 3) := by decide +kernel
theorem dX0_example_17 : decode cX0_example 17 = .ok (.aload_n 0, 1) := by decide +kernel
theorem dX0_example_18 : decode cX0_example 18 = .ok (.getfield 9, 3) := by decide +kernel
theorem dX0_example_21 : decode cX0_example 21 = .ok (.areturn, 1) := by decide +kernel
theorem dX0_named_0 : decode cX0_named 0 = .ok (.aload_n 0, 1) := by decide +kernel
theorem dX0_named_1 : decode cX0_named 1 = .ok (.iload_n 1, 1) := by decide +kernel
theorem dX0_named_2 : decode cX0_named 2 = .ok (.invokevirtual 56, 3) := by decide +kernel
theorem dX0_named_5 : decode cX0_named 5 = .ok (.ifCond .eq 12, 3) := by decide +kernel
theorem dX0_named_8 : decode cX0_named 8 = .ok (.aload_n 0, 1) := by decide +kernel
theorem dX0_named_9 : decode cX0_named 9 = .ok (.getfield 28, 3) := by decide +kernel
theorem dX0_named_12 : decode cX0_named 12 = .ok (.iload_n 1, 1) := by decide +kernel
theorem dX0_named_13 : decode cX0_named 13 = .ok (.iaload, 1) := by decide +kernel
theorem dX0_named_14 : decode cX0_named 14 = .ok (.goto 4, 3) := by decide +kernel
theorem dX0_named_17 : decode cX0_named 17 = .ok (.iconst 0, 1) := by decide +kernel
theorem dX0_named_18 : decode cX0_named 18 = .ok (.ireturn, 1) := by decide +kernel
theorem dX0_due_0 : decode cX0_due 0 = .ok (.aload_n 0, 1) := by decide +kernel
theorem dX0_due_1 : decode cX0_due 1 = .ok (.iload_n 1, 1) := by decide +kernel
theorem dX0_due_2 : decode cX0_due 2 = .ok (.invokevirtual 56, 3) := by decide +kernel
theorem dX0_due_5 : decode cX0_due 5 = .ok (.ifCond .eq 12, 3) := by decide +kernel
theorem dX0_due_8 : decode cX0_due 8 = .ok (.aload_n 0, 1) := by decide +kernel
theorem dX0_due_9 : decode cX0_due 9 = .ok (.getfield 31, 3) := by decide +kernel
theorem dX0_due_12 : decode cX0_due 12 = .ok (.iload_n 1, 1) := by decide +kernel
theorem dX0_due_13 : decode cX0_due 13 = .ok (.iaload, 1) := by decide +kernel
theorem dX0_due_14 : decode cX0_due 14 = .ok (.goto 5, 3) := by decide +kernel
theorem dX0_due_17 : decode cX0_due 17 = .ok (.bipush (-6), 2) := by decide +kernel
theorem dX0_due_19 : decode cX0_due 19 = .ok (.ireturn, 1) := by decide +kernel
theorem dX0_setDue_0 : decode cX0_setDue 0 = .ok (.aload_n 0, 1) := by decide +kernel
theorem dX0_setDue_1 : decode cX0_setDue 1 = .ok (.iload_n 1, 1) := by decide +kernel
theorem dX0_setDue_2 : decode cX0_setDue 2 = .ok (.invokevirtual 56, 3) := by decide +kernel
theorem dX0_setDue_5 : decode cX0_setDue 5 = .ok (.ifCond .eq 10, 3) := by decide +kernel
theorem dX0_setDue_8 : decode cX0_setDue 8 = .ok (.aload_n 0, 1) := by decide +kernel
theorem dX0_setDue_9 : decode cX0_setDue 9 = .ok (.getfield 31, 3) := by decide +kernel
theorem dX0_setDue_12 : decode cX0_setDue 12 = .ok (.iload_n 1, 1) := by decide +kernel
theorem dX0_setDue_13 : decode cX0_setDue 13 = .ok (.iload_n 2, 1) := by decide +kernel
theorem dX0_setDue_14 : decode cX0_setDue 14 = .ok (.iastore, 1) := by decide +kernel
theorem dX0_setDue_15 : decode cX0_setDue 15 = .ok (.return_, 1) := by decide +kernel
theorem dX1_init_0 : decode cX1_init 0 = .ok (.aload_n 0, 1) := by decide +kernel
theorem dX1_init_1 : decode cX1_init 1 = .ok (.invokespecial 3, 3) := by decide +kernel
theorem dX1_init_4 : decode cX1_init 4 = .ok (.aload_n 0, 1) := by decide +kernel
theorem dX1_init_5 : decode cX1_init 5 = .ok (.sipush 320, 3) := by decide +kernel
theorem dX1_init_8 : decode cX1_init 8 = .ok (.newarray .int, 2) := by decide +kernel
theorem dX1_init_10 : decode cX1_init 10 = .ok (.putfield 9, 3) := by decide +kernel
theorem dX1_init_13 : decode cX1_init 13 = .ok (.aload_n 0, 1) := by decide +kernel
theorem dX1_init_14 : decode cX1_init 14 = .ok (.iconst 0, 1) := by decide +kernel
theorem dX1_init_15 : decode cX1_init 15 = .ok (.putfield 15, 3) := by decide +kernel
theorem dX1_init_18 : decode cX1_init 18 = .ok (.return_, 1) := by decide +kernel
theorem dX1_clear_0 : decode cX1_clear 0 = .ok (.aload_n 0, 1) := by decide +kernel
theorem dX1_clear_1 : decode cX1_clear 1 = .ok (.iconst 0, 1) := by decide +kernel
theorem dX1_clear_2 : decode cX1_clear 2 = .ok (.putfield 15, 3) := by decide +kernel
theorem dX1_clear_5 : decode cX1_clear 5 = .ok (.return_, 1) := by decide +kernel
theorem dX1_add_0 : decode cX1_add 0 = .ok (.iload_n 1, 1) := by decide +kernel
theorem dX1_add_1 : decode cX1_add 1 = .ok (.ifCond .ne 4, 3) := by decide +kernel
theorem dX1_add_4 : decode cX1_add 4 = .ok (.return_, 1) := by decide +kernel
theorem dX1_add_5 : decode cX1_add 5 = .ok (.iconst 0, 1) := by decide +kernel
theorem dX1_add_6 : decode cX1_add 6 = .ok (.istore_n 2, 1) := by decide +kernel
theorem dX1_add_7 : decode cX1_add 7 = .ok (.iload_n 2, 1) := by decide +kernel
theorem dX1_add_8 : decode cX1_add 8 = .ok (.aload_n 0, 1) := by decide +kernel
theorem dX1_add_9 : decode cX1_add 9 = .ok (.getfield 15, 3) := by decide +kernel
theorem dX1_add_12 : decode cX1_add 12 = .ok (.if_icmp .ge 23, 3) := by decide +kernel
theorem dX1_add_15 : decode cX1_add 15 = .ok (.aload_n 0, 1) := by decide +kernel
theorem dX1_add_16 : decode cX1_add 16 = .ok (.getfield 9, 3) := by decide +kernel
theorem dX1_add_19 : decode cX1_add 19 = .ok (.iload_n 2, 1) := by decide +kernel
theorem dX1_add_20 : decode cX1_add 20 = .ok (.iaload, 1) := by decide +kernel
theorem dX1_add_21 : decode cX1_add 21 = .ok (.iload_n 1, 1) := by decide +kernel
theorem dX1_add_22 : decode cX1_add 22 = .ok (.iconst (-1), 1) := by decide +kernel
theorem dX1_add_23 : decode cX1_add 23 = .ok (.ixor, 1) := by decide +kernel
theorem dX1_add_24 : decode cX1_add 24 = .ok (.iand, 1) := by decide +kernel
theorem dX1_add_25 : decode cX1_add 25 = .ok (.ifCond .ne 4, 3) := by decide +kernel
theorem dX1_add_28 : decode cX1_add 28 = .ok (.return_, 1) := by decide +kernel
theorem dX1_add_29 : decode cX1_add 29 = .ok (.iinc 2 1, 3) := by decide +kernel
theorem dX1_add_32 : decode cX1_add 32 = .ok (.goto (-25), 3) := by decide +kernel
theorem dX1_add_35 : decode cX1_add 35 = .ok (.aload_n 0, 1) := by decide +kernel
theorem dX1_add_36 : decode cX1_add 36 = .ok (.getfield 15, 3) := by decide +kernel
theorem dX1_add_39 : decode cX1_add 39 = .ok (.aload_n 0, 1) := by decide +kernel
theorem dX1_add_40 : decode cX1_add 40 = .ok (.getfield 9, 3) := by decide +kernel
theorem dX1_add_43 : decode cX1_add 43 = .ok (.arraylength, 1) := by decide +kernel
theorem dX1_add_44 : decode cX1_add 44 = .ok (.if_icmp .ge 23, 3) := by decide +kernel
theorem dX1_add_47 : decode cX1_add 47 = .ok (.aload_n 0, 1) := by decide +kernel
theorem dX1_add_48 : decode cX1_add 48 = .ok (.getfield 9, 3) := by decide +kernel
theorem dX1_add_51 : decode cX1_add 51 = .ok (.aload_n 0, 1) := by decide +kernel
theorem dX1_add_52 : decode cX1_add 52 = .ok (.getfield 15, 3) := by decide +kernel
theorem dX1_add_55 : decode cX1_add 55 = .ok (.iload_n 1, 1) := by decide +kernel
theorem dX1_add_56 : decode cX1_add 56 = .ok (.iastore, 1) := by decide +kernel
theorem dX1_add_57 : decode cX1_add 57 = .ok (.aload_n 0, 1) := by decide +kernel
theorem dX1_add_58 : decode cX1_add 58 = .ok (.dup, 1) := by decide +kernel
theorem dX1_add_59 : decode cX1_add 59 = .ok (.getfield 15, 3) := by decide +kernel
theorem dX1_add_62 : decode cX1_add 62 = .ok (.iconst 1, 1) := by decide +kernel
theorem dX1_add_63 : decode cX1_add 63 = .ok (.iadd, 1) := by decide +kernel
theorem dX1_add_64 : decode cX1_add 64 = .ok (.putfield 15, 3) := by decide +kernel
theorem dX1_add_67 : decode cX1_add 67 = .ok (.return_, 1) := by decide +kernel
theorem dX1_fewest_0 : decode cX1_fewest 0 = .ok (.iconst 1, 1) := by decide +kernel
theorem dX1_fewest_1 : decode cX1_fewest 1 = .ok (.iload_n 1, 1) := by decide +kernel
theorem dX1_fewest_2 : decode cX1_fewest 2 = .ok (.ishl, 1) := by decide +kernel
theorem dX1_fewest_3 : decode cX1_fewest 3 = .ok (.iconst 1, 1) := by decide +kernel
theorem dX1_fewest_4 : decode cX1_fewest 4 = .ok (.isub, 1) := by decide +kernel
theorem dX1_fewest_5 : decode cX1_fewest 5 = .ok (.istore_n 2, 1) := by decide +kernel
theorem dX1_fewest_6 : decode cX1_fewest 6 = .ok (.iload_n 1, 1) := by decide +kernel
theorem dX1_fewest_7 : decode cX1_fewest 7 = .ok (.istore_n 3, 1) := by decide +kernel
theorem dX1_fewest_8 : decode cX1_fewest 8 = .ok (.iconst 0, 1) := by decide +kernel
theorem dX1_fewest_9 : decode cX1_fewest 9 = .ok (.istore 4, 2) := by decide +kernel
theorem dX1_fewest_11 : decode cX1_fewest 11 = .ok (.iload 4, 2) := by decide +kernel
theorem dX1_fewest_13 : decode cX1_fewest 13 = .ok (.iconst 1, 1) := by decide +kernel
theorem dX1_fewest_14 : decode cX1_fewest 14 = .ok (.iload_n 1, 1) := by decide +kernel
theorem dX1_fewest_15 : decode cX1_fewest 15 = .ok (.ishl, 1) := by decide +kernel
theorem dX1_fewest_16 : decode cX1_fewest 16 = .ok (.if_icmp .ge 37, 3) := by decide +kernel
theorem dX1_fewest_19 : decode cX1_fewest 19 = .ok (.iload 4, 2) := by decide +kernel
theorem dX1_fewest_21 : decode cX1_fewest 21 = .ok (.invokestatic 19, 3) := by decide +kernel
theorem dX1_fewest_24 : decode cX1_fewest 24 = .ok (.istore 5, 2) := by decide +kernel
theorem dX1_fewest_26 : decode cX1_fewest 26 = .ok (.iload 5, 2) := by decide +kernel
theorem dX1_fewest_28 : decode cX1_fewest 28 = .ok (.iload_n 3, 1) := by decide +kernel
theorem dX1_fewest_29 : decode cX1_fewest 29 = .ok (.if_icmp .ge 18, 3) := by decide +kernel
theorem dX1_fewest_32 : decode cX1_fewest 32 = .ok (.aload_n 0, 1) := by decide +kernel
theorem dX1_fewest_33 : decode cX1_fewest 33 = .ok (.iload 4, 2) := by decide +kernel
theorem dX1_fewest_35 : decode cX1_fewest 35 = .ok (.invokevirtual 25, 3) := by decide +kernel
theorem dX1_fewest_38 : decode cX1_fewest 38 = .ok (.ifCond .eq 9, 3) := by decide +kernel
theorem dX1_fewest_41 : decode cX1_fewest 41 = .ok (.iload 4, 2) := by decide +kernel
theorem dX1_fewest_43 : decode cX1_fewest 43 = .ok (.istore_n 2, 1) := by decide +kernel
theorem dX1_fewest_44 : decode cX1_fewest 44 = .ok (.iload 5, 2) := by decide +kernel
theorem dX1_fewest_46 : decode cX1_fewest 46 = .ok (.istore_n 3, 1) := by decide +kernel
theorem dX1_fewest_47 : decode cX1_fewest 47 = .ok (.iinc 4 1, 3) := by decide +kernel
theorem dX1_fewest_50 : decode cX1_fewest 50 = .ok (.goto (-39), 3) := by decide +kernel
theorem dX1_fewest_53 : decode cX1_fewest 53 = .ok (.iload_n 2, 1) := by decide +kernel
theorem dX1_fewest_54 : decode cX1_fewest 54 = .ok (.ireturn, 1) := by decide +kernel
theorem dX1_isEnough_0 : decode cX1_isEnough 0 = .ok (.iconst 0, 1) := by decide +kernel
theorem dX1_isEnough_1 : decode cX1_isEnough 1 = .ok (.istore_n 2, 1) := by decide +kernel
theorem dX1_isEnough_2 : decode cX1_isEnough 2 = .ok (.iload_n 2, 1) := by decide +kernel
theorem dX1_isEnough_3 : decode cX1_isEnough 3 = .ok (.aload_n 0, 1) := by decide +kernel
theorem dX1_isEnough_4 : decode cX1_isEnough 4 = .ok (.getfield 15, 3) := by decide +kernel
theorem dX1_isEnough_7 : decode cX1_isEnough 7 = .ok (.if_icmp .ge 22, 3) := by decide +kernel
theorem dX1_isEnough_10 : decode cX1_isEnough 10 = .ok (.aload_n 0, 1) := by decide +kernel
theorem dX1_isEnough_11 : decode cX1_isEnough 11 = .ok (.getfield 9, 3) := by decide +kernel
theorem dX1_isEnough_14 : decode cX1_isEnough 14 = .ok (.iload_n 2, 1) := by decide +kernel
theorem dX1_isEnough_15 : decode cX1_isEnough 15 = .ok (.iaload, 1) := by decide +kernel
theorem dX1_isEnough_16 : decode cX1_isEnough 16 = .ok (.iload_n 1, 1) := by decide +kernel
theorem dX1_isEnough_17 : decode cX1_isEnough 17 = .ok (.iand, 1) := by decide +kernel
theorem dX1_isEnough_18 : decode cX1_isEnough 18 = .ok (.ifCond .ne 5, 3) := by decide +kernel
theorem dX1_isEnough_21 : decode cX1_isEnough 21 = .ok (.iconst 0, 1) := by decide +kernel
theorem dX1_isEnough_22 : decode cX1_isEnough 22 = .ok (.ireturn, 1) := by decide +kernel
theorem dX1_isEnough_23 : decode cX1_isEnough 23 = .ok (.iinc 2 1, 3) := by decide +kernel
theorem dX1_isEnough_26 : decode cX1_isEnough 26 = .ok (.goto (-24), 3) := by decide +kernel
theorem dX1_isEnough_29 : decode cX1_isEnough 29 = .ok (.iconst 1, 1) := by decide +kernel
theorem dX1_isEnough_30 : decode cX1_isEnough 30 = .ok (.ireturn, 1) := by decide +kernel
theorem dX2_init_0 : decode cX2_init 0 = .ok (.aload_n 0, 1) := by decide +kernel
theorem dX2_init_1 : decode cX2_init 1 = .ok (.invokespecial 3, 3) := by decide +kernel
theorem dX2_init_4 : decode cX2_init 4 = .ok (.aload_n 0, 1) := by decide +kernel
theorem dX2_init_5 : decode cX2_init 5 = .ok (.aload_n 1, 1) := by decide +kernel
theorem dX2_init_6 : decode cX2_init 6 = .ok (.putfield 9, 3) := by decide +kernel
theorem dX2_init_9 : decode cX2_init 9 = .ok (.aload_n 0, 1) := by decide +kernel
theorem dX2_init_10 : decode cX2_init 10 = .ok (.aload_n 2, 1) := by decide +kernel
theorem dX2_init_11 : decode cX2_init 11 = .ok (.putfield 15, 3) := by decide +kernel
theorem dX2_init_14 : decode cX2_init 14 = .ok (.aload_n 0, 1) := by decide +kernel
theorem dX2_init_15 : decode cX2_init 15 = .ok (.bipush 72, 2) := by decide +kernel
theorem dX2_init_17 : decode cX2_init 17 = .ok (.newarray .boolean, 2) := by decide +kernel
theorem dX2_init_19 : decode cX2_init 19 = .ok (.putfield 19, 3) := by decide +kernel
theorem dX2_init_22 : decode cX2_init 22 = .ok (.aload_n 0, 1) := by decide +kernel
theorem dX2_init_23 : decode cX2_init 23 = .ok (.bipush 72, 2) := by decide +kernel
theorem dX2_init_25 : decode cX2_init 25 = .ok (.newarray .int, 2) := by decide +kernel
theorem dX2_init_27 : decode cX2_init 27 = .ok (.putfield 23, 3) := by decide +kernel
theorem dX2_init_30 : decode cX2_init 30 = .ok (.aload_n 0, 1) := by decide +kernel
theorem dX2_init_31 : decode cX2_init 31 = .ok (.bipush 72, 2) := by decide +kernel
theorem dX2_init_33 : decode cX2_init 33 = .ok (.newarray .int, 2) := by decide +kernel
theorem dX2_init_35 : decode cX2_init 35 = .ok (.putfield 27, 3) := by decide +kernel
theorem dX2_init_38 : decode cX2_init 38 = .ok (.return_, 1) := by decide +kernel
theorem dX2_forget_0 : decode cX2_forget 0 = .ok (.iload_n 1, 1) := by decide +kernel
theorem dX2_forget_1 : decode cX2_forget 1 = .ok (.ifCond .lt 35, 3) := by decide +kernel
theorem dX2_forget_4 : decode cX2_forget 4 = .ok (.iload_n 1, 1) := by decide +kernel
theorem dX2_forget_5 : decode cX2_forget 5 = .ok (.bipush 6, 2) := by decide +kernel
theorem dX2_forget_7 : decode cX2_forget 7 = .ok (.if_icmp .ge 29, 3) := by decide +kernel
theorem dX2_forget_10 : decode cX2_forget 10 = .ok (.iconst 0, 1) := by decide +kernel
theorem dX2_forget_11 : decode cX2_forget 11 = .ok (.istore_n 2, 1) := by decide +kernel
theorem dX2_forget_12 : decode cX2_forget 12 = .ok (.iload_n 2, 1) := by decide +kernel
theorem dX2_forget_13 : decode cX2_forget 13 = .ok (.bipush 12, 2) := by decide +kernel
theorem dX2_forget_15 : decode cX2_forget 15 = .ok (.if_icmp .ge 21, 3) := by decide +kernel
theorem dX2_forget_18 : decode cX2_forget 18 = .ok (.aload_n 0, 1) := by decide +kernel
theorem dX2_forget_19 : decode cX2_forget 19 = .ok (.getfield 19, 3) := by decide +kernel
theorem dX2_forget_22 : decode cX2_forget 22 = .ok (.iload_n 1, 1) := by decide +kernel
theorem dX2_forget_23 : decode cX2_forget 23 = .ok (.bipush 12, 2) := by decide +kernel
theorem dX2_forget_25 : decode cX2_forget 25 = .ok (.imul, 1) := by decide +kernel
theorem dX2_forget_26 : decode cX2_forget 26 = .ok (.iload_n 2, 1) := by decide +kernel
theorem dX2_forget_27 : decode cX2_forget 27 = .ok (.iadd, 1) := by decide +kernel
theorem dX2_forget_28 : decode cX2_forget 28 = .ok (.iconst 0, 1) := by decide +kernel
theorem dX2_forget_29 : decode cX2_forget 29 = .ok (.bastore, 1) := by decide +kernel
theorem dX2_forget_30 : decode cX2_forget 30 = .ok (.iinc 2 1, 3) := by decide +kernel
theorem dX2_forget_33 : decode cX2_forget 33 = .ok (.goto (-21), 3) := by decide +kernel
theorem dX2_forget_36 : decode cX2_forget 36 = .ok (.return_, 1) := by decide +kernel
theorem dX2_forgetAll_0 : decode cX2_forgetAll 0 = .ok (.iconst 0, 1) := by decide +kernel
theorem dX2_forgetAll_1 : decode cX2_forgetAll 1 = .ok (.istore_n 1, 1) := by decide +kernel
theorem dX2_forgetAll_2 : decode cX2_forgetAll 2 = .ok (.iload_n 1, 1) := by decide +kernel
theorem dX2_forgetAll_3 : decode cX2_forgetAll 3 = .ok (.bipush 6, 2) := by decide +kernel
theorem dX2_forgetAll_5 : decode cX2_forgetAll 5 = .ok (.if_icmp .ge 14, 3) := by decide +kernel
theorem dX2_forgetAll_8 : decode cX2_forgetAll 8 = .ok (.aload_n 0, 1) := by decide +kernel
theorem dX2_forgetAll_9 : decode cX2_forgetAll 9 = .ok (.iload_n 1, 1) := by decide +kernel
theorem dX2_forgetAll_10 : decode cX2_forgetAll 10 = .ok (.invokevirtual 30, 3) := by decide +kernel
theorem dX2_forgetAll_13 : decode cX2_forgetAll 13 = .ok (.iinc 1 1, 3) := by decide +kernel
theorem dX2_forgetAll_16 : decode cX2_forgetAll 16 = .ok (.goto (-14), 3) := by decide +kernel
theorem dX2_forgetAll_19 : decode cX2_forgetAll 19 = .ok (.return_, 1) := by decide +kernel
theorem dX2_learn_0 : decode cX2_learn 0 = .ok (.aload_n 0, 1) := by decide +kernel
theorem dX2_learn_1 : decode cX2_learn 1 = .ok (.getfield 9, 3) := by decide +kernel
theorem dX2_learn_4 : decode cX2_learn 4 = .ok (.iload_n 1, 1) := by decide +kernel
theorem dX2_learn_5 : decode cX2_learn 5 = .ok (.invokevirtual 34, 3) := by decide +kernel
theorem dX2_learn_8 : decode cX2_learn 8 = .ok (.ifCond .eq 14, 3) := by decide +kernel
theorem dX2_learn_11 : decode cX2_learn 11 = .ok (.aload_n 0, 1) := by decide +kernel
theorem dX2_learn_12 : decode cX2_learn 12 = .ok (.getfield 9, 3) := by decide +kernel
theorem dX2_learn_15 : decode cX2_learn 15 = .ok (.iload_n 2, 1) := by decide +kernel
theorem dX2_learn_16 : decode cX2_learn 16 = .ok (.invokevirtual 40, 3) := by decide +kernel
theorem dX2_learn_19 : decode cX2_learn 19 = .ok (.ifCond .ne 4, 3) := by decide +kernel
theorem dX2_learn_22 : decode cX2_learn 22 = .ok (.return_, 1) := by decide +kernel
theorem dX2_learn_23 : decode cX2_learn 23 = .ok (.iload_n 2, 1) := by decide +kernel
theorem dX2_learn_24 : decode cX2_learn 24 = .ok (.bipush 12, 2) := by decide +kernel
theorem dX2_learn_26 : decode cX2_learn 26 = .ok (.imul, 1) := by decide +kernel
theorem dX2_learn_27 : decode cX2_learn 27 = .ok (.iload_n 1, 1) := by decide +kernel
theorem dX2_learn_28 : decode cX2_learn 28 = .ok (.iadd, 1) := by decide +kernel
theorem dX2_learn_29 : decode cX2_learn 29 = .ok (.istore_n 3, 1) := by decide +kernel
theorem dX2_learn_30 : decode cX2_learn 30 = .ok (.aload_n 0, 1) := by decide +kernel
theorem dX2_learn_31 : decode cX2_learn 31 = .ok (.getfield 19, 3) := by decide +kernel
theorem dX2_learn_34 : decode cX2_learn 34 = .ok (.iload_n 3, 1) := by decide +kernel
theorem dX2_learn_35 : decode cX2_learn 35 = .ok (.baload, 1) := by decide +kernel
theorem dX2_learn_36 : decode cX2_learn 36 = .ok (.ifCond .ne 57, 3) := by decide +kernel
theorem dX2_learn_39 : decode cX2_learn 39 = .ok (.aload_n 0, 1) := by decide +kernel
theorem dX2_learn_40 : decode cX2_learn 40 = .ok (.getfield 15, 3) := by decide +kernel
theorem dX2_learn_43 : decode cX2_learn 43 = .ok (.aload_n 0, 1) := by decide +kernel
theorem dX2_learn_44 : decode cX2_learn 44 = .ok (.getfield 9, 3) := by decide +kernel
theorem dX2_learn_47 : decode cX2_learn 47 = .ok (.iload_n 2, 1) := by decide +kernel
theorem dX2_learn_48 : decode cX2_learn 48 = .ok (.invokevirtual 43, 3) := by decide +kernel
theorem dX2_learn_51 : decode cX2_learn 51 = .ok (.aload_n 0, 1) := by decide +kernel
theorem dX2_learn_52 : decode cX2_learn 52 = .ok (.getfield 23, 3) := by decide +kernel
theorem dX2_learn_55 : decode cX2_learn 55 = .ok (.iload_n 3, 1) := by decide +kernel
theorem dX2_learn_56 : decode cX2_learn 56 = .ok (.aload_n 0, 1) := by decide +kernel
theorem dX2_learn_57 : decode cX2_learn 57 = .ok (.getfield 15, 3) := by decide +kernel
theorem dX2_learn_60 : decode cX2_learn 60 = .ok (.aload_n 0, 1) := by decide +kernel
theorem dX2_learn_61 : decode cX2_learn 61 = .ok (.getfield 9, 3) := by decide +kernel
theorem dX2_learn_64 : decode cX2_learn 64 = .ok (.iload_n 1, 1) := by decide +kernel
theorem dX2_learn_65 : decode cX2_learn 65 = .ok (.invokevirtual 49, 3) := by decide +kernel
theorem dX2_learn_68 : decode cX2_learn 68 = .ok (.iconst 0, 1) := by decide +kernel
theorem dX2_learn_69 : decode cX2_learn 69 = .ok (.invokevirtual 53, 3) := by decide +kernel
theorem dX2_learn_72 : decode cX2_learn 72 = .ok (.iastore, 1) := by decide +kernel
theorem dX2_learn_73 : decode cX2_learn 73 = .ok (.aload_n 0, 1) := by decide +kernel
theorem dX2_learn_74 : decode cX2_learn 74 = .ok (.getfield 27, 3) := by decide +kernel
theorem dX2_learn_77 : decode cX2_learn 77 = .ok (.iload_n 3, 1) := by decide +kernel
theorem dX2_learn_78 : decode cX2_learn 78 = .ok (.aload_n 0, 1) := by decide +kernel
theorem dX2_learn_79 : decode cX2_learn 79 = .ok (.getfield 15, 3) := by decide +kernel
theorem dX2_learn_82 : decode cX2_learn 82 = .ok (.invokevirtual 57, 3) := by decide +kernel
theorem dX2_learn_85 : decode cX2_learn 85 = .ok (.iastore, 1) := by decide +kernel
theorem dX2_learn_86 : decode cX2_learn 86 = .ok (.aload_n 0, 1) := by decide +kernel
theorem dX2_learn_87 : decode cX2_learn 87 = .ok (.getfield 19, 3) := by decide +kernel
theorem dX2_learn_90 : decode cX2_learn 90 = .ok (.iload_n 3, 1) := by decide +kernel
theorem dX2_learn_91 : decode cX2_learn 91 = .ok (.iconst 1, 1) := by decide +kernel
theorem dX2_learn_92 : decode cX2_learn 92 = .ok (.bastore, 1) := by decide +kernel
theorem dX2_learn_93 : decode cX2_learn 93 = .ok (.return_, 1) := by decide +kernel
theorem dX2_learnAll_0 : decode cX2_learnAll 0 = .ok (.iconst 0, 1) := by decide +kernel
theorem dX2_learnAll_1 : decode cX2_learnAll 1 = .ok (.istore_n 2, 1) := by decide +kernel
theorem dX2_learnAll_2 : decode cX2_learnAll 2 = .ok (.iload_n 2, 1) := by decide +kernel
theorem dX2_learnAll_3 : decode cX2_learnAll 3 = .ok (.aload_n 0, 1) := by decide +kernel
theorem dX2_learnAll_4 : decode cX2_learnAll 4 = .ok (.getfield 9, 3) := by decide +kernel
theorem dX2_learnAll_7 : decode cX2_learnAll 7 = .ok (.invokevirtual 61, 3) := by decide +kernel
theorem dX2_learnAll_10 : decode cX2_learnAll 10 = .ok (.if_icmp .ge 15, 3) := by decide +kernel
theorem dX2_learnAll_13 : decode cX2_learnAll 13 = .ok (.aload_n 0, 1) := by decide +kernel
theorem dX2_learnAll_14 : decode cX2_learnAll 14 = .ok (.iload_n 2, 1) := by decide +kernel
theorem dX2_learnAll_15 : decode cX2_learnAll 15 = .ok (.iload_n 1, 1) := by decide +kernel
theorem dX2_learnAll_16 : decode cX2_learnAll 16 = .ok (.invokevirtual 64, 3) := by decide +kernel
theorem dX2_learnAll_19 : decode cX2_learnAll 19 = .ok (.iinc 2 1, 3) := by decide +kernel
theorem dX2_learnAll_22 : decode cX2_learnAll 22 = .ok (.goto (-20), 3) := by decide +kernel
theorem dX2_learnAll_25 : decode cX2_learnAll 25 = .ok (.return_, 1) := by decide +kernel
theorem dX2_of_0 : decode cX2_of 0 = .ok (.aload_n 0, 1) := by decide +kernel
theorem dX2_of_1 : decode cX2_of 1 = .ok (.getfield 9, 3) := by decide +kernel
theorem dX2_of_4 : decode cX2_of 4 = .ok (.iload_n 1, 1) := by decide +kernel
theorem dX2_of_5 : decode cX2_of 5 = .ok (.invokevirtual 34, 3) := by decide +kernel
theorem dX2_of_8 : decode cX2_of 8 = .ok (.ifCond .eq 28, 3) := by decide +kernel
theorem dX2_of_11 : decode cX2_of 11 = .ok (.aload_n 0, 1) := by decide +kernel
theorem dX2_of_12 : decode cX2_of 12 = .ok (.getfield 9, 3) := by decide +kernel
theorem dX2_of_15 : decode cX2_of 15 = .ok (.iload_n 2, 1) := by decide +kernel
theorem dX2_of_16 : decode cX2_of 16 = .ok (.invokevirtual 40, 3) := by decide +kernel
theorem dX2_of_19 : decode cX2_of 19 = .ok (.ifCond .eq 17, 3) := by decide +kernel
theorem dX2_of_22 : decode cX2_of 22 = .ok (.aload_n 0, 1) := by decide +kernel
theorem dX2_of_23 : decode cX2_of 23 = .ok (.getfield 23, 3) := by decide +kernel
theorem dX2_of_26 : decode cX2_of 26 = .ok (.iload_n 2, 1) := by decide +kernel
theorem dX2_of_27 : decode cX2_of 27 = .ok (.bipush 12, 2) := by decide +kernel
theorem dX2_of_29 : decode cX2_of 29 = .ok (.imul, 1) := by decide +kernel
theorem dX2_of_30 : decode cX2_of 30 = .ok (.iload_n 1, 1) := by decide +kernel
theorem dX2_of_31 : decode cX2_of 31 = .ok (.iadd, 1) := by decide +kernel
theorem dX2_of_32 : decode cX2_of 32 = .ok (.iaload, 1) := by decide +kernel
theorem dX2_of_33 : decode cX2_of 33 = .ok (.goto 5, 3) := by decide +kernel
theorem dX2_of_36 : decode cX2_of 36 = .ok (.bipush (-6), 2) := by decide +kernel
theorem dX2_of_38 : decode cX2_of 38 = .ok (.ireturn, 1) := by decide +kernel
theorem dX2_used_0 : decode cX2_used 0 = .ok (.aload_n 0, 1) := by decide +kernel
theorem dX2_used_1 : decode cX2_used 1 = .ok (.getfield 9, 3) := by decide +kernel
theorem dX2_used_4 : decode cX2_used 4 = .ok (.iload_n 1, 1) := by decide +kernel
theorem dX2_used_5 : decode cX2_used 5 = .ok (.invokevirtual 34, 3) := by decide +kernel
theorem dX2_used_8 : decode cX2_used 8 = .ok (.ifCond .eq 28, 3) := by decide +kernel
theorem dX2_used_11 : decode cX2_used 11 = .ok (.aload_n 0, 1) := by decide +kernel
theorem dX2_used_12 : decode cX2_used 12 = .ok (.getfield 9, 3) := by decide +kernel
theorem dX2_used_15 : decode cX2_used 15 = .ok (.iload_n 2, 1) := by decide +kernel
theorem dX2_used_16 : decode cX2_used 16 = .ok (.invokevirtual 40, 3) := by decide +kernel
theorem dX2_used_19 : decode cX2_used 19 = .ok (.ifCond .eq 17, 3) := by decide +kernel
theorem dX2_used_22 : decode cX2_used 22 = .ok (.aload_n 0, 1) := by decide +kernel
theorem dX2_used_23 : decode cX2_used 23 = .ok (.getfield 27, 3) := by decide +kernel
theorem dX2_used_26 : decode cX2_used 26 = .ok (.iload_n 2, 1) := by decide +kernel
theorem dX2_used_27 : decode cX2_used 27 = .ok (.bipush 12, 2) := by decide +kernel
theorem dX2_used_29 : decode cX2_used 29 = .ok (.imul, 1) := by decide +kernel
theorem dX2_used_30 : decode cX2_used 30 = .ok (.iload_n 1, 1) := by decide +kernel
theorem dX2_used_31 : decode cX2_used 31 = .ok (.iadd, 1) := by decide +kernel
theorem dX2_used_32 : decode cX2_used 32 = .ok (.iaload, 1) := by decide +kernel
theorem dX2_used_33 : decode cX2_used 33 = .ok (.goto 4, 3) := by decide +kernel
theorem dX2_used_36 : decode cX2_used 36 = .ok (.iconst 0, 1) := by decide +kernel
theorem dX2_used_37 : decode cX2_used 37 = .ok (.ireturn, 1) := by decide +kernel
theorem dX2_holds_0 : decode cX2_holds 0 = .ok (.aload_n 0, 1) := by decide +kernel
theorem dX2_holds_1 : decode cX2_holds 1 = .ok (.getfield 9, 3) := by decide +kernel
theorem dX2_holds_4 : decode cX2_holds 4 = .ok (.iload_n 1, 1) := by decide +kernel
theorem dX2_holds_5 : decode cX2_holds 5 = .ok (.invokevirtual 34, 3) := by decide +kernel
theorem dX2_holds_8 : decode cX2_holds 8 = .ok (.ifCond .eq 40, 3) := by decide +kernel
theorem dX2_holds_11 : decode cX2_holds 11 = .ok (.aload_n 0, 1) := by decide +kernel
theorem dX2_holds_12 : decode cX2_holds 12 = .ok (.getfield 9, 3) := by decide +kernel
theorem dX2_holds_15 : decode cX2_holds 15 = .ok (.iload_n 2, 1) := by decide +kernel
theorem dX2_holds_16 : decode cX2_holds 16 = .ok (.invokevirtual 40, 3) := by decide +kernel
theorem dX2_holds_19 : decode cX2_holds 19 = .ok (.ifCond .eq 29, 3) := by decide +kernel
theorem dX2_holds_22 : decode cX2_holds 22 = .ok (.aload_n 0, 1) := by decide +kernel
theorem dX2_holds_23 : decode cX2_holds 23 = .ok (.getfield 23, 3) := by decide +kernel
theorem dX2_holds_26 : decode cX2_holds 26 = .ok (.iload_n 2, 1) := by decide +kernel
theorem dX2_holds_27 : decode cX2_holds 27 = .ok (.bipush 12, 2) := by decide +kernel
theorem dX2_holds_29 : decode cX2_holds 29 = .ok (.imul, 1) := by decide +kernel
theorem dX2_holds_30 : decode cX2_holds 30 = .ok (.iload_n 1, 1) := by decide +kernel
theorem dX2_holds_31 : decode cX2_holds 31 = .ok (.iadd, 1) := by decide +kernel
theorem dX2_holds_32 : decode cX2_holds 32 = .ok (.iaload, 1) := by decide +kernel
theorem dX2_holds_33 : decode cX2_holds 33 = .ok (.aload_n 0, 1) := by decide +kernel
theorem dX2_holds_34 : decode cX2_holds 34 = .ok (.getfield 9, 3) := by decide +kernel
theorem dX2_holds_37 : decode cX2_holds 37 = .ok (.iload_n 1, 1) := by decide +kernel
theorem dX2_holds_38 : decode cX2_holds 38 = .ok (.invokevirtual 68, 3) := by decide +kernel
theorem dX2_holds_41 : decode cX2_holds 41 = .ok (.if_icmp .ne 7, 3) := by decide +kernel
theorem dX2_holds_44 : decode cX2_holds 44 = .ok (.iconst 1, 1) := by decide +kernel
theorem dX2_holds_45 : decode cX2_holds 45 = .ok (.goto 4, 3) := by decide +kernel
theorem dX2_holds_48 : decode cX2_holds 48 = .ok (.iconst 0, 1) := by decide +kernel
theorem dX2_holds_49 : decode cX2_holds 49 = .ok (.ireturn, 1) := by decide +kernel
theorem dX2_holding_0 : decode cX2_holding 0 = .ok (.iconst 0, 1) := by decide +kernel
theorem dX2_holding_1 : decode cX2_holding 1 = .ok (.istore_n 2, 1) := by decide +kernel
theorem dX2_holding_2 : decode cX2_holding 2 = .ok (.iconst 0, 1) := by decide +kernel
theorem dX2_holding_3 : decode cX2_holding 3 = .ok (.istore_n 3, 1) := by decide +kernel
theorem dX2_holding_4 : decode cX2_holding 4 = .ok (.iload_n 3, 1) := by decide +kernel
theorem dX2_holding_5 : decode cX2_holding 5 = .ok (.aload_n 0, 1) := by decide +kernel
theorem dX2_holding_6 : decode cX2_holding 6 = .ok (.getfield 9, 3) := by decide +kernel
theorem dX2_holding_9 : decode cX2_holding 9 = .ok (.invokevirtual 61, 3) := by decide +kernel
theorem dX2_holding_12 : decode cX2_holding 12 = .ok (.if_icmp .ge 24, 3) := by decide +kernel
theorem dX2_holding_15 : decode cX2_holding 15 = .ok (.aload_n 0, 1) := by decide +kernel
theorem dX2_holding_16 : decode cX2_holding 16 = .ok (.iload_n 3, 1) := by decide +kernel
theorem dX2_holding_17 : decode cX2_holding 17 = .ok (.iload_n 1, 1) := by decide +kernel
theorem dX2_holding_18 : decode cX2_holding 18 = .ok (.invokevirtual 72, 3) := by decide +kernel
theorem dX2_holding_21 : decode cX2_holding 21 = .ok (.ifCond .eq 9, 3) := by decide +kernel
theorem dX2_holding_24 : decode cX2_holding 24 = .ok (.iload_n 2, 1) := by decide +kernel
theorem dX2_holding_25 : decode cX2_holding 25 = .ok (.iconst 1, 1) := by decide +kernel
theorem dX2_holding_26 : decode cX2_holding 26 = .ok (.iload_n 3, 1) := by decide +kernel
theorem dX2_holding_27 : decode cX2_holding 27 = .ok (.ishl, 1) := by decide +kernel
theorem dX2_holding_28 : decode cX2_holding 28 = .ok (.ior, 1) := by decide +kernel
theorem dX2_holding_29 : decode cX2_holding 29 = .ok (.istore_n 2, 1) := by decide +kernel
theorem dX2_holding_30 : decode cX2_holding 30 = .ok (.iinc 3 1, 3) := by decide +kernel
theorem dX2_holding_33 : decode cX2_holding 33 = .ok (.goto (-29), 3) := by decide +kernel
theorem dX2_holding_36 : decode cX2_holding 36 = .ok (.iload_n 2, 1) := by decide +kernel
theorem dX2_holding_37 : decode cX2_holding 37 = .ok (.ireturn, 1) := by decide +kernel
theorem dX2_users_0 : decode cX2_users 0 = .ok (.iconst 0, 1) := by decide +kernel
theorem dX2_users_1 : decode cX2_users 1 = .ok (.istore_n 3, 1) := by decide +kernel
theorem dX2_users_2 : decode cX2_users 2 = .ok (.iconst 0, 1) := by decide +kernel
theorem dX2_users_3 : decode cX2_users 3 = .ok (.istore 4, 2) := by decide +kernel
theorem dX2_users_5 : decode cX2_users 5 = .ok (.iload 4, 2) := by decide +kernel
theorem dX2_users_7 : decode cX2_users 7 = .ok (.aload_n 0, 1) := by decide +kernel
theorem dX2_users_8 : decode cX2_users 8 = .ok (.getfield 9, 3) := by decide +kernel
theorem dX2_users_11 : decode cX2_users 11 = .ok (.invokevirtual 61, 3) := by decide +kernel
theorem dX2_users_14 : decode cX2_users 14 = .ok (.if_icmp .ge 31, 3) := by decide +kernel
theorem dX2_users_17 : decode cX2_users 17 = .ok (.aload_n 0, 1) := by decide +kernel
theorem dX2_users_18 : decode cX2_users 18 = .ok (.iload 4, 2) := by decide +kernel
theorem dX2_users_20 : decode cX2_users 20 = .ok (.iload_n 2, 1) := by decide +kernel
theorem dX2_users_21 : decode cX2_users 21 = .ok (.invokevirtual 76, 3) := by decide +kernel
theorem dX2_users_24 : decode cX2_users 24 = .ok (.iload_n 1, 1) := by decide +kernel
theorem dX2_users_25 : decode cX2_users 25 = .ok (.ishr, 1) := by decide +kernel
theorem dX2_users_26 : decode cX2_users 26 = .ok (.iconst 1, 1) := by decide +kernel
theorem dX2_users_27 : decode cX2_users 27 = .ok (.iand, 1) := by decide +kernel
theorem dX2_users_28 : decode cX2_users 28 = .ok (.iconst 1, 1) := by decide +kernel
theorem dX2_users_29 : decode cX2_users 29 = .ok (.if_icmp .ne 10, 3) := by decide +kernel
theorem dX2_users_32 : decode cX2_users 32 = .ok (.iload_n 3, 1) := by decide +kernel
theorem dX2_users_33 : decode cX2_users 33 = .ok (.iconst 1, 1) := by decide +kernel
theorem dX2_users_34 : decode cX2_users 34 = .ok (.iload 4, 2) := by decide +kernel
theorem dX2_users_36 : decode cX2_users 36 = .ok (.ishl, 1) := by decide +kernel
theorem dX2_users_37 : decode cX2_users 37 = .ok (.ior, 1) := by decide +kernel
theorem dX2_users_38 : decode cX2_users 38 = .ok (.istore_n 3, 1) := by decide +kernel
theorem dX2_users_39 : decode cX2_users 39 = .ok (.iinc 4 1, 3) := by decide +kernel
theorem dX2_users_42 : decode cX2_users 42 = .ok (.goto (-37), 3) := by decide +kernel
theorem dX2_users_45 : decode cX2_users 45 = .ok (.iload_n 3, 1) := by decide +kernel
theorem dX2_users_46 : decode cX2_users 46 = .ok (.ireturn, 1) := by decide +kernel
theorem dX3_init_0 : decode cX3_init 0 = .ok (.aload_n 0, 1) := by decide +kernel
theorem dX3_init_1 : decode cX3_init 1 = .ok (.invokespecial 3, 3) := by decide +kernel
theorem dX3_init_4 : decode cX3_init 4 = .ok (.aload_n 0, 1) := by decide +kernel
theorem dX3_init_5 : decode cX3_init 5 = .ok (.bipush 8, 2) := by decide +kernel
theorem dX3_init_7 : decode cX3_init 7 = .ok (.anewarray 9, 3) := by decide +kernel
theorem dX3_init_10 : decode cX3_init 10 = .ok (.putfield 11, 3) := by decide +kernel
theorem dX3_init_13 : decode cX3_init 13 = .ok (.iconst 0, 1) := by decide +kernel
theorem dX3_init_14 : decode cX3_init 14 = .ok (.istore_n 2, 1) := by decide +kernel
theorem dX3_init_15 : decode cX3_init 15 = .ok (.iload_n 2, 1) := by decide +kernel
theorem dX3_init_16 : decode cX3_init 16 = .ok (.bipush 8, 2) := by decide +kernel
theorem dX3_init_18 : decode cX3_init 18 = .ok (.if_icmp .ge 16, 3) := by decide +kernel
theorem dX3_init_21 : decode cX3_init 21 = .ok (.aload_n 0, 1) := by decide +kernel
theorem dX3_init_22 : decode cX3_init 22 = .ok (.getfield 11, 3) := by decide +kernel
theorem dX3_init_25 : decode cX3_init 25 = .ok (.iload_n 2, 1) := by decide +kernel
theorem dX3_init_26 : decode cX3_init 26 = .ok (.aload_n 1, 1) := by decide +kernel
theorem dX3_init_27 : decode cX3_init 27 = .ok (.aastore, 1) := by decide +kernel
theorem dX3_init_28 : decode cX3_init 28 = .ok (.iinc 2 1, 3) := by decide +kernel
theorem dX3_init_31 : decode cX3_init 31 = .ok (.goto (-16), 3) := by decide +kernel
theorem dX3_init_34 : decode cX3_init 34 = .ok (.return_, 1) := by decide +kernel
theorem dX3_take_0 : decode cX3_take 0 = .ok (.iconst 0, 1) := by decide +kernel
theorem dX3_take_1 : decode cX3_take 1 = .ok (.istore_n 3, 1) := by decide +kernel
theorem dX3_take_2 : decode cX3_take 2 = .ok (.iload_n 3, 1) := by decide +kernel
theorem dX3_take_3 : decode cX3_take 3 = .ok (.bipush 8, 2) := by decide +kernel
theorem dX3_take_5 : decode cX3_take 5 = .ok (.if_icmp .ge 21, 3) := by decide +kernel
theorem dX3_take_8 : decode cX3_take 8 = .ok (.aload_n 0, 1) := by decide +kernel
theorem dX3_take_9 : decode cX3_take 9 = .ok (.getfield 11, 3) := by decide +kernel
theorem dX3_take_12 : decode cX3_take 12 = .ok (.iload_n 3, 1) := by decide +kernel
theorem dX3_take_13 : decode cX3_take 13 = .ok (.aload_n 1, 1) := by decide +kernel
theorem dX3_take_14 : decode cX3_take 14 = .ok (.iload_n 2, 1) := by decide +kernel
theorem dX3_take_15 : decode cX3_take 15 = .ok (.iload_n 3, 1) := by decide +kernel
theorem dX3_take_16 : decode cX3_take 16 = .ok (.invokevirtual 17, 3) := by decide +kernel
theorem dX3_take_19 : decode cX3_take 19 = .ok (.aastore, 1) := by decide +kernel
theorem dX3_take_20 : decode cX3_take 20 = .ok (.iinc 3 1, 3) := by decide +kernel
theorem dX3_take_23 : decode cX3_take 23 = .ok (.goto (-21), 3) := by decide +kernel
theorem dX3_take_26 : decode cX3_take 26 = .ok (.return_, 1) := by decide +kernel
theorem dX3_replace_0 : decode cX3_replace 0 = .ok (.iload_n 1, 1) := by decide +kernel
theorem dX3_replace_1 : decode cX3_replace 1 = .ok (.invokestatic 23, 3) := by decide +kernel
theorem dX3_replace_4 : decode cX3_replace 4 = .ok (.ifCond .eq 10, 3) := by decide +kernel
theorem dX3_replace_7 : decode cX3_replace 7 = .ok (.aload_n 0, 1) := by decide +kernel
theorem dX3_replace_8 : decode cX3_replace 8 = .ok (.getfield 11, 3) := by decide +kernel
theorem dX3_replace_11 : decode cX3_replace 11 = .ok (.iload_n 1, 1) := by decide +kernel
theorem dX3_replace_12 : decode cX3_replace 12 = .ok (.aload_n 2, 1) := by decide +kernel
theorem dX3_replace_13 : decode cX3_replace 13 = .ok (.aastore, 1) := by decide +kernel
theorem dX3_replace_14 : decode cX3_replace 14 = .ok (.return_, 1) := by decide +kernel
theorem dX3_outcome_0 : decode cX3_outcome 0 = .ok (.aload_n 0, 1) := by decide +kernel
theorem dX3_outcome_1 : decode cX3_outcome 1 = .ok (.iconst 0, 1) := by decide +kernel
theorem dX3_outcome_2 : decode cX3_outcome 2 = .ok (.putfield 27, 3) := by decide +kernel
theorem dX3_outcome_5 : decode cX3_outcome 5 = .ok (.aload_n 0, 1) := by decide +kernel
theorem dX3_outcome_6 : decode cX3_outcome 6 = .ok (.iconst 0, 1) := by decide +kernel
theorem dX3_outcome_7 : decode cX3_outcome 7 = .ok (.putfield 31, 3) := by decide +kernel
theorem dX3_outcome_10 : decode cX3_outcome 10 = .ok (.aload_n 0, 1) := by decide +kernel
theorem dX3_outcome_11 : decode cX3_outcome 11 = .ok (.iconst 0, 1) := by decide +kernel
theorem dX3_outcome_12 : decode cX3_outcome 12 = .ok (.putfield 34, 3) := by decide +kernel
theorem dX3_outcome_15 : decode cX3_outcome 15 = .ok (.aload_n 0, 1) := by decide +kernel
theorem dX3_outcome_16 : decode cX3_outcome 16 = .ok (.iconst 0, 1) := by decide +kernel
theorem dX3_outcome_17 : decode cX3_outcome 17 = .ok (.putfield 37, 3) := by decide +kernel
theorem dX3_outcome_20 : decode cX3_outcome 20 = .ok (.aload_n 0, 1) := by decide +kernel
theorem dX3_outcome_21 : decode cX3_outcome 21 = .ok (.aload_n 1, 1) := by decide +kernel
theorem dX3_outcome_22 : decode cX3_outcome 22 = .ok (.iload_n 2, 1) := by decide +kernel
theorem dX3_outcome_23 : decode cX3_outcome 23 = .ok (.iconst 0, 1) := by decide +kernel
theorem dX3_outcome_24 : decode cX3_outcome 24 = .ok (.invokevirtual 40, 3) := by decide +kernel
theorem dX3_outcome_27 : decode cX3_outcome 27 = .ok (.ireturn, 1) := by decide +kernel
theorem dX3_used_0 : decode cX3_used 0 = .ok (.aload_n 0, 1) := by decide +kernel
theorem dX3_used_1 : decode cX3_used 1 = .ok (.getfield 37, 3) := by decide +kernel
theorem dX3_used_4 : decode cX3_used 4 = .ok (.ireturn, 1) := by decide +kernel
theorem dX3_part_0 : decode cX3_part 0 = .ok (.iload_n 3, 1) := by decide +kernel
theorem dX3_part_1 : decode cX3_part 1 = .ok (.bipush 6, 2) := by decide +kernel
theorem dX3_part_3 : decode cX3_part 3 = .ok (.if_icmp .le 6, 3) := by decide +kernel
theorem dX3_part_6 : decode cX3_part 6 = .ok (.bipush (-11), 2) := by decide +kernel
theorem dX3_part_8 : decode cX3_part 8 = .ok (.ireturn, 1) := by decide +kernel
theorem dX3_part_9 : decode cX3_part 9 = .ok (.aload_n 1, 1) := by decide +kernel
theorem dX3_part_10 : decode cX3_part 10 = .ok (.aload_n 0, 1) := by decide +kernel
theorem dX3_part_11 : decode cX3_part 11 = .ok (.getfield 27, 3) := by decide +kernel
theorem dX3_part_14 : decode cX3_part 14 = .ok (.invokevirtual 44, 3) := by decide +kernel
theorem dX3_part_17 : decode cX3_part 17 = .ok (.istore 4, 2) := by decide +kernel
theorem dX3_part_19 : decode cX3_part 19 = .ok (.aload_n 0, 1) := by decide +kernel
theorem dX3_part_20 : decode cX3_part 20 = .ok (.dup, 1) := by decide +kernel
theorem dX3_part_21 : decode cX3_part 21 = .ok (.getfield 27, 3) := by decide +kernel
theorem dX3_part_24 : decode cX3_part 24 = .ok (.iconst 1, 1) := by decide +kernel
theorem dX3_part_25 : decode cX3_part 25 = .ok (.iadd, 1) := by decide +kernel
theorem dX3_part_26 : decode cX3_part 26 = .ok (.putfield 27, 3) := by decide +kernel
theorem dX3_part_29 : decode cX3_part 29 = .ok (.iload 4, 2) := by decide +kernel
theorem dX3_part_31 : decode cX3_part 31 = .ok (.bipush 120, 2) := by decide +kernel
theorem dX3_part_33 : decode cX3_part 33 = .ok (.if_icmp .ne 5, 3) := by decide +kernel
theorem dX3_part_36 : decode cX3_part 36 = .ok (.iload_n 2, 1) := by decide +kernel
theorem dX3_part_37 : decode cX3_part 37 = .ok (.ireturn, 1) := by decide +kernel
theorem dX3_part_38 : decode cX3_part 38 = .ok (.iload 4, 2) := by decide +kernel
theorem dX3_part_40 : decode cX3_part 40 = .ok (.invokestatic 48, 3) := by decide +kernel
theorem dX3_part_43 : decode cX3_part 43 = .ok (.ifCond .eq 9, 3) := by decide +kernel
theorem dX3_part_46 : decode cX3_part 46 = .ok (.iload 4, 2) := by decide +kernel
theorem dX3_part_48 : decode cX3_part 48 = .ok (.bipush 48, 2) := by decide +kernel
theorem dX3_part_50 : decode cX3_part 50 = .ok (.isub, 1) := by decide +kernel
theorem dX3_part_51 : decode cX3_part 51 = .ok (.ireturn, 1) := by decide +kernel
theorem dX3_part_52 : decode cX3_part 52 = .ok (.aload_n 0, 1) := by decide +kernel
theorem dX3_part_53 : decode cX3_part 53 = .ok (.aload_n 1, 1) := by decide +kernel
theorem dX3_part_54 : decode cX3_part 54 = .ok (.iload_n 2, 1) := by decide +kernel
theorem dX3_part_55 : decode cX3_part 55 = .ok (.iload_n 3, 1) := by decide +kernel
theorem dX3_part_56 : decode cX3_part 56 = .ok (.iconst 1, 1) := by decide +kernel
theorem dX3_part_57 : decode cX3_part 57 = .ok (.iadd, 1) := by decide +kernel
theorem dX3_part_58 : decode cX3_part 58 = .ok (.invokevirtual 40, 3) := by decide +kernel
theorem dX3_part_61 : decode cX3_part 61 = .ok (.istore 5, 2) := by decide +kernel
theorem dX3_part_63 : decode cX3_part 63 = .ok (.iload 5, 2) := by decide +kernel
theorem dX3_part_65 : decode cX3_part 65 = .ok (.ifCond .ge 6, 3) := by decide +kernel
theorem dX3_part_68 : decode cX3_part 68 = .ok (.iload 5, 2) := by decide +kernel
theorem dX3_part_70 : decode cX3_part 70 = .ok (.ireturn, 1) := by decide +kernel
theorem dX3_part_71 : decode cX3_part 71 = .ok (.iload 4, 2) := by decide +kernel
theorem dX3_part_73 : decode cX3_part 73 = .ok (.invokestatic 53, 3) := by decide +kernel
theorem dX3_part_76 : decode cX3_part 76 = .ok (.ifCond .eq 15, 3) := by decide +kernel
theorem dX3_part_79 : decode cX3_part 79 = .ok (.aload_n 0, 1) := by decide +kernel
theorem dX3_part_80 : decode cX3_part 80 = .ok (.iload 4, 2) := by decide +kernel
theorem dX3_part_82 : decode cX3_part 82 = .ok (.bipush 97, 2) := by decide +kernel
theorem dX3_part_84 : decode cX3_part 84 = .ok (.isub, 1) := by decide +kernel
theorem dX3_part_85 : decode cX3_part 85 = .ok (.iload 5, 2) := by decide +kernel
theorem dX3_part_87 : decode cX3_part 87 = .ok (.invokevirtual 54, 3) := by decide +kernel
theorem dX3_part_90 : decode cX3_part 90 = .ok (.ireturn, 1) := by decide +kernel
theorem dX3_part_91 : decode cX3_part 91 = .ok (.iload 4, 2) := by decide +kernel
theorem dX3_part_93 : decode cX3_part 93 = .ok (.bipush 63, 2) := by decide +kernel
theorem dX3_part_95 : decode cX3_part 95 = .ok (.if_icmp .ne 20, 3) := by decide +kernel
theorem dX3_part_98 : decode cX3_part 98 = .ok (.iload 5, 2) := by decide +kernel
theorem dX3_part_100 : decode cX3_part 100 = .ok (.ifCond .eq 15, 3) := by decide +kernel
theorem dX3_part_103 : decode cX3_part 103 = .ok (.aload_n 0, 1) := by decide +kernel
theorem dX3_part_104 : decode cX3_part 104 = .ok (.aload_n 1, 1) := by decide +kernel
theorem dX3_part_105 : decode cX3_part 105 = .ok (.aload_n 0, 1) := by decide +kernel
theorem dX3_part_106 : decode cX3_part 106 = .ok (.getfield 27, 3) := by decide +kernel
theorem dX3_part_109 : decode cX3_part 109 = .ok (.invokevirtual 58, 3) := by decide +kernel
theorem dX3_part_112 : decode cX3_part 112 = .ok (.putfield 27, 3) := by decide +kernel
theorem dX3_part_115 : decode cX3_part 115 = .ok (.aload_n 0, 1) := by decide +kernel
theorem dX3_part_116 : decode cX3_part 116 = .ok (.aload_n 1, 1) := by decide +kernel
theorem dX3_part_117 : decode cX3_part 117 = .ok (.iload_n 2, 1) := by decide +kernel
theorem dX3_part_118 : decode cX3_part 118 = .ok (.iload_n 3, 1) := by decide +kernel
theorem dX3_part_119 : decode cX3_part 119 = .ok (.iconst 1, 1) := by decide +kernel
theorem dX3_part_120 : decode cX3_part 120 = .ok (.iadd, 1) := by decide +kernel
theorem dX3_part_121 : decode cX3_part 121 = .ok (.invokevirtual 40, 3) := by decide +kernel
theorem dX3_part_124 : decode cX3_part 124 = .ok (.istore 6, 2) := by decide +kernel
theorem dX3_part_126 : decode cX3_part 126 = .ok (.iload 6, 2) := by decide +kernel
theorem dX3_part_128 : decode cX3_part 128 = .ok (.ifCond .ge 6, 3) := by decide +kernel
theorem dX3_part_131 : decode cX3_part 131 = .ok (.iload 6, 2) := by decide +kernel
theorem dX3_part_133 : decode cX3_part 133 = .ok (.ireturn, 1) := by decide +kernel
theorem dX3_part_134 : decode cX3_part 134 = .ok (.iload 4, 2) := by decide +kernel
theorem dX3_part_136 : decode cX3_part 136 = .ok (.bipush 63, 2) := by decide +kernel
theorem dX3_part_138 : decode cX3_part 138 = .ok (.if_icmp .eq 13, 3) := by decide +kernel
theorem dX3_part_141 : decode cX3_part 141 = .ok (.iload 4, 2) := by decide +kernel
theorem dX3_part_143 : decode cX3_part 143 = .ok (.iload 5, 2) := by decide +kernel
theorem dX3_part_145 : decode cX3_part 145 = .ok (.iload 6, 2) := by decide +kernel
theorem dX3_part_147 : decode cX3_part 147 = .ok (.invokestatic 61, 3) := by decide +kernel
theorem dX3_part_150 : decode cX3_part 150 = .ok (.ireturn, 1) := by decide +kernel
theorem dX3_part_151 : decode cX3_part 151 = .ok (.iload 5, 2) := by decide +kernel
theorem dX3_part_153 : decode cX3_part 153 = .ok (.ifCond .ne 15, 3) := by decide +kernel
theorem dX3_part_156 : decode cX3_part 156 = .ok (.aload_n 0, 1) := by decide +kernel
theorem dX3_part_157 : decode cX3_part 157 = .ok (.aload_n 1, 1) := by decide +kernel
theorem dX3_part_158 : decode cX3_part 158 = .ok (.aload_n 0, 1) := by decide +kernel
theorem dX3_part_159 : decode cX3_part 159 = .ok (.getfield 27, 3) := by decide +kernel
theorem dX3_part_162 : decode cX3_part 162 = .ok (.invokevirtual 58, 3) := by decide +kernel
theorem dX3_part_165 : decode cX3_part 165 = .ok (.putfield 27, 3) := by decide +kernel
theorem dX3_part_168 : decode cX3_part 168 = .ok (.iload 6, 2) := by decide +kernel
theorem dX3_part_170 : decode cX3_part 170 = .ok (.ireturn, 1) := by decide +kernel
theorem dX3_give_0 : decode cX3_give 0 = .ok (.iload_n 1, 1) := by decide +kernel
theorem dX3_give_1 : decode cX3_give 1 = .ok (.invokestatic 23, 3) := by decide +kernel
theorem dX3_give_4 : decode cX3_give 4 = .ok (.ifCond .ne 6, 3) := by decide +kernel
theorem dX3_give_7 : decode cX3_give 7 = .ok (.bipush (-10), 2) := by decide +kernel
theorem dX3_give_9 : decode cX3_give 9 = .ok (.ireturn, 1) := by decide +kernel
theorem dX3_give_10 : decode cX3_give 10 = .ok (.aload_n 0, 1) := by decide +kernel
theorem dX3_give_11 : decode cX3_give 11 = .ok (.getfield 11, 3) := by decide +kernel
theorem dX3_give_14 : decode cX3_give 14 = .ok (.iload_n 1, 1) := by decide +kernel
theorem dX3_give_15 : decode cX3_give 15 = .ok (.aaload, 1) := by decide +kernel
theorem dX3_give_16 : decode cX3_give 16 = .ok (.invokevirtual 65, 3) := by decide +kernel
theorem dX3_give_19 : decode cX3_give 19 = .ok (.ifCond .ne 7, 3) := by decide +kernel
theorem dX3_give_22 : decode cX3_give 22 = .ok (.iconst 1, 1) := by decide +kernel
theorem dX3_give_23 : decode cX3_give 23 = .ok (.goto 4, 3) := by decide +kernel
theorem dX3_give_26 : decode cX3_give 26 = .ok (.iconst 0, 1) := by decide +kernel
theorem dX3_give_27 : decode cX3_give 27 = .ok (.istore_n 3, 1) := by decide +kernel
theorem dX3_give_28 : decode cX3_give 28 = .ok (.iload_n 3, 1) := by decide +kernel
theorem dX3_give_29 : decode cX3_give 29 = .ok (.ifCond .ne 25, 3) := by decide +kernel
theorem dX3_give_32 : decode cX3_give 32 = .ok (.aload_n 0, 1) := by decide +kernel
theorem dX3_give_33 : decode cX3_give 33 = .ok (.getfield 31, 3) := by decide +kernel
theorem dX3_give_36 : decode cX3_give 36 = .ok (.sipush 300, 3) := by decide +kernel
theorem dX3_give_39 : decode cX3_give 39 = .ok (.if_icmp .ge 12, 3) := by decide +kernel
theorem dX3_give_42 : decode cX3_give 42 = .ok (.aload_n 0, 1) := by decide +kernel
theorem dX3_give_43 : decode cX3_give 43 = .ok (.getfield 34, 3) := by decide +kernel
theorem dX3_give_46 : decode cX3_give 46 = .ok (.bipush 20, 2) := by decide +kernel
theorem dX3_give_48 : decode cX3_give 48 = .ok (.if_icmp .lt 6, 3) := by decide +kernel
theorem dX3_give_51 : decode cX3_give 51 = .ok (.bipush (-11), 2) := by decide +kernel
theorem dX3_give_53 : decode cX3_give 53 = .ok (.ireturn, 1) := by decide +kernel
theorem dX3_give_54 : decode cX3_give 54 = .ok (.aload_n 0, 1) := by decide +kernel
theorem dX3_give_55 : decode cX3_give 55 = .ok (.dup, 1) := by decide +kernel
theorem dX3_give_56 : decode cX3_give 56 = .ok (.getfield 37, 3) := by decide +kernel
theorem dX3_give_59 : decode cX3_give 59 = .ok (.iconst 1, 1) := by decide +kernel
theorem dX3_give_60 : decode cX3_give 60 = .ok (.iload_n 1, 1) := by decide +kernel
theorem dX3_give_61 : decode cX3_give 61 = .ok (.ishl, 1) := by decide +kernel
theorem dX3_give_62 : decode cX3_give 62 = .ok (.ior, 1) := by decide +kernel
theorem dX3_give_63 : decode cX3_give 63 = .ok (.putfield 37, 3) := by decide +kernel
theorem dX3_give_66 : decode cX3_give 66 = .ok (.iload_n 3, 1) := by decide +kernel
theorem dX3_give_67 : decode cX3_give 67 = .ok (.ifCond .eq 6, 3) := by decide +kernel
theorem dX3_give_70 : decode cX3_give 70 = .ok (.bipush (-10), 2) := by decide +kernel
theorem dX3_give_72 : decode cX3_give 72 = .ok (.ireturn, 1) := by decide +kernel
theorem dX3_give_73 : decode cX3_give 73 = .ok (.aload_n 0, 1) := by decide +kernel
theorem dX3_give_74 : decode cX3_give 74 = .ok (.dup, 1) := by decide +kernel
theorem dX3_give_75 : decode cX3_give 75 = .ok (.getfield 31, 3) := by decide +kernel
theorem dX3_give_78 : decode cX3_give 78 = .ok (.iconst 1, 1) := by decide +kernel
theorem dX3_give_79 : decode cX3_give 79 = .ok (.iadd, 1) := by decide +kernel
theorem dX3_give_80 : decode cX3_give 80 = .ok (.putfield 31, 3) := by decide +kernel
theorem dX3_give_83 : decode cX3_give 83 = .ok (.aload_n 0, 1) := by decide +kernel
theorem dX3_give_84 : decode cX3_give 84 = .ok (.dup, 1) := by decide +kernel
theorem dX3_give_85 : decode cX3_give 85 = .ok (.getfield 34, 3) := by decide +kernel
theorem dX3_give_88 : decode cX3_give 88 = .ok (.iconst 1, 1) := by decide +kernel
theorem dX3_give_89 : decode cX3_give 89 = .ok (.iadd, 1) := by decide +kernel
theorem dX3_give_90 : decode cX3_give 90 = .ok (.putfield 34, 3) := by decide +kernel
theorem dX3_give_93 : decode cX3_give 93 = .ok (.aload_n 0, 1) := by decide +kernel
theorem dX3_give_94 : decode cX3_give 94 = .ok (.getfield 27, 3) := by decide +kernel
theorem dX3_give_97 : decode cX3_give 97 = .ok (.istore 4, 2) := by decide +kernel
theorem dX3_give_99 : decode cX3_give 99 = .ok (.aload_n 0, 1) := by decide +kernel
theorem dX3_give_100 : decode cX3_give 100 = .ok (.iconst 0, 1) := by decide +kernel
theorem dX3_give_101 : decode cX3_give 101 = .ok (.putfield 27, 3) := by decide +kernel
theorem dX3_give_104 : decode cX3_give 104 = .ok (.aload_n 0, 1) := by decide +kernel
theorem dX3_give_105 : decode cX3_give 105 = .ok (.aload_n 0, 1) := by decide +kernel
theorem dX3_give_106 : decode cX3_give 106 = .ok (.getfield 11, 3) := by decide +kernel
theorem dX3_give_109 : decode cX3_give 109 = .ok (.iload_n 1, 1) := by decide +kernel
theorem dX3_give_110 : decode cX3_give 110 = .ok (.aaload, 1) := by decide +kernel
theorem dX3_give_111 : decode cX3_give 111 = .ok (.iload_n 2, 1) := by decide +kernel
theorem dX3_give_112 : decode cX3_give 112 = .ok (.iconst 0, 1) := by decide +kernel
theorem dX3_give_113 : decode cX3_give 113 = .ok (.invokevirtual 40, 3) := by decide +kernel
theorem dX3_give_116 : decode cX3_give 116 = .ok (.istore 5, 2) := by decide +kernel
theorem dX3_give_118 : decode cX3_give 118 = .ok (.aload_n 0, 1) := by decide +kernel
theorem dX3_give_119 : decode cX3_give 119 = .ok (.iload 4, 2) := by decide +kernel
theorem dX3_give_121 : decode cX3_give 121 = .ok (.putfield 27, 3) := by decide +kernel
theorem dX3_give_124 : decode cX3_give 124 = .ok (.aload_n 0, 1) := by decide +kernel
theorem dX3_give_125 : decode cX3_give 125 = .ok (.dup, 1) := by decide +kernel
theorem dX3_give_126 : decode cX3_give 126 = .ok (.getfield 34, 3) := by decide +kernel
theorem dX3_give_129 : decode cX3_give 129 = .ok (.iconst 1, 1) := by decide +kernel
theorem dX3_give_130 : decode cX3_give 130 = .ok (.isub, 1) := by decide +kernel
theorem dX3_give_131 : decode cX3_give 131 = .ok (.putfield 34, 3) := by decide +kernel
theorem dX3_give_134 : decode cX3_give 134 = .ok (.iload 5, 2) := by decide +kernel
theorem dX3_give_136 : decode cX3_give 136 = .ok (.ireturn, 1) := by decide +kernel
theorem dX4_isWord_0 : decode cX4_isWord 0 = .ok (.iload_n 0, 1) := by decide +kernel
theorem dX4_isWord_1 : decode cX4_isWord 1 = .ok (.bipush 97, 2) := by decide +kernel
theorem dX4_isWord_3 : decode cX4_isWord 3 = .ok (.if_icmp .lt 13, 3) := by decide +kernel
theorem dX4_isWord_6 : decode cX4_isWord 6 = .ok (.iload_n 0, 1) := by decide +kernel
theorem dX4_isWord_7 : decode cX4_isWord 7 = .ok (.bipush 105, 2) := by decide +kernel
theorem dX4_isWord_9 : decode cX4_isWord 9 = .ok (.if_icmp .ge 7, 3) := by decide +kernel
theorem dX4_isWord_12 : decode cX4_isWord 12 = .ok (.iconst 1, 1) := by decide +kernel
theorem dX4_isWord_13 : decode cX4_isWord 13 = .ok (.goto 4, 3) := by decide +kernel
theorem dX4_isWord_16 : decode cX4_isWord 16 = .ok (.iconst 0, 1) := by decide +kernel
theorem dX4_isWord_17 : decode cX4_isWord 17 = .ok (.ireturn, 1) := by decide +kernel
theorem dX4_isDigit_0 : decode cX4_isDigit 0 = .ok (.iload_n 0, 1) := by decide +kernel
theorem dX4_isDigit_1 : decode cX4_isDigit 1 = .ok (.bipush 48, 2) := by decide +kernel
theorem dX4_isDigit_3 : decode cX4_isDigit 3 = .ok (.if_icmp .lt 13, 3) := by decide +kernel
theorem dX4_isDigit_6 : decode cX4_isDigit 6 = .ok (.iload_n 0, 1) := by decide +kernel
theorem dX4_isDigit_7 : decode cX4_isDigit 7 = .ok (.bipush 57, 2) := by decide +kernel
theorem dX4_isDigit_9 : decode cX4_isDigit 9 = .ok (.if_icmp .gt 7, 3) := by decide +kernel
theorem dX4_isDigit_12 : decode cX4_isDigit 12 = .ok (.iconst 1, 1) := by decide +kernel
theorem dX4_isDigit_13 : decode cX4_isDigit 13 = .ok (.goto 4, 3) := by decide +kernel
theorem dX4_isDigit_16 : decode cX4_isDigit 16 = .ok (.iconst 0, 1) := by decide +kernel
theorem dX4_isDigit_17 : decode cX4_isDigit 17 = .ok (.ireturn, 1) := by decide +kernel
theorem dX4_needs_0 : decode cX4_needs 0 = .ok (.iload_n 0, 1) := by decide +kernel
theorem dX4_needs_1 : decode cX4_needs 1 = .ok (.bipush 48, 2) := by decide +kernel
theorem dX4_needs_3 : decode cX4_needs 3 = .ok (.if_icmp .lt 11, 3) := by decide +kernel
theorem dX4_needs_6 : decode cX4_needs 6 = .ok (.iload_n 0, 1) := by decide +kernel
theorem dX4_needs_7 : decode cX4_needs 7 = .ok (.bipush 57, 2) := by decide +kernel
theorem dX4_needs_9 : decode cX4_needs 9 = .ok (.if_icmp .gt 5, 3) := by decide +kernel
theorem dX4_needs_12 : decode cX4_needs 12 = .ok (.iconst 0, 1) := by decide +kernel
theorem dX4_needs_13 : decode cX4_needs 13 = .ok (.ireturn, 1) := by decide +kernel
theorem dX4_needs_14 : decode cX4_needs 14 = .ok (.iload_n 0, 1) := by decide +kernel
theorem dX4_needs_15 : decode cX4_needs 15 = .ok (.lookupswitch 63 #[(42, 59), (43, 59), (45, 59), (63, 61), (109, 59), (120, 57)], 57) := by decide +kernel
theorem dX4_needs_72 : decode cX4_needs 72 = .ok (.iconst 0, 1) := by decide +kernel
theorem dX4_needs_73 : decode cX4_needs 73 = .ok (.ireturn, 1) := by decide +kernel
theorem dX4_needs_74 : decode cX4_needs 74 = .ok (.iconst 2, 1) := by decide +kernel
theorem dX4_needs_75 : decode cX4_needs 75 = .ok (.ireturn, 1) := by decide +kernel
theorem dX4_needs_76 : decode cX4_needs 76 = .ok (.iconst 3, 1) := by decide +kernel
theorem dX4_needs_77 : decode cX4_needs 77 = .ok (.ireturn, 1) := by decide +kernel
theorem dX4_needs_78 : decode cX4_needs 78 = .ok (.iload_n 0, 1) := by decide +kernel
theorem dX4_needs_79 : decode cX4_needs 79 = .ok (.bipush 97, 2) := by decide +kernel
theorem dX4_needs_81 : decode cX4_needs 81 = .ok (.if_icmp .lt 13, 3) := by decide +kernel
theorem dX4_needs_84 : decode cX4_needs 84 = .ok (.iload_n 0, 1) := by decide +kernel
theorem dX4_needs_85 : decode cX4_needs 85 = .ok (.bipush 105, 2) := by decide +kernel
theorem dX4_needs_87 : decode cX4_needs 87 = .ok (.if_icmp .ge 7, 3) := by decide +kernel
theorem dX4_needs_90 : decode cX4_needs 90 = .ok (.iconst 1, 1) := by decide +kernel
theorem dX4_needs_91 : decode cX4_needs 91 = .ok (.goto 5, 3) := by decide +kernel
theorem dX4_needs_94 : decode cX4_needs 94 = .ok (.bipush (-6), 2) := by decide +kernel
theorem dX4_needs_96 : decode cX4_needs 96 = .ok (.ireturn, 1) := by decide +kernel
theorem dX4_slipped_0 : decode cX4_slipped 0 = .ok (.iload_n 0, 1) := by decide +kernel
theorem dX4_slipped_1 : decode cX4_slipped 1 = .ok (.lookupswitch 68 #[(42, 62), (43, 59), (45, 62), (57, 65), (109, 62), (120, 65)], 59) := by decide +kernel
theorem dX4_slipped_60 : decode cX4_slipped 60 = .ok (.bipush 45, 2) := by decide +kernel
theorem dX4_slipped_62 : decode cX4_slipped 62 = .ok (.ireturn, 1) := by decide +kernel
theorem dX4_slipped_63 : decode cX4_slipped 63 = .ok (.bipush 43, 2) := by decide +kernel
theorem dX4_slipped_65 : decode cX4_slipped 65 = .ok (.ireturn, 1) := by decide +kernel
theorem dX4_slipped_66 : decode cX4_slipped 66 = .ok (.bipush 48, 2) := by decide +kernel
theorem dX4_slipped_68 : decode cX4_slipped 68 = .ok (.ireturn, 1) := by decide +kernel
theorem dX4_slipped_69 : decode cX4_slipped 69 = .ok (.iload_n 0, 1) := by decide +kernel
theorem dX4_slipped_70 : decode cX4_slipped 70 = .ok (.invokestatic 9, 3) := by decide +kernel
theorem dX4_slipped_73 : decode cX4_slipped 73 = .ok (.ifCond .eq 9, 3) := by decide +kernel
theorem dX4_slipped_76 : decode cX4_slipped 76 = .ok (.iload_n 0, 1) := by decide +kernel
theorem dX4_slipped_77 : decode cX4_slipped 77 = .ok (.iconst 1, 1) := by decide +kernel
theorem dX4_slipped_78 : decode cX4_slipped 78 = .ok (.iadd, 1) := by decide +kernel
theorem dX4_slipped_79 : decode cX4_slipped 79 = .ok (.goto 5, 3) := by decide +kernel
theorem dX4_slipped_82 : decode cX4_slipped 82 = .ok (.bipush (-6), 2) := by decide +kernel
theorem dX4_slipped_84 : decode cX4_slipped 84 = .ok (.ireturn, 1) := by decide +kernel
theorem dX4_joined_0 : decode cX4_joined 0 = .ok (.iload_n 0, 1) := by decide +kernel
theorem dX4_joined_1 : decode cX4_joined 1 = .ok (.tableswitch 61 42 45 #[51, 31, 61, 41], 31) := by decide +kernel
theorem dX4_joined_32 : decode cX4_joined 32 = .ok (.iload_n 1, 1) := by decide +kernel
theorem dX4_joined_33 : decode cX4_joined 33 = .ok (.iload_n 2, 1) := by decide +kernel
theorem dX4_joined_34 : decode cX4_joined 34 = .ok (.iadd, 1) := by decide +kernel
theorem dX4_joined_35 : decode cX4_joined 35 = .ok (.sipush 1000, 3) := by decide +kernel
theorem dX4_joined_38 : decode cX4_joined 38 = .ok (.invokestatic 15, 3) := by decide +kernel
theorem dX4_joined_41 : decode cX4_joined 41 = .ok (.ireturn, 1) := by decide +kernel
theorem dX4_joined_42 : decode cX4_joined 42 = .ok (.iload_n 1, 1) := by decide +kernel
theorem dX4_joined_43 : decode cX4_joined 43 = .ok (.iload_n 2, 1) := by decide +kernel
theorem dX4_joined_44 : decode cX4_joined 44 = .ok (.isub, 1) := by decide +kernel
theorem dX4_joined_45 : decode cX4_joined 45 = .ok (.sipush 1000, 3) := by decide +kernel
theorem dX4_joined_48 : decode cX4_joined 48 = .ok (.invokestatic 15, 3) := by decide +kernel
theorem dX4_joined_51 : decode cX4_joined 51 = .ok (.ireturn, 1) := by decide +kernel
theorem dX4_joined_52 : decode cX4_joined 52 = .ok (.iload_n 1, 1) := by decide +kernel
theorem dX4_joined_53 : decode cX4_joined 53 = .ok (.iload_n 2, 1) := by decide +kernel
theorem dX4_joined_54 : decode cX4_joined 54 = .ok (.imul, 1) := by decide +kernel
theorem dX4_joined_55 : decode cX4_joined 55 = .ok (.sipush 1000, 3) := by decide +kernel
theorem dX4_joined_58 : decode cX4_joined 58 = .ok (.invokestatic 15, 3) := by decide +kernel
theorem dX4_joined_61 : decode cX4_joined 61 = .ok (.ireturn, 1) := by decide +kernel
theorem dX4_joined_62 : decode cX4_joined 62 = .ok (.iload_n 1, 1) := by decide +kernel
theorem dX4_joined_63 : decode cX4_joined 63 = .ok (.iload_n 2, 1) := by decide +kernel
theorem dX4_joined_64 : decode cX4_joined 64 = .ok (.invokestatic 21, 3) := by decide +kernel
theorem dX4_joined_67 : decode cX4_joined 67 = .ok (.ireturn, 1) := by decide +kernel
theorem dX5_init_0 : decode cX5_init 0 = .ok (.aload_n 0, 1) := by decide +kernel
theorem dX5_init_1 : decode cX5_init 1 = .ok (.invokespecial 3, 3) := by decide +kernel
theorem dX5_init_4 : decode cX5_init 4 = .ok (.aload_n 0, 1) := by decide +kernel
theorem dX5_init_5 : decode cX5_init 5 = .ok (.aload_n 1, 1) := by decide +kernel
theorem dX5_init_6 : decode cX5_init 6 = .ok (.putfield 9, 3) := by decide +kernel
theorem dX5_init_9 : decode cX5_init 9 = .ok (.aload_n 0, 1) := by decide +kernel
theorem dX5_init_10 : decode cX5_init 10 = .ok (.aload_n 2, 1) := by decide +kernel
theorem dX5_init_11 : decode cX5_init 11 = .ok (.putfield 15, 3) := by decide +kernel
theorem dX5_init_14 : decode cX5_init 14 = .ok (.aload_n 0, 1) := by decide +kernel
theorem dX5_init_15 : decode cX5_init 15 = .ok (.aload_n 3, 1) := by decide +kernel
theorem dX5_init_16 : decode cX5_init 16 = .ok (.putfield 19, 3) := by decide +kernel
theorem dX5_init_19 : decode cX5_init 19 = .ok (.aload_n 0, 1) := by decide +kernel
theorem dX5_init_20 : decode cX5_init 20 = .ok (.aload 4, 2) := by decide +kernel
theorem dX5_init_22 : decode cX5_init 22 = .ok (.putfield 23, 3) := by decide +kernel
theorem dX5_init_25 : decode cX5_init 25 = .ok (.aload_n 0, 1) := by decide +kernel
theorem dX5_init_26 : decode cX5_init 26 = .ok (.sipush 320, 3) := by decide +kernel
theorem dX5_init_29 : decode cX5_init 29 = .ok (.newarray .int, 2) := by decide +kernel
theorem dX5_init_31 : decode cX5_init 31 = .ok (.putfield 27, 3) := by decide +kernel
theorem dX5_init_34 : decode cX5_init 34 = .ok (.aload_n 0, 1) := by decide +kernel
theorem dX5_init_35 : decode cX5_init 35 = .ok (.bipush 6, 2) := by decide +kernel
theorem dX5_init_37 : decode cX5_init 37 = .ok (.newarray .boolean, 2) := by decide +kernel
theorem dX5_init_39 : decode cX5_init 39 = .ok (.putfield 31, 3) := by decide +kernel
theorem dX5_init_42 : decode cX5_init 42 = .ok (.aload_n 0, 1) := by decide +kernel
theorem dX5_init_43 : decode cX5_init 43 = .ok (.sipush 1920, 3) := by decide +kernel
theorem dX5_init_46 : decode cX5_init 46 = .ok (.newarray .int, 2) := by decide +kernel
theorem dX5_init_48 : decode cX5_init 48 = .ok (.putfield 35, 3) := by decide +kernel
theorem dX5_init_51 : decode cX5_init 51 = .ok (.return_, 1) := by decide +kernel
theorem dX5_forget_0 : decode cX5_forget 0 = .ok (.iconst 0, 1) := by decide +kernel
theorem dX5_forget_1 : decode cX5_forget 1 = .ok (.istore_n 1, 1) := by decide +kernel
theorem dX5_forget_2 : decode cX5_forget 2 = .ok (.iload_n 1, 1) := by decide +kernel
theorem dX5_forget_3 : decode cX5_forget 3 = .ok (.bipush 6, 2) := by decide +kernel
theorem dX5_forget_5 : decode cX5_forget 5 = .ok (.if_icmp .ge 16, 3) := by decide +kernel
theorem dX5_forget_8 : decode cX5_forget 8 = .ok (.aload_n 0, 1) := by decide +kernel
theorem dX5_forget_9 : decode cX5_forget 9 = .ok (.getfield 31, 3) := by decide +kernel
theorem dX5_forget_12 : decode cX5_forget 12 = .ok (.iload_n 1, 1) := by decide +kernel
theorem dX5_forget_13 : decode cX5_forget 13 = .ok (.iconst 0, 1) := by decide +kernel
theorem dX5_forget_14 : decode cX5_forget 14 = .ok (.bastore, 1) := by decide +kernel
theorem dX5_forget_15 : decode cX5_forget 15 = .ok (.iinc 1 1, 3) := by decide +kernel
theorem dX5_forget_18 : decode cX5_forget 18 = .ok (.goto (-16), 3) := by decide +kernel
theorem dX5_forget_21 : decode cX5_forget 21 = .ok (.return_, 1) := by decide +kernel
theorem dX5_list_0 : decode cX5_list 0 = .ok (.iconst 0, 1) := by decide +kernel
theorem dX5_list_1 : decode cX5_list 1 = .ok (.istore_n 2, 1) := by decide +kernel
theorem dX5_list_2 : decode cX5_list 2 = .ok (.iconst 0, 1) := by decide +kernel
theorem dX5_list_3 : decode cX5_list 3 = .ok (.istore_n 3, 1) := by decide +kernel
theorem dX5_list_4 : decode cX5_list 4 = .ok (.iload_n 3, 1) := by decide +kernel
theorem dX5_list_5 : decode cX5_list 5 = .ok (.bipush 8, 2) := by decide +kernel
theorem dX5_list_7 : decode cX5_list 7 = .ok (.if_icmp .ge 77, 3) := by decide +kernel
theorem dX5_list_10 : decode cX5_list 10 = .ok (.aload_n 0, 1) := by decide +kernel
theorem dX5_list_11 : decode cX5_list 11 = .ok (.getfield 9, 3) := by decide +kernel
theorem dX5_list_14 : decode cX5_list 14 = .ok (.iload_n 1, 1) := by decide +kernel
theorem dX5_list_15 : decode cX5_list 15 = .ok (.iload_n 3, 1) := by decide +kernel
theorem dX5_list_16 : decode cX5_list 16 = .ok (.invokevirtual 38, 3) := by decide +kernel
theorem dX5_list_19 : decode cX5_list 19 = .ok (.astore 4, 2) := by decide +kernel
theorem dX5_list_21 : decode cX5_list 21 = .ok (.iconst 0, 1) := by decide +kernel
theorem dX5_list_22 : decode cX5_list 22 = .ok (.istore 5, 2) := by decide +kernel
theorem dX5_list_24 : decode cX5_list 24 = .ok (.iload 5, 2) := by decide +kernel
theorem dX5_list_26 : decode cX5_list 26 = .ok (.aload 4, 2) := by decide +kernel
theorem dX5_list_28 : decode cX5_list 28 = .ok (.invokevirtual 44, 3) := by decide +kernel
theorem dX5_list_31 : decode cX5_list 31 = .ok (.if_icmp .ge 47, 3) := by decide +kernel
theorem dX5_list_34 : decode cX5_list 34 = .ok (.aload 4, 2) := by decide +kernel
theorem dX5_list_36 : decode cX5_list 36 = .ok (.iload 5, 2) := by decide +kernel
theorem dX5_list_38 : decode cX5_list 38 = .ok (.invokevirtual 50, 3) := by decide +kernel
theorem dX5_list_41 : decode cX5_list 41 = .ok (.invokestatic 54, 3) := by decide +kernel
theorem dX5_list_44 : decode cX5_list 44 = .ok (.bipush (-6), 2) := by decide +kernel
theorem dX5_list_46 : decode cX5_list 46 = .ok (.if_icmp .eq 26, 3) := by decide +kernel
theorem dX5_list_49 : decode cX5_list 49 = .ok (.iload_n 2, 1) := by decide +kernel
theorem dX5_list_50 : decode cX5_list 50 = .ok (.sipush 320, 3) := by decide +kernel
theorem dX5_list_53 : decode cX5_list 53 = .ok (.if_icmp .ge 19, 3) := by decide +kernel
theorem dX5_list_56 : decode cX5_list 56 = .ok (.aload_n 0, 1) := by decide +kernel
theorem dX5_list_57 : decode cX5_list 57 = .ok (.getfield 27, 3) := by decide +kernel
theorem dX5_list_60 : decode cX5_list 60 = .ok (.iload_n 2, 1) := by decide +kernel
theorem dX5_list_61 : decode cX5_list 61 = .ok (.bipush 100, 2) := by decide +kernel
theorem dX5_list_63 : decode cX5_list 63 = .ok (.iload_n 3, 1) := by decide +kernel
theorem dX5_list_64 : decode cX5_list 64 = .ok (.imul, 1) := by decide +kernel
theorem dX5_list_65 : decode cX5_list 65 = .ok (.iload 5, 2) := by decide +kernel
theorem dX5_list_67 : decode cX5_list 67 = .ok (.iadd, 1) := by decide +kernel
theorem dX5_list_68 : decode cX5_list 68 = .ok (.iastore, 1) := by decide +kernel
theorem dX5_list_69 : decode cX5_list 69 = .ok (.iinc 2 1, 3) := by decide +kernel
theorem dX5_list_72 : decode cX5_list 72 = .ok (.iinc 5 1, 3) := by decide +kernel
theorem dX5_list_75 : decode cX5_list 75 = .ok (.goto (-51), 3) := by decide +kernel
theorem dX5_list_78 : decode cX5_list 78 = .ok (.iinc 3 1, 3) := by decide +kernel
theorem dX5_list_81 : decode cX5_list 81 = .ok (.goto (-77), 3) := by decide +kernel
theorem dX5_list_84 : decode cX5_list 84 = .ok (.iload_n 2, 1) := by decide +kernel
theorem dX5_list_85 : decode cX5_list 85 = .ok (.ireturn, 1) := by decide +kernel
theorem dX5_code_0 : decode cX5_code 0 = .ok (.iload_n 1, 1) := by decide +kernel
theorem dX5_code_1 : decode cX5_code 1 = .ok (.ifCond .lt 19, 3) := by decide +kernel
theorem dX5_code_4 : decode cX5_code 4 = .ok (.iload_n 1, 1) := by decide +kernel
theorem dX5_code_5 : decode cX5_code 5 = .ok (.sipush 320, 3) := by decide +kernel
theorem dX5_code_8 : decode cX5_code 8 = .ok (.if_icmp .ge 12, 3) := by decide +kernel
theorem dX5_code_11 : decode cX5_code 11 = .ok (.aload_n 0, 1) := by decide +kernel
theorem dX5_code_12 : decode cX5_code 12 = .ok (.getfield 27, 3) := by decide +kernel
theorem dX5_code_15 : decode cX5_code 15 = .ok (.iload_n 1, 1) := by decide +kernel
theorem dX5_code_16 : decode cX5_code 16 = .ok (.iaload, 1) := by decide +kernel
theorem dX5_code_17 : decode cX5_code 17 = .ok (.goto 5, 3) := by decide +kernel
theorem dX5_code_20 : decode cX5_code 20 = .ok (.bipush (-6), 2) := by decide +kernel
theorem dX5_code_22 : decode cX5_code 22 = .ok (.ireturn, 1) := by decide +kernel
theorem dX5_learn_0 : decode cX5_learn 0 = .ok (.aload_n 0, 1) := by decide +kernel
theorem dX5_learn_1 : decode cX5_learn 1 = .ok (.getfield 9, 3) := by decide +kernel
theorem dX5_learn_4 : decode cX5_learn 4 = .ok (.iload_n 1, 1) := by decide +kernel
theorem dX5_learn_5 : decode cX5_learn 5 = .ok (.invokevirtual 59, 3) := by decide +kernel
theorem dX5_learn_8 : decode cX5_learn 8 = .ok (.ifCond .ne 5, 3) := by decide +kernel
theorem dX5_learn_11 : decode cX5_learn 11 = .ok (.iconst 0, 1) := by decide +kernel
theorem dX5_learn_12 : decode cX5_learn 12 = .ok (.ireturn, 1) := by decide +kernel
theorem dX5_learn_13 : decode cX5_learn 13 = .ok (.aload_n 0, 1) := by decide +kernel
theorem dX5_learn_14 : decode cX5_learn 14 = .ok (.iload_n 1, 1) := by decide +kernel
theorem dX5_learn_15 : decode cX5_learn 15 = .ok (.invokevirtual 63, 3) := by decide +kernel
theorem dX5_learn_18 : decode cX5_learn 18 = .ok (.istore_n 2, 1) := by decide +kernel
theorem dX5_learn_19 : decode cX5_learn 19 = .ok (.aload_n 0, 1) := by decide +kernel
theorem dX5_learn_20 : decode cX5_learn 20 = .ok (.getfield 31, 3) := by decide +kernel
theorem dX5_learn_23 : decode cX5_learn 23 = .ok (.iload_n 1, 1) := by decide +kernel
theorem dX5_learn_24 : decode cX5_learn 24 = .ok (.baload, 1) := by decide +kernel
theorem dX5_learn_25 : decode cX5_learn 25 = .ok (.ifCond .ne 58, 3) := by decide +kernel
theorem dX5_learn_28 : decode cX5_learn 28 = .ok (.iconst 0, 1) := by decide +kernel
theorem dX5_learn_29 : decode cX5_learn 29 = .ok (.istore_n 3, 1) := by decide +kernel
theorem dX5_learn_30 : decode cX5_learn 30 = .ok (.iload_n 3, 1) := by decide +kernel
theorem dX5_learn_31 : decode cX5_learn 31 = .ok (.iload_n 2, 1) := by decide +kernel
theorem dX5_learn_32 : decode cX5_learn 32 = .ok (.if_icmp .ge 44, 3) := by decide +kernel
theorem dX5_learn_35 : decode cX5_learn 35 = .ok (.aload_n 0, 1) := by decide +kernel
theorem dX5_learn_36 : decode cX5_learn 36 = .ok (.getfield 35, 3) := by decide +kernel
theorem dX5_learn_39 : decode cX5_learn 39 = .ok (.iload_n 1, 1) := by decide +kernel
theorem dX5_learn_40 : decode cX5_learn 40 = .ok (.sipush 320, 3) := by decide +kernel
theorem dX5_learn_43 : decode cX5_learn 43 = .ok (.imul, 1) := by decide +kernel
theorem dX5_learn_44 : decode cX5_learn 44 = .ok (.iload_n 3, 1) := by decide +kernel
theorem dX5_learn_45 : decode cX5_learn 45 = .ok (.iadd, 1) := by decide +kernel
theorem dX5_learn_46 : decode cX5_learn 46 = .ok (.aload_n 0, 1) := by decide +kernel
theorem dX5_learn_47 : decode cX5_learn 47 = .ok (.iload_n 1, 1) := by decide +kernel
theorem dX5_learn_48 : decode cX5_learn 48 = .ok (.aload_n 0, 1) := by decide +kernel
theorem dX5_learn_49 : decode cX5_learn 49 = .ok (.getfield 27, 3) := by decide +kernel
theorem dX5_learn_52 : decode cX5_learn 52 = .ok (.iload_n 3, 1) := by decide +kernel
theorem dX5_learn_53 : decode cX5_learn 53 = .ok (.iaload, 1) := by decide +kernel
theorem dX5_learn_54 : decode cX5_learn 54 = .ok (.bipush 100, 2) := by decide +kernel
theorem dX5_learn_56 : decode cX5_learn 56 = .ok (.idiv, 1) := by decide +kernel
theorem dX5_learn_57 : decode cX5_learn 57 = .ok (.aload_n 0, 1) := by decide +kernel
theorem dX5_learn_58 : decode cX5_learn 58 = .ok (.getfield 27, 3) := by decide +kernel
theorem dX5_learn_61 : decode cX5_learn 61 = .ok (.iload_n 3, 1) := by decide +kernel
theorem dX5_learn_62 : decode cX5_learn 62 = .ok (.iaload, 1) := by decide +kernel
theorem dX5_learn_63 : decode cX5_learn 63 = .ok (.bipush 100, 2) := by decide +kernel
theorem dX5_learn_65 : decode cX5_learn 65 = .ok (.irem, 1) := by decide +kernel
theorem dX5_learn_66 : decode cX5_learn 66 = .ok (.invokevirtual 66, 3) := by decide +kernel
theorem dX5_learn_69 : decode cX5_learn 69 = .ok (.iastore, 1) := by decide +kernel
theorem dX5_learn_70 : decode cX5_learn 70 = .ok (.iinc 3 1, 3) := by decide +kernel
theorem dX5_learn_73 : decode cX5_learn 73 = .ok (.goto (-43), 3) := by decide +kernel
theorem dX5_learn_76 : decode cX5_learn 76 = .ok (.aload_n 0, 1) := by decide +kernel
theorem dX5_learn_77 : decode cX5_learn 77 = .ok (.getfield 31, 3) := by decide +kernel
theorem dX5_learn_80 : decode cX5_learn 80 = .ok (.iload_n 1, 1) := by decide +kernel
theorem dX5_learn_81 : decode cX5_learn 81 = .ok (.iconst 1, 1) := by decide +kernel
theorem dX5_learn_82 : decode cX5_learn 82 = .ok (.bastore, 1) := by decide +kernel
theorem dX5_learn_83 : decode cX5_learn 83 = .ok (.iload_n 2, 1) := by decide +kernel
theorem dX5_learn_84 : decode cX5_learn 84 = .ok (.ireturn, 1) := by decide +kernel
theorem dX5_noticers_0 : decode cX5_noticers 0 = .ok (.aload_n 0, 1) := by decide +kernel
theorem dX5_noticers_1 : decode cX5_noticers 1 = .ok (.getfield 9, 3) := by decide +kernel
theorem dX5_noticers_4 : decode cX5_noticers 4 = .ok (.iload_n 1, 1) := by decide +kernel
theorem dX5_noticers_5 : decode cX5_noticers 5 = .ok (.invokevirtual 59, 3) := by decide +kernel
theorem dX5_noticers_8 : decode cX5_noticers 8 = .ok (.ifCond .eq 14, 3) := by decide +kernel
theorem dX5_noticers_11 : decode cX5_noticers 11 = .ok (.iload_n 2, 1) := by decide +kernel
theorem dX5_noticers_12 : decode cX5_noticers 12 = .ok (.ifCond .lt 10, 3) := by decide +kernel
theorem dX5_noticers_15 : decode cX5_noticers 15 = .ok (.iload_n 2, 1) := by decide +kernel
theorem dX5_noticers_16 : decode cX5_noticers 16 = .ok (.sipush 320, 3) := by decide +kernel
theorem dX5_noticers_19 : decode cX5_noticers 19 = .ok (.if_icmp .lt 5, 3) := by decide +kernel
theorem dX5_noticers_22 : decode cX5_noticers 22 = .ok (.iconst 0, 1) := by decide +kernel
theorem dX5_noticers_23 : decode cX5_noticers 23 = .ok (.ireturn, 1) := by decide +kernel
theorem dX5_noticers_24 : decode cX5_noticers 24 = .ok (.aload_n 0, 1) := by decide +kernel
theorem dX5_noticers_25 : decode cX5_noticers 25 = .ok (.getfield 35, 3) := by decide +kernel
theorem dX5_noticers_28 : decode cX5_noticers 28 = .ok (.iload_n 1, 1) := by decide +kernel
theorem dX5_noticers_29 : decode cX5_noticers 29 = .ok (.sipush 320, 3) := by decide +kernel
theorem dX5_noticers_32 : decode cX5_noticers 32 = .ok (.imul, 1) := by decide +kernel
theorem dX5_noticers_33 : decode cX5_noticers 33 = .ok (.iload_n 2, 1) := by decide +kernel
theorem dX5_noticers_34 : decode cX5_noticers 34 = .ok (.iadd, 1) := by decide +kernel
theorem dX5_noticers_35 : decode cX5_noticers 35 = .ok (.iaload, 1) := by decide +kernel
theorem dX5_noticers_36 : decode cX5_noticers 36 = .ok (.ireturn, 1) := by decide +kernel
theorem dX5_reckonNoticers_0 : decode cX5_reckonNoticers 0 = .ok (.aload_n 0, 1) := by decide +kernel
theorem dX5_reckonNoticers_1 : decode cX5_reckonNoticers 1 = .ok (.getfield 15, 3) := by decide +kernel
theorem dX5_reckonNoticers_4 : decode cX5_reckonNoticers 4 = .ok (.iload_n 1, 1) := by decide +kernel
theorem dX5_reckonNoticers_5 : decode cX5_reckonNoticers 5 = .ok (.invokevirtual 70, 3) := by decide +kernel
theorem dX5_reckonNoticers_8 : decode cX5_reckonNoticers 8 = .ok (.aload_n 0, 1) := by decide +kernel
theorem dX5_reckonNoticers_9 : decode cX5_reckonNoticers 9 = .ok (.getfield 15, 3) := by decide +kernel
theorem dX5_reckonNoticers_12 : decode cX5_reckonNoticers 12 = .ok (.iload_n 2, 1) := by decide +kernel
theorem dX5_reckonNoticers_13 : decode cX5_reckonNoticers 13 = .ok (.iload_n 1, 1) := by decide +kernel
theorem dX5_reckonNoticers_14 : decode cX5_reckonNoticers 14 = .ok (.invokevirtual 75, 3) := by decide +kernel
theorem dX5_reckonNoticers_17 : decode cX5_reckonNoticers 17 = .ok (.iand, 1) := by decide +kernel
theorem dX5_reckonNoticers_18 : decode cX5_reckonNoticers 18 = .ok (.istore 4, 2) := by decide +kernel
theorem dX5_reckonNoticers_20 : decode cX5_reckonNoticers 20 = .ok (.aload_n 0, 1) := by decide +kernel
theorem dX5_reckonNoticers_21 : decode cX5_reckonNoticers 21 = .ok (.getfield 23, 3) := by decide +kernel
theorem dX5_reckonNoticers_24 : decode cX5_reckonNoticers 24 = .ok (.aload_n 0, 1) := by decide +kernel
theorem dX5_reckonNoticers_25 : decode cX5_reckonNoticers 25 = .ok (.getfield 9, 3) := by decide +kernel
theorem dX5_reckonNoticers_28 : decode cX5_reckonNoticers 28 = .ok (.iload_n 1, 1) := by decide +kernel
theorem dX5_reckonNoticers_29 : decode cX5_reckonNoticers 29 = .ok (.iload_n 2, 1) := by decide +kernel
theorem dX5_reckonNoticers_30 : decode cX5_reckonNoticers 30 = .ok (.invokevirtual 38, 3) := by decide +kernel
theorem dX5_reckonNoticers_33 : decode cX5_reckonNoticers 33 = .ok (.invokevirtual 79, 3) := by decide +kernel
theorem dX5_reckonNoticers_36 : decode cX5_reckonNoticers 36 = .ok (.aload_n 0, 1) := by decide +kernel
theorem dX5_reckonNoticers_37 : decode cX5_reckonNoticers 37 = .ok (.getfield 23, 3) := by decide +kernel
theorem dX5_reckonNoticers_40 : decode cX5_reckonNoticers 40 = .ok (.iload_n 3, 1) := by decide +kernel
theorem dX5_reckonNoticers_41 : decode cX5_reckonNoticers 41 = .ok (.aload_n 0, 1) := by decide +kernel
theorem dX5_reckonNoticers_42 : decode cX5_reckonNoticers 42 = .ok (.getfield 23, 3) := by decide +kernel
theorem dX5_reckonNoticers_45 : decode cX5_reckonNoticers 45 = .ok (.iload_n 3, 1) := by decide +kernel
theorem dX5_reckonNoticers_46 : decode cX5_reckonNoticers 46 = .ok (.invokevirtual 50, 3) := by decide +kernel
theorem dX5_reckonNoticers_49 : decode cX5_reckonNoticers 49 = .ok (.invokestatic 54, 3) := by decide +kernel
theorem dX5_reckonNoticers_52 : decode cX5_reckonNoticers 52 = .ok (.invokevirtual 83, 3) := by decide +kernel
theorem dX5_reckonNoticers_55 : decode cX5_reckonNoticers 55 = .ok (.aload_n 0, 1) := by decide +kernel
theorem dX5_reckonNoticers_56 : decode cX5_reckonNoticers 56 = .ok (.getfield 19, 3) := by decide +kernel
theorem dX5_reckonNoticers_59 : decode cX5_reckonNoticers 59 = .ok (.aload_n 0, 1) := by decide +kernel
theorem dX5_reckonNoticers_60 : decode cX5_reckonNoticers 60 = .ok (.getfield 9, 3) := by decide +kernel
theorem dX5_reckonNoticers_63 : decode cX5_reckonNoticers 63 = .ok (.iload_n 1, 1) := by decide +kernel
theorem dX5_reckonNoticers_64 : decode cX5_reckonNoticers 64 = .ok (.invokevirtual 87, 3) := by decide +kernel
theorem dX5_reckonNoticers_67 : decode cX5_reckonNoticers 67 = .ok (.aload_n 0, 1) := by decide +kernel
theorem dX5_reckonNoticers_68 : decode cX5_reckonNoticers 68 = .ok (.getfield 19, 3) := by decide +kernel
theorem dX5_reckonNoticers_71 : decode cX5_reckonNoticers 71 = .ok (.iload_n 2, 1) := by decide +kernel
theorem dX5_reckonNoticers_72 : decode cX5_reckonNoticers 72 = .ok (.aload_n 0, 1) := by decide +kernel
theorem dX5_reckonNoticers_73 : decode cX5_reckonNoticers 73 = .ok (.getfield 23, 3) := by decide +kernel
theorem dX5_reckonNoticers_76 : decode cX5_reckonNoticers 76 = .ok (.invokevirtual 93, 3) := by decide +kernel
theorem dX5_reckonNoticers_79 : decode cX5_reckonNoticers 79 = .ok (.iconst 0, 1) := by decide +kernel
theorem dX5_reckonNoticers_80 : decode cX5_reckonNoticers 80 = .ok (.istore 5, 2) := by decide +kernel
theorem dX5_reckonNoticers_82 : decode cX5_reckonNoticers 82 = .ok (.iconst 0, 1) := by decide +kernel
theorem dX5_reckonNoticers_83 : decode cX5_reckonNoticers 83 = .ok (.istore 6, 2) := by decide +kernel
theorem dX5_reckonNoticers_85 : decode cX5_reckonNoticers 85 = .ok (.iload 6, 2) := by decide +kernel
theorem dX5_reckonNoticers_87 : decode cX5_reckonNoticers 87 = .ok (.aload_n 0, 1) := by decide +kernel
theorem dX5_reckonNoticers_88 : decode cX5_reckonNoticers 88 = .ok (.getfield 9, 3) := by decide +kernel
theorem dX5_reckonNoticers_91 : decode cX5_reckonNoticers 91 = .ok (.invokevirtual 97, 3) := by decide +kernel
theorem dX5_reckonNoticers_94 : decode cX5_reckonNoticers 94 = .ok (.if_icmp .ge 58, 3) := by decide +kernel
theorem dX5_reckonNoticers_97 : decode cX5_reckonNoticers 97 = .ok (.iload 4, 2) := by decide +kernel
theorem dX5_reckonNoticers_99 : decode cX5_reckonNoticers 99 = .ok (.iload 6, 2) := by decide +kernel
theorem dX5_reckonNoticers_101 : decode cX5_reckonNoticers 101 = .ok (.ishr, 1) := by decide +kernel
theorem dX5_reckonNoticers_102 : decode cX5_reckonNoticers 102 = .ok (.iconst 1, 1) := by decide +kernel
theorem dX5_reckonNoticers_103 : decode cX5_reckonNoticers 103 = .ok (.iand, 1) := by decide +kernel
theorem dX5_reckonNoticers_104 : decode cX5_reckonNoticers 104 = .ok (.iconst 1, 1) := by decide +kernel
theorem dX5_reckonNoticers_105 : decode cX5_reckonNoticers 105 = .ok (.if_icmp .ne 41, 3) := by decide +kernel
theorem dX5_reckonNoticers_108 : decode cX5_reckonNoticers 108 = .ok (.aload_n 0, 1) := by decide +kernel
theorem dX5_reckonNoticers_109 : decode cX5_reckonNoticers 109 = .ok (.getfield 19, 3) := by decide +kernel
theorem dX5_reckonNoticers_112 : decode cX5_reckonNoticers 112 = .ok (.aload_n 0, 1) := by decide +kernel
theorem dX5_reckonNoticers_113 : decode cX5_reckonNoticers 113 = .ok (.getfield 9, 3) := by decide +kernel
theorem dX5_reckonNoticers_116 : decode cX5_reckonNoticers 116 = .ok (.iload 6, 2) := by decide +kernel
theorem dX5_reckonNoticers_118 : decode cX5_reckonNoticers 118 = .ok (.invokevirtual 100, 3) := by decide +kernel
theorem dX5_reckonNoticers_121 : decode cX5_reckonNoticers 121 = .ok (.iconst 0, 1) := by decide +kernel
theorem dX5_reckonNoticers_122 : decode cX5_reckonNoticers 122 = .ok (.invokevirtual 104, 3) := by decide +kernel
theorem dX5_reckonNoticers_125 : decode cX5_reckonNoticers 125 = .ok (.aload_n 0, 1) := by decide +kernel
theorem dX5_reckonNoticers_126 : decode cX5_reckonNoticers 126 = .ok (.getfield 9, 3) := by decide +kernel
theorem dX5_reckonNoticers_129 : decode cX5_reckonNoticers 129 = .ok (.iload 6, 2) := by decide +kernel
theorem dX5_reckonNoticers_131 : decode cX5_reckonNoticers 131 = .ok (.invokevirtual 108, 3) := by decide +kernel
theorem dX5_reckonNoticers_134 : decode cX5_reckonNoticers 134 = .ok (.if_icmp .eq 12, 3) := by decide +kernel
theorem dX5_reckonNoticers_137 : decode cX5_reckonNoticers 137 = .ok (.iload 5, 2) := by decide +kernel
theorem dX5_reckonNoticers_139 : decode cX5_reckonNoticers 139 = .ok (.iconst 1, 1) := by decide +kernel
theorem dX5_reckonNoticers_140 : decode cX5_reckonNoticers 140 = .ok (.iload 6, 2) := by decide +kernel
theorem dX5_reckonNoticers_142 : decode cX5_reckonNoticers 142 = .ok (.ishl, 1) := by decide +kernel
theorem dX5_reckonNoticers_143 : decode cX5_reckonNoticers 143 = .ok (.ior, 1) := by decide +kernel
theorem dX5_reckonNoticers_144 : decode cX5_reckonNoticers 144 = .ok (.istore 5, 2) := by decide +kernel
theorem dX5_reckonNoticers_146 : decode cX5_reckonNoticers 146 = .ok (.iinc 6 1, 3) := by decide +kernel
theorem dX5_reckonNoticers_149 : decode cX5_reckonNoticers 149 = .ok (.goto (-64), 3) := by decide +kernel
theorem dX5_reckonNoticers_152 : decode cX5_reckonNoticers 152 = .ok (.iload 5, 2) := by decide +kernel
theorem dX5_reckonNoticers_154 : decode cX5_reckonNoticers 154 = .ok (.ireturn, 1) := by decide +kernel
theorem dX6_init_0 : decode cX6_init 0 = .ok (.aload_n 0, 1) := by decide +kernel
theorem dX6_init_1 : decode cX6_init 1 = .ok (.invokespecial 3, 3) := by decide +kernel
theorem dX6_init_4 : decode cX6_init 4 = .ok (.aload_n 0, 1) := by decide +kernel
theorem dX6_init_5 : decode cX6_init 5 = .ok (.iconst 0, 1) := by decide +kernel
theorem dX6_init_6 : decode cX6_init 6 = .ok (.iload_n 1, 1) := by decide +kernel
theorem dX6_init_7 : decode cX6_init 7 = .ok (.invokestatic 9, 3) := by decide +kernel
theorem dX6_init_10 : decode cX6_init 10 = .ok (.newarray .char, 2) := by decide +kernel
theorem dX6_init_12 : decode cX6_init 12 = .ok (.putfield 15, 3) := by decide +kernel
theorem dX6_init_15 : decode cX6_init 15 = .ok (.aload_n 0, 1) := by decide +kernel
theorem dX6_init_16 : decode cX6_init 16 = .ok (.iconst 0, 1) := by decide +kernel
theorem dX6_init_17 : decode cX6_init 17 = .ok (.putfield 21, 3) := by decide +kernel
theorem dX6_init_20 : decode cX6_init 20 = .ok (.return_, 1) := by decide +kernel
theorem dX6_count_0 : decode cX6_count 0 = .ok (.aload_n 0, 1) := by decide +kernel
theorem dX6_count_1 : decode cX6_count 1 = .ok (.getfield 21, 3) := by decide +kernel
theorem dX6_count_4 : decode cX6_count 4 = .ok (.ireturn, 1) := by decide +kernel
theorem dX6_sign_0 : decode cX6_sign 0 = .ok (.iload_n 1, 1) := by decide +kernel
theorem dX6_sign_1 : decode cX6_sign 1 = .ok (.ifCond .lt 20, 3) := by decide +kernel
theorem dX6_sign_4 : decode cX6_sign 4 = .ok (.iload_n 1, 1) := by decide +kernel
theorem dX6_sign_5 : decode cX6_sign 5 = .ok (.aload_n 0, 1) := by decide +kernel
theorem dX6_sign_6 : decode cX6_sign 6 = .ok (.getfield 21, 3) := by decide +kernel
theorem dX6_sign_9 : decode cX6_sign 9 = .ok (.if_icmp .ge 12, 3) := by decide +kernel
theorem dX6_sign_12 : decode cX6_sign 12 = .ok (.aload_n 0, 1) := by decide +kernel
theorem dX6_sign_13 : decode cX6_sign 13 = .ok (.getfield 15, 3) := by decide +kernel
theorem dX6_sign_16 : decode cX6_sign 16 = .ok (.iload_n 1, 1) := by decide +kernel
theorem dX6_sign_17 : decode cX6_sign 17 = .ok (.caload, 1) := by decide +kernel
theorem dX6_sign_18 : decode cX6_sign 18 = .ok (.goto 4, 3) := by decide +kernel
theorem dX6_sign_21 : decode cX6_sign 21 = .ok (.iconst 0, 1) := by decide +kernel
theorem dX6_sign_22 : decode cX6_sign 22 = .ok (.ireturn, 1) := by decide +kernel
theorem dX6_add_0 : decode cX6_add 0 = .ok (.aload_n 0, 1) := by decide +kernel
theorem dX6_add_1 : decode cX6_add 1 = .ok (.getfield 21, 3) := by decide +kernel
theorem dX6_add_4 : decode cX6_add 4 = .ok (.aload_n 0, 1) := by decide +kernel
theorem dX6_add_5 : decode cX6_add 5 = .ok (.getfield 15, 3) := by decide +kernel
theorem dX6_add_8 : decode cX6_add 8 = .ok (.arraylength, 1) := by decide +kernel
theorem dX6_add_9 : decode cX6_add 9 = .ok (.if_icmp .ge 24, 3) := by decide +kernel
theorem dX6_add_12 : decode cX6_add 12 = .ok (.aload_n 0, 1) := by decide +kernel
theorem dX6_add_13 : decode cX6_add 13 = .ok (.getfield 15, 3) := by decide +kernel
theorem dX6_add_16 : decode cX6_add 16 = .ok (.aload_n 0, 1) := by decide +kernel
theorem dX6_add_17 : decode cX6_add 17 = .ok (.getfield 21, 3) := by decide +kernel
theorem dX6_add_20 : decode cX6_add 20 = .ok (.iload_n 1, 1) := by decide +kernel
theorem dX6_add_21 : decode cX6_add 21 = .ok (.i2c, 1) := by decide +kernel
theorem dX6_add_22 : decode cX6_add 22 = .ok (.castore, 1) := by decide +kernel
theorem dX6_add_23 : decode cX6_add 23 = .ok (.aload_n 0, 1) := by decide +kernel
theorem dX6_add_24 : decode cX6_add 24 = .ok (.dup, 1) := by decide +kernel
theorem dX6_add_25 : decode cX6_add 25 = .ok (.getfield 21, 3) := by decide +kernel
theorem dX6_add_28 : decode cX6_add 28 = .ok (.iconst 1, 1) := by decide +kernel
theorem dX6_add_29 : decode cX6_add 29 = .ok (.iadd, 1) := by decide +kernel
theorem dX6_add_30 : decode cX6_add 30 = .ok (.putfield 21, 3) := by decide +kernel
theorem dX6_add_33 : decode cX6_add 33 = .ok (.return_, 1) := by decide +kernel
theorem dX6_put_0 : decode cX6_put 0 = .ok (.iload_n 1, 1) := by decide +kernel
theorem dX6_put_1 : decode cX6_put 1 = .ok (.ifCond .lt 19, 3) := by decide +kernel
theorem dX6_put_4 : decode cX6_put 4 = .ok (.iload_n 1, 1) := by decide +kernel
theorem dX6_put_5 : decode cX6_put 5 = .ok (.aload_n 0, 1) := by decide +kernel
theorem dX6_put_6 : decode cX6_put 6 = .ok (.getfield 21, 3) := by decide +kernel
theorem dX6_put_9 : decode cX6_put 9 = .ok (.if_icmp .ge 11, 3) := by decide +kernel
theorem dX6_put_12 : decode cX6_put 12 = .ok (.aload_n 0, 1) := by decide +kernel
theorem dX6_put_13 : decode cX6_put 13 = .ok (.getfield 15, 3) := by decide +kernel
theorem dX6_put_16 : decode cX6_put 16 = .ok (.iload_n 1, 1) := by decide +kernel
theorem dX6_put_17 : decode cX6_put 17 = .ok (.iload_n 2, 1) := by decide +kernel
theorem dX6_put_18 : decode cX6_put 18 = .ok (.i2c, 1) := by decide +kernel
theorem dX6_put_19 : decode cX6_put 19 = .ok (.castore, 1) := by decide +kernel
theorem dX6_put_20 : decode cX6_put 20 = .ok (.return_, 1) := by decide +kernel
theorem dX6_clear_0 : decode cX6_clear 0 = .ok (.aload_n 0, 1) := by decide +kernel
theorem dX6_clear_1 : decode cX6_clear 1 = .ok (.iconst 0, 1) := by decide +kernel
theorem dX6_clear_2 : decode cX6_clear 2 = .ok (.putfield 21, 3) := by decide +kernel
theorem dX6_clear_5 : decode cX6_clear 5 = .ok (.return_, 1) := by decide +kernel
theorem dX6_become_0 : decode cX6_become 0 = .ok (.aload_n 0, 1) := by decide +kernel
theorem dX6_become_1 : decode cX6_become 1 = .ok (.invokevirtual 25, 3) := by decide +kernel
theorem dX6_become_4 : decode cX6_become 4 = .ok (.iconst 0, 1) := by decide +kernel
theorem dX6_become_5 : decode cX6_become 5 = .ok (.istore_n 2, 1) := by decide +kernel
theorem dX6_become_6 : decode cX6_become 6 = .ok (.iload_n 2, 1) := by decide +kernel
theorem dX6_become_7 : decode cX6_become 7 = .ok (.aload_n 1, 1) := by decide +kernel
theorem dX6_become_8 : decode cX6_become 8 = .ok (.getfield 21, 3) := by decide +kernel
theorem dX6_become_11 : decode cX6_become 11 = .ok (.if_icmp .ge 19, 3) := by decide +kernel
theorem dX6_become_14 : decode cX6_become 14 = .ok (.aload_n 0, 1) := by decide +kernel
theorem dX6_become_15 : decode cX6_become 15 = .ok (.aload_n 1, 1) := by decide +kernel
theorem dX6_become_16 : decode cX6_become 16 = .ok (.getfield 15, 3) := by decide +kernel
theorem dX6_become_19 : decode cX6_become 19 = .ok (.iload_n 2, 1) := by decide +kernel
theorem dX6_become_20 : decode cX6_become 20 = .ok (.caload, 1) := by decide +kernel
theorem dX6_become_21 : decode cX6_become 21 = .ok (.invokevirtual 28, 3) := by decide +kernel
theorem dX6_become_24 : decode cX6_become 24 = .ok (.iinc 2 1, 3) := by decide +kernel
theorem dX6_become_27 : decode cX6_become 27 = .ok (.goto (-21), 3) := by decide +kernel
theorem dX6_become_30 : decode cX6_become 30 = .ok (.return_, 1) := by decide +kernel
theorem dX6_copy_0 : decode cX6_copy 0 = .ok (.new 16, 3) := by decide +kernel
theorem dX6_copy_3 : decode cX6_copy 3 = .ok (.dup, 1) := by decide +kernel
theorem dX6_copy_4 : decode cX6_copy 4 = .ok (.aload_n 0, 1) := by decide +kernel
theorem dX6_copy_5 : decode cX6_copy 5 = .ok (.getfield 21, 3) := by decide +kernel
theorem dX6_copy_8 : decode cX6_copy 8 = .ok (.invokespecial 32, 3) := by decide +kernel
theorem dX6_copy_11 : decode cX6_copy 11 = .ok (.astore_n 1, 1) := by decide +kernel
theorem dX6_copy_12 : decode cX6_copy 12 = .ok (.aload_n 1, 1) := by decide +kernel
theorem dX6_copy_13 : decode cX6_copy 13 = .ok (.aload_n 0, 1) := by decide +kernel
theorem dX6_copy_14 : decode cX6_copy 14 = .ok (.invokevirtual 34, 3) := by decide +kernel
theorem dX6_copy_17 : decode cX6_copy 17 = .ok (.aload_n 1, 1) := by decide +kernel
theorem dX6_copy_18 : decode cX6_copy 18 = .ok (.areturn, 1) := by decide +kernel
theorem dX6_isLike_0 : decode cX6_isLike 0 = .ok (.aload_n 0, 1) := by decide +kernel
theorem dX6_isLike_1 : decode cX6_isLike 1 = .ok (.getfield 21, 3) := by decide +kernel
theorem dX6_isLike_4 : decode cX6_isLike 4 = .ok (.aload_n 1, 1) := by decide +kernel
theorem dX6_isLike_5 : decode cX6_isLike 5 = .ok (.getfield 21, 3) := by decide +kernel
theorem dX6_isLike_8 : decode cX6_isLike 8 = .ok (.if_icmp .eq 5, 3) := by decide +kernel
theorem dX6_isLike_11 : decode cX6_isLike 11 = .ok (.iconst 0, 1) := by decide +kernel
theorem dX6_isLike_12 : decode cX6_isLike 12 = .ok (.ireturn, 1) := by decide +kernel
theorem dX6_isLike_13 : decode cX6_isLike 13 = .ok (.iconst 0, 1) := by decide +kernel
theorem dX6_isLike_14 : decode cX6_isLike 14 = .ok (.istore_n 2, 1) := by decide +kernel
theorem dX6_isLike_15 : decode cX6_isLike 15 = .ok (.iload_n 2, 1) := by decide +kernel
theorem dX6_isLike_16 : decode cX6_isLike 16 = .ok (.aload_n 0, 1) := by decide +kernel
theorem dX6_isLike_17 : decode cX6_isLike 17 = .ok (.getfield 21, 3) := by decide +kernel
theorem dX6_isLike_20 : decode cX6_isLike 20 = .ok (.if_icmp .ge 26, 3) := by decide +kernel
theorem dX6_isLike_23 : decode cX6_isLike 23 = .ok (.aload_n 0, 1) := by decide +kernel
theorem dX6_isLike_24 : decode cX6_isLike 24 = .ok (.getfield 15, 3) := by decide +kernel
theorem dX6_isLike_27 : decode cX6_isLike 27 = .ok (.iload_n 2, 1) := by decide +kernel
theorem dX6_isLike_28 : decode cX6_isLike 28 = .ok (.caload, 1) := by decide +kernel
theorem dX6_isLike_29 : decode cX6_isLike 29 = .ok (.aload_n 1, 1) := by decide +kernel
theorem dX6_isLike_30 : decode cX6_isLike 30 = .ok (.getfield 15, 3) := by decide +kernel
theorem dX6_isLike_33 : decode cX6_isLike 33 = .ok (.iload_n 2, 1) := by decide +kernel
theorem dX6_isLike_34 : decode cX6_isLike 34 = .ok (.caload, 1) := by decide +kernel
theorem dX6_isLike_35 : decode cX6_isLike 35 = .ok (.if_icmp .eq 5, 3) := by decide +kernel
theorem dX6_isLike_38 : decode cX6_isLike 38 = .ok (.iconst 0, 1) := by decide +kernel
theorem dX6_isLike_39 : decode cX6_isLike 39 = .ok (.ireturn, 1) := by decide +kernel
theorem dX6_isLike_40 : decode cX6_isLike 40 = .ok (.iinc 2 1, 3) := by decide +kernel
theorem dX6_isLike_43 : decode cX6_isLike 43 = .ok (.goto (-28), 3) := by decide +kernel
theorem dX6_isLike_46 : decode cX6_isLike 46 = .ok (.iconst 1, 1) := by decide +kernel
theorem dX6_isLike_47 : decode cX6_isLike 47 = .ok (.ireturn, 1) := by decide +kernel
theorem dX6_has_0 : decode cX6_has 0 = .ok (.iconst 0, 1) := by decide +kernel
theorem dX6_has_1 : decode cX6_has 1 = .ok (.istore_n 2, 1) := by decide +kernel
theorem dX6_has_2 : decode cX6_has 2 = .ok (.iload_n 2, 1) := by decide +kernel
theorem dX6_has_3 : decode cX6_has 3 = .ok (.aload_n 0, 1) := by decide +kernel
theorem dX6_has_4 : decode cX6_has 4 = .ok (.getfield 21, 3) := by decide +kernel
theorem dX6_has_7 : decode cX6_has 7 = .ok (.if_icmp .ge 21, 3) := by decide +kernel
theorem dX6_has_10 : decode cX6_has 10 = .ok (.aload_n 0, 1) := by decide +kernel
theorem dX6_has_11 : decode cX6_has 11 = .ok (.getfield 15, 3) := by decide +kernel
theorem dX6_has_14 : decode cX6_has 14 = .ok (.iload_n 2, 1) := by decide +kernel
theorem dX6_has_15 : decode cX6_has 15 = .ok (.caload, 1) := by decide +kernel
theorem dX6_has_16 : decode cX6_has 16 = .ok (.iload_n 1, 1) := by decide +kernel
theorem dX6_has_17 : decode cX6_has 17 = .ok (.if_icmp .ne 5, 3) := by decide +kernel
theorem dX6_has_20 : decode cX6_has 20 = .ok (.iconst 1, 1) := by decide +kernel
theorem dX6_has_21 : decode cX6_has 21 = .ok (.ireturn, 1) := by decide +kernel
theorem dX6_has_22 : decode cX6_has 22 = .ok (.iinc 2 1, 3) := by decide +kernel
theorem dX6_has_25 : decode cX6_has 25 = .ok (.goto (-23), 3) := by decide +kernel
theorem dX6_has_28 : decode cX6_has 28 = .ok (.iconst 0, 1) := by decide +kernel
theorem dX6_has_29 : decode cX6_has 29 = .ok (.ireturn, 1) := by decide +kernel
theorem dX6_named_0 : decode cX6_named 0 = .ok (.iconst 0, 1) := by decide +kernel
theorem dX6_named_1 : decode cX6_named 1 = .ok (.istore_n 1, 1) := by decide +kernel
theorem dX6_named_2 : decode cX6_named 2 = .ok (.iconst 0, 1) := by decide +kernel
theorem dX6_named_3 : decode cX6_named 3 = .ok (.istore_n 2, 1) := by decide +kernel
theorem dX6_named_4 : decode cX6_named 4 = .ok (.iload_n 2, 1) := by decide +kernel
theorem dX6_named_5 : decode cX6_named 5 = .ok (.aload_n 0, 1) := by decide +kernel
theorem dX6_named_6 : decode cX6_named 6 = .ok (.getfield 21, 3) := by decide +kernel
theorem dX6_named_9 : decode cX6_named 9 = .ok (.if_icmp .ge 35, 3) := by decide +kernel
theorem dX6_named_12 : decode cX6_named 12 = .ok (.aload_n 0, 1) := by decide +kernel
theorem dX6_named_13 : decode cX6_named 13 = .ok (.getfield 15, 3) := by decide +kernel
theorem dX6_named_16 : decode cX6_named 16 = .ok (.iload_n 2, 1) := by decide +kernel
theorem dX6_named_17 : decode cX6_named 17 = .ok (.caload, 1) := by decide +kernel
theorem dX6_named_18 : decode cX6_named 18 = .ok (.invokestatic 38, 3) := by decide +kernel
theorem dX6_named_21 : decode cX6_named 21 = .ok (.ifCond .eq 17, 3) := by decide +kernel
theorem dX6_named_24 : decode cX6_named 24 = .ok (.iload_n 1, 1) := by decide +kernel
theorem dX6_named_25 : decode cX6_named 25 = .ok (.iconst 1, 1) := by decide +kernel
theorem dX6_named_26 : decode cX6_named 26 = .ok (.aload_n 0, 1) := by decide +kernel
theorem dX6_named_27 : decode cX6_named 27 = .ok (.getfield 15, 3) := by decide +kernel
theorem dX6_named_30 : decode cX6_named 30 = .ok (.iload_n 2, 1) := by decide +kernel
theorem dX6_named_31 : decode cX6_named 31 = .ok (.caload, 1) := by decide +kernel
theorem dX6_named_32 : decode cX6_named 32 = .ok (.bipush 97, 2) := by decide +kernel
theorem dX6_named_34 : decode cX6_named 34 = .ok (.isub, 1) := by decide +kernel
theorem dX6_named_35 : decode cX6_named 35 = .ok (.ishl, 1) := by decide +kernel
theorem dX6_named_36 : decode cX6_named 36 = .ok (.ior, 1) := by decide +kernel
theorem dX6_named_37 : decode cX6_named 37 = .ok (.istore_n 1, 1) := by decide +kernel
theorem dX6_named_38 : decode cX6_named 38 = .ok (.iinc 2 1, 3) := by decide +kernel
theorem dX6_named_41 : decode cX6_named 41 = .ok (.goto (-37), 3) := by decide +kernel
theorem dX6_named_44 : decode cX6_named 44 = .ok (.iload_n 1, 1) := by decide +kernel
theorem dX6_named_45 : decode cX6_named 45 = .ok (.ireturn, 1) := by decide +kernel
theorem dX6_firstFault_0 : decode cX6_firstFault 0 = .ok (.aload_n 0, 1) := by decide +kernel
theorem dX6_firstFault_1 : decode cX6_firstFault 1 = .ok (.iconst 0, 1) := by decide +kernel
theorem dX6_firstFault_2 : decode cX6_firstFault 2 = .ok (.iconst 0, 1) := by decide +kernel
theorem dX6_firstFault_3 : decode cX6_firstFault 3 = .ok (.invokevirtual 44, 3) := by decide +kernel
theorem dX6_firstFault_6 : decode cX6_firstFault 6 = .ok (.istore_n 1, 1) := by decide +kernel
theorem dX6_firstFault_7 : decode cX6_firstFault 7 = .ok (.iload_n 1, 1) := by decide +kernel
theorem dX6_firstFault_8 : decode cX6_firstFault 8 = .ok (.ifCond .ge 7, 3) := by decide +kernel
theorem dX6_firstFault_11 : decode cX6_firstFault 11 = .ok (.iconst (-1), 1) := by decide +kernel
theorem dX6_firstFault_12 : decode cX6_firstFault 12 = .ok (.iload_n 1, 1) := by decide +kernel
theorem dX6_firstFault_13 : decode cX6_firstFault 13 = .ok (.isub, 1) := by decide +kernel
theorem dX6_firstFault_14 : decode cX6_firstFault 14 = .ok (.ireturn, 1) := by decide +kernel
theorem dX6_firstFault_15 : decode cX6_firstFault 15 = .ok (.iload_n 1, 1) := by decide +kernel
theorem dX6_firstFault_16 : decode cX6_firstFault 16 = .ok (.aload_n 0, 1) := by decide +kernel
theorem dX6_firstFault_17 : decode cX6_firstFault 17 = .ok (.getfield 21, 3) := by decide +kernel
theorem dX6_firstFault_20 : decode cX6_firstFault 20 = .ok (.if_icmp .ge 7, 3) := by decide +kernel
theorem dX6_firstFault_23 : decode cX6_firstFault 23 = .ok (.iload_n 1, 1) := by decide +kernel
theorem dX6_firstFault_24 : decode cX6_firstFault 24 = .ok (.goto 5, 3) := by decide +kernel
theorem dX6_firstFault_27 : decode cX6_firstFault 27 = .ok (.bipush (-6), 2) := by decide +kernel
theorem dX6_firstFault_29 : decode cX6_firstFault 29 = .ok (.ireturn, 1) := by decide +kernel
theorem dX6_endOf_0 : decode cX6_endOf 0 = .ok (.aload_n 0, 1) := by decide +kernel
theorem dX6_endOf_1 : decode cX6_endOf 1 = .ok (.iload_n 1, 1) := by decide +kernel
theorem dX6_endOf_2 : decode cX6_endOf 2 = .ok (.invokevirtual 47, 3) := by decide +kernel
theorem dX6_endOf_5 : decode cX6_endOf 5 = .ok (.invokestatic 51, 3) := by decide +kernel
theorem dX6_endOf_8 : decode cX6_endOf 8 = .ok (.istore_n 3, 1) := by decide +kernel
theorem dX6_endOf_9 : decode cX6_endOf 9 = .ok (.iload_n 3, 1) := by decide +kernel
theorem dX6_endOf_10 : decode cX6_endOf 10 = .ok (.ifCond .lt 13, 3) := by decide +kernel
theorem dX6_endOf_13 : decode cX6_endOf 13 = .ok (.iload_n 3, 1) := by decide +kernel
theorem dX6_endOf_14 : decode cX6_endOf 14 = .ok (.ifCond .le 13, 3) := by decide +kernel
theorem dX6_endOf_17 : decode cX6_endOf 17 = .ok (.iload_n 2, 1) := by decide +kernel
theorem dX6_endOf_18 : decode cX6_endOf 18 = .ok (.bipush 6, 2) := by decide +kernel
theorem dX6_endOf_20 : decode cX6_endOf 20 = .ok (.if_icmp .lt 7, 3) := by decide +kernel
theorem dX6_endOf_23 : decode cX6_endOf 23 = .ok (.iconst (-1), 1) := by decide +kernel
theorem dX6_endOf_24 : decode cX6_endOf 24 = .ok (.iload_n 1, 1) := by decide +kernel
theorem dX6_endOf_25 : decode cX6_endOf 25 = .ok (.isub, 1) := by decide +kernel
theorem dX6_endOf_26 : decode cX6_endOf 26 = .ok (.ireturn, 1) := by decide +kernel
theorem dX6_endOf_27 : decode cX6_endOf 27 = .ok (.iload_n 1, 1) := by decide +kernel
theorem dX6_endOf_28 : decode cX6_endOf 28 = .ok (.iconst 1, 1) := by decide +kernel
theorem dX6_endOf_29 : decode cX6_endOf 29 = .ok (.iadd, 1) := by decide +kernel
theorem dX6_endOf_30 : decode cX6_endOf 30 = .ok (.istore 4, 2) := by decide +kernel
theorem dX6_endOf_32 : decode cX6_endOf 32 = .ok (.iconst 0, 1) := by decide +kernel
theorem dX6_endOf_33 : decode cX6_endOf 33 = .ok (.istore 5, 2) := by decide +kernel
theorem dX6_endOf_35 : decode cX6_endOf 35 = .ok (.iload 5, 2) := by decide +kernel
theorem dX6_endOf_37 : decode cX6_endOf 37 = .ok (.iload_n 3, 1) := by decide +kernel
theorem dX6_endOf_38 : decode cX6_endOf 38 = .ok (.if_icmp .ge 25, 3) := by decide +kernel
theorem dX6_endOf_41 : decode cX6_endOf 41 = .ok (.iload 4, 2) := by decide +kernel
theorem dX6_endOf_43 : decode cX6_endOf 43 = .ok (.ifCond .lt 20, 3) := by decide +kernel
theorem dX6_endOf_46 : decode cX6_endOf 46 = .ok (.aload_n 0, 1) := by decide +kernel
theorem dX6_endOf_47 : decode cX6_endOf 47 = .ok (.iload 4, 2) := by decide +kernel
theorem dX6_endOf_49 : decode cX6_endOf 49 = .ok (.iload_n 2, 1) := by decide +kernel
theorem dX6_endOf_50 : decode cX6_endOf 50 = .ok (.iconst 1, 1) := by decide +kernel
theorem dX6_endOf_51 : decode cX6_endOf 51 = .ok (.iadd, 1) := by decide +kernel
theorem dX6_endOf_52 : decode cX6_endOf 52 = .ok (.invokevirtual 44, 3) := by decide +kernel
theorem dX6_endOf_55 : decode cX6_endOf 55 = .ok (.istore 4, 2) := by decide +kernel
theorem dX6_endOf_57 : decode cX6_endOf 57 = .ok (.iinc 5 1, 3) := by decide +kernel
theorem dX6_endOf_60 : decode cX6_endOf 60 = .ok (.goto (-25), 3) := by decide +kernel
theorem dX6_endOf_63 : decode cX6_endOf 63 = .ok (.iload 4, 2) := by decide +kernel
theorem dX6_endOf_65 : decode cX6_endOf 65 = .ok (.ireturn, 1) := by decide +kernel
theorem dX6_behind_0 : decode cX6_behind 0 = .ok (.iconst 1, 1) := by decide +kernel
theorem dX6_behind_1 : decode cX6_behind 1 = .ok (.istore_n 2, 1) := by decide +kernel
theorem dX6_behind_2 : decode cX6_behind 2 = .ok (.iconst 0, 1) := by decide +kernel
theorem dX6_behind_3 : decode cX6_behind 3 = .ok (.iload_n 1, 1) := by decide +kernel
theorem dX6_behind_4 : decode cX6_behind 4 = .ok (.invokestatic 9, 3) := by decide +kernel
theorem dX6_behind_7 : decode cX6_behind 7 = .ok (.istore_n 3, 1) := by decide +kernel
theorem dX6_behind_8 : decode cX6_behind 8 = .ok (.iload_n 3, 1) := by decide +kernel
theorem dX6_behind_9 : decode cX6_behind 9 = .ok (.aload_n 0, 1) := by decide +kernel
theorem dX6_behind_10 : decode cX6_behind 10 = .ok (.getfield 21, 3) := by decide +kernel
theorem dX6_behind_13 : decode cX6_behind 13 = .ok (.if_icmp .ge 31, 3) := by decide +kernel
theorem dX6_behind_16 : decode cX6_behind 16 = .ok (.iload_n 2, 1) := by decide +kernel
theorem dX6_behind_17 : decode cX6_behind 17 = .ok (.aload_n 0, 1) := by decide +kernel
theorem dX6_behind_18 : decode cX6_behind 18 = .ok (.getfield 15, 3) := by decide +kernel
theorem dX6_behind_21 : decode cX6_behind 21 = .ok (.iload_n 3, 1) := by decide +kernel
theorem dX6_behind_22 : decode cX6_behind 22 = .ok (.caload, 1) := by decide +kernel
theorem dX6_behind_23 : decode cX6_behind 23 = .ok (.invokestatic 51, 3) := by decide +kernel
theorem dX6_behind_26 : decode cX6_behind 26 = .ok (.iconst 1, 1) := by decide +kernel
theorem dX6_behind_27 : decode cX6_behind 27 = .ok (.isub, 1) := by decide +kernel
theorem dX6_behind_28 : decode cX6_behind 28 = .ok (.iadd, 1) := by decide +kernel
theorem dX6_behind_29 : decode cX6_behind 29 = .ok (.istore_n 2, 1) := by decide +kernel
theorem dX6_behind_30 : decode cX6_behind 30 = .ok (.iload_n 2, 1) := by decide +kernel
theorem dX6_behind_31 : decode cX6_behind 31 = .ok (.ifCond .gt 7, 3) := by decide +kernel
theorem dX6_behind_34 : decode cX6_behind 34 = .ok (.iload_n 3, 1) := by decide +kernel
theorem dX6_behind_35 : decode cX6_behind 35 = .ok (.iconst 1, 1) := by decide +kernel
theorem dX6_behind_36 : decode cX6_behind 36 = .ok (.iadd, 1) := by decide +kernel
theorem dX6_behind_37 : decode cX6_behind 37 = .ok (.ireturn, 1) := by decide +kernel
theorem dX6_behind_38 : decode cX6_behind 38 = .ok (.iinc 3 1, 3) := by decide +kernel
theorem dX6_behind_41 : decode cX6_behind 41 = .ok (.goto (-33), 3) := by decide +kernel
theorem dX6_behind_44 : decode cX6_behind 44 = .ok (.aload_n 0, 1) := by decide +kernel
theorem dX6_behind_45 : decode cX6_behind 45 = .ok (.getfield 21, 3) := by decide +kernel
theorem dX6_behind_48 : decode cX6_behind 48 = .ok (.ireturn, 1) := by decide +kernel
theorem dJ6_bitCount_0f7a4_0 : decode cJ6_bitCount_0f7a4 0 = .ok (.iload_n 0, 1) := by decide +kernel
theorem dJ6_bitCount_0f7a4_1 : decode cJ6_bitCount_0f7a4 1 = .ok (.iload_n 0, 1) := by decide +kernel
theorem dJ6_bitCount_0f7a4_2 : decode cJ6_bitCount_0f7a4 2 = .ok (.iconst 1, 1) := by decide +kernel
theorem dJ6_bitCount_0f7a4_3 : decode cJ6_bitCount_0f7a4 3 = .ok (.iushr, 1) := by decide +kernel
theorem dJ6_bitCount_0f7a4_4 : decode cJ6_bitCount_0f7a4 4 = .ok (.ldc_w 265, 3) := by decide +kernel
theorem dJ6_bitCount_0f7a4_7 : decode cJ6_bitCount_0f7a4 7 = .ok (.iand, 1) := by decide +kernel
theorem dJ6_bitCount_0f7a4_8 : decode cJ6_bitCount_0f7a4 8 = .ok (.isub, 1) := by decide +kernel
theorem dJ6_bitCount_0f7a4_9 : decode cJ6_bitCount_0f7a4 9 = .ok (.istore_n 0, 1) := by decide +kernel
theorem dJ6_bitCount_0f7a4_10 : decode cJ6_bitCount_0f7a4 10 = .ok (.iload_n 0, 1) := by decide +kernel
theorem dJ6_bitCount_0f7a4_11 : decode cJ6_bitCount_0f7a4 11 = .ok (.ldc_w 266, 3) := by decide +kernel
theorem dJ6_bitCount_0f7a4_14 : decode cJ6_bitCount_0f7a4 14 = .ok (.iand, 1) := by decide +kernel
theorem dJ6_bitCount_0f7a4_15 : decode cJ6_bitCount_0f7a4 15 = .ok (.iload_n 0, 1) := by decide +kernel
theorem dJ6_bitCount_0f7a4_16 : decode cJ6_bitCount_0f7a4 16 = .ok (.iconst 2, 1) := by decide +kernel
theorem dJ6_bitCount_0f7a4_17 : decode cJ6_bitCount_0f7a4 17 = .ok (.iushr, 1) := by decide +kernel
theorem dJ6_bitCount_0f7a4_18 : decode cJ6_bitCount_0f7a4 18 = .ok (.ldc_w 266, 3) := by decide +kernel
theorem dJ6_bitCount_0f7a4_21 : decode cJ6_bitCount_0f7a4 21 = .ok (.iand, 1) := by decide +kernel
theorem dJ6_bitCount_0f7a4_22 : decode cJ6_bitCount_0f7a4 22 = .ok (.iadd, 1) := by decide +kernel
theorem dJ6_bitCount_0f7a4_23 : decode cJ6_bitCount_0f7a4 23 = .ok (.istore_n 0, 1) := by decide +kernel
theorem dJ6_bitCount_0f7a4_24 : decode cJ6_bitCount_0f7a4 24 = .ok (.iload_n 0, 1) := by decide +kernel
theorem dJ6_bitCount_0f7a4_25 : decode cJ6_bitCount_0f7a4 25 = .ok (.iload_n 0, 1) := by decide +kernel
theorem dJ6_bitCount_0f7a4_26 : decode cJ6_bitCount_0f7a4 26 = .ok (.iconst 4, 1) := by decide +kernel
theorem dJ6_bitCount_0f7a4_27 : decode cJ6_bitCount_0f7a4 27 = .ok (.iushr, 1) := by decide +kernel
theorem dJ6_bitCount_0f7a4_28 : decode cJ6_bitCount_0f7a4 28 = .ok (.iadd, 1) := by decide +kernel
theorem dJ6_bitCount_0f7a4_29 : decode cJ6_bitCount_0f7a4 29 = .ok (.ldc_w 267, 3) := by decide +kernel
theorem dJ6_bitCount_0f7a4_32 : decode cJ6_bitCount_0f7a4 32 = .ok (.iand, 1) := by decide +kernel
theorem dJ6_bitCount_0f7a4_33 : decode cJ6_bitCount_0f7a4 33 = .ok (.istore_n 0, 1) := by decide +kernel
theorem dJ6_bitCount_0f7a4_34 : decode cJ6_bitCount_0f7a4 34 = .ok (.iload_n 0, 1) := by decide +kernel
theorem dJ6_bitCount_0f7a4_35 : decode cJ6_bitCount_0f7a4 35 = .ok (.iload_n 0, 1) := by decide +kernel
theorem dJ6_bitCount_0f7a4_36 : decode cJ6_bitCount_0f7a4 36 = .ok (.bipush 8, 2) := by decide +kernel
theorem dJ6_bitCount_0f7a4_38 : decode cJ6_bitCount_0f7a4 38 = .ok (.iushr, 1) := by decide +kernel
theorem dJ6_bitCount_0f7a4_39 : decode cJ6_bitCount_0f7a4 39 = .ok (.iadd, 1) := by decide +kernel
theorem dJ6_bitCount_0f7a4_40 : decode cJ6_bitCount_0f7a4 40 = .ok (.istore_n 0, 1) := by decide +kernel
theorem dJ6_bitCount_0f7a4_41 : decode cJ6_bitCount_0f7a4 41 = .ok (.iload_n 0, 1) := by decide +kernel
theorem dJ6_bitCount_0f7a4_42 : decode cJ6_bitCount_0f7a4 42 = .ok (.iload_n 0, 1) := by decide +kernel
theorem dJ6_bitCount_0f7a4_43 : decode cJ6_bitCount_0f7a4 43 = .ok (.bipush 16, 2) := by decide +kernel
theorem dJ6_bitCount_0f7a4_45 : decode cJ6_bitCount_0f7a4 45 = .ok (.iushr, 1) := by decide +kernel
theorem dJ6_bitCount_0f7a4_46 : decode cJ6_bitCount_0f7a4 46 = .ok (.iadd, 1) := by decide +kernel
theorem dJ6_bitCount_0f7a4_47 : decode cJ6_bitCount_0f7a4 47 = .ok (.istore_n 0, 1) := by decide +kernel
theorem dJ6_bitCount_0f7a4_48 : decode cJ6_bitCount_0f7a4 48 = .ok (.iload_n 0, 1) := by decide +kernel
theorem dJ6_bitCount_0f7a4_49 : decode cJ6_bitCount_0f7a4 49 = .ok (.bipush 63, 2) := by decide +kernel
theorem dJ6_bitCount_0f7a4_51 : decode cJ6_bitCount_0f7a4 51 = .ok (.iand, 1) := by decide +kernel
theorem dJ6_bitCount_0f7a4_52 : decode cJ6_bitCount_0f7a4 52 = .ok (.ireturn, 1) := by decide +kernel
theorem dJ9_floorMod_7cf53_0 : decode cJ9_floorMod_7cf53 0 = .ok (.iload_n 0, 1) := by decide +kernel
theorem dJ9_floorMod_7cf53_1 : decode cJ9_floorMod_7cf53 1 = .ok (.iload_n 1, 1) := by decide +kernel
theorem dJ9_floorMod_7cf53_2 : decode cJ9_floorMod_7cf53 2 = .ok (.irem, 1) := by decide +kernel
theorem dJ9_floorMod_7cf53_3 : decode cJ9_floorMod_7cf53 3 = .ok (.istore_n 2, 1) := by decide +kernel
theorem dJ9_floorMod_7cf53_4 : decode cJ9_floorMod_7cf53 4 = .ok (.iload_n 0, 1) := by decide +kernel
theorem dJ9_floorMod_7cf53_5 : decode cJ9_floorMod_7cf53 5 = .ok (.iload_n 1, 1) := by decide +kernel
theorem dJ9_floorMod_7cf53_6 : decode cJ9_floorMod_7cf53 6 = .ok (.ixor, 1) := by decide +kernel
theorem dJ9_floorMod_7cf53_7 : decode cJ9_floorMod_7cf53 7 = .ok (.ifCond .ge 11, 3) := by decide +kernel
theorem dJ9_floorMod_7cf53_10 : decode cJ9_floorMod_7cf53 10 = .ok (.iload_n 2, 1) := by decide +kernel
theorem dJ9_floorMod_7cf53_11 : decode cJ9_floorMod_7cf53 11 = .ok (.ifCond .eq 7, 3) := by decide +kernel
theorem dJ9_floorMod_7cf53_14 : decode cJ9_floorMod_7cf53 14 = .ok (.iload_n 2, 1) := by decide +kernel
theorem dJ9_floorMod_7cf53_15 : decode cJ9_floorMod_7cf53 15 = .ok (.iload_n 1, 1) := by decide +kernel
theorem dJ9_floorMod_7cf53_16 : decode cJ9_floorMod_7cf53 16 = .ok (.iadd, 1) := by decide +kernel
theorem dJ9_floorMod_7cf53_17 : decode cJ9_floorMod_7cf53 17 = .ok (.ireturn, 1) := by decide +kernel
theorem dJ9_floorMod_7cf53_18 : decode cJ9_floorMod_7cf53 18 = .ok (.iload_n 2, 1) := by decide +kernel
theorem dJ9_floorMod_7cf53_19 : decode cJ9_floorMod_7cf53 19 = .ok (.ireturn, 1) := by decide +kernel
theorem dJ9_max_7cf53_0 : decode cJ9_max_7cf53 0 = .ok (.iload_n 0, 1) := by decide +kernel
theorem dJ9_max_7cf53_1 : decode cJ9_max_7cf53 1 = .ok (.iload_n 1, 1) := by decide +kernel
theorem dJ9_max_7cf53_2 : decode cJ9_max_7cf53 2 = .ok (.if_icmp .lt 7, 3) := by decide +kernel
theorem dJ9_max_7cf53_5 : decode cJ9_max_7cf53 5 = .ok (.iload_n 0, 1) := by decide +kernel
theorem dJ9_max_7cf53_6 : decode cJ9_max_7cf53 6 = .ok (.goto 4, 3) := by decide +kernel
theorem dJ9_max_7cf53_9 : decode cJ9_max_7cf53 9 = .ok (.iload_n 1, 1) := by decide +kernel
theorem dJ9_max_7cf53_10 : decode cJ9_max_7cf53 10 = .ok (.ireturn, 1) := by decide +kernel
theorem dJ9_min_7cf53_0 : decode cJ9_min_7cf53 0 = .ok (.iload_n 0, 1) := by decide +kernel
theorem dJ9_min_7cf53_1 : decode cJ9_min_7cf53 1 = .ok (.iload_n 1, 1) := by decide +kernel
theorem dJ9_min_7cf53_2 : decode cJ9_min_7cf53 2 = .ok (.if_icmp .gt 7, 3) := by decide +kernel
theorem dJ9_min_7cf53_5 : decode cJ9_min_7cf53 5 = .ok (.iload_n 0, 1) := by decide +kernel
theorem dJ9_min_7cf53_6 : decode cJ9_min_7cf53 6 = .ok (.goto 4, 3) := by decide +kernel
theorem dJ9_min_7cf53_9 : decode cJ9_min_7cf53 9 = .ok (.iload_n 1, 1) := by decide +kernel
theorem dJ9_min_7cf53_10 : decode cJ9_min_7cf53 10 = .ok (.ireturn, 1) := by decide +kernel
end
section
theorem dX7_init_0 : decode cX7_init 0 = .ok (.aload_n 0, 1) := by decide +kernel
theorem dX7_init_1 : decode cX7_init 1 = .ok (.invokespecial 3, 3) := by decide +kernel
theorem dX7_init_4 : decode cX7_init 4 = .ok (.aload_n 0, 1) := by decide +kernel
theorem dX7_init_5 : decode cX7_init 5 = .ok (.new 9, 3) := by decide +kernel
theorem dX7_init_8 : decode cX7_init 8 = .ok (.dup, 1) := by decide +kernel
theorem dX7_init_9 : decode cX7_init 9 = .ok (.bipush 40, 2) := by decide +kernel
theorem dX7_init_11 : decode cX7_init 11 = .ok (.invokespecial 11, 3) := by decide +kernel
theorem dX7_init_14 : decode cX7_init 14 = .ok (.putfield 14, 3) := by decide +kernel
theorem dX7_init_17 : decode cX7_init 17 = .ok (.aload_n 0, 1) := by decide +kernel
theorem dX7_init_18 : decode cX7_init 18 = .ok (.new 9, 3) := by decide +kernel
theorem dX7_init_21 : decode cX7_init 21 = .ok (.dup, 1) := by decide +kernel
theorem dX7_init_22 : decode cX7_init 22 = .ok (.bipush 40, 2) := by decide +kernel
theorem dX7_init_24 : decode cX7_init 24 = .ok (.invokespecial 11, 3) := by decide +kernel
theorem dX7_init_27 : decode cX7_init 27 = .ok (.putfield 18, 3) := by decide +kernel
theorem dX7_init_30 : decode cX7_init 30 = .ok (.new 9, 3) := by decide +kernel
theorem dX7_init_33 : decode cX7_init 33 = .ok (.dup, 1) := by decide +kernel
theorem dX7_init_34 : decode cX7_init 34 = .ok (.iconst 0, 1) := by decide +kernel
theorem dX7_init_35 : decode cX7_init 35 = .ok (.invokespecial 11, 3) := by decide +kernel
theorem dX7_init_38 : decode cX7_init 38 = .ok (.astore_n 1, 1) := by decide +kernel
theorem dX7_init_39 : decode cX7_init 39 = .ok (.aload_n 0, 1) := by decide +kernel
theorem dX7_init_40 : decode cX7_init 40 = .ok (.new 21, 3) := by decide +kernel
theorem dX7_init_43 : decode cX7_init 43 = .ok (.dup, 1) := by decide +kernel
theorem dX7_init_44 : decode cX7_init 44 = .ok (.aload_n 1, 1) := by decide +kernel
theorem dX7_init_45 : decode cX7_init 45 = .ok (.invokespecial 23, 3) := by decide +kernel
theorem dX7_init_48 : decode cX7_init 48 = .ok (.putfield 26, 3) := by decide +kernel
theorem dX7_init_51 : decode cX7_init 51 = .ok (.aload_n 0, 1) := by decide +kernel
theorem dX7_init_52 : decode cX7_init 52 = .ok (.iconst 2, 1) := by decide +kernel
theorem dX7_init_53 : decode cX7_init 53 = .ok (.anewarray 21, 3) := by decide +kernel
theorem dX7_init_56 : decode cX7_init 56 = .ok (.putfield 30, 3) := by decide +kernel
theorem dX7_init_59 : decode cX7_init 59 = .ok (.iconst 0, 1) := by decide +kernel
theorem dX7_init_60 : decode cX7_init 60 = .ok (.istore_n 2, 1) := by decide +kernel
theorem dX7_init_61 : decode cX7_init 61 = .ok (.iload_n 2, 1) := by decide +kernel
theorem dX7_init_62 : decode cX7_init 62 = .ok (.iconst 2, 1) := by decide +kernel
theorem dX7_init_63 : decode cX7_init 63 = .ok (.if_icmp .ge 23, 3) := by decide +kernel
theorem dX7_init_66 : decode cX7_init 66 = .ok (.aload_n 0, 1) := by decide +kernel
theorem dX7_init_67 : decode cX7_init 67 = .ok (.getfield 30, 3) := by decide +kernel
theorem dX7_init_70 : decode cX7_init 70 = .ok (.iload_n 2, 1) := by decide +kernel
theorem dX7_init_71 : decode cX7_init 71 = .ok (.new 21, 3) := by decide +kernel
theorem dX7_init_74 : decode cX7_init 74 = .ok (.dup, 1) := by decide +kernel
theorem dX7_init_75 : decode cX7_init 75 = .ok (.aload_n 1, 1) := by decide +kernel
theorem dX7_init_76 : decode cX7_init 76 = .ok (.invokespecial 23, 3) := by decide +kernel
theorem dX7_init_79 : decode cX7_init 79 = .ok (.aastore, 1) := by decide +kernel
theorem dX7_init_80 : decode cX7_init 80 = .ok (.iinc 2 1, 3) := by decide +kernel
theorem dX7_init_83 : decode cX7_init 83 = .ok (.goto (-22), 3) := by decide +kernel
theorem dX7_init_86 : decode cX7_init 86 = .ok (.aload_n 0, 1) := by decide +kernel
theorem dX7_init_87 : decode cX7_init 87 = .ok (.iconst 2, 1) := by decide +kernel
theorem dX7_init_88 : decode cX7_init 88 = .ok (.newarray .boolean, 2) := by decide +kernel
theorem dX7_init_90 : decode cX7_init 90 = .ok (.putfield 34, 3) := by decide +kernel
theorem dX7_init_93 : decode cX7_init 93 = .ok (.aload_n 0, 1) := by decide +kernel
theorem dX7_init_94 : decode cX7_init 94 = .ok (.new 38, 3) := by decide +kernel
theorem dX7_init_97 : decode cX7_init 97 = .ok (.dup, 1) := by decide +kernel
theorem dX7_init_98 : decode cX7_init 98 = .ok (.aload_n 1, 1) := by decide +kernel
theorem dX7_init_99 : decode cX7_init 99 = .ok (.invokespecial 40, 3) := by decide +kernel
theorem dX7_init_102 : decode cX7_init 102 = .ok (.putfield 41, 3) := by decide +kernel
theorem dX7_init_105 : decode cX7_init 105 = .ok (.aload_n 0, 1) := by decide +kernel
theorem dX7_init_106 : decode cX7_init 106 = .ok (.new 45, 3) := by decide +kernel
theorem dX7_init_109 : decode cX7_init 109 = .ok (.dup, 1) := by decide +kernel
theorem dX7_init_110 : decode cX7_init 110 = .ok (.aload_n 0, 1) := by decide +kernel
theorem dX7_init_111 : decode cX7_init 111 = .ok (.getfield 26, 3) := by decide +kernel
theorem dX7_init_114 : decode cX7_init 114 = .ok (.aload_n 0, 1) := by decide +kernel
theorem dX7_init_115 : decode cX7_init 115 = .ok (.getfield 41, 3) := by decide +kernel
theorem dX7_init_118 : decode cX7_init 118 = .ok (.invokespecial 47, 3) := by decide +kernel
theorem dX7_init_121 : decode cX7_init 121 = .ok (.putfield 50, 3) := by decide +kernel
theorem dX7_init_124 : decode cX7_init 124 = .ok (.aload_n 0, 1) := by decide +kernel
theorem dX7_init_125 : decode cX7_init 125 = .ok (.new 54, 3) := by decide +kernel
theorem dX7_init_128 : decode cX7_init 128 = .ok (.dup, 1) := by decide +kernel
theorem dX7_init_129 : decode cX7_init 129 = .ok (.aload_n 0, 1) := by decide +kernel
theorem dX7_init_130 : decode cX7_init 130 = .ok (.getfield 26, 3) := by decide +kernel
theorem dX7_init_133 : decode cX7_init 133 = .ok (.aload_n 0, 1) := by decide +kernel
theorem dX7_init_134 : decode cX7_init 134 = .ok (.getfield 50, 3) := by decide +kernel
theorem dX7_init_137 : decode cX7_init 137 = .ok (.aload_n 0, 1) := by decide +kernel
theorem dX7_init_138 : decode cX7_init 138 = .ok (.getfield 41, 3) := by decide +kernel
theorem dX7_init_141 : decode cX7_init 141 = .ok (.aload_n 0, 1) := by decide +kernel
theorem dX7_init_142 : decode cX7_init 142 = .ok (.getfield 18, 3) := by decide +kernel
theorem dX7_init_145 : decode cX7_init 145 = .ok (.invokespecial 56, 3) := by decide +kernel
theorem dX7_init_148 : decode cX7_init 148 = .ok (.putfield 59, 3) := by decide +kernel
theorem dX7_init_151 : decode cX7_init 151 = .ok (.aload_n 0, 1) := by decide +kernel
theorem dX7_init_152 : decode cX7_init 152 = .ok (.new 63, 3) := by decide +kernel
theorem dX7_init_155 : decode cX7_init 155 = .ok (.dup, 1) := by decide +kernel
theorem dX7_init_156 : decode cX7_init 156 = .ok (.invokespecial 65, 3) := by decide +kernel
theorem dX7_init_159 : decode cX7_init 159 = .ok (.putfield 66, 3) := by decide +kernel
theorem dX7_init_162 : decode cX7_init 162 = .ok (.return_, 1) := by decide +kernel
theorem dX7_say_0 : decode cX7_say 0 = .ok (.iload_n 1, 1) := by decide +kernel
theorem dX7_say_1 : decode cX7_say 1 = .ok (.bipush 33, 2) := by decide +kernel
theorem dX7_say_3 : decode cX7_say 3 = .ok (.if_icmp .lt 9, 3) := by decide +kernel
theorem dX7_say_6 : decode cX7_say 6 = .ok (.iload_n 1, 1) := by decide +kernel
theorem dX7_say_7 : decode cX7_say 7 = .ok (.bipush 126, 2) := by decide +kernel
theorem dX7_say_9 : decode cX7_say 9 = .ok (.if_icmp .le 6, 3) := by decide +kernel
theorem dX7_say_12 : decode cX7_say 12 = .ok (.bipush (-2), 2) := by decide +kernel
theorem dX7_say_14 : decode cX7_say 14 = .ok (.ireturn, 1) := by decide +kernel
theorem dX7_say_15 : decode cX7_say 15 = .ok (.aload_n 0, 1) := by decide +kernel
theorem dX7_say_16 : decode cX7_say 16 = .ok (.getfield 14, 3) := by decide +kernel
theorem dX7_say_19 : decode cX7_say 19 = .ok (.invokevirtual 70, 3) := by decide +kernel
theorem dX7_say_22 : decode cX7_say 22 = .ok (.bipush 40, 2) := by decide +kernel
theorem dX7_say_24 : decode cX7_say 24 = .ok (.if_icmp .lt 6, 3) := by decide +kernel
theorem dX7_say_27 : decode cX7_say 27 = .ok (.bipush (-4), 2) := by decide +kernel
theorem dX7_say_29 : decode cX7_say 29 = .ok (.ireturn, 1) := by decide +kernel
theorem dX7_say_30 : decode cX7_say 30 = .ok (.aload_n 0, 1) := by decide +kernel
theorem dX7_say_31 : decode cX7_say 31 = .ok (.getfield 14, 3) := by decide +kernel
theorem dX7_say_34 : decode cX7_say 34 = .ok (.iload_n 1, 1) := by decide +kernel
theorem dX7_say_35 : decode cX7_say 35 = .ok (.invokevirtual 74, 3) := by decide +kernel
theorem dX7_say_38 : decode cX7_say 38 = .ok (.aload_n 0, 1) := by decide +kernel
theorem dX7_say_39 : decode cX7_say 39 = .ok (.getfield 14, 3) := by decide +kernel
theorem dX7_say_42 : decode cX7_say 42 = .ok (.invokevirtual 70, 3) := by decide +kernel
theorem dX7_say_45 : decode cX7_say 45 = .ok (.ireturn, 1) := by decide +kernel
theorem dX7_wipe_0 : decode cX7_wipe 0 = .ok (.aload_n 0, 1) := by decide +kernel
theorem dX7_wipe_1 : decode cX7_wipe 1 = .ok (.getfield 14, 3) := by decide +kernel
theorem dX7_wipe_4 : decode cX7_wipe 4 = .ok (.invokevirtual 70, 3) := by decide +kernel
theorem dX7_wipe_7 : decode cX7_wipe 7 = .ok (.istore_n 1, 1) := by decide +kernel
theorem dX7_wipe_8 : decode cX7_wipe 8 = .ok (.aload_n 0, 1) := by decide +kernel
theorem dX7_wipe_9 : decode cX7_wipe 9 = .ok (.getfield 14, 3) := by decide +kernel
theorem dX7_wipe_12 : decode cX7_wipe 12 = .ok (.invokevirtual 77, 3) := by decide +kernel
theorem dX7_wipe_15 : decode cX7_wipe 15 = .ok (.iload_n 1, 1) := by decide +kernel
theorem dX7_wipe_16 : decode cX7_wipe 16 = .ok (.ireturn, 1) := by decide +kernel
theorem dX7_fault_0 : decode cX7_fault 0 = .ok (.aload_n 0, 1) := by decide +kernel
theorem dX7_fault_1 : decode cX7_fault 1 = .ok (.getfield 14, 3) := by decide +kernel
theorem dX7_fault_4 : decode cX7_fault 4 = .ok (.invokevirtual 80, 3) := by decide +kernel
theorem dX7_fault_7 : decode cX7_fault 7 = .ok (.ireturn, 1) := by decide +kernel
theorem dX7_version_0 : decode cX7_version 0 = .ok (.aload_n 0, 1) := by decide +kernel
theorem dX7_version_1 : decode cX7_version 1 = .ok (.getfield 26, 3) := by decide +kernel
theorem dX7_version_4 : decode cX7_version 4 = .ok (.invokevirtual 83, 3) := by decide +kernel
theorem dX7_version_7 : decode cX7_version 7 = .ok (.bipush 6, 2) := by decide +kernel
theorem dX7_version_9 : decode cX7_version 9 = .ok (.if_icmp .lt 6, 3) := by decide +kernel
theorem dX7_version_12 : decode cX7_version 12 = .ok (.bipush (-4), 2) := by decide +kernel
theorem dX7_version_14 : decode cX7_version 14 = .ok (.ireturn, 1) := by decide +kernel
theorem dX7_version_15 : decode cX7_version 15 = .ok (.aload_n 0, 1) := by decide +kernel
theorem dX7_version_16 : decode cX7_version 16 = .ok (.getfield 26, 3) := by decide +kernel
theorem dX7_version_19 : decode cX7_version 19 = .ok (.invokevirtual 86, 3) := by decide +kernel
theorem dX7_version_22 : decode cX7_version 22 = .ok (.ireturn, 1) := by decide +kernel
theorem dX7_word_0 : decode cX7_word 0 = .ok (.iload_n 1, 1) := by decide +kernel
theorem dX7_word_1 : decode cX7_word 1 = .ok (.invokestatic 89, 3) := by decide +kernel
theorem dX7_word_4 : decode cX7_word 4 = .ok (.ifCond .ne 5, 3) := by decide +kernel
theorem dX7_word_7 : decode cX7_word 7 = .ok (.iconst (-1), 1) := by decide +kernel
theorem dX7_word_8 : decode cX7_word 8 = .ok (.ireturn, 1) := by decide +kernel
theorem dX7_word_9 : decode cX7_word 9 = .ok (.aload_n 0, 1) := by decide +kernel
theorem dX7_word_10 : decode cX7_word 10 = .ok (.getfield 14, 3) := by decide +kernel
theorem dX7_word_13 : decode cX7_word 13 = .ok (.invokevirtual 70, 3) := by decide +kernel
theorem dX7_word_16 : decode cX7_word 16 = .ok (.istore_n 2, 1) := by decide +kernel
theorem dX7_word_17 : decode cX7_word 17 = .ok (.iload_n 2, 1) := by decide +kernel
theorem dX7_word_18 : decode cX7_word 18 = .ok (.ifCond .le 18, 3) := by decide +kernel
theorem dX7_word_21 : decode cX7_word 21 = .ok (.aload_n 0, 1) := by decide +kernel
theorem dX7_word_22 : decode cX7_word 22 = .ok (.getfield 14, 3) := by decide +kernel
theorem dX7_word_25 : decode cX7_word 25 = .ok (.invokevirtual 80, 3) := by decide +kernel
theorem dX7_word_28 : decode cX7_word 28 = .ok (.bipush (-6), 2) := by decide +kernel
theorem dX7_word_30 : decode cX7_word 30 = .ok (.if_icmp .eq 6, 3) := by decide +kernel
theorem dX7_word_33 : decode cX7_word 33 = .ok (.bipush (-5), 2) := by decide +kernel
theorem dX7_word_35 : decode cX7_word 35 = .ok (.ireturn, 1) := by decide +kernel
theorem dX7_word_36 : decode cX7_word 36 = .ok (.aload_n 0, 1) := by decide +kernel
theorem dX7_word_37 : decode cX7_word 37 = .ok (.getfield 26, 3) := by decide +kernel
theorem dX7_word_40 : decode cX7_word 40 = .ok (.iload_n 1, 1) := by decide +kernel
theorem dX7_word_41 : decode cX7_word 41 = .ok (.aload_n 0, 1) := by decide +kernel
theorem dX7_word_42 : decode cX7_word 42 = .ok (.getfield 14, 3) := by decide +kernel
theorem dX7_word_45 : decode cX7_word 45 = .ok (.invokevirtual 93, 3) := by decide +kernel
theorem dX7_word_48 : decode cX7_word 48 = .ok (.invokevirtual 97, 3) := by decide +kernel
theorem dX7_word_51 : decode cX7_word 51 = .ok (.aload_n 0, 1) := by decide +kernel
theorem dX7_word_52 : decode cX7_word 52 = .ok (.getfield 14, 3) := by decide +kernel
theorem dX7_word_55 : decode cX7_word 55 = .ok (.invokevirtual 77, 3) := by decide +kernel
theorem dX7_word_58 : decode cX7_word 58 = .ok (.aload_n 0, 1) := by decide +kernel
theorem dX7_word_59 : decode cX7_word 59 = .ok (.getfield 50, 3) := by decide +kernel
theorem dX7_word_62 : decode cX7_word 62 = .ok (.aload_n 0, 1) := by decide +kernel
theorem dX7_word_63 : decode cX7_word 63 = .ok (.getfield 26, 3) := by decide +kernel
theorem dX7_word_66 : decode cX7_word 66 = .ok (.invokevirtual 83, 3) := by decide +kernel
theorem dX7_word_69 : decode cX7_word 69 = .ok (.iconst 1, 1) := by decide +kernel
theorem dX7_word_70 : decode cX7_word 70 = .ok (.isub, 1) := by decide +kernel
theorem dX7_word_71 : decode cX7_word 71 = .ok (.invokevirtual 101, 3) := by decide +kernel
theorem dX7_word_74 : decode cX7_word 74 = .ok (.aload_n 0, 1) := by decide +kernel
theorem dX7_word_75 : decode cX7_word 75 = .ok (.getfield 59, 3) := by decide +kernel
theorem dX7_word_78 : decode cX7_word 78 = .ok (.invokevirtual 104, 3) := by decide +kernel
theorem dX7_word_81 : decode cX7_word 81 = .ok (.iload_n 2, 1) := by decide +kernel
theorem dX7_word_82 : decode cX7_word 82 = .ok (.ireturn, 1) := by decide +kernel
theorem dX7_written_0 : decode cX7_written 0 = .ok (.aload_n 0, 1) := by decide +kernel
theorem dX7_written_1 : decode cX7_written 1 = .ok (.getfield 26, 3) := by decide +kernel
theorem dX7_written_4 : decode cX7_written 4 = .ok (.iload_n 1, 1) := by decide +kernel
theorem dX7_written_5 : decode cX7_written 5 = .ok (.invokevirtual 106, 3) := by decide +kernel
theorem dX7_written_8 : decode cX7_written 8 = .ok (.ifCond .eq 10, 3) := by decide +kernel
theorem dX7_written_11 : decode cX7_written 11 = .ok (.iload_n 2, 1) := by decide +kernel
theorem dX7_written_12 : decode cX7_written 12 = .ok (.invokestatic 89, 3) := by decide +kernel
theorem dX7_written_15 : decode cX7_written 15 = .ok (.ifCond .ne 5, 3) := by decide +kernel
theorem dX7_written_18 : decode cX7_written 18 = .ok (.iconst (-1), 1) := by decide +kernel
theorem dX7_written_19 : decode cX7_written 19 = .ok (.ireturn, 1) := by decide +kernel
theorem dX7_written_20 : decode cX7_written 20 = .ok (.aload_n 0, 1) := by decide +kernel
theorem dX7_written_21 : decode cX7_written 21 = .ok (.getfield 26, 3) := by decide +kernel
theorem dX7_written_24 : decode cX7_written 24 = .ok (.iload_n 1, 1) := by decide +kernel
theorem dX7_written_25 : decode cX7_written 25 = .ok (.iload_n 2, 1) := by decide +kernel
theorem dX7_written_26 : decode cX7_written 26 = .ok (.invokevirtual 109, 3) := by decide +kernel
theorem dX7_written_29 : decode cX7_written 29 = .ok (.astore 4, 2) := by decide +kernel
theorem dX7_written_31 : decode cX7_written 31 = .ok (.iload_n 3, 1) := by decide +kernel
theorem dX7_written_32 : decode cX7_written 32 = .ok (.iconst (-1), 1) := by decide +kernel
theorem dX7_written_33 : decode cX7_written 33 = .ok (.if_icmp .ne 9, 3) := by decide +kernel
theorem dX7_written_36 : decode cX7_written 36 = .ok (.aload 4, 2) := by decide +kernel
theorem dX7_written_38 : decode cX7_written 38 = .ok (.invokevirtual 70, 3) := by decide +kernel
theorem dX7_written_41 : decode cX7_written 41 = .ok (.ireturn, 1) := by decide +kernel
theorem dX7_written_42 : decode cX7_written 42 = .ok (.iload_n 3, 1) := by decide +kernel
theorem dX7_written_43 : decode cX7_written 43 = .ok (.ifCond .lt 21, 3) := by decide +kernel
theorem dX7_written_46 : decode cX7_written 46 = .ok (.iload_n 3, 1) := by decide +kernel
theorem dX7_written_47 : decode cX7_written 47 = .ok (.aload 4, 2) := by decide +kernel
theorem dX7_written_49 : decode cX7_written 49 = .ok (.invokevirtual 70, 3) := by decide +kernel
theorem dX7_written_52 : decode cX7_written 52 = .ok (.if_icmp .ge 12, 3) := by decide +kernel
theorem dX7_written_55 : decode cX7_written 55 = .ok (.aload 4, 2) := by decide +kernel
theorem dX7_written_57 : decode cX7_written 57 = .ok (.iload_n 3, 1) := by decide +kernel
theorem dX7_written_58 : decode cX7_written 58 = .ok (.invokevirtual 113, 3) := by decide +kernel
theorem dX7_written_61 : decode cX7_written 61 = .ok (.goto 5, 3) := by decide +kernel
theorem dX7_written_64 : decode cX7_written 64 = .ok (.bipush (-6), 2) := by decide +kernel
theorem dX7_written_66 : decode cX7_written 66 = .ok (.ireturn, 1) := by decide +kernel
theorem dX7_comes_0 : decode cX7_comes 0 = .ok (.aload_n 0, 1) := by decide +kernel
theorem dX7_comes_1 : decode cX7_comes 1 = .ok (.getfield 26, 3) := by decide +kernel
theorem dX7_comes_4 : decode cX7_comes 4 = .ok (.iload_n 1, 1) := by decide +kernel
theorem dX7_comes_5 : decode cX7_comes 5 = .ok (.invokevirtual 106, 3) := by decide +kernel
theorem dX7_comes_8 : decode cX7_comes 8 = .ok (.ifCond .ne 5, 3) := by decide +kernel
theorem dX7_comes_11 : decode cX7_comes 11 = .ok (.iconst (-1), 1) := by decide +kernel
theorem dX7_comes_12 : decode cX7_comes 12 = .ok (.ireturn, 1) := by decide +kernel
theorem dX7_comes_13 : decode cX7_comes 13 = .ok (.iload_n 2, 1) := by decide +kernel
theorem dX7_comes_14 : decode cX7_comes 14 = .ok (.invokestatic 117, 3) := by decide +kernel
theorem dX7_comes_17 : decode cX7_comes 17 = .ok (.ifCond .ne 6, 3) := by decide +kernel
theorem dX7_comes_20 : decode cX7_comes 20 = .ok (.bipush (-2), 2) := by decide +kernel
theorem dX7_comes_22 : decode cX7_comes 22 = .ok (.ireturn, 1) := by decide +kernel
theorem dX7_comes_23 : decode cX7_comes 23 = .ok (.aload_n 0, 1) := by decide +kernel
theorem dX7_comes_24 : decode cX7_comes 24 = .ok (.getfield 14, 3) := by decide +kernel
theorem dX7_comes_27 : decode cX7_comes 27 = .ok (.invokevirtual 80, 3) := by decide +kernel
theorem dX7_comes_30 : decode cX7_comes 30 = .ok (.bipush (-6), 2) := by decide +kernel
theorem dX7_comes_32 : decode cX7_comes 32 = .ok (.if_icmp .eq 6, 3) := by decide +kernel
theorem dX7_comes_35 : decode cX7_comes 35 = .ok (.bipush (-5), 2) := by decide +kernel
theorem dX7_comes_37 : decode cX7_comes 37 = .ok (.ireturn, 1) := by decide +kernel
theorem dX7_comes_38 : decode cX7_comes 38 = .ok (.aload_n 0, 1) := by decide +kernel
theorem dX7_comes_39 : decode cX7_comes 39 = .ok (.getfield 41, 3) := by decide +kernel
theorem dX7_comes_42 : decode cX7_comes 42 = .ok (.aload_n 0, 1) := by decide +kernel
theorem dX7_comes_43 : decode cX7_comes 43 = .ok (.getfield 26, 3) := by decide +kernel
theorem dX7_comes_46 : decode cX7_comes 46 = .ok (.iload_n 1, 1) := by decide +kernel
theorem dX7_comes_47 : decode cX7_comes 47 = .ok (.invokevirtual 120, 3) := by decide +kernel
theorem dX7_comes_50 : decode cX7_comes 50 = .ok (.aload_n 0, 1) := by decide +kernel
theorem dX7_comes_51 : decode cX7_comes 51 = .ok (.getfield 41, 3) := by decide +kernel
theorem dX7_comes_54 : decode cX7_comes 54 = .ok (.aload_n 0, 1) := by decide +kernel
theorem dX7_comes_55 : decode cX7_comes 55 = .ok (.getfield 14, 3) := by decide +kernel
theorem dX7_comes_58 : decode cX7_comes 58 = .ok (.iload_n 2, 1) := by decide +kernel
theorem dX7_comes_59 : decode cX7_comes 59 = .ok (.invokevirtual 124, 3) := by decide +kernel
theorem dX7_comes_62 : decode cX7_comes 62 = .ok (.ireturn, 1) := by decide +kernel
theorem dX7_tells_0 : decode cX7_tells 0 = .ok (.iload_n 1, 1) := by decide +kernel
theorem dX7_tells_1 : decode cX7_tells 1 = .ok (.invokestatic 89, 3) := by decide +kernel
theorem dX7_tells_4 : decode cX7_tells 4 = .ok (.ifCond .ne 5, 3) := by decide +kernel
theorem dX7_tells_7 : decode cX7_tells 7 = .ok (.iconst (-1), 1) := by decide +kernel
theorem dX7_tells_8 : decode cX7_tells 8 = .ok (.ireturn, 1) := by decide +kernel
theorem dX7_tells_9 : decode cX7_tells 9 = .ok (.aload_n 0, 1) := by decide +kernel
theorem dX7_tells_10 : decode cX7_tells 10 = .ok (.getfield 26, 3) := by decide +kernel
theorem dX7_tells_13 : decode cX7_tells 13 = .ok (.invokevirtual 128, 3) := by decide +kernel
theorem dX7_tells_16 : decode cX7_tells 16 = .ok (.bipush 12, 2) := by decide +kernel
theorem dX7_tells_18 : decode cX7_tells 18 = .ok (.if_icmp .lt 6, 3) := by decide +kernel
theorem dX7_tells_21 : decode cX7_tells 21 = .ok (.bipush (-4), 2) := by decide +kernel
theorem dX7_tells_23 : decode cX7_tells 23 = .ok (.ireturn, 1) := by decide +kernel
theorem dX7_tells_24 : decode cX7_tells 24 = .ok (.aload_n 0, 1) := by decide +kernel
theorem dX7_tells_25 : decode cX7_tells 25 = .ok (.getfield 26, 3) := by decide +kernel
theorem dX7_tells_28 : decode cX7_tells 28 = .ok (.iload_n 1, 1) := by decide +kernel
theorem dX7_tells_29 : decode cX7_tells 29 = .ok (.invokevirtual 131, 3) := by decide +kernel
theorem dX7_tells_32 : decode cX7_tells 32 = .ok (.ireturn, 1) := by decide +kernel
theorem dX7_shows_0 : decode cX7_shows 0 = .ok (.iload_n 1, 1) := by decide +kernel
theorem dX7_shows_1 : decode cX7_shows 1 = .ok (.invokestatic 117, 3) := by decide +kernel
theorem dX7_shows_4 : decode cX7_shows 4 = .ok (.ifCond .ne 6, 3) := by decide +kernel
theorem dX7_shows_7 : decode cX7_shows 7 = .ok (.bipush (-2), 2) := by decide +kernel
theorem dX7_shows_9 : decode cX7_shows 9 = .ok (.ireturn, 1) := by decide +kernel
theorem dX7_shows_10 : decode cX7_shows 10 = .ok (.aload_n 0, 1) := by decide +kernel
theorem dX7_shows_11 : decode cX7_shows 11 = .ok (.getfield 26, 3) := by decide +kernel
theorem dX7_shows_14 : decode cX7_shows 14 = .ok (.invokevirtual 128, 3) := by decide +kernel
theorem dX7_shows_17 : decode cX7_shows 17 = .ok (.bipush 12, 2) := by decide +kernel
theorem dX7_shows_19 : decode cX7_shows 19 = .ok (.if_icmp .lt 6, 3) := by decide +kernel
theorem dX7_shows_22 : decode cX7_shows 22 = .ok (.bipush (-4), 2) := by decide +kernel
theorem dX7_shows_24 : decode cX7_shows 24 = .ok (.ireturn, 1) := by decide +kernel
theorem dX7_shows_25 : decode cX7_shows 25 = .ok (.aload_n 0, 1) := by decide +kernel
theorem dX7_shows_26 : decode cX7_shows 26 = .ok (.getfield 14, 3) := by decide +kernel
theorem dX7_shows_29 : decode cX7_shows 29 = .ok (.invokevirtual 80, 3) := by decide +kernel
theorem dX7_shows_32 : decode cX7_shows 32 = .ok (.bipush (-6), 2) := by decide +kernel
theorem dX7_shows_34 : decode cX7_shows 34 = .ok (.if_icmp .ne 15, 3) := by decide +kernel
theorem dX7_shows_37 : decode cX7_shows 37 = .ok (.aload_n 0, 1) := by decide +kernel
theorem dX7_shows_38 : decode cX7_shows 38 = .ok (.getfield 14, 3) := by decide +kernel
theorem dX7_shows_41 : decode cX7_shows 41 = .ok (.bipush 120, 2) := by decide +kernel
theorem dX7_shows_43 : decode cX7_shows 43 = .ok (.invokevirtual 134, 3) := by decide +kernel
theorem dX7_shows_46 : decode cX7_shows 46 = .ok (.ifCond .eq 6, 3) := by decide +kernel
theorem dX7_shows_49 : decode cX7_shows 49 = .ok (.bipush (-5), 2) := by decide +kernel
theorem dX7_shows_51 : decode cX7_shows 51 = .ok (.ireturn, 1) := by decide +kernel
theorem dX7_shows_52 : decode cX7_shows 52 = .ok (.aload_n 0, 1) := by decide +kernel
theorem dX7_shows_53 : decode cX7_shows 53 = .ok (.getfield 26, 3) := by decide +kernel
theorem dX7_shows_56 : decode cX7_shows 56 = .ok (.aload_n 0, 1) := by decide +kernel
theorem dX7_shows_57 : decode cX7_shows 57 = .ok (.getfield 14, 3) := by decide +kernel
theorem dX7_shows_60 : decode cX7_shows 60 = .ok (.invokevirtual 93, 3) := by decide +kernel
theorem dX7_shows_63 : decode cX7_shows 63 = .ok (.iload_n 1, 1) := by decide +kernel
theorem dX7_shows_64 : decode cX7_shows 64 = .ok (.invokevirtual 137, 3) := by decide +kernel
theorem dX7_shows_67 : decode cX7_shows 67 = .ok (.istore_n 2, 1) := by decide +kernel
theorem dX7_shows_68 : decode cX7_shows 68 = .ok (.aload_n 0, 1) := by decide +kernel
theorem dX7_shows_69 : decode cX7_shows 69 = .ok (.getfield 14, 3) := by decide +kernel
theorem dX7_shows_72 : decode cX7_shows 72 = .ok (.invokevirtual 77, 3) := by decide +kernel
theorem dX7_shows_75 : decode cX7_shows 75 = .ok (.aload_n 0, 1) := by decide +kernel
theorem dX7_shows_76 : decode cX7_shows 76 = .ok (.getfield 59, 3) := by decide +kernel
theorem dX7_shows_79 : decode cX7_shows 79 = .ok (.invokevirtual 104, 3) := by decide +kernel
theorem dX7_shows_82 : decode cX7_shows 82 = .ok (.iload_n 2, 1) := by decide +kernel
theorem dX7_shows_83 : decode cX7_shows 83 = .ok (.ireturn, 1) := by decide +kernel
theorem dX7_page_0 : decode cX7_page 0 = .ok (.aload_n 0, 1) := by decide +kernel
theorem dX7_page_1 : decode cX7_page 1 = .ok (.getfield 26, 3) := by decide +kernel
theorem dX7_page_4 : decode cX7_page 4 = .ok (.iload_n 1, 1) := by decide +kernel
theorem dX7_page_5 : decode cX7_page 5 = .ok (.invokevirtual 140, 3) := by decide +kernel
theorem dX7_page_8 : decode cX7_page 8 = .ok (.ifCond .ne 5, 3) := by decide +kernel
theorem dX7_page_11 : decode cX7_page 11 = .ok (.iconst (-1), 1) := by decide +kernel
theorem dX7_page_12 : decode cX7_page 12 = .ok (.ireturn, 1) := by decide +kernel
theorem dX7_page_13 : decode cX7_page 13 = .ok (.iload_n 2, 1) := by decide +kernel
theorem dX7_page_14 : decode cX7_page 14 = .ok (.tableswitch 85 0 3 #[30, 39, 64, 73], 30) := by decide +kernel
theorem dX7_page_44 : decode cX7_page 44 = .ok (.aload_n 0, 1) := by decide +kernel
theorem dX7_page_45 : decode cX7_page 45 = .ok (.getfield 26, 3) := by decide +kernel
theorem dX7_page_48 : decode cX7_page 48 = .ok (.iload_n 1, 1) := by decide +kernel
theorem dX7_page_49 : decode cX7_page 49 = .ok (.invokevirtual 143, 3) := by decide +kernel
theorem dX7_page_52 : decode cX7_page 52 = .ok (.ireturn, 1) := by decide +kernel
theorem dX7_page_53 : decode cX7_page 53 = .ok (.aload_n 0, 1) := by decide +kernel
theorem dX7_page_54 : decode cX7_page 54 = .ok (.getfield 26, 3) := by decide +kernel
theorem dX7_page_57 : decode cX7_page 57 = .ok (.iload_n 1, 1) := by decide +kernel
theorem dX7_page_58 : decode cX7_page 58 = .ok (.invokevirtual 146, 3) := by decide +kernel
theorem dX7_page_61 : decode cX7_page 61 = .ok (.ifCond .eq 14, 3) := by decide +kernel
theorem dX7_page_64 : decode cX7_page 64 = .ok (.aload_n 0, 1) := by decide +kernel
theorem dX7_page_65 : decode cX7_page 65 = .ok (.getfield 26, 3) := by decide +kernel
theorem dX7_page_68 : decode cX7_page 68 = .ok (.iload_n 1, 1) := by decide +kernel
theorem dX7_page_69 : decode cX7_page 69 = .ok (.invokevirtual 149, 3) := by decide +kernel
theorem dX7_page_72 : decode cX7_page 72 = .ok (.goto 5, 3) := by decide +kernel
theorem dX7_page_75 : decode cX7_page 75 = .ok (.bipush (-6), 2) := by decide +kernel
theorem dX7_page_77 : decode cX7_page 77 = .ok (.ireturn, 1) := by decide +kernel
theorem dX7_page_78 : decode cX7_page 78 = .ok (.aload_n 0, 1) := by decide +kernel
theorem dX7_page_79 : decode cX7_page 79 = .ok (.getfield 26, 3) := by decide +kernel
theorem dX7_page_82 : decode cX7_page 82 = .ok (.iload_n 1, 1) := by decide +kernel
theorem dX7_page_83 : decode cX7_page 83 = .ok (.invokevirtual 152, 3) := by decide +kernel
theorem dX7_page_86 : decode cX7_page 86 = .ok (.ireturn, 1) := by decide +kernel
theorem dX7_page_87 : decode cX7_page 87 = .ok (.aload_n 0, 1) := by decide +kernel
theorem dX7_page_88 : decode cX7_page 88 = .ok (.getfield 26, 3) := by decide +kernel
theorem dX7_page_91 : decode cX7_page 91 = .ok (.iload_n 1, 1) := by decide +kernel
theorem dX7_page_92 : decode cX7_page 92 = .ok (.invokevirtual 155, 3) := by decide +kernel
theorem dX7_page_95 : decode cX7_page 95 = .ok (.invokevirtual 70, 3) := by decide +kernel
theorem dX7_page_98 : decode cX7_page 98 = .ok (.ireturn, 1) := by decide +kernel
theorem dX7_page_99 : decode cX7_page 99 = .ok (.bipush (-2), 2) := by decide +kernel
theorem dX7_page_101 : decode cX7_page 101 = .ok (.ireturn, 1) := by decide +kernel
theorem dX7_held_0 : decode cX7_held 0 = .ok (.aload_n 0, 1) := by decide +kernel
theorem dX7_held_1 : decode cX7_held 1 = .ok (.getfield 26, 3) := by decide +kernel
theorem dX7_held_4 : decode cX7_held 4 = .ok (.iload_n 1, 1) := by decide +kernel
theorem dX7_held_5 : decode cX7_held 5 = .ok (.invokevirtual 146, 3) := by decide +kernel
theorem dX7_held_8 : decode cX7_held 8 = .ok (.ifCond .eq 14, 3) := by decide +kernel
theorem dX7_held_11 : decode cX7_held 11 = .ok (.aload_n 0, 1) := by decide +kernel
theorem dX7_held_12 : decode cX7_held 12 = .ok (.getfield 26, 3) := by decide +kernel
theorem dX7_held_15 : decode cX7_held 15 = .ok (.iload_n 2, 1) := by decide +kernel
theorem dX7_held_16 : decode cX7_held 16 = .ok (.invokevirtual 106, 3) := by decide +kernel
theorem dX7_held_19 : decode cX7_held 19 = .ok (.ifCond .ne 5, 3) := by decide +kernel
theorem dX7_held_22 : decode cX7_held 22 = .ok (.iconst (-1), 1) := by decide +kernel
theorem dX7_held_23 : decode cX7_held 23 = .ok (.ireturn, 1) := by decide +kernel
theorem dX7_held_24 : decode cX7_held 24 = .ok (.aload_n 0, 1) := by decide +kernel
theorem dX7_held_25 : decode cX7_held 25 = .ok (.getfield 50, 3) := by decide +kernel
theorem dX7_held_28 : decode cX7_held 28 = .ok (.iload_n 1, 1) := by decide +kernel
theorem dX7_held_29 : decode cX7_held 29 = .ok (.iload_n 2, 1) := by decide +kernel
theorem dX7_held_30 : decode cX7_held 30 = .ok (.invokevirtual 159, 3) := by decide +kernel
theorem dX7_held_33 : decode cX7_held 33 = .ok (.iload_n 3, 1) := by decide +kernel
theorem dX7_held_34 : decode cX7_held 34 = .ok (.tableswitch 64 0 2 #[26, 36, 54], 26) := by decide +kernel
theorem dX7_held_60 : decode cX7_held 60 = .ok (.aload_n 0, 1) := by decide +kernel
theorem dX7_held_61 : decode cX7_held 61 = .ok (.getfield 50, 3) := by decide +kernel
theorem dX7_held_64 : decode cX7_held 64 = .ok (.iload_n 1, 1) := by decide +kernel
theorem dX7_held_65 : decode cX7_held 65 = .ok (.iload_n 2, 1) := by decide +kernel
theorem dX7_held_66 : decode cX7_held 66 = .ok (.invokevirtual 163, 3) := by decide +kernel
theorem dX7_held_69 : decode cX7_held 69 = .ok (.ireturn, 1) := by decide +kernel
theorem dX7_held_70 : decode cX7_held 70 = .ok (.aload_n 0, 1) := by decide +kernel
theorem dX7_held_71 : decode cX7_held 71 = .ok (.getfield 50, 3) := by decide +kernel
theorem dX7_held_74 : decode cX7_held 74 = .ok (.iload_n 1, 1) := by decide +kernel
theorem dX7_held_75 : decode cX7_held 75 = .ok (.iload_n 2, 1) := by decide +kernel
theorem dX7_held_76 : decode cX7_held 76 = .ok (.invokevirtual 167, 3) := by decide +kernel
theorem dX7_held_79 : decode cX7_held 79 = .ok (.ifCond .eq 7, 3) := by decide +kernel
theorem dX7_held_82 : decode cX7_held 82 = .ok (.iconst 1, 1) := by decide +kernel
theorem dX7_held_83 : decode cX7_held 83 = .ok (.goto 4, 3) := by decide +kernel
theorem dX7_held_86 : decode cX7_held 86 = .ok (.iconst 0, 1) := by decide +kernel
theorem dX7_held_87 : decode cX7_held 87 = .ok (.ireturn, 1) := by decide +kernel
theorem dX7_held_88 : decode cX7_held 88 = .ok (.aload_n 0, 1) := by decide +kernel
theorem dX7_held_89 : decode cX7_held 89 = .ok (.getfield 50, 3) := by decide +kernel
theorem dX7_held_92 : decode cX7_held 92 = .ok (.iload_n 1, 1) := by decide +kernel
theorem dX7_held_93 : decode cX7_held 93 = .ok (.iload_n 2, 1) := by decide +kernel
theorem dX7_held_94 : decode cX7_held 94 = .ok (.invokevirtual 171, 3) := by decide +kernel
theorem dX7_held_97 : decode cX7_held 97 = .ok (.ireturn, 1) := by decide +kernel
theorem dX7_held_98 : decode cX7_held 98 = .ok (.bipush (-2), 2) := by decide +kernel
theorem dX7_held_100 : decode cX7_held 100 = .ok (.ireturn, 1) := by decide +kernel
theorem dX7_stale_0 : decode cX7_stale 0 = .ok (.aload_n 0, 1) := by decide +kernel
theorem dX7_stale_1 : decode cX7_stale 1 = .ok (.getfield 26, 3) := by decide +kernel
theorem dX7_stale_4 : decode cX7_stale 4 = .ok (.iload_n 1, 1) := by decide +kernel
theorem dX7_stale_5 : decode cX7_stale 5 = .ok (.invokevirtual 146, 3) := by decide +kernel
theorem dX7_stale_8 : decode cX7_stale 8 = .ok (.ifCond .ne 5, 3) := by decide +kernel
theorem dX7_stale_11 : decode cX7_stale 11 = .ok (.iconst (-1), 1) := by decide +kernel
theorem dX7_stale_12 : decode cX7_stale 12 = .ok (.ireturn, 1) := by decide +kernel
theorem dX7_stale_13 : decode cX7_stale 13 = .ok (.iconst 0, 1) := by decide +kernel
theorem dX7_stale_14 : decode cX7_stale 14 = .ok (.istore_n 2, 1) := by decide +kernel
theorem dX7_stale_15 : decode cX7_stale 15 = .ok (.iconst 0, 1) := by decide +kernel
theorem dX7_stale_16 : decode cX7_stale 16 = .ok (.istore_n 3, 1) := by decide +kernel
theorem dX7_stale_17 : decode cX7_stale 17 = .ok (.iload_n 3, 1) := by decide +kernel
theorem dX7_stale_18 : decode cX7_stale 18 = .ok (.aload_n 0, 1) := by decide +kernel
theorem dX7_stale_19 : decode cX7_stale 19 = .ok (.getfield 26, 3) := by decide +kernel
theorem dX7_stale_22 : decode cX7_stale 22 = .ok (.invokevirtual 83, 3) := by decide +kernel
theorem dX7_stale_25 : decode cX7_stale 25 = .ok (.if_icmp .ge 43, 3) := by decide +kernel
theorem dX7_stale_28 : decode cX7_stale 28 = .ok (.aload_n 0, 1) := by decide +kernel
theorem dX7_stale_29 : decode cX7_stale 29 = .ok (.getfield 50, 3) := by decide +kernel
theorem dX7_stale_32 : decode cX7_stale 32 = .ok (.iload_n 1, 1) := by decide +kernel
theorem dX7_stale_33 : decode cX7_stale 33 = .ok (.iload_n 3, 1) := by decide +kernel
theorem dX7_stale_34 : decode cX7_stale 34 = .ok (.invokevirtual 159, 3) := by decide +kernel
theorem dX7_stale_37 : decode cX7_stale 37 = .ok (.aload_n 0, 1) := by decide +kernel
theorem dX7_stale_38 : decode cX7_stale 38 = .ok (.getfield 50, 3) := by decide +kernel
theorem dX7_stale_41 : decode cX7_stale 41 = .ok (.iload_n 1, 1) := by decide +kernel
theorem dX7_stale_42 : decode cX7_stale 42 = .ok (.iload_n 3, 1) := by decide +kernel
theorem dX7_stale_43 : decode cX7_stale 43 = .ok (.invokevirtual 167, 3) := by decide +kernel
theorem dX7_stale_46 : decode cX7_stale 46 = .ok (.istore 4, 2) := by decide +kernel
theorem dX7_stale_48 : decode cX7_stale 48 = .ok (.iload_n 2, 1) := by decide +kernel
theorem dX7_stale_49 : decode cX7_stale 49 = .ok (.ifCond .eq 10, 3) := by decide +kernel
theorem dX7_stale_52 : decode cX7_stale 52 = .ok (.iload 4, 2) := by decide +kernel
theorem dX7_stale_54 : decode cX7_stale 54 = .ok (.ifCond .ne 5, 3) := by decide +kernel
theorem dX7_stale_57 : decode cX7_stale 57 = .ok (.iload_n 3, 1) := by decide +kernel
theorem dX7_stale_58 : decode cX7_stale 58 = .ok (.ireturn, 1) := by decide +kernel
theorem dX7_stale_59 : decode cX7_stale 59 = .ok (.iload 4, 2) := by decide +kernel
theorem dX7_stale_61 : decode cX7_stale 61 = .ok (.istore_n 2, 1) := by decide +kernel
theorem dX7_stale_62 : decode cX7_stale 62 = .ok (.iinc 3 1, 3) := by decide +kernel
theorem dX7_stale_65 : decode cX7_stale 65 = .ok (.goto (-48), 3) := by decide +kernel
theorem dX7_stale_68 : decode cX7_stale 68 = .ok (.bipush (-6), 2) := by decide +kernel
theorem dX7_stale_70 : decode cX7_stale 70 = .ok (.ireturn, 1) := by decide +kernel
theorem dX7_blame_0 : decode cX7_blame 0 = .ok (.aload_n 0, 1) := by decide +kernel
theorem dX7_blame_1 : decode cX7_blame 1 = .ok (.getfield 26, 3) := by decide +kernel
theorem dX7_blame_4 : decode cX7_blame 4 = .ok (.iload_n 1, 1) := by decide +kernel
theorem dX7_blame_5 : decode cX7_blame 5 = .ok (.invokevirtual 146, 3) := by decide +kernel
theorem dX7_blame_8 : decode cX7_blame 8 = .ok (.ifCond .eq 14, 3) := by decide +kernel
theorem dX7_blame_11 : decode cX7_blame 11 = .ok (.aload_n 0, 1) := by decide +kernel
theorem dX7_blame_12 : decode cX7_blame 12 = .ok (.getfield 26, 3) := by decide +kernel
theorem dX7_blame_15 : decode cX7_blame 15 = .ok (.iload_n 2, 1) := by decide +kernel
theorem dX7_blame_16 : decode cX7_blame 16 = .ok (.invokevirtual 106, 3) := by decide +kernel
theorem dX7_blame_19 : decode cX7_blame 19 = .ok (.ifCond .ne 5, 3) := by decide +kernel
theorem dX7_blame_22 : decode cX7_blame 22 = .ok (.iconst (-1), 1) := by decide +kernel
theorem dX7_blame_23 : decode cX7_blame 23 = .ok (.ireturn, 1) := by decide +kernel
theorem dX7_blame_24 : decode cX7_blame 24 = .ok (.aload_n 0, 1) := by decide +kernel
theorem dX7_blame_25 : decode cX7_blame 25 = .ok (.getfield 50, 3) := by decide +kernel
theorem dX7_blame_28 : decode cX7_blame 28 = .ok (.iload_n 1, 1) := by decide +kernel
theorem dX7_blame_29 : decode cX7_blame 29 = .ok (.iload_n 2, 1) := by decide +kernel
theorem dX7_blame_30 : decode cX7_blame 30 = .ok (.invokevirtual 159, 3) := by decide +kernel
theorem dX7_blame_33 : decode cX7_blame 33 = .ok (.iload_n 2, 1) := by decide +kernel
theorem dX7_blame_34 : decode cX7_blame 34 = .ok (.ifCond .eq 15, 3) := by decide +kernel
theorem dX7_blame_37 : decode cX7_blame 37 = .ok (.aload_n 0, 1) := by decide +kernel
theorem dX7_blame_38 : decode cX7_blame 38 = .ok (.getfield 50, 3) := by decide +kernel
theorem dX7_blame_41 : decode cX7_blame 41 = .ok (.iload_n 1, 1) := by decide +kernel
theorem dX7_blame_42 : decode cX7_blame 42 = .ok (.iload_n 2, 1) := by decide +kernel
theorem dX7_blame_43 : decode cX7_blame 43 = .ok (.invokevirtual 167, 3) := by decide +kernel
theorem dX7_blame_46 : decode cX7_blame 46 = .ok (.ifCond .eq 6, 3) := by decide +kernel
theorem dX7_blame_49 : decode cX7_blame 49 = .ok (.bipush (-3), 2) := by decide +kernel
theorem dX7_blame_51 : decode cX7_blame 51 = .ok (.ireturn, 1) := by decide +kernel
theorem dX7_blame_52 : decode cX7_blame 52 = .ok (.aload_n 0, 1) := by decide +kernel
theorem dX7_blame_53 : decode cX7_blame 53 = .ok (.getfield 26, 3) := by decide +kernel
theorem dX7_blame_56 : decode cX7_blame 56 = .ok (.iload_n 2, 1) := by decide +kernel
theorem dX7_blame_57 : decode cX7_blame 57 = .ok (.invokevirtual 174, 3) := by decide +kernel
theorem dX7_blame_60 : decode cX7_blame 60 = .ok (.istore_n 3, 1) := by decide +kernel
theorem dX7_blame_61 : decode cX7_blame 61 = .ok (.bipush (-5), 2) := by decide +kernel
theorem dX7_blame_63 : decode cX7_blame 63 = .ok (.istore 4, 2) := by decide +kernel
theorem dX7_blame_65 : decode cX7_blame 65 = .ok (.bipush 9, 2) := by decide +kernel
theorem dX7_blame_67 : decode cX7_blame 67 = .ok (.istore 5, 2) := by decide +kernel
theorem dX7_blame_69 : decode cX7_blame 69 = .ok (.iconst 1, 1) := by decide +kernel
theorem dX7_blame_70 : decode cX7_blame 70 = .ok (.istore 6, 2) := by decide +kernel
theorem dX7_blame_72 : decode cX7_blame 72 = .ok (.iload 6, 2) := by decide +kernel
theorem dX7_blame_74 : decode cX7_blame 74 = .ok (.sipush 256, 3) := by decide +kernel
theorem dX7_blame_77 : decode cX7_blame 77 = .ok (.if_icmp .ge 51, 3) := by decide +kernel
theorem dX7_blame_80 : decode cX7_blame 80 = .ok (.iload 6, 2) := by decide +kernel
theorem dX7_blame_82 : decode cX7_blame 82 = .ok (.invokestatic 177, 3) := by decide +kernel
theorem dX7_blame_85 : decode cX7_blame 85 = .ok (.istore 7, 2) := by decide +kernel
theorem dX7_blame_87 : decode cX7_blame 87 = .ok (.iload 6, 2) := by decide +kernel
theorem dX7_blame_89 : decode cX7_blame 89 = .ok (.iload_n 3, 1) := by decide +kernel
theorem dX7_blame_90 : decode cX7_blame 90 = .ok (.iconst (-1), 1) := by decide +kernel
theorem dX7_blame_91 : decode cX7_blame 91 = .ok (.ixor, 1) := by decide +kernel
theorem dX7_blame_92 : decode cX7_blame 92 = .ok (.iand, 1) := by decide +kernel
theorem dX7_blame_93 : decode cX7_blame 93 = .ok (.ifCond .ne 29, 3) := by decide +kernel
theorem dX7_blame_96 : decode cX7_blame 96 = .ok (.iload 7, 2) := by decide +kernel
theorem dX7_blame_98 : decode cX7_blame 98 = .ok (.iload 5, 2) := by decide +kernel
theorem dX7_blame_100 : decode cX7_blame 100 = .ok (.if_icmp .ge 22, 3) := by decide +kernel
theorem dX7_blame_103 : decode cX7_blame 103 = .ok (.aload_n 0, 1) := by decide +kernel
theorem dX7_blame_104 : decode cX7_blame 104 = .ok (.iload_n 1, 1) := by decide +kernel
theorem dX7_blame_105 : decode cX7_blame 105 = .ok (.iload_n 2, 1) := by decide +kernel
theorem dX7_blame_106 : decode cX7_blame 106 = .ok (.iload 6, 2) := by decide +kernel
theorem dX7_blame_108 : decode cX7_blame 108 = .ok (.invokevirtual 182, 3) := by decide +kernel
theorem dX7_blame_111 : decode cX7_blame 111 = .ok (.ifCond .eq 11, 3) := by decide +kernel
theorem dX7_blame_114 : decode cX7_blame 114 = .ok (.iload 6, 2) := by decide +kernel
theorem dX7_blame_116 : decode cX7_blame 116 = .ok (.istore 4, 2) := by decide +kernel
theorem dX7_blame_118 : decode cX7_blame 118 = .ok (.iload 7, 2) := by decide +kernel
theorem dX7_blame_120 : decode cX7_blame 120 = .ok (.istore 5, 2) := by decide +kernel
theorem dX7_blame_122 : decode cX7_blame 122 = .ok (.iinc 6 1, 3) := by decide +kernel
theorem dX7_blame_125 : decode cX7_blame 125 = .ok (.goto (-53), 3) := by decide +kernel
theorem dX7_blame_128 : decode cX7_blame 128 = .ok (.iload 4, 2) := by decide +kernel
theorem dX7_blame_130 : decode cX7_blame 130 = .ok (.ireturn, 1) := by decide +kernel
theorem dX7_order_0 : decode cX7_order 0 = .ok (.iload_n 1, 1) := by decide +kernel
theorem dX7_order_1 : decode cX7_order 1 = .ok (.iconst (-1), 1) := by decide +kernel
theorem dX7_order_2 : decode cX7_order 2 = .ok (.if_icmp .ne 8, 3) := by decide +kernel
theorem dX7_order_5 : decode cX7_order 5 = .ok (.aload_n 0, 1) := by decide +kernel
theorem dX7_order_6 : decode cX7_order 6 = .ok (.invokevirtual 186, 3) := by decide +kernel
theorem dX7_order_9 : decode cX7_order 9 = .ok (.ireturn, 1) := by decide +kernel
theorem dX7_order_10 : decode cX7_order 10 = .ok (.iload_n 1, 1) := by decide +kernel
theorem dX7_order_11 : decode cX7_order 11 = .ok (.bipush (-2), 2) := by decide +kernel
theorem dX7_order_13 : decode cX7_order 13 = .ok (.if_icmp .ne 8, 3) := by decide +kernel
theorem dX7_order_16 : decode cX7_order 16 = .ok (.aload_n 0, 1) := by decide +kernel
theorem dX7_order_17 : decode cX7_order 17 = .ok (.invokevirtual 189, 3) := by decide +kernel
theorem dX7_order_20 : decode cX7_order 20 = .ok (.ireturn, 1) := by decide +kernel
theorem dX7_order_21 : decode cX7_order 21 = .ok (.iload_n 1, 1) := by decide +kernel
theorem dX7_order_22 : decode cX7_order 22 = .ok (.ifCond .lt 22, 3) := by decide +kernel
theorem dX7_order_25 : decode cX7_order 25 = .ok (.iload_n 1, 1) := by decide +kernel
theorem dX7_order_26 : decode cX7_order 26 = .ok (.aload_n 0, 1) := by decide +kernel
theorem dX7_order_27 : decode cX7_order 27 = .ok (.getfield 26, 3) := by decide +kernel
theorem dX7_order_30 : decode cX7_order 30 = .ok (.invokevirtual 128, 3) := by decide +kernel
theorem dX7_order_33 : decode cX7_order 33 = .ok (.if_icmp .ge 11, 3) := by decide +kernel
theorem dX7_order_36 : decode cX7_order 36 = .ok (.aload_n 0, 1) := by decide +kernel
theorem dX7_order_37 : decode cX7_order 37 = .ok (.iload_n 1, 1) := by decide +kernel
theorem dX7_order_38 : decode cX7_order 38 = .ok (.invokevirtual 192, 3) := by decide +kernel
theorem dX7_order_41 : decode cX7_order 41 = .ok (.goto 5, 3) := by decide +kernel
theorem dX7_order_44 : decode cX7_order 44 = .ok (.bipush (-6), 2) := by decide +kernel
theorem dX7_order_46 : decode cX7_order 46 = .ok (.ireturn, 1) := by decide +kernel
theorem dX7_cover_0 : decode cX7_cover 0 = .ok (.aload_n 0, 1) := by decide +kernel
theorem dX7_cover_1 : decode cX7_cover 1 = .ok (.getfield 26, 3) := by decide +kernel
theorem dX7_cover_4 : decode cX7_cover 4 = .ok (.iload_n 1, 1) := by decide +kernel
theorem dX7_cover_5 : decode cX7_cover 5 = .ok (.invokevirtual 106, 3) := by decide +kernel
theorem dX7_cover_8 : decode cX7_cover 8 = .ok (.ifCond .ne 5, 3) := by decide +kernel
theorem dX7_cover_11 : decode cX7_cover 11 = .ok (.iconst (-1), 1) := by decide +kernel
theorem dX7_cover_12 : decode cX7_cover 12 = .ok (.ireturn, 1) := by decide +kernel
theorem dX7_cover_13 : decode cX7_cover 13 = .ok (.aload_n 0, 1) := by decide +kernel
theorem dX7_cover_14 : decode cX7_cover 14 = .ok (.getfield 50, 3) := by decide +kernel
theorem dX7_cover_17 : decode cX7_cover 17 = .ok (.iload_n 1, 1) := by decide +kernel
theorem dX7_cover_18 : decode cX7_cover 18 = .ok (.invokevirtual 195, 3) := by decide +kernel
theorem dX7_cover_21 : decode cX7_cover 21 = .ok (.aload_n 0, 1) := by decide +kernel
theorem dX7_cover_22 : decode cX7_cover 22 = .ok (.getfield 66, 3) := by decide +kernel
theorem dX7_cover_25 : decode cX7_cover 25 = .ok (.invokevirtual 198, 3) := by decide +kernel
theorem dX7_cover_28 : decode cX7_cover 28 = .ok (.iconst 0, 1) := by decide +kernel
theorem dX7_cover_29 : decode cX7_cover 29 = .ok (.istore_n 2, 1) := by decide +kernel
theorem dX7_cover_30 : decode cX7_cover 30 = .ok (.iload_n 2, 1) := by decide +kernel
theorem dX7_cover_31 : decode cX7_cover 31 = .ok (.bipush 8, 2) := by decide +kernel
theorem dX7_cover_33 : decode cX7_cover 33 = .ok (.if_icmp .ge 25, 3) := by decide +kernel
theorem dX7_cover_36 : decode cX7_cover 36 = .ok (.aload_n 0, 1) := by decide +kernel
theorem dX7_cover_37 : decode cX7_cover 37 = .ok (.getfield 66, 3) := by decide +kernel
theorem dX7_cover_40 : decode cX7_cover 40 = .ok (.aload_n 0, 1) := by decide +kernel
theorem dX7_cover_41 : decode cX7_cover 41 = .ok (.getfield 50, 3) := by decide +kernel
theorem dX7_cover_44 : decode cX7_cover 44 = .ok (.iload_n 2, 1) := by decide +kernel
theorem dX7_cover_45 : decode cX7_cover 45 = .ok (.iload_n 1, 1) := by decide +kernel
theorem dX7_cover_46 : decode cX7_cover 46 = .ok (.invokevirtual 199, 3) := by decide +kernel
theorem dX7_cover_49 : decode cX7_cover 49 = .ok (.invokevirtual 202, 3) := by decide +kernel
theorem dX7_cover_52 : decode cX7_cover 52 = .ok (.iinc 2 1, 3) := by decide +kernel
theorem dX7_cover_55 : decode cX7_cover 55 = .ok (.goto (-25), 3) := by decide +kernel
theorem dX7_cover_58 : decode cX7_cover 58 = .ok (.aload_n 0, 1) := by decide +kernel
theorem dX7_cover_59 : decode cX7_cover 59 = .ok (.getfield 66, 3) := by decide +kernel
theorem dX7_cover_62 : decode cX7_cover 62 = .ok (.aload_n 0, 1) := by decide +kernel
theorem dX7_cover_63 : decode cX7_cover 63 = .ok (.getfield 26, 3) := by decide +kernel
theorem dX7_cover_66 : decode cX7_cover 66 = .ok (.invokevirtual 128, 3) := by decide +kernel
theorem dX7_cover_69 : decode cX7_cover 69 = .ok (.invokevirtual 203, 3) := by decide +kernel
theorem dX7_cover_72 : decode cX7_cover 72 = .ok (.ireturn, 1) := by decide +kernel
theorem dX7_apart_0 : decode cX7_apart 0 = .ok (.iconst 0, 1) := by decide +kernel
theorem dX7_apart_1 : decode cX7_apart 1 = .ok (.istore_n 1, 1) := by decide +kernel
theorem dX7_apart_2 : decode cX7_apart 2 = .ok (.iload_n 1, 1) := by decide +kernel
theorem dX7_apart_3 : decode cX7_apart 3 = .ok (.aload_n 0, 1) := by decide +kernel
theorem dX7_apart_4 : decode cX7_apart 4 = .ok (.getfield 26, 3) := by decide +kernel
theorem dX7_apart_7 : decode cX7_apart 7 = .ok (.invokevirtual 83, 3) := by decide +kernel
theorem dX7_apart_10 : decode cX7_apart 10 = .ok (.if_icmp .ge 17, 3) := by decide +kernel
theorem dX7_apart_13 : decode cX7_apart 13 = .ok (.aload_n 0, 1) := by decide +kernel
theorem dX7_apart_14 : decode cX7_apart 14 = .ok (.getfield 50, 3) := by decide +kernel
theorem dX7_apart_17 : decode cX7_apart 17 = .ok (.iload_n 1, 1) := by decide +kernel
theorem dX7_apart_18 : decode cX7_apart 18 = .ok (.invokevirtual 195, 3) := by decide +kernel
theorem dX7_apart_21 : decode cX7_apart 21 = .ok (.iinc 1 1, 3) := by decide +kernel
theorem dX7_apart_24 : decode cX7_apart 24 = .ok (.goto (-22), 3) := by decide +kernel
theorem dX7_apart_27 : decode cX7_apart 27 = .ok (.aload_n 0, 1) := by decide +kernel
theorem dX7_apart_28 : decode cX7_apart 28 = .ok (.getfield 66, 3) := by decide +kernel
theorem dX7_apart_31 : decode cX7_apart 31 = .ok (.invokevirtual 198, 3) := by decide +kernel
theorem dX7_apart_34 : decode cX7_apart 34 = .ok (.iconst 0, 1) := by decide +kernel
theorem dX7_apart_35 : decode cX7_apart 35 = .ok (.istore_n 1, 1) := by decide +kernel
theorem dX7_apart_36 : decode cX7_apart 36 = .ok (.iload_n 1, 1) := by decide +kernel
theorem dX7_apart_37 : decode cX7_apart 37 = .ok (.aload_n 0, 1) := by decide +kernel
theorem dX7_apart_38 : decode cX7_apart 38 = .ok (.getfield 26, 3) := by decide +kernel
theorem dX7_apart_41 : decode cX7_apart 41 = .ok (.invokevirtual 83, 3) := by decide +kernel
theorem dX7_apart_44 : decode cX7_apart 44 = .ok (.if_icmp .ge 54, 3) := by decide +kernel
theorem dX7_apart_47 : decode cX7_apart 47 = .ok (.iload_n 1, 1) := by decide +kernel
theorem dX7_apart_48 : decode cX7_apart 48 = .ok (.iconst 1, 1) := by decide +kernel
theorem dX7_apart_49 : decode cX7_apart 49 = .ok (.iadd, 1) := by decide +kernel
theorem dX7_apart_50 : decode cX7_apart 50 = .ok (.istore_n 2, 1) := by decide +kernel
theorem dX7_apart_51 : decode cX7_apart 51 = .ok (.iload_n 2, 1) := by decide +kernel
theorem dX7_apart_52 : decode cX7_apart 52 = .ok (.aload_n 0, 1) := by decide +kernel
theorem dX7_apart_53 : decode cX7_apart 53 = .ok (.getfield 26, 3) := by decide +kernel
theorem dX7_apart_56 : decode cX7_apart 56 = .ok (.invokevirtual 83, 3) := by decide +kernel
theorem dX7_apart_59 : decode cX7_apart 59 = .ok (.if_icmp .ge 33, 3) := by decide +kernel
theorem dX7_apart_62 : decode cX7_apart 62 = .ok (.aload_n 0, 1) := by decide +kernel
theorem dX7_apart_63 : decode cX7_apart 63 = .ok (.getfield 66, 3) := by decide +kernel
theorem dX7_apart_66 : decode cX7_apart 66 = .ok (.aload_n 0, 1) := by decide +kernel
theorem dX7_apart_67 : decode cX7_apart 67 = .ok (.getfield 50, 3) := by decide +kernel
theorem dX7_apart_70 : decode cX7_apart 70 = .ok (.iload_n 1, 1) := by decide +kernel
theorem dX7_apart_71 : decode cX7_apart 71 = .ok (.invokevirtual 206, 3) := by decide +kernel
theorem dX7_apart_74 : decode cX7_apart 74 = .ok (.aload_n 0, 1) := by decide +kernel
theorem dX7_apart_75 : decode cX7_apart 75 = .ok (.getfield 50, 3) := by decide +kernel
theorem dX7_apart_78 : decode cX7_apart 78 = .ok (.iload_n 2, 1) := by decide +kernel
theorem dX7_apart_79 : decode cX7_apart 79 = .ok (.invokevirtual 206, 3) := by decide +kernel
theorem dX7_apart_82 : decode cX7_apart 82 = .ok (.ixor, 1) := by decide +kernel
theorem dX7_apart_83 : decode cX7_apart 83 = .ok (.invokevirtual 202, 3) := by decide +kernel
theorem dX7_apart_86 : decode cX7_apart 86 = .ok (.iinc 2 1, 3) := by decide +kernel
theorem dX7_apart_89 : decode cX7_apart 89 = .ok (.goto (-38), 3) := by decide +kernel
theorem dX7_apart_92 : decode cX7_apart 92 = .ok (.iinc 1 1, 3) := by decide +kernel
theorem dX7_apart_95 : decode cX7_apart 95 = .ok (.goto (-59), 3) := by decide +kernel
theorem dX7_apart_98 : decode cX7_apart 98 = .ok (.aload_n 0, 1) := by decide +kernel
theorem dX7_apart_99 : decode cX7_apart 99 = .ok (.getfield 66, 3) := by decide +kernel
theorem dX7_apart_102 : decode cX7_apart 102 = .ok (.aload_n 0, 1) := by decide +kernel
theorem dX7_apart_103 : decode cX7_apart 103 = .ok (.getfield 26, 3) := by decide +kernel
theorem dX7_apart_106 : decode cX7_apart 106 = .ok (.invokevirtual 128, 3) := by decide +kernel
theorem dX7_apart_109 : decode cX7_apart 109 = .ok (.invokevirtual 203, 3) := by decide +kernel
theorem dX7_apart_112 : decode cX7_apart 112 = .ok (.ireturn, 1) := by decide +kernel
theorem dX7_slip_0 : decode cX7_slip 0 = .ok (.aload_n 0, 1) := by decide +kernel
theorem dX7_slip_1 : decode cX7_slip 1 = .ok (.getfield 26, 3) := by decide +kernel
theorem dX7_slip_4 : decode cX7_slip 4 = .ok (.iload_n 1, 1) := by decide +kernel
theorem dX7_slip_5 : decode cX7_slip 5 = .ok (.invokevirtual 106, 3) := by decide +kernel
theorem dX7_slip_8 : decode cX7_slip 8 = .ok (.ifCond .ne 5, 3) := by decide +kernel
theorem dX7_slip_11 : decode cX7_slip 11 = .ok (.iconst (-1), 1) := by decide +kernel
theorem dX7_slip_12 : decode cX7_slip 12 = .ok (.ireturn, 1) := by decide +kernel
theorem dX7_slip_13 : decode cX7_slip 13 = .ok (.aload_n 0, 1) := by decide +kernel
theorem dX7_slip_14 : decode cX7_slip 14 = .ok (.getfield 59, 3) := by decide +kernel
theorem dX7_slip_17 : decode cX7_slip 17 = .ok (.iload_n 1, 1) := by decide +kernel
theorem dX7_slip_18 : decode cX7_slip 18 = .ok (.invokevirtual 209, 3) := by decide +kernel
theorem dX7_slip_21 : decode cX7_slip 21 = .ok (.istore_n 3, 1) := by decide +kernel
theorem dX7_slip_22 : decode cX7_slip 22 = .ok (.iload_n 2, 1) := by decide +kernel
theorem dX7_slip_23 : decode cX7_slip 23 = .ok (.iconst (-1), 1) := by decide +kernel
theorem dX7_slip_24 : decode cX7_slip 24 = .ok (.if_icmp .ne 5, 3) := by decide +kernel
theorem dX7_slip_27 : decode cX7_slip 27 = .ok (.iload_n 3, 1) := by decide +kernel
theorem dX7_slip_28 : decode cX7_slip 28 = .ok (.ireturn, 1) := by decide +kernel
theorem dX7_slip_29 : decode cX7_slip 29 = .ok (.iload_n 2, 1) := by decide +kernel
theorem dX7_slip_30 : decode cX7_slip 30 = .ok (.ifCond .lt 19, 3) := by decide +kernel
theorem dX7_slip_33 : decode cX7_slip 33 = .ok (.iload_n 2, 1) := by decide +kernel
theorem dX7_slip_34 : decode cX7_slip 34 = .ok (.iload_n 3, 1) := by decide +kernel
theorem dX7_slip_35 : decode cX7_slip 35 = .ok (.if_icmp .ge 14, 3) := by decide +kernel
theorem dX7_slip_38 : decode cX7_slip 38 = .ok (.aload_n 0, 1) := by decide +kernel
theorem dX7_slip_39 : decode cX7_slip 39 = .ok (.getfield 59, 3) := by decide +kernel
theorem dX7_slip_42 : decode cX7_slip 42 = .ok (.iload_n 2, 1) := by decide +kernel
theorem dX7_slip_43 : decode cX7_slip 43 = .ok (.invokevirtual 212, 3) := by decide +kernel
theorem dX7_slip_46 : decode cX7_slip 46 = .ok (.goto 5, 3) := by decide +kernel
theorem dX7_slip_49 : decode cX7_slip 49 = .ok (.bipush (-6), 2) := by decide +kernel
theorem dX7_slip_51 : decode cX7_slip 51 = .ok (.ireturn, 1) := by decide +kernel
theorem dX7_noticed_0 : decode cX7_noticed 0 = .ok (.aload_n 0, 1) := by decide +kernel
theorem dX7_noticed_1 : decode cX7_noticed 1 = .ok (.getfield 26, 3) := by decide +kernel
theorem dX7_noticed_4 : decode cX7_noticed 4 = .ok (.iload_n 1, 1) := by decide +kernel
theorem dX7_noticed_5 : decode cX7_noticed 5 = .ok (.invokevirtual 106, 3) := by decide +kernel
theorem dX7_noticed_8 : decode cX7_noticed 8 = .ok (.ifCond .ne 5, 3) := by decide +kernel
theorem dX7_noticed_11 : decode cX7_noticed 11 = .ok (.iconst (-1), 1) := by decide +kernel
theorem dX7_noticed_12 : decode cX7_noticed 12 = .ok (.ireturn, 1) := by decide +kernel
theorem dX7_noticed_13 : decode cX7_noticed 13 = .ok (.aload_n 0, 1) := by decide +kernel
theorem dX7_noticed_14 : decode cX7_noticed 14 = .ok (.getfield 50, 3) := by decide +kernel
theorem dX7_noticed_17 : decode cX7_noticed 17 = .ok (.iload_n 1, 1) := by decide +kernel
theorem dX7_noticed_18 : decode cX7_noticed 18 = .ok (.invokevirtual 195, 3) := by decide +kernel
theorem dX7_noticed_21 : decode cX7_noticed 21 = .ok (.aload_n 0, 1) := by decide +kernel
theorem dX7_noticed_22 : decode cX7_noticed 22 = .ok (.getfield 59, 3) := by decide +kernel
theorem dX7_noticed_25 : decode cX7_noticed 25 = .ok (.iload_n 1, 1) := by decide +kernel
theorem dX7_noticed_26 : decode cX7_noticed 26 = .ok (.invokevirtual 215, 3) := by decide +kernel
theorem dX7_noticed_29 : decode cX7_noticed 29 = .ok (.istore_n 3, 1) := by decide +kernel
theorem dX7_noticed_30 : decode cX7_noticed 30 = .ok (.iload_n 2, 1) := by decide +kernel
theorem dX7_noticed_31 : decode cX7_noticed 31 = .ok (.ifCond .lt 8, 3) := by decide +kernel
theorem dX7_noticed_34 : decode cX7_noticed 34 = .ok (.iload_n 2, 1) := by decide +kernel
theorem dX7_noticed_35 : decode cX7_noticed 35 = .ok (.iload_n 3, 1) := by decide +kernel
theorem dX7_noticed_36 : decode cX7_noticed 36 = .ok (.if_icmp .lt 6, 3) := by decide +kernel
theorem dX7_noticed_39 : decode cX7_noticed 39 = .ok (.bipush (-2), 2) := by decide +kernel
theorem dX7_noticed_41 : decode cX7_noticed 41 = .ok (.ireturn, 1) := by decide +kernel
theorem dX7_noticed_42 : decode cX7_noticed 42 = .ok (.aload_n 0, 1) := by decide +kernel
theorem dX7_noticed_43 : decode cX7_noticed 43 = .ok (.getfield 59, 3) := by decide +kernel
theorem dX7_noticed_46 : decode cX7_noticed 46 = .ok (.iload_n 1, 1) := by decide +kernel
theorem dX7_noticed_47 : decode cX7_noticed 47 = .ok (.iload_n 2, 1) := by decide +kernel
theorem dX7_noticed_48 : decode cX7_noticed 48 = .ok (.invokevirtual 217, 3) := by decide +kernel
theorem dX7_noticed_51 : decode cX7_noticed 51 = .ok (.ireturn, 1) := by decide +kernel
theorem dX7_unshown_0 : decode cX7_unshown 0 = .ok (.aload_n 0, 1) := by decide +kernel
theorem dX7_unshown_1 : decode cX7_unshown 1 = .ok (.getfield 26, 3) := by decide +kernel
theorem dX7_unshown_4 : decode cX7_unshown 4 = .ok (.iload_n 1, 1) := by decide +kernel
theorem dX7_unshown_5 : decode cX7_unshown 5 = .ok (.invokevirtual 106, 3) := by decide +kernel
theorem dX7_unshown_8 : decode cX7_unshown 8 = .ok (.ifCond .ne 5, 3) := by decide +kernel
theorem dX7_unshown_11 : decode cX7_unshown 11 = .ok (.iconst (-1), 1) := by decide +kernel
theorem dX7_unshown_12 : decode cX7_unshown 12 = .ok (.ireturn, 1) := by decide +kernel
theorem dX7_unshown_13 : decode cX7_unshown 13 = .ok (.aload_n 0, 1) := by decide +kernel
theorem dX7_unshown_14 : decode cX7_unshown 14 = .ok (.getfield 50, 3) := by decide +kernel
theorem dX7_unshown_17 : decode cX7_unshown 17 = .ok (.iload_n 1, 1) := by decide +kernel
theorem dX7_unshown_18 : decode cX7_unshown 18 = .ok (.invokevirtual 195, 3) := by decide +kernel
theorem dX7_unshown_21 : decode cX7_unshown 21 = .ok (.aload_n 0, 1) := by decide +kernel
theorem dX7_unshown_22 : decode cX7_unshown 22 = .ok (.getfield 59, 3) := by decide +kernel
theorem dX7_unshown_25 : decode cX7_unshown 25 = .ok (.iload_n 1, 1) := by decide +kernel
theorem dX7_unshown_26 : decode cX7_unshown 26 = .ok (.invokevirtual 215, 3) := by decide +kernel
theorem dX7_unshown_29 : decode cX7_unshown 29 = .ok (.istore_n 3, 1) := by decide +kernel
theorem dX7_unshown_30 : decode cX7_unshown 30 = .ok (.iconst 0, 1) := by decide +kernel
theorem dX7_unshown_31 : decode cX7_unshown 31 = .ok (.istore 4, 2) := by decide +kernel
theorem dX7_unshown_33 : decode cX7_unshown 33 = .ok (.iconst 0, 1) := by decide +kernel
theorem dX7_unshown_34 : decode cX7_unshown 34 = .ok (.istore 5, 2) := by decide +kernel
theorem dX7_unshown_36 : decode cX7_unshown 36 = .ok (.iload 5, 2) := by decide +kernel
theorem dX7_unshown_38 : decode cX7_unshown 38 = .ok (.iload_n 3, 1) := by decide +kernel
theorem dX7_unshown_39 : decode cX7_unshown 39 = .ok (.if_icmp .ge 34, 3) := by decide +kernel
theorem dX7_unshown_42 : decode cX7_unshown 42 = .ok (.aload_n 0, 1) := by decide +kernel
theorem dX7_unshown_43 : decode cX7_unshown 43 = .ok (.getfield 59, 3) := by decide +kernel
theorem dX7_unshown_46 : decode cX7_unshown 46 = .ok (.iload_n 1, 1) := by decide +kernel
theorem dX7_unshown_47 : decode cX7_unshown 47 = .ok (.iload 5, 2) := by decide +kernel
theorem dX7_unshown_49 : decode cX7_unshown 49 = .ok (.invokevirtual 217, 3) := by decide +kernel
theorem dX7_unshown_52 : decode cX7_unshown 52 = .ok (.ifCond .ne 15, 3) := by decide +kernel
theorem dX7_unshown_55 : decode cX7_unshown 55 = .ok (.iload 4, 2) := by decide +kernel
theorem dX7_unshown_57 : decode cX7_unshown 57 = .ok (.iload_n 2, 1) := by decide +kernel
theorem dX7_unshown_58 : decode cX7_unshown 58 = .ok (.if_icmp .ne 6, 3) := by decide +kernel
theorem dX7_unshown_61 : decode cX7_unshown 61 = .ok (.iload 5, 2) := by decide +kernel
theorem dX7_unshown_63 : decode cX7_unshown 63 = .ok (.ireturn, 1) := by decide +kernel
theorem dX7_unshown_64 : decode cX7_unshown 64 = .ok (.iinc 4 1, 3) := by decide +kernel
theorem dX7_unshown_67 : decode cX7_unshown 67 = .ok (.iinc 5 1, 3) := by decide +kernel
theorem dX7_unshown_70 : decode cX7_unshown 70 = .ok (.goto (-34), 3) := by decide +kernel
theorem dX7_unshown_73 : decode cX7_unshown 73 = .ok (.iload_n 2, 1) := by decide +kernel
theorem dX7_unshown_74 : decode cX7_unshown 74 = .ok (.iconst (-1), 1) := by decide +kernel
theorem dX7_unshown_75 : decode cX7_unshown 75 = .ok (.if_icmp .ne 8, 3) := by decide +kernel
theorem dX7_unshown_78 : decode cX7_unshown 78 = .ok (.iload 4, 2) := by decide +kernel
theorem dX7_unshown_80 : decode cX7_unshown 80 = .ok (.goto 5, 3) := by decide +kernel
theorem dX7_unshown_83 : decode cX7_unshown 83 = .ok (.bipush (-6), 2) := by decide +kernel
theorem dX7_unshown_85 : decode cX7_unshown 85 = .ok (.ireturn, 1) := by decide +kernel
theorem dX7_notice_0 : decode cX7_notice 0 = .ok (.aload_n 0, 1) := by decide +kernel
theorem dX7_notice_1 : decode cX7_notice 1 = .ok (.getfield 26, 3) := by decide +kernel
theorem dX7_notice_4 : decode cX7_notice 4 = .ok (.iload_n 1, 1) := by decide +kernel
theorem dX7_notice_5 : decode cX7_notice 5 = .ok (.invokevirtual 106, 3) := by decide +kernel
theorem dX7_notice_8 : decode cX7_notice 8 = .ok (.ifCond .ne 5, 3) := by decide +kernel
theorem dX7_notice_11 : decode cX7_notice 11 = .ok (.iconst (-1), 1) := by decide +kernel
theorem dX7_notice_12 : decode cX7_notice 12 = .ok (.ireturn, 1) := by decide +kernel
theorem dX7_notice_13 : decode cX7_notice 13 = .ok (.aload_n 0, 1) := by decide +kernel
theorem dX7_notice_14 : decode cX7_notice 14 = .ok (.getfield 50, 3) := by decide +kernel
theorem dX7_notice_17 : decode cX7_notice 17 = .ok (.iload_n 1, 1) := by decide +kernel
theorem dX7_notice_18 : decode cX7_notice 18 = .ok (.invokevirtual 195, 3) := by decide +kernel
theorem dX7_notice_21 : decode cX7_notice 21 = .ok (.aload_n 0, 1) := by decide +kernel
theorem dX7_notice_22 : decode cX7_notice 22 = .ok (.getfield 59, 3) := by decide +kernel
theorem dX7_notice_25 : decode cX7_notice 25 = .ok (.iload_n 1, 1) := by decide +kernel
theorem dX7_notice_26 : decode cX7_notice 26 = .ok (.invokevirtual 215, 3) := by decide +kernel
theorem dX7_notice_29 : decode cX7_notice 29 = .ok (.istore_n 2, 1) := by decide +kernel
theorem dX7_notice_30 : decode cX7_notice 30 = .ok (.aload_n 0, 1) := by decide +kernel
theorem dX7_notice_31 : decode cX7_notice 31 = .ok (.getfield 66, 3) := by decide +kernel
theorem dX7_notice_34 : decode cX7_notice 34 = .ok (.invokevirtual 198, 3) := by decide +kernel
theorem dX7_notice_37 : decode cX7_notice 37 = .ok (.iconst 0, 1) := by decide +kernel
theorem dX7_notice_38 : decode cX7_notice 38 = .ok (.istore_n 3, 1) := by decide +kernel
theorem dX7_notice_39 : decode cX7_notice 39 = .ok (.iload_n 3, 1) := by decide +kernel
theorem dX7_notice_40 : decode cX7_notice 40 = .ok (.iload_n 2, 1) := by decide +kernel
theorem dX7_notice_41 : decode cX7_notice 41 = .ok (.if_icmp .ge 25, 3) := by decide +kernel
theorem dX7_notice_44 : decode cX7_notice 44 = .ok (.aload_n 0, 1) := by decide +kernel
theorem dX7_notice_45 : decode cX7_notice 45 = .ok (.getfield 66, 3) := by decide +kernel
theorem dX7_notice_48 : decode cX7_notice 48 = .ok (.aload_n 0, 1) := by decide +kernel
theorem dX7_notice_49 : decode cX7_notice 49 = .ok (.getfield 59, 3) := by decide +kernel
theorem dX7_notice_52 : decode cX7_notice 52 = .ok (.iload_n 1, 1) := by decide +kernel
theorem dX7_notice_53 : decode cX7_notice 53 = .ok (.iload_n 3, 1) := by decide +kernel
theorem dX7_notice_54 : decode cX7_notice 54 = .ok (.invokevirtual 217, 3) := by decide +kernel
theorem dX7_notice_57 : decode cX7_notice 57 = .ok (.invokevirtual 202, 3) := by decide +kernel
theorem dX7_notice_60 : decode cX7_notice 60 = .ok (.iinc 3 1, 3) := by decide +kernel
theorem dX7_notice_63 : decode cX7_notice 63 = .ok (.goto (-24), 3) := by decide +kernel
theorem dX7_notice_66 : decode cX7_notice 66 = .ok (.aload_n 0, 1) := by decide +kernel
theorem dX7_notice_67 : decode cX7_notice 67 = .ok (.getfield 66, 3) := by decide +kernel
theorem dX7_notice_70 : decode cX7_notice 70 = .ok (.aload_n 0, 1) := by decide +kernel
theorem dX7_notice_71 : decode cX7_notice 71 = .ok (.getfield 26, 3) := by decide +kernel
theorem dX7_notice_74 : decode cX7_notice 74 = .ok (.invokevirtual 128, 3) := by decide +kernel
theorem dX7_notice_77 : decode cX7_notice 77 = .ok (.invokevirtual 203, 3) := by decide +kernel
theorem dX7_notice_80 : decode cX7_notice 80 = .ok (.ireturn, 1) := by decide +kernel
theorem dX7_mend_0 : decode cX7_mend 0 = .ok (.aload_n 0, 1) := by decide +kernel
theorem dX7_mend_1 : decode cX7_mend 1 = .ok (.getfield 26, 3) := by decide +kernel
theorem dX7_mend_4 : decode cX7_mend 4 = .ok (.iload_n 1, 1) := by decide +kernel
theorem dX7_mend_5 : decode cX7_mend 5 = .ok (.invokevirtual 146, 3) := by decide +kernel
theorem dX7_mend_8 : decode cX7_mend 8 = .ok (.ifCond .eq 14, 3) := by decide +kernel
theorem dX7_mend_11 : decode cX7_mend 11 = .ok (.aload_n 0, 1) := by decide +kernel
theorem dX7_mend_12 : decode cX7_mend 12 = .ok (.getfield 26, 3) := by decide +kernel
theorem dX7_mend_15 : decode cX7_mend 15 = .ok (.iload_n 2, 1) := by decide +kernel
theorem dX7_mend_16 : decode cX7_mend 16 = .ok (.invokevirtual 106, 3) := by decide +kernel
theorem dX7_mend_19 : decode cX7_mend 19 = .ok (.ifCond .ne 5, 3) := by decide +kernel
theorem dX7_mend_22 : decode cX7_mend 22 = .ok (.iconst (-1), 1) := by decide +kernel
theorem dX7_mend_23 : decode cX7_mend 23 = .ok (.ireturn, 1) := by decide +kernel
theorem dX7_mend_24 : decode cX7_mend 24 = .ok (.aload_n 0, 1) := by decide +kernel
theorem dX7_mend_25 : decode cX7_mend 25 = .ok (.getfield 50, 3) := by decide +kernel
theorem dX7_mend_28 : decode cX7_mend 28 = .ok (.iload_n 1, 1) := by decide +kernel
theorem dX7_mend_29 : decode cX7_mend 29 = .ok (.iload_n 2, 1) := by decide +kernel
theorem dX7_mend_30 : decode cX7_mend 30 = .ok (.invokevirtual 159, 3) := by decide +kernel
theorem dX7_mend_33 : decode cX7_mend 33 = .ok (.aload_n 0, 1) := by decide +kernel
theorem dX7_mend_34 : decode cX7_mend 34 = .ok (.getfield 50, 3) := by decide +kernel
theorem dX7_mend_37 : decode cX7_mend 37 = .ok (.iload_n 1, 1) := by decide +kernel
theorem dX7_mend_38 : decode cX7_mend 38 = .ok (.iload_n 2, 1) := by decide +kernel
theorem dX7_mend_39 : decode cX7_mend 39 = .ok (.invokevirtual 163, 3) := by decide +kernel
theorem dX7_mend_42 : decode cX7_mend 42 = .ok (.istore_n 3, 1) := by decide +kernel
theorem dX7_mend_43 : decode cX7_mend 43 = .ok (.iload_n 3, 1) := by decide +kernel
theorem dX7_mend_44 : decode cX7_mend 44 = .ok (.invokestatic 117, 3) := by decide +kernel
theorem dX7_mend_47 : decode cX7_mend 47 = .ok (.ifCond .ne 6, 3) := by decide +kernel
theorem dX7_mend_50 : decode cX7_mend 50 = .ok (.bipush (-5), 2) := by decide +kernel
theorem dX7_mend_52 : decode cX7_mend 52 = .ok (.ireturn, 1) := by decide +kernel
theorem dX7_mend_53 : decode cX7_mend 53 = .ok (.aload_n 0, 1) := by decide +kernel
theorem dX7_mend_54 : decode cX7_mend 54 = .ok (.getfield 26, 3) := by decide +kernel
theorem dX7_mend_57 : decode cX7_mend 57 = .ok (.iload_n 1, 1) := by decide +kernel
theorem dX7_mend_58 : decode cX7_mend 58 = .ok (.invokevirtual 149, 3) := by decide +kernel
theorem dX7_mend_61 : decode cX7_mend 61 = .ok (.istore 4, 2) := by decide +kernel
theorem dX7_mend_63 : decode cX7_mend 63 = .ok (.aload_n 0, 1) := by decide +kernel
theorem dX7_mend_64 : decode cX7_mend 64 = .ok (.getfield 26, 3) := by decide +kernel
theorem dX7_mend_67 : decode cX7_mend 67 = .ok (.iload_n 1, 1) := by decide +kernel
theorem dX7_mend_68 : decode cX7_mend 68 = .ok (.iload_n 3, 1) := by decide +kernel
theorem dX7_mend_69 : decode cX7_mend 69 = .ok (.invokevirtual 220, 3) := by decide +kernel
theorem dX7_mend_72 : decode cX7_mend 72 = .ok (.aload_n 0, 1) := by decide +kernel
theorem dX7_mend_73 : decode cX7_mend 73 = .ok (.getfield 59, 3) := by decide +kernel
theorem dX7_mend_76 : decode cX7_mend 76 = .ok (.invokevirtual 104, 3) := by decide +kernel
theorem dX7_mend_79 : decode cX7_mend 79 = .ok (.iload 4, 2) := by decide +kernel
theorem dX7_mend_81 : decode cX7_mend 81 = .ok (.ireturn, 1) := by decide +kernel
theorem dX7_instead_0 : decode cX7_instead 0 = .ok (.aload_n 0, 1) := by decide +kernel
theorem dX7_instead_1 : decode cX7_instead 1 = .ok (.getfield 26, 3) := by decide +kernel
theorem dX7_instead_4 : decode cX7_instead 4 = .ok (.iload_n 1, 1) := by decide +kernel
theorem dX7_instead_5 : decode cX7_instead 5 = .ok (.invokevirtual 146, 3) := by decide +kernel
theorem dX7_instead_8 : decode cX7_instead 8 = .ok (.ifCond .eq 14, 3) := by decide +kernel
theorem dX7_instead_11 : decode cX7_instead 11 = .ok (.aload_n 0, 1) := by decide +kernel
theorem dX7_instead_12 : decode cX7_instead 12 = .ok (.getfield 26, 3) := by decide +kernel
theorem dX7_instead_15 : decode cX7_instead 15 = .ok (.iload_n 2, 1) := by decide +kernel
theorem dX7_instead_16 : decode cX7_instead 16 = .ok (.invokevirtual 106, 3) := by decide +kernel
theorem dX7_instead_19 : decode cX7_instead 19 = .ok (.ifCond .ne 5, 3) := by decide +kernel
theorem dX7_instead_22 : decode cX7_instead 22 = .ok (.iconst (-1), 1) := by decide +kernel
theorem dX7_instead_23 : decode cX7_instead 23 = .ok (.ireturn, 1) := by decide +kernel
theorem dX7_instead_24 : decode cX7_instead 24 = .ok (.aload_n 0, 1) := by decide +kernel
theorem dX7_instead_25 : decode cX7_instead 25 = .ok (.getfield 26, 3) := by decide +kernel
theorem dX7_instead_28 : decode cX7_instead 28 = .ok (.iload_n 1, 1) := by decide +kernel
theorem dX7_instead_29 : decode cX7_instead 29 = .ok (.invokevirtual 155, 3) := by decide +kernel
theorem dX7_instead_32 : decode cX7_instead 32 = .ok (.astore_n 3, 1) := by decide +kernel
theorem dX7_instead_33 : decode cX7_instead 33 = .ok (.aload_n 0, 1) := by decide +kernel
theorem dX7_instead_34 : decode cX7_instead 34 = .ok (.getfield 41, 3) := by decide +kernel
theorem dX7_instead_37 : decode cX7_instead 37 = .ok (.aload_n 0, 1) := by decide +kernel
theorem dX7_instead_38 : decode cX7_instead 38 = .ok (.getfield 26, 3) := by decide +kernel
theorem dX7_instead_41 : decode cX7_instead 41 = .ok (.iload_n 2, 1) := by decide +kernel
theorem dX7_instead_42 : decode cX7_instead 42 = .ok (.invokevirtual 120, 3) := by decide +kernel
theorem dX7_instead_45 : decode cX7_instead 45 = .ok (.iconst 0, 1) := by decide +kernel
theorem dX7_instead_46 : decode cX7_instead 46 = .ok (.istore 4, 2) := by decide +kernel
theorem dX7_instead_48 : decode cX7_instead 48 = .ok (.iload 4, 2) := by decide +kernel
theorem dX7_instead_50 : decode cX7_instead 50 = .ok (.aload_n 3, 1) := by decide +kernel
theorem dX7_instead_51 : decode cX7_instead 51 = .ok (.invokevirtual 70, 3) := by decide +kernel
theorem dX7_instead_54 : decode cX7_instead 54 = .ok (.if_icmp .ge 54, 3) := by decide +kernel
theorem dX7_instead_57 : decode cX7_instead 57 = .ok (.aload_n 3, 1) := by decide +kernel
theorem dX7_instead_58 : decode cX7_instead 58 = .ok (.iload 4, 2) := by decide +kernel
theorem dX7_instead_60 : decode cX7_instead 60 = .ok (.invokevirtual 113, 3) := by decide +kernel
theorem dX7_instead_63 : decode cX7_instead 63 = .ok (.invokestatic 223, 3) := by decide +kernel
theorem dX7_instead_66 : decode cX7_instead 66 = .ok (.ifCond .eq 36, 3) := by decide +kernel
theorem dX7_instead_69 : decode cX7_instead 69 = .ok (.aload_n 0, 1) := by decide +kernel
theorem dX7_instead_70 : decode cX7_instead 70 = .ok (.aload_n 3, 1) := by decide +kernel
theorem dX7_instead_71 : decode cX7_instead 71 = .ok (.iload 4, 2) := by decide +kernel
theorem dX7_instead_73 : decode cX7_instead 73 = .ok (.aload_n 0, 1) := by decide +kernel
theorem dX7_instead_74 : decode cX7_instead 74 = .ok (.getfield 26, 3) := by decide +kernel
theorem dX7_instead_77 : decode cX7_instead 77 = .ok (.iload_n 1, 1) := by decide +kernel
theorem dX7_instead_78 : decode cX7_instead 78 = .ok (.invokevirtual 149, 3) := by decide +kernel
theorem dX7_instead_81 : decode cX7_instead 81 = .ok (.invokevirtual 226, 3) := by decide +kernel
theorem dX7_instead_84 : decode cX7_instead 84 = .ok (.istore 5, 2) := by decide +kernel
theorem dX7_instead_86 : decode cX7_instead 86 = .ok (.iload 5, 2) := by decide +kernel
theorem dX7_instead_88 : decode cX7_instead 88 = .ok (.bipush (-6), 2) := by decide +kernel
theorem dX7_instead_90 : decode cX7_instead 90 = .ok (.if_icmp .eq 12, 3) := by decide +kernel
theorem dX7_instead_93 : decode cX7_instead 93 = .ok (.bipush 10, 2) := by decide +kernel
theorem dX7_instead_95 : decode cX7_instead 95 = .ok (.iload 4, 2) := by decide +kernel
theorem dX7_instead_97 : decode cX7_instead 97 = .ok (.imul, 1) := by decide +kernel
theorem dX7_instead_98 : decode cX7_instead 98 = .ok (.iload 5, 2) := by decide +kernel
theorem dX7_instead_100 : decode cX7_instead 100 = .ok (.iadd, 1) := by decide +kernel
theorem dX7_instead_101 : decode cX7_instead 101 = .ok (.ireturn, 1) := by decide +kernel
theorem dX7_instead_102 : decode cX7_instead 102 = .ok (.iinc 4 1, 3) := by decide +kernel
theorem dX7_instead_105 : decode cX7_instead 105 = .ok (.goto (-57), 3) := by decide +kernel
theorem dX7_instead_108 : decode cX7_instead 108 = .ok (.bipush (-6), 2) := by decide +kernel
theorem dX7_instead_110 : decode cX7_instead 110 = .ok (.ireturn, 1) := by decide +kernel
theorem dX7_image_0 : decode cX7_image 0 = .ok (.iload_n 1, 1) := by decide +kernel
theorem dX7_image_1 : decode cX7_image 1 = .ok (.invokestatic 230, 3) := by decide +kernel
theorem dX7_image_4 : decode cX7_image 4 = .ok (.ifCond .ne 6, 3) := by decide +kernel
theorem dX7_image_7 : decode cX7_image 7 = .ok (.bipush (-2), 2) := by decide +kernel
theorem dX7_image_9 : decode cX7_image 9 = .ok (.ireturn, 1) := by decide +kernel
theorem dX7_image_10 : decode cX7_image 10 = .ok (.aload_n 0, 1) := by decide +kernel
theorem dX7_image_11 : decode cX7_image 11 = .ok (.getfield 30, 3) := by decide +kernel
theorem dX7_image_14 : decode cX7_image 14 = .ok (.iload_n 1, 1) := by decide +kernel
theorem dX7_image_15 : decode cX7_image 15 = .ok (.aaload, 1) := by decide +kernel
theorem dX7_image_16 : decode cX7_image 16 = .ok (.aload_n 0, 1) := by decide +kernel
theorem dX7_image_17 : decode cX7_image 17 = .ok (.getfield 26, 3) := by decide +kernel
theorem dX7_image_20 : decode cX7_image 20 = .ok (.invokevirtual 233, 3) := by decide +kernel
theorem dX7_image_23 : decode cX7_image 23 = .ok (.aload_n 0, 1) := by decide +kernel
theorem dX7_image_24 : decode cX7_image 24 = .ok (.getfield 34, 3) := by decide +kernel
theorem dX7_image_27 : decode cX7_image 27 = .ok (.iload_n 1, 1) := by decide +kernel
theorem dX7_image_28 : decode cX7_image 28 = .ok (.iconst 1, 1) := by decide +kernel
theorem dX7_image_29 : decode cX7_image 29 = .ok (.bastore, 1) := by decide +kernel
theorem dX7_image_30 : decode cX7_image 30 = .ok (.iconst 1, 1) := by decide +kernel
theorem dX7_image_31 : decode cX7_image 31 = .ok (.ireturn, 1) := by decide +kernel
theorem dX7_restore_0 : decode cX7_restore 0 = .ok (.iload_n 1, 1) := by decide +kernel
theorem dX7_restore_1 : decode cX7_restore 1 = .ok (.invokestatic 230, 3) := by decide +kernel
theorem dX7_restore_4 : decode cX7_restore 4 = .ok (.ifCond .ne 6, 3) := by decide +kernel
theorem dX7_restore_7 : decode cX7_restore 7 = .ok (.bipush (-2), 2) := by decide +kernel
theorem dX7_restore_9 : decode cX7_restore 9 = .ok (.ireturn, 1) := by decide +kernel
theorem dX7_restore_10 : decode cX7_restore 10 = .ok (.aload_n 0, 1) := by decide +kernel
theorem dX7_restore_11 : decode cX7_restore 11 = .ok (.getfield 34, 3) := by decide +kernel
theorem dX7_restore_14 : decode cX7_restore 14 = .ok (.iload_n 1, 1) := by decide +kernel
theorem dX7_restore_15 : decode cX7_restore 15 = .ok (.baload, 1) := by decide +kernel
theorem dX7_restore_16 : decode cX7_restore 16 = .ok (.ifCond .ne 6, 3) := by decide +kernel
theorem dX7_restore_19 : decode cX7_restore 19 = .ok (.bipush (-3), 2) := by decide +kernel
theorem dX7_restore_21 : decode cX7_restore 21 = .ok (.ireturn, 1) := by decide +kernel
theorem dX7_restore_22 : decode cX7_restore 22 = .ok (.aload_n 0, 1) := by decide +kernel
theorem dX7_restore_23 : decode cX7_restore 23 = .ok (.getfield 26, 3) := by decide +kernel
theorem dX7_restore_26 : decode cX7_restore 26 = .ok (.aload_n 0, 1) := by decide +kernel
theorem dX7_restore_27 : decode cX7_restore 27 = .ok (.getfield 30, 3) := by decide +kernel
theorem dX7_restore_30 : decode cX7_restore 30 = .ok (.iload_n 1, 1) := by decide +kernel
theorem dX7_restore_31 : decode cX7_restore 31 = .ok (.aaload, 1) := by decide +kernel
theorem dX7_restore_32 : decode cX7_restore 32 = .ok (.invokevirtual 233, 3) := by decide +kernel
theorem dX7_restore_35 : decode cX7_restore 35 = .ok (.aload_n 0, 1) := by decide +kernel
theorem dX7_restore_36 : decode cX7_restore 36 = .ok (.getfield 50, 3) := by decide +kernel
theorem dX7_restore_39 : decode cX7_restore 39 = .ok (.invokevirtual 237, 3) := by decide +kernel
theorem dX7_restore_42 : decode cX7_restore 42 = .ok (.aload_n 0, 1) := by decide +kernel
theorem dX7_restore_43 : decode cX7_restore 43 = .ok (.getfield 59, 3) := by decide +kernel
theorem dX7_restore_46 : decode cX7_restore 46 = .ok (.invokevirtual 104, 3) := by decide +kernel
theorem dX7_restore_49 : decode cX7_restore 49 = .ok (.iconst 1, 1) := by decide +kernel
theorem dX7_restore_50 : decode cX7_restore 50 = .ok (.ireturn, 1) := by decide +kernel
theorem dX7_told_0 : decode cX7_told 0 = .ok (.iload_n 1, 1) := by decide +kernel
theorem dX7_told_1 : decode cX7_told 1 = .ok (.tableswitch 63 0 3 #[31, 39, 47, 55], 31) := by decide +kernel
theorem dX7_told_32 : decode cX7_told 32 = .ok (.aload_n 0, 1) := by decide +kernel
theorem dX7_told_33 : decode cX7_told 33 = .ok (.getfield 14, 3) := by decide +kernel
theorem dX7_told_36 : decode cX7_told 36 = .ok (.invokevirtual 70, 3) := by decide +kernel
theorem dX7_told_39 : decode cX7_told 39 = .ok (.ireturn, 1) := by decide +kernel
theorem dX7_told_40 : decode cX7_told 40 = .ok (.aload_n 0, 1) := by decide +kernel
theorem dX7_told_41 : decode cX7_told 41 = .ok (.getfield 26, 3) := by decide +kernel
theorem dX7_told_44 : decode cX7_told 44 = .ok (.invokevirtual 83, 3) := by decide +kernel
theorem dX7_told_47 : decode cX7_told 47 = .ok (.ireturn, 1) := by decide +kernel
theorem dX7_told_48 : decode cX7_told 48 = .ok (.aload_n 0, 1) := by decide +kernel
theorem dX7_told_49 : decode cX7_told 49 = .ok (.getfield 26, 3) := by decide +kernel
theorem dX7_told_52 : decode cX7_told 52 = .ok (.invokevirtual 128, 3) := by decide +kernel
theorem dX7_told_55 : decode cX7_told 55 = .ok (.ireturn, 1) := by decide +kernel
theorem dX7_told_56 : decode cX7_told 56 = .ok (.aload_n 0, 1) := by decide +kernel
theorem dX7_told_57 : decode cX7_told 57 = .ok (.getfield 26, 3) := by decide +kernel
theorem dX7_told_60 : decode cX7_told 60 = .ok (.invokevirtual 240, 3) := by decide +kernel
theorem dX7_told_63 : decode cX7_told 63 = .ok (.ireturn, 1) := by decide +kernel
theorem dX7_told_64 : decode cX7_told 64 = .ok (.bipush (-2), 2) := by decide +kernel
theorem dX7_told_66 : decode cX7_told 66 = .ok (.ireturn, 1) := by decide +kernel
theorem dX7_isWord_0 : decode cX7_isWord 0 = .ok (.iload_n 0, 1) := by decide +kernel
theorem dX7_isWord_1 : decode cX7_isWord 1 = .ok (.ifCond .lt 13, 3) := by decide +kernel
theorem dX7_isWord_4 : decode cX7_isWord 4 = .ok (.iload_n 0, 1) := by decide +kernel
theorem dX7_isWord_5 : decode cX7_isWord 5 = .ok (.bipush 8, 2) := by decide +kernel
theorem dX7_isWord_7 : decode cX7_isWord 7 = .ok (.if_icmp .ge 7, 3) := by decide +kernel
theorem dX7_isWord_10 : decode cX7_isWord 10 = .ok (.iconst 1, 1) := by decide +kernel
theorem dX7_isWord_11 : decode cX7_isWord 11 = .ok (.goto 4, 3) := by decide +kernel
theorem dX7_isWord_14 : decode cX7_isWord 14 = .ok (.iconst 0, 1) := by decide +kernel
theorem dX7_isWord_15 : decode cX7_isWord 15 = .ok (.ireturn, 1) := by decide +kernel
theorem dX7_isNumber_0 : decode cX7_isNumber 0 = .ok (.iload_n 0, 1) := by decide +kernel
theorem dX7_isNumber_1 : decode cX7_isNumber 1 = .ok (.ifCond .lt 14, 3) := by decide +kernel
theorem dX7_isNumber_4 : decode cX7_isNumber 4 = .ok (.iload_n 0, 1) := by decide +kernel
theorem dX7_isNumber_5 : decode cX7_isNumber 5 = .ok (.sipush 1000, 3) := by decide +kernel
theorem dX7_isNumber_8 : decode cX7_isNumber 8 = .ok (.if_icmp .ge 7, 3) := by decide +kernel
theorem dX7_isNumber_11 : decode cX7_isNumber 11 = .ok (.iconst 1, 1) := by decide +kernel
theorem dX7_isNumber_12 : decode cX7_isNumber 12 = .ok (.goto 4, 3) := by decide +kernel
theorem dX7_isNumber_15 : decode cX7_isNumber 15 = .ok (.iconst 0, 1) := by decide +kernel
theorem dX7_isNumber_16 : decode cX7_isNumber 16 = .ok (.ireturn, 1) := by decide +kernel
theorem dX7_isImage_0 : decode cX7_isImage 0 = .ok (.iload_n 0, 1) := by decide +kernel
theorem dX7_isImage_1 : decode cX7_isImage 1 = .ok (.ifCond .lt 12, 3) := by decide +kernel
theorem dX7_isImage_4 : decode cX7_isImage 4 = .ok (.iload_n 0, 1) := by decide +kernel
theorem dX7_isImage_5 : decode cX7_isImage 5 = .ok (.iconst 2, 1) := by decide +kernel
theorem dX7_isImage_6 : decode cX7_isImage 6 = .ok (.if_icmp .ge 7, 3) := by decide +kernel
theorem dX7_isImage_9 : decode cX7_isImage 9 = .ok (.iconst 1, 1) := by decide +kernel
theorem dX7_isImage_10 : decode cX7_isImage 10 = .ok (.goto 4, 3) := by decide +kernel
theorem dX7_isImage_13 : decode cX7_isImage 13 = .ok (.iconst 0, 1) := by decide +kernel
theorem dX7_isImage_14 : decode cX7_isImage 14 = .ok (.ireturn, 1) := by decide +kernel
theorem dX7_holdsTakenBack_0 : decode cX7_holdsTakenBack 0 = .ok (.aload_n 0, 1) := by decide +kernel
theorem dX7_holdsTakenBack_1 : decode cX7_holdsTakenBack 1 = .ok (.getfield 41, 3) := by decide +kernel
theorem dX7_holdsTakenBack_4 : decode cX7_holdsTakenBack 4 = .ok (.aload_n 0, 1) := by decide +kernel
theorem dX7_holdsTakenBack_5 : decode cX7_holdsTakenBack 5 = .ok (.getfield 26, 3) := by decide +kernel
theorem dX7_holdsTakenBack_8 : decode cX7_holdsTakenBack 8 = .ok (.iload_n 2, 1) := by decide +kernel
theorem dX7_holdsTakenBack_9 : decode cX7_holdsTakenBack 9 = .ok (.invokevirtual 120, 3) := by decide +kernel
theorem dX7_holdsTakenBack_12 : decode cX7_holdsTakenBack 12 = .ok (.iconst 0, 1) := by decide +kernel
theorem dX7_holdsTakenBack_13 : decode cX7_holdsTakenBack 13 = .ok (.istore 4, 2) := by decide +kernel
theorem dX7_holdsTakenBack_15 : decode cX7_holdsTakenBack 15 = .ok (.iload 4, 2) := by decide +kernel
theorem dX7_holdsTakenBack_17 : decode cX7_holdsTakenBack 17 = .ok (.bipush 8, 2) := by decide +kernel
theorem dX7_holdsTakenBack_19 : decode cX7_holdsTakenBack 19 = .ok (.if_icmp .ge 40, 3) := by decide +kernel
theorem dX7_holdsTakenBack_22 : decode cX7_holdsTakenBack 22 = .ok (.iload_n 3, 1) := by decide +kernel
theorem dX7_holdsTakenBack_23 : decode cX7_holdsTakenBack 23 = .ok (.iload 4, 2) := by decide +kernel
theorem dX7_holdsTakenBack_25 : decode cX7_holdsTakenBack 25 = .ok (.ishr, 1) := by decide +kernel
theorem dX7_holdsTakenBack_26 : decode cX7_holdsTakenBack 26 = .ok (.iconst 1, 1) := by decide +kernel
theorem dX7_holdsTakenBack_27 : decode cX7_holdsTakenBack 27 = .ok (.iand, 1) := by decide +kernel
theorem dX7_holdsTakenBack_28 : decode cX7_holdsTakenBack 28 = .ok (.iconst 1, 1) := by decide +kernel
theorem dX7_holdsTakenBack_29 : decode cX7_holdsTakenBack 29 = .ok (.if_icmp .ne 24, 3) := by decide +kernel
theorem dX7_holdsTakenBack_32 : decode cX7_holdsTakenBack 32 = .ok (.aload_n 0, 1) := by decide +kernel
theorem dX7_holdsTakenBack_33 : decode cX7_holdsTakenBack 33 = .ok (.getfield 41, 3) := by decide +kernel
theorem dX7_holdsTakenBack_36 : decode cX7_holdsTakenBack 36 = .ok (.iload 4, 2) := by decide +kernel
theorem dX7_holdsTakenBack_38 : decode cX7_holdsTakenBack 38 = .ok (.aload_n 0, 1) := by decide +kernel
theorem dX7_holdsTakenBack_39 : decode cX7_holdsTakenBack 39 = .ok (.getfield 26, 3) := by decide +kernel
theorem dX7_holdsTakenBack_42 : decode cX7_holdsTakenBack 42 = .ok (.iload_n 2, 1) := by decide +kernel
theorem dX7_holdsTakenBack_43 : decode cX7_holdsTakenBack 43 = .ok (.iconst 1, 1) := by decide +kernel
theorem dX7_holdsTakenBack_44 : decode cX7_holdsTakenBack 44 = .ok (.isub, 1) := by decide +kernel
theorem dX7_holdsTakenBack_45 : decode cX7_holdsTakenBack 45 = .ok (.iload 4, 2) := by decide +kernel
theorem dX7_holdsTakenBack_47 : decode cX7_holdsTakenBack 47 = .ok (.invokevirtual 109, 3) := by decide +kernel
theorem dX7_holdsTakenBack_50 : decode cX7_holdsTakenBack 50 = .ok (.invokevirtual 243, 3) := by decide +kernel
theorem dX7_holdsTakenBack_53 : decode cX7_holdsTakenBack 53 = .ok (.iinc 4 1, 3) := by decide +kernel
theorem dX7_holdsTakenBack_56 : decode cX7_holdsTakenBack 56 = .ok (.goto (-41), 3) := by decide +kernel
theorem dX7_holdsTakenBack_59 : decode cX7_holdsTakenBack 59 = .ok (.aload_n 0, 1) := by decide +kernel
theorem dX7_holdsTakenBack_60 : decode cX7_holdsTakenBack 60 = .ok (.getfield 41, 3) := by decide +kernel
theorem dX7_holdsTakenBack_63 : decode cX7_holdsTakenBack 63 = .ok (.aload_n 0, 1) := by decide +kernel
theorem dX7_holdsTakenBack_64 : decode cX7_holdsTakenBack 64 = .ok (.getfield 26, 3) := by decide +kernel
theorem dX7_holdsTakenBack_67 : decode cX7_holdsTakenBack 67 = .ok (.iload_n 1, 1) := by decide +kernel
theorem dX7_holdsTakenBack_68 : decode cX7_holdsTakenBack 68 = .ok (.invokevirtual 155, 3) := by decide +kernel
theorem dX7_holdsTakenBack_71 : decode cX7_holdsTakenBack 71 = .ok (.iconst 0, 1) := by decide +kernel
theorem dX7_holdsTakenBack_72 : decode cX7_holdsTakenBack 72 = .ok (.invokevirtual 124, 3) := by decide +kernel
theorem dX7_holdsTakenBack_75 : decode cX7_holdsTakenBack 75 = .ok (.aload_n 0, 1) := by decide +kernel
theorem dX7_holdsTakenBack_76 : decode cX7_holdsTakenBack 76 = .ok (.getfield 26, 3) := by decide +kernel
theorem dX7_holdsTakenBack_79 : decode cX7_holdsTakenBack 79 = .ok (.iload_n 1, 1) := by decide +kernel
theorem dX7_holdsTakenBack_80 : decode cX7_holdsTakenBack 80 = .ok (.invokevirtual 149, 3) := by decide +kernel
theorem dX7_holdsTakenBack_83 : decode cX7_holdsTakenBack 83 = .ok (.if_icmp .ne 7, 3) := by decide +kernel
theorem dX7_holdsTakenBack_86 : decode cX7_holdsTakenBack 86 = .ok (.iconst 1, 1) := by decide +kernel
theorem dX7_holdsTakenBack_87 : decode cX7_holdsTakenBack 87 = .ok (.goto 4, 3) := by decide +kernel
theorem dX7_holdsTakenBack_90 : decode cX7_holdsTakenBack 90 = .ok (.iconst 0, 1) := by decide +kernel
theorem dX7_holdsTakenBack_91 : decode cX7_holdsTakenBack 91 = .ok (.ireturn, 1) := by decide +kernel
theorem dX7_earlyAsTheyStand_0 : decode cX7_earlyAsTheyStand 0 = .ok (.iconst 0, 1) := by decide +kernel
theorem dX7_earlyAsTheyStand_1 : decode cX7_earlyAsTheyStand 1 = .ok (.istore_n 1, 1) := by decide +kernel
theorem dX7_earlyAsTheyStand_2 : decode cX7_earlyAsTheyStand 2 = .ok (.iconst 0, 1) := by decide +kernel
theorem dX7_earlyAsTheyStand_3 : decode cX7_earlyAsTheyStand 3 = .ok (.istore_n 2, 1) := by decide +kernel
theorem dX7_earlyAsTheyStand_4 : decode cX7_earlyAsTheyStand 4 = .ok (.iconst 0, 1) := by decide +kernel
theorem dX7_earlyAsTheyStand_5 : decode cX7_earlyAsTheyStand 5 = .ok (.istore_n 3, 1) := by decide +kernel
theorem dX7_earlyAsTheyStand_6 : decode cX7_earlyAsTheyStand 6 = .ok (.iload_n 3, 1) := by decide +kernel
theorem dX7_earlyAsTheyStand_7 : decode cX7_earlyAsTheyStand 7 = .ok (.aload_n 0, 1) := by decide +kernel
theorem dX7_earlyAsTheyStand_8 : decode cX7_earlyAsTheyStand 8 = .ok (.getfield 26, 3) := by decide +kernel
theorem dX7_earlyAsTheyStand_11 : decode cX7_earlyAsTheyStand 11 = .ok (.invokevirtual 128, 3) := by decide +kernel
theorem dX7_earlyAsTheyStand_14 : decode cX7_earlyAsTheyStand 14 = .ok (.if_icmp .ge 54, 3) := by decide +kernel
theorem dX7_earlyAsTheyStand_17 : decode cX7_earlyAsTheyStand 17 = .ok (.aload_n 0, 1) := by decide +kernel
theorem dX7_earlyAsTheyStand_18 : decode cX7_earlyAsTheyStand 18 = .ok (.getfield 26, 3) := by decide +kernel
theorem dX7_earlyAsTheyStand_21 : decode cX7_earlyAsTheyStand 21 = .ok (.iload_n 3, 1) := by decide +kernel
theorem dX7_earlyAsTheyStand_22 : decode cX7_earlyAsTheyStand 22 = .ok (.invokevirtual 146, 3) := by decide +kernel
theorem dX7_earlyAsTheyStand_25 : decode cX7_earlyAsTheyStand 25 = .ok (.ifCond .eq 24, 3) := by decide +kernel
theorem dX7_earlyAsTheyStand_28 : decode cX7_earlyAsTheyStand 28 = .ok (.iload_n 2, 1) := by decide +kernel
theorem dX7_earlyAsTheyStand_29 : decode cX7_earlyAsTheyStand 29 = .ok (.aload_n 0, 1) := by decide +kernel
theorem dX7_earlyAsTheyStand_30 : decode cX7_earlyAsTheyStand 30 = .ok (.getfield 26, 3) := by decide +kernel
theorem dX7_earlyAsTheyStand_33 : decode cX7_earlyAsTheyStand 33 = .ok (.iload_n 3, 1) := by decide +kernel
theorem dX7_earlyAsTheyStand_34 : decode cX7_earlyAsTheyStand 34 = .ok (.invokevirtual 152, 3) := by decide +kernel
theorem dX7_earlyAsTheyStand_37 : decode cX7_earlyAsTheyStand 37 = .ok (.iload_n 1, 1) := by decide +kernel
theorem dX7_earlyAsTheyStand_38 : decode cX7_earlyAsTheyStand 38 = .ok (.iconst (-1), 1) := by decide +kernel
theorem dX7_earlyAsTheyStand_39 : decode cX7_earlyAsTheyStand 39 = .ok (.ixor, 1) := by decide +kernel
theorem dX7_earlyAsTheyStand_40 : decode cX7_earlyAsTheyStand 40 = .ok (.iand, 1) := by decide +kernel
theorem dX7_earlyAsTheyStand_41 : decode cX7_earlyAsTheyStand 41 = .ok (.invokestatic 177, 3) := by decide +kernel
theorem dX7_earlyAsTheyStand_44 : decode cX7_earlyAsTheyStand 44 = .ok (.iadd, 1) := by decide +kernel
theorem dX7_earlyAsTheyStand_45 : decode cX7_earlyAsTheyStand 45 = .ok (.istore_n 2, 1) := by decide +kernel
theorem dX7_earlyAsTheyStand_46 : decode cX7_earlyAsTheyStand 46 = .ok (.goto 16, 3) := by decide +kernel
theorem dX7_earlyAsTheyStand_49 : decode cX7_earlyAsTheyStand 49 = .ok (.iload_n 1, 1) := by decide +kernel
theorem dX7_earlyAsTheyStand_50 : decode cX7_earlyAsTheyStand 50 = .ok (.iconst 1, 1) := by decide +kernel
theorem dX7_earlyAsTheyStand_51 : decode cX7_earlyAsTheyStand 51 = .ok (.aload_n 0, 1) := by decide +kernel
theorem dX7_earlyAsTheyStand_52 : decode cX7_earlyAsTheyStand 52 = .ok (.getfield 26, 3) := by decide +kernel
theorem dX7_earlyAsTheyStand_55 : decode cX7_earlyAsTheyStand 55 = .ok (.iload_n 3, 1) := by decide +kernel
theorem dX7_earlyAsTheyStand_56 : decode cX7_earlyAsTheyStand 56 = .ok (.invokevirtual 143, 3) := by decide +kernel
theorem dX7_earlyAsTheyStand_59 : decode cX7_earlyAsTheyStand 59 = .ok (.ishl, 1) := by decide +kernel
theorem dX7_earlyAsTheyStand_60 : decode cX7_earlyAsTheyStand 60 = .ok (.ior, 1) := by decide +kernel
theorem dX7_earlyAsTheyStand_61 : decode cX7_earlyAsTheyStand 61 = .ok (.istore_n 1, 1) := by decide +kernel
theorem dX7_earlyAsTheyStand_62 : decode cX7_earlyAsTheyStand 62 = .ok (.iinc 3 1, 3) := by decide +kernel
theorem dX7_earlyAsTheyStand_65 : decode cX7_earlyAsTheyStand 65 = .ok (.goto (-59), 3) := by decide +kernel
theorem dX7_earlyAsTheyStand_68 : decode cX7_earlyAsTheyStand 68 = .ok (.iload_n 2, 1) := by decide +kernel
theorem dX7_earlyAsTheyStand_69 : decode cX7_earlyAsTheyStand 69 = .ok (.ireturn, 1) := by decide +kernel
theorem dX7_leastEarly_0 : decode cX7_leastEarly 0 = .ok (.aload_n 0, 1) := by decide +kernel
theorem dX7_leastEarly_1 : decode cX7_leastEarly 1 = .ok (.getfield 26, 3) := by decide +kernel
theorem dX7_leastEarly_4 : decode cX7_leastEarly 4 = .ok (.invokevirtual 246, 3) := by decide +kernel
theorem dX7_leastEarly_7 : decode cX7_leastEarly 7 = .ok (.istore_n 1, 1) := by decide +kernel
theorem dX7_leastEarly_8 : decode cX7_leastEarly 8 = .ok (.iconst 0, 1) := by decide +kernel
theorem dX7_leastEarly_9 : decode cX7_leastEarly 9 = .ok (.istore_n 2, 1) := by decide +kernel
theorem dX7_leastEarly_10 : decode cX7_leastEarly 10 = .ok (.iconst 0, 1) := by decide +kernel
theorem dX7_leastEarly_11 : decode cX7_leastEarly 11 = .ok (.istore_n 3, 1) := by decide +kernel
theorem dX7_leastEarly_12 : decode cX7_leastEarly 12 = .ok (.iload_n 3, 1) := by decide +kernel
theorem dX7_leastEarly_13 : decode cX7_leastEarly 13 = .ok (.aload_n 0, 1) := by decide +kernel
theorem dX7_leastEarly_14 : decode cX7_leastEarly 14 = .ok (.getfield 26, 3) := by decide +kernel
theorem dX7_leastEarly_17 : decode cX7_leastEarly 17 = .ok (.invokevirtual 128, 3) := by decide +kernel
theorem dX7_leastEarly_20 : decode cX7_leastEarly 20 = .ok (.if_icmp .ge 27, 3) := by decide +kernel
theorem dX7_leastEarly_23 : decode cX7_leastEarly 23 = .ok (.iload_n 2, 1) := by decide +kernel
theorem dX7_leastEarly_24 : decode cX7_leastEarly 24 = .ok (.aload_n 0, 1) := by decide +kernel
theorem dX7_leastEarly_25 : decode cX7_leastEarly 25 = .ok (.getfield 26, 3) := by decide +kernel
theorem dX7_leastEarly_28 : decode cX7_leastEarly 28 = .ok (.iload_n 3, 1) := by decide +kernel
theorem dX7_leastEarly_29 : decode cX7_leastEarly 29 = .ok (.invokevirtual 152, 3) := by decide +kernel
theorem dX7_leastEarly_32 : decode cX7_leastEarly 32 = .ok (.iload_n 1, 1) := by decide +kernel
theorem dX7_leastEarly_33 : decode cX7_leastEarly 33 = .ok (.iconst (-1), 1) := by decide +kernel
theorem dX7_leastEarly_34 : decode cX7_leastEarly 34 = .ok (.ixor, 1) := by decide +kernel
theorem dX7_leastEarly_35 : decode cX7_leastEarly 35 = .ok (.iand, 1) := by decide +kernel
theorem dX7_leastEarly_36 : decode cX7_leastEarly 36 = .ok (.invokestatic 177, 3) := by decide +kernel
theorem dX7_leastEarly_39 : decode cX7_leastEarly 39 = .ok (.iadd, 1) := by decide +kernel
theorem dX7_leastEarly_40 : decode cX7_leastEarly 40 = .ok (.istore_n 2, 1) := by decide +kernel
theorem dX7_leastEarly_41 : decode cX7_leastEarly 41 = .ok (.iinc 3 1, 3) := by decide +kernel
theorem dX7_leastEarly_44 : decode cX7_leastEarly 44 = .ok (.goto (-32), 3) := by decide +kernel
theorem dX7_leastEarly_47 : decode cX7_leastEarly 47 = .ok (.iload_n 2, 1) := by decide +kernel
theorem dX7_leastEarly_48 : decode cX7_leastEarly 48 = .ok (.ireturn, 1) := by decide +kernel
theorem dX7_placedAt_0 : decode cX7_placedAt 0 = .ok (.aload_n 0, 1) := by decide +kernel
theorem dX7_placedAt_1 : decode cX7_placedAt 1 = .ok (.getfield 26, 3) := by decide +kernel
theorem dX7_placedAt_4 : decode cX7_placedAt 4 = .ok (.invokevirtual 246, 3) := by decide +kernel
theorem dX7_placedAt_7 : decode cX7_placedAt 7 = .ok (.istore_n 2, 1) := by decide +kernel
theorem dX7_placedAt_8 : decode cX7_placedAt 8 = .ok (.iconst 0, 1) := by decide +kernel
theorem dX7_placedAt_9 : decode cX7_placedAt 9 = .ok (.istore_n 3, 1) := by decide +kernel
theorem dX7_placedAt_10 : decode cX7_placedAt 10 = .ok (.iconst 0, 1) := by decide +kernel
theorem dX7_placedAt_11 : decode cX7_placedAt 11 = .ok (.istore 4, 2) := by decide +kernel
theorem dX7_placedAt_13 : decode cX7_placedAt 13 = .ok (.bipush (-6), 2) := by decide +kernel
theorem dX7_placedAt_15 : decode cX7_placedAt 15 = .ok (.istore 5, 2) := by decide +kernel
theorem dX7_placedAt_17 : decode cX7_placedAt 17 = .ok (.iconst 0, 1) := by decide +kernel
theorem dX7_placedAt_18 : decode cX7_placedAt 18 = .ok (.istore 6, 2) := by decide +kernel
theorem dX7_placedAt_20 : decode cX7_placedAt 20 = .ok (.iload 6, 2) := by decide +kernel
theorem dX7_placedAt_22 : decode cX7_placedAt 22 = .ok (.iload_n 1, 1) := by decide +kernel
theorem dX7_placedAt_23 : decode cX7_placedAt 23 = .ok (.if_icmp .gt 67, 3) := by decide +kernel
theorem dX7_placedAt_26 : decode cX7_placedAt 26 = .ok (.aload_n 0, 1) := by decide +kernel
theorem dX7_placedAt_27 : decode cX7_placedAt 27 = .ok (.iload_n 3, 1) := by decide +kernel
theorem dX7_placedAt_28 : decode cX7_placedAt 28 = .ok (.iload_n 2, 1) := by decide +kernel
theorem dX7_placedAt_29 : decode cX7_placedAt 29 = .ok (.iload 4, 2) := by decide +kernel
theorem dX7_placedAt_31 : decode cX7_placedAt 31 = .ok (.iconst (-1), 1) := by decide +kernel
theorem dX7_placedAt_32 : decode cX7_placedAt 32 = .ok (.ixor, 1) := by decide +kernel
theorem dX7_placedAt_33 : decode cX7_placedAt 33 = .ok (.iand, 1) := by decide +kernel
theorem dX7_placedAt_34 : decode cX7_placedAt 34 = .ok (.invokevirtual 249, 3) := by decide +kernel
theorem dX7_placedAt_37 : decode cX7_placedAt 37 = .ok (.istore 5, 2) := by decide +kernel
theorem dX7_placedAt_39 : decode cX7_placedAt 39 = .ok (.iload 5, 2) := by decide +kernel
theorem dX7_placedAt_41 : decode cX7_placedAt 41 = .ok (.bipush (-6), 2) := by decide +kernel
theorem dX7_placedAt_43 : decode cX7_placedAt 43 = .ok (.if_icmp .ne 6, 3) := by decide +kernel
theorem dX7_placedAt_46 : decode cX7_placedAt 46 = .ok (.bipush (-6), 2) := by decide +kernel
theorem dX7_placedAt_48 : decode cX7_placedAt 48 = .ok (.ireturn, 1) := by decide +kernel
theorem dX7_placedAt_49 : decode cX7_placedAt 49 = .ok (.iload_n 3, 1) := by decide +kernel
theorem dX7_placedAt_50 : decode cX7_placedAt 50 = .ok (.iconst 1, 1) := by decide +kernel
theorem dX7_placedAt_51 : decode cX7_placedAt 51 = .ok (.iload 5, 2) := by decide +kernel
theorem dX7_placedAt_53 : decode cX7_placedAt 53 = .ok (.ishl, 1) := by decide +kernel
theorem dX7_placedAt_54 : decode cX7_placedAt 54 = .ok (.ior, 1) := by decide +kernel
theorem dX7_placedAt_55 : decode cX7_placedAt 55 = .ok (.istore_n 3, 1) := by decide +kernel
theorem dX7_placedAt_56 : decode cX7_placedAt 56 = .ok (.aload_n 0, 1) := by decide +kernel
theorem dX7_placedAt_57 : decode cX7_placedAt 57 = .ok (.getfield 26, 3) := by decide +kernel
theorem dX7_placedAt_60 : decode cX7_placedAt 60 = .ok (.iload 5, 2) := by decide +kernel
theorem dX7_placedAt_62 : decode cX7_placedAt 62 = .ok (.invokevirtual 146, 3) := by decide +kernel
theorem dX7_placedAt_65 : decode cX7_placedAt 65 = .ok (.ifCond .ne 19, 3) := by decide +kernel
theorem dX7_placedAt_68 : decode cX7_placedAt 68 = .ok (.iload 4, 2) := by decide +kernel
theorem dX7_placedAt_70 : decode cX7_placedAt 70 = .ok (.iconst 1, 1) := by decide +kernel
theorem dX7_placedAt_71 : decode cX7_placedAt 71 = .ok (.aload_n 0, 1) := by decide +kernel
theorem dX7_placedAt_72 : decode cX7_placedAt 72 = .ok (.getfield 26, 3) := by decide +kernel
theorem dX7_placedAt_75 : decode cX7_placedAt 75 = .ok (.iload 5, 2) := by decide +kernel
theorem dX7_placedAt_77 : decode cX7_placedAt 77 = .ok (.invokevirtual 143, 3) := by decide +kernel
theorem dX7_placedAt_80 : decode cX7_placedAt 80 = .ok (.ishl, 1) := by decide +kernel
theorem dX7_placedAt_81 : decode cX7_placedAt 81 = .ok (.ior, 1) := by decide +kernel
theorem dX7_placedAt_82 : decode cX7_placedAt 82 = .ok (.istore 4, 2) := by decide +kernel
theorem dX7_placedAt_84 : decode cX7_placedAt 84 = .ok (.iinc 6 1, 3) := by decide +kernel
theorem dX7_placedAt_87 : decode cX7_placedAt 87 = .ok (.goto (-67), 3) := by decide +kernel
theorem dX7_placedAt_90 : decode cX7_placedAt 90 = .ok (.iload 5, 2) := by decide +kernel
theorem dX7_placedAt_92 : decode cX7_placedAt 92 = .ok (.ireturn, 1) := by decide +kernel
theorem dX7_firstFree_0 : decode cX7_firstFree 0 = .ok (.iconst 0, 1) := by decide +kernel
theorem dX7_firstFree_1 : decode cX7_firstFree 1 = .ok (.istore_n 3, 1) := by decide +kernel
theorem dX7_firstFree_2 : decode cX7_firstFree 2 = .ok (.iload_n 3, 1) := by decide +kernel
theorem dX7_firstFree_3 : decode cX7_firstFree 3 = .ok (.aload_n 0, 1) := by decide +kernel
theorem dX7_firstFree_4 : decode cX7_firstFree 4 = .ok (.getfield 26, 3) := by decide +kernel
theorem dX7_firstFree_7 : decode cX7_firstFree 7 = .ok (.invokevirtual 128, 3) := by decide +kernel
theorem dX7_firstFree_10 : decode cX7_firstFree 10 = .ok (.if_icmp .ge 32, 3) := by decide +kernel
theorem dX7_firstFree_13 : decode cX7_firstFree 13 = .ok (.iload_n 1, 1) := by decide +kernel
theorem dX7_firstFree_14 : decode cX7_firstFree 14 = .ok (.iload_n 3, 1) := by decide +kernel
theorem dX7_firstFree_15 : decode cX7_firstFree 15 = .ok (.ishr, 1) := by decide +kernel
theorem dX7_firstFree_16 : decode cX7_firstFree 16 = .ok (.iconst 1, 1) := by decide +kernel
theorem dX7_firstFree_17 : decode cX7_firstFree 17 = .ok (.iand, 1) := by decide +kernel
theorem dX7_firstFree_18 : decode cX7_firstFree 18 = .ok (.ifCond .ne 18, 3) := by decide +kernel
theorem dX7_firstFree_21 : decode cX7_firstFree 21 = .ok (.aload_n 0, 1) := by decide +kernel
theorem dX7_firstFree_22 : decode cX7_firstFree 22 = .ok (.getfield 26, 3) := by decide +kernel
theorem dX7_firstFree_25 : decode cX7_firstFree 25 = .ok (.iload_n 3, 1) := by decide +kernel
theorem dX7_firstFree_26 : decode cX7_firstFree 26 = .ok (.invokevirtual 152, 3) := by decide +kernel
theorem dX7_firstFree_29 : decode cX7_firstFree 29 = .ok (.iload_n 2, 1) := by decide +kernel
theorem dX7_firstFree_30 : decode cX7_firstFree 30 = .ok (.iand, 1) := by decide +kernel
theorem dX7_firstFree_31 : decode cX7_firstFree 31 = .ok (.ifCond .ne 5, 3) := by decide +kernel
theorem dX7_firstFree_34 : decode cX7_firstFree 34 = .ok (.iload_n 3, 1) := by decide +kernel
theorem dX7_firstFree_35 : decode cX7_firstFree 35 = .ok (.ireturn, 1) := by decide +kernel
theorem dX7_firstFree_36 : decode cX7_firstFree 36 = .ok (.iinc 3 1, 3) := by decide +kernel
theorem dX7_firstFree_39 : decode cX7_firstFree 39 = .ok (.goto (-37), 3) := by decide +kernel
theorem dX7_firstFree_42 : decode cX7_firstFree 42 = .ok (.bipush (-6), 2) := by decide +kernel
theorem dX7_firstFree_44 : decode cX7_firstFree 44 = .ok (.ireturn, 1) := by decide +kernel
theorem dX7_mendingWord_0 : decode cX7_mendingWord 0 = .ok (.aload_n 1, 1) := by decide +kernel
theorem dX7_mendingWord_1 : decode cX7_mendingWord 1 = .ok (.iload_n 2, 1) := by decide +kernel
theorem dX7_mendingWord_2 : decode cX7_mendingWord 2 = .ok (.invokevirtual 113, 3) := by decide +kernel
theorem dX7_mendingWord_5 : decode cX7_mendingWord 5 = .ok (.bipush 97, 2) := by decide +kernel
theorem dX7_mendingWord_7 : decode cX7_mendingWord 7 = .ok (.isub, 1) := by decide +kernel
theorem dX7_mendingWord_8 : decode cX7_mendingWord 8 = .ok (.istore 4, 2) := by decide +kernel
theorem dX7_mendingWord_10 : decode cX7_mendingWord 10 = .ok (.aload_n 0, 1) := by decide +kernel
theorem dX7_mendingWord_11 : decode cX7_mendingWord 11 = .ok (.getfield 18, 3) := by decide +kernel
theorem dX7_mendingWord_14 : decode cX7_mendingWord 14 = .ok (.aload_n 1, 1) := by decide +kernel
theorem dX7_mendingWord_15 : decode cX7_mendingWord 15 = .ok (.invokevirtual 252, 3) := by decide +kernel
theorem dX7_mendingWord_18 : decode cX7_mendingWord 18 = .ok (.iconst 0, 1) := by decide +kernel
theorem dX7_mendingWord_19 : decode cX7_mendingWord 19 = .ok (.istore 5, 2) := by decide +kernel
theorem dX7_mendingWord_21 : decode cX7_mendingWord 21 = .ok (.iload 5, 2) := by decide +kernel
theorem dX7_mendingWord_23 : decode cX7_mendingWord 23 = .ok (.bipush 8, 2) := by decide +kernel
theorem dX7_mendingWord_25 : decode cX7_mendingWord 25 = .ok (.if_icmp .ge 48, 3) := by decide +kernel
theorem dX7_mendingWord_28 : decode cX7_mendingWord 28 = .ok (.iload 5, 2) := by decide +kernel
theorem dX7_mendingWord_30 : decode cX7_mendingWord 30 = .ok (.iload 4, 2) := by decide +kernel
theorem dX7_mendingWord_32 : decode cX7_mendingWord 32 = .ok (.if_icmp .eq 35, 3) := by decide +kernel
theorem dX7_mendingWord_35 : decode cX7_mendingWord 35 = .ok (.aload_n 0, 1) := by decide +kernel
theorem dX7_mendingWord_36 : decode cX7_mendingWord 36 = .ok (.getfield 18, 3) := by decide +kernel
theorem dX7_mendingWord_39 : decode cX7_mendingWord 39 = .ok (.iload_n 2, 1) := by decide +kernel
theorem dX7_mendingWord_40 : decode cX7_mendingWord 40 = .ok (.bipush 97, 2) := by decide +kernel
theorem dX7_mendingWord_42 : decode cX7_mendingWord 42 = .ok (.iload 5, 2) := by decide +kernel
theorem dX7_mendingWord_44 : decode cX7_mendingWord 44 = .ok (.iadd, 1) := by decide +kernel
theorem dX7_mendingWord_45 : decode cX7_mendingWord 45 = .ok (.invokevirtual 254, 3) := by decide +kernel
theorem dX7_mendingWord_48 : decode cX7_mendingWord 48 = .ok (.aload_n 0, 1) := by decide +kernel
theorem dX7_mendingWord_49 : decode cX7_mendingWord 49 = .ok (.getfield 41, 3) := by decide +kernel
theorem dX7_mendingWord_52 : decode cX7_mendingWord 52 = .ok (.aload_n 0, 1) := by decide +kernel
theorem dX7_mendingWord_53 : decode cX7_mendingWord 53 = .ok (.getfield 18, 3) := by decide +kernel
theorem dX7_mendingWord_56 : decode cX7_mendingWord 56 = .ok (.iconst 0, 1) := by decide +kernel
theorem dX7_mendingWord_57 : decode cX7_mendingWord 57 = .ok (.invokevirtual 124, 3) := by decide +kernel
theorem dX7_mendingWord_60 : decode cX7_mendingWord 60 = .ok (.iload_n 3, 1) := by decide +kernel
theorem dX7_mendingWord_61 : decode cX7_mendingWord 61 = .ok (.if_icmp .ne 6, 3) := by decide +kernel
theorem dX7_mendingWord_64 : decode cX7_mendingWord 64 = .ok (.iload 5, 2) := by decide +kernel
theorem dX7_mendingWord_66 : decode cX7_mendingWord 66 = .ok (.ireturn, 1) := by decide +kernel
theorem dX7_mendingWord_67 : decode cX7_mendingWord 67 = .ok (.iinc 5 1, 3) := by decide +kernel
theorem dX7_mendingWord_70 : decode cX7_mendingWord 70 = .ok (.goto (-49), 3) := by decide +kernel
theorem dX7_mendingWord_73 : decode cX7_mendingWord 73 = .ok (.bipush (-6), 2) := by decide +kernel
theorem dX7_mendingWord_75 : decode cX7_mendingWord 75 = .ok (.ireturn, 1) := by decide +kernel
end
section
theorem dX8_init_0 : decode cX8_init 0 = .ok (.aload_n 0, 1) := by decide +kernel
theorem dX8_init_1 : decode cX8_init 1 = .ok (.invokespecial 1, 3) := by decide +kernel
theorem dX8_init_4 : decode cX8_init 4 = .ok (.aload_n 0, 1) := by decide +kernel
theorem dX8_init_5 : decode cX8_init 5 = .ok (.sipush 2440, 3) := by decide +kernel
theorem dX8_init_8 : decode cX8_init 8 = .ok (.newarray .int, 2) := by decide +kernel
theorem dX8_init_10 : decode cX8_init 10 = .ok (.putfield 7, 3) := by decide +kernel
theorem dX8_init_13 : decode cX8_init 13 = .ok (.aload_n 0, 1) := by decide +kernel
theorem dX8_init_14 : decode cX8_init 14 = .ok (.sipush 2440, 3) := by decide +kernel
theorem dX8_init_17 : decode cX8_init 17 = .ok (.newarray .int, 2) := by decide +kernel
theorem dX8_init_19 : decode cX8_init 19 = .ok (.putfield 13, 3) := by decide +kernel
theorem dX8_init_22 : decode cX8_init 22 = .ok (.aload_n 0, 1) := by decide +kernel
theorem dX8_init_23 : decode cX8_init 23 = .ok (.bipush 61, 2) := by decide +kernel
theorem dX8_init_25 : decode cX8_init 25 = .ok (.newarray .int, 2) := by decide +kernel
theorem dX8_init_27 : decode cX8_init 27 = .ok (.putfield 16, 3) := by decide +kernel
theorem dX8_init_30 : decode cX8_init 30 = .ok (.aload_n 0, 1) := by decide +kernel
theorem dX8_init_31 : decode cX8_init 31 = .ok (.bipush 12, 2) := by decide +kernel
theorem dX8_init_33 : decode cX8_init 33 = .ok (.newarray .int, 2) := by decide +kernel
theorem dX8_init_35 : decode cX8_init 35 = .ok (.putfield 19, 3) := by decide +kernel
theorem dX8_init_38 : decode cX8_init 38 = .ok (.aload_n 0, 1) := by decide +kernel
theorem dX8_init_39 : decode cX8_init 39 = .ok (.bipush 12, 2) := by decide +kernel
theorem dX8_init_41 : decode cX8_init 41 = .ok (.newarray .int, 2) := by decide +kernel
theorem dX8_init_43 : decode cX8_init 43 = .ok (.putfield 22, 3) := by decide +kernel
theorem dX8_init_46 : decode cX8_init 46 = .ok (.aload_n 0, 1) := by decide +kernel
theorem dX8_init_47 : decode cX8_init 47 = .ok (.bipush 7, 2) := by decide +kernel
theorem dX8_init_49 : decode cX8_init 49 = .ok (.newarray .int, 2) := by decide +kernel
theorem dX8_init_51 : decode cX8_init 51 = .ok (.putfield 25, 3) := by decide +kernel
theorem dX8_init_54 : decode cX8_init 54 = .ok (.aload_n 0, 1) := by decide +kernel
theorem dX8_init_55 : decode cX8_init 55 = .ok (.sipush 200, 3) := by decide +kernel
theorem dX8_init_58 : decode cX8_init 58 = .ok (.newarray .int, 2) := by decide +kernel
theorem dX8_init_60 : decode cX8_init 60 = .ok (.putfield 28, 3) := by decide +kernel
theorem dX8_init_63 : decode cX8_init 63 = .ok (.aload_n 0, 1) := by decide +kernel
theorem dX8_init_64 : decode cX8_init 64 = .ok (.sipush 200, 3) := by decide +kernel
theorem dX8_init_67 : decode cX8_init 67 = .ok (.newarray .int, 2) := by decide +kernel
theorem dX8_init_69 : decode cX8_init 69 = .ok (.putfield 31, 3) := by decide +kernel
theorem dX8_init_72 : decode cX8_init 72 = .ok (.aload_n 0, 1) := by decide +kernel
theorem dX8_init_73 : decode cX8_init 73 = .ok (.sipush 200, 3) := by decide +kernel
theorem dX8_init_76 : decode cX8_init 76 = .ok (.newarray .int, 2) := by decide +kernel
theorem dX8_init_78 : decode cX8_init 78 = .ok (.putfield 34, 3) := by decide +kernel
theorem dX8_init_81 : decode cX8_init 81 = .ok (.aload_n 0, 1) := by decide +kernel
theorem dX8_init_82 : decode cX8_init 82 = .ok (.bipush 8, 2) := by decide +kernel
theorem dX8_init_84 : decode cX8_init 84 = .ok (.newarray .int, 2) := by decide +kernel
theorem dX8_init_86 : decode cX8_init 86 = .ok (.putfield 37, 3) := by decide +kernel
theorem dX8_init_89 : decode cX8_init 89 = .ok (.aload_n 0, 1) := by decide +kernel
theorem dX8_init_90 : decode cX8_init 90 = .ok (.sipush 4096, 3) := by decide +kernel
theorem dX8_init_93 : decode cX8_init 93 = .ok (.newarray .int, 2) := by decide +kernel
theorem dX8_init_95 : decode cX8_init 95 = .ok (.putfield 40, 3) := by decide +kernel
theorem dX8_init_98 : decode cX8_init 98 = .ok (.aload_n 0, 1) := by decide +kernel
theorem dX8_init_99 : decode cX8_init 99 = .ok (.sipush 320, 3) := by decide +kernel
theorem dX8_init_102 : decode cX8_init 102 = .ok (.newarray .int, 2) := by decide +kernel
theorem dX8_init_104 : decode cX8_init 104 = .ok (.putfield 43, 3) := by decide +kernel
theorem dX8_init_107 : decode cX8_init 107 = .ok (.aload_n 0, 1) := by decide +kernel
theorem dX8_init_108 : decode cX8_init 108 = .ok (.bipush 6, 2) := by decide +kernel
theorem dX8_init_110 : decode cX8_init 110 = .ok (.newarray .int, 2) := by decide +kernel
theorem dX8_init_112 : decode cX8_init 112 = .ok (.putfield 46, 3) := by decide +kernel
theorem dX8_init_115 : decode cX8_init 115 = .ok (.aload_n 0, 1) := by decide +kernel
theorem dX8_init_116 : decode cX8_init 116 = .ok (.sipush 320, 3) := by decide +kernel
theorem dX8_init_119 : decode cX8_init 119 = .ok (.newarray .int, 2) := by decide +kernel
theorem dX8_init_121 : decode cX8_init 121 = .ok (.putfield 49, 3) := by decide +kernel
theorem dX8_init_124 : decode cX8_init 124 = .ok (.aload_n 0, 1) := by decide +kernel
theorem dX8_init_125 : decode cX8_init 125 = .ok (.sipush 320, 3) := by decide +kernel
theorem dX8_init_128 : decode cX8_init 128 = .ok (.newarray .int, 2) := by decide +kernel
theorem dX8_init_130 : decode cX8_init 130 = .ok (.putfield 52, 3) := by decide +kernel
theorem dX8_init_133 : decode cX8_init 133 = .ok (.aload_n 0, 1) := by decide +kernel
theorem dX8_init_134 : decode cX8_init 134 = .ok (.sipush 5000, 3) := by decide +kernel
theorem dX8_init_137 : decode cX8_init 137 = .ok (.newarray .int, 2) := by decide +kernel
theorem dX8_init_139 : decode cX8_init 139 = .ok (.putfield 55, 3) := by decide +kernel
theorem dX8_init_142 : decode cX8_init 142 = .ok (.aload_n 0, 1) := by decide +kernel
theorem dX8_init_143 : decode cX8_init 143 = .ok (.iconst 2, 1) := by decide +kernel
theorem dX8_init_144 : decode cX8_init 144 = .ok (.newarray .boolean, 2) := by decide +kernel
theorem dX8_init_146 : decode cX8_init 146 = .ok (.putfield 58, 3) := by decide +kernel
theorem dX8_init_149 : decode cX8_init 149 = .ok (.aload_n 0, 1) := by decide +kernel
theorem dX8_init_150 : decode cX8_init 150 = .ok (.iconst 1, 1) := by decide +kernel
theorem dX8_init_151 : decode cX8_init 151 = .ok (.putfield 62, 3) := by decide +kernel
theorem dX8_init_154 : decode cX8_init 154 = .ok (.return_, 1) := by decide +kernel
theorem dX8_in_0 : decode cX8_in 0 = .ok (.iload_n 0, 1) := by decide +kernel
theorem dX8_in_1 : decode cX8_in 1 = .ok (.iload_n 1, 1) := by decide +kernel
theorem dX8_in_2 : decode cX8_in 2 = .ok (.if_icmp .lt 12, 3) := by decide +kernel
theorem dX8_in_5 : decode cX8_in 5 = .ok (.iload_n 0, 1) := by decide +kernel
theorem dX8_in_6 : decode cX8_in 6 = .ok (.iload_n 2, 1) := by decide +kernel
theorem dX8_in_7 : decode cX8_in 7 = .ok (.if_icmp .gt 7, 3) := by decide +kernel
theorem dX8_in_10 : decode cX8_in 10 = .ok (.iconst 1, 1) := by decide +kernel
theorem dX8_in_11 : decode cX8_in 11 = .ok (.goto 4, 3) := by decide +kernel
theorem dX8_in_14 : decode cX8_in 14 = .ok (.iconst 0, 1) := by decide +kernel
theorem dX8_in_15 : decode cX8_in 15 = .ok (.ireturn, 1) := by decide +kernel
theorem dX8_isWord_0 : decode cX8_isWord 0 = .ok (.iload_n 0, 1) := by decide +kernel
theorem dX8_isWord_1 : decode cX8_isWord 1 = .ok (.iconst 0, 1) := by decide +kernel
theorem dX8_isWord_2 : decode cX8_isWord 2 = .ok (.bipush 7, 2) := by decide +kernel
theorem dX8_isWord_4 : decode cX8_isWord 4 = .ok (.invokestatic 66, 3) := by decide +kernel
theorem dX8_isWord_7 : decode cX8_isWord 7 = .ok (.ireturn, 1) := by decide +kernel
theorem dX8_isVersion_0 : decode cX8_isVersion 0 = .ok (.iload_n 1, 1) := by decide +kernel
theorem dX8_isVersion_1 : decode cX8_isVersion 1 = .ok (.iconst 0, 1) := by decide +kernel
theorem dX8_isVersion_2 : decode cX8_isVersion 2 = .ok (.aload_n 0, 1) := by decide +kernel
theorem dX8_isVersion_3 : decode cX8_isVersion 3 = .ok (.getfield 62, 3) := by decide +kernel
theorem dX8_isVersion_6 : decode cX8_isVersion 6 = .ok (.iconst 1, 1) := by decide +kernel
theorem dX8_isVersion_7 : decode cX8_isVersion 7 = .ok (.isub, 1) := by decide +kernel
theorem dX8_isVersion_8 : decode cX8_isVersion 8 = .ok (.invokestatic 66, 3) := by decide +kernel
theorem dX8_isVersion_11 : decode cX8_isVersion 11 = .ok (.ireturn, 1) := by decide +kernel
theorem dX8_isPage_0 : decode cX8_isPage 0 = .ok (.iload_n 1, 1) := by decide +kernel
theorem dX8_isPage_1 : decode cX8_isPage 1 = .ok (.iconst 0, 1) := by decide +kernel
theorem dX8_isPage_2 : decode cX8_isPage 2 = .ok (.aload_n 0, 1) := by decide +kernel
theorem dX8_isPage_3 : decode cX8_isPage 3 = .ok (.getfield 70, 3) := by decide +kernel
theorem dX8_isPage_6 : decode cX8_isPage 6 = .ok (.iconst 1, 1) := by decide +kernel
theorem dX8_isPage_7 : decode cX8_isPage 7 = .ok (.isub, 1) := by decide +kernel
theorem dX8_isPage_8 : decode cX8_isPage 8 = .ok (.invokestatic 66, 3) := by decide +kernel
theorem dX8_isPage_11 : decode cX8_isPage 11 = .ok (.ireturn, 1) := by decide +kernel
theorem dX8_isExample_0 : decode cX8_isExample 0 = .ok (.aload_n 0, 1) := by decide +kernel
theorem dX8_isExample_1 : decode cX8_isExample 1 = .ok (.iload_n 1, 1) := by decide +kernel
theorem dX8_isExample_2 : decode cX8_isExample 2 = .ok (.invokevirtual 73, 3) := by decide +kernel
theorem dX8_isExample_5 : decode cX8_isExample 5 = .ok (.ifCond .eq 16, 3) := by decide +kernel
theorem dX8_isExample_8 : decode cX8_isExample 8 = .ok (.aload_n 0, 1) := by decide +kernel
theorem dX8_isExample_9 : decode cX8_isExample 9 = .ok (.getfield 19, 3) := by decide +kernel
theorem dX8_isExample_12 : decode cX8_isExample 12 = .ok (.iload_n 1, 1) := by decide +kernel
theorem dX8_isExample_13 : decode cX8_isExample 13 = .ok (.iaload, 1) := by decide +kernel
theorem dX8_isExample_14 : decode cX8_isExample 14 = .ok (.ifCond .ge 7, 3) := by decide +kernel
theorem dX8_isExample_17 : decode cX8_isExample 17 = .ok (.iconst 1, 1) := by decide +kernel
theorem dX8_isExample_18 : decode cX8_isExample 18 = .ok (.goto 4, 3) := by decide +kernel
theorem dX8_isExample_21 : decode cX8_isExample 21 = .ok (.iconst 0, 1) := by decide +kernel
theorem dX8_isExample_22 : decode cX8_isExample 22 = .ok (.ireturn, 1) := by decide +kernel
theorem dX8_bits_0 : decode cX8_bits 0 = .ok (.iconst 0, 1) := by decide +kernel
theorem dX8_bits_1 : decode cX8_bits 1 = .ok (.istore_n 1, 1) := by decide +kernel
theorem dX8_bits_2 : decode cX8_bits 2 = .ok (.iconst 0, 1) := by decide +kernel
theorem dX8_bits_3 : decode cX8_bits 3 = .ok (.istore_n 2, 1) := by decide +kernel
theorem dX8_bits_4 : decode cX8_bits 4 = .ok (.iload_n 2, 1) := by decide +kernel
theorem dX8_bits_5 : decode cX8_bits 5 = .ok (.bipush 12, 2) := by decide +kernel
theorem dX8_bits_7 : decode cX8_bits 7 = .ok (.if_icmp .ge 17, 3) := by decide +kernel
theorem dX8_bits_10 : decode cX8_bits 10 = .ok (.iload_n 1, 1) := by decide +kernel
theorem dX8_bits_11 : decode cX8_bits 11 = .ok (.iload_n 0, 1) := by decide +kernel
theorem dX8_bits_12 : decode cX8_bits 12 = .ok (.iload_n 2, 1) := by decide +kernel
theorem dX8_bits_13 : decode cX8_bits 13 = .ok (.ishr, 1) := by decide +kernel
theorem dX8_bits_14 : decode cX8_bits 14 = .ok (.iconst 1, 1) := by decide +kernel
theorem dX8_bits_15 : decode cX8_bits 15 = .ok (.iand, 1) := by decide +kernel
theorem dX8_bits_16 : decode cX8_bits 16 = .ok (.iadd, 1) := by decide +kernel
theorem dX8_bits_17 : decode cX8_bits 17 = .ok (.istore_n 1, 1) := by decide +kernel
theorem dX8_bits_18 : decode cX8_bits 18 = .ok (.iinc 2 1, 3) := by decide +kernel
theorem dX8_bits_21 : decode cX8_bits 21 = .ok (.goto (-17), 3) := by decide +kernel
theorem dX8_bits_24 : decode cX8_bits 24 = .ok (.iload_n 1, 1) := by decide +kernel
theorem dX8_bits_25 : decode cX8_bits 25 = .ok (.ireturn, 1) := by decide +kernel
theorem dX8_say_0 : decode cX8_say 0 = .ok (.iload_n 1, 1) := by decide +kernel
theorem dX8_say_1 : decode cX8_say 1 = .ok (.bipush 33, 2) := by decide +kernel
theorem dX8_say_3 : decode cX8_say 3 = .ok (.bipush 126, 2) := by decide +kernel
theorem dX8_say_5 : decode cX8_say 5 = .ok (.invokestatic 66, 3) := by decide +kernel
theorem dX8_say_8 : decode cX8_say 8 = .ok (.ifCond .ne 6, 3) := by decide +kernel
theorem dX8_say_11 : decode cX8_say 11 = .ok (.bipush (-2), 2) := by decide +kernel
theorem dX8_say_13 : decode cX8_say 13 = .ok (.ireturn, 1) := by decide +kernel
theorem dX8_say_14 : decode cX8_say 14 = .ok (.aload_n 0, 1) := by decide +kernel
theorem dX8_say_15 : decode cX8_say 15 = .ok (.getfield 16, 3) := by decide +kernel
theorem dX8_say_18 : decode cX8_say 18 = .ok (.bipush 60, 2) := by decide +kernel
theorem dX8_say_20 : decode cX8_say 20 = .ok (.iaload, 1) := by decide +kernel
theorem dX8_say_21 : decode cX8_say 21 = .ok (.bipush 40, 2) := by decide +kernel
theorem dX8_say_23 : decode cX8_say 23 = .ok (.if_icmp .ne 6, 3) := by decide +kernel
theorem dX8_say_26 : decode cX8_say 26 = .ok (.bipush (-4), 2) := by decide +kernel
theorem dX8_say_28 : decode cX8_say 28 = .ok (.ireturn, 1) := by decide +kernel
theorem dX8_say_29 : decode cX8_say 29 = .ok (.aload_n 0, 1) := by decide +kernel
theorem dX8_say_30 : decode cX8_say 30 = .ok (.getfield 7, 3) := by decide +kernel
theorem dX8_say_33 : decode cX8_say 33 = .ok (.sipush 2400, 3) := by decide +kernel
theorem dX8_say_36 : decode cX8_say 36 = .ok (.aload_n 0, 1) := by decide +kernel
theorem dX8_say_37 : decode cX8_say 37 = .ok (.getfield 16, 3) := by decide +kernel
theorem dX8_say_40 : decode cX8_say 40 = .ok (.bipush 60, 2) := by decide +kernel
theorem dX8_say_42 : decode cX8_say 42 = .ok (.iaload, 1) := by decide +kernel
theorem dX8_say_43 : decode cX8_say 43 = .ok (.iadd, 1) := by decide +kernel
theorem dX8_say_44 : decode cX8_say 44 = .ok (.iload_n 1, 1) := by decide +kernel
theorem dX8_say_45 : decode cX8_say 45 = .ok (.iastore, 1) := by decide +kernel
theorem dX8_say_46 : decode cX8_say 46 = .ok (.aload_n 0, 1) := by decide +kernel
theorem dX8_say_47 : decode cX8_say 47 = .ok (.getfield 16, 3) := by decide +kernel
theorem dX8_say_50 : decode cX8_say 50 = .ok (.bipush 60, 2) := by decide +kernel
theorem dX8_say_52 : decode cX8_say 52 = .ok (.dup2, 1) := by decide +kernel
theorem dX8_say_53 : decode cX8_say 53 = .ok (.iaload, 1) := by decide +kernel
theorem dX8_say_54 : decode cX8_say 54 = .ok (.iconst 1, 1) := by decide +kernel
theorem dX8_say_55 : decode cX8_say 55 = .ok (.iadd, 1) := by decide +kernel
theorem dX8_say_56 : decode cX8_say 56 = .ok (.iastore, 1) := by decide +kernel
theorem dX8_say_57 : decode cX8_say 57 = .ok (.aload_n 0, 1) := by decide +kernel
theorem dX8_say_58 : decode cX8_say 58 = .ok (.getfield 16, 3) := by decide +kernel
theorem dX8_say_61 : decode cX8_say 61 = .ok (.bipush 60, 2) := by decide +kernel
theorem dX8_say_63 : decode cX8_say 63 = .ok (.iaload, 1) := by decide +kernel
theorem dX8_say_64 : decode cX8_say 64 = .ok (.ireturn, 1) := by decide +kernel
theorem dX8_wipe_0 : decode cX8_wipe 0 = .ok (.aload_n 0, 1) := by decide +kernel
theorem dX8_wipe_1 : decode cX8_wipe 1 = .ok (.getfield 16, 3) := by decide +kernel
theorem dX8_wipe_4 : decode cX8_wipe 4 = .ok (.bipush 60, 2) := by decide +kernel
theorem dX8_wipe_6 : decode cX8_wipe 6 = .ok (.iaload, 1) := by decide +kernel
theorem dX8_wipe_7 : decode cX8_wipe 7 = .ok (.istore_n 1, 1) := by decide +kernel
theorem dX8_wipe_8 : decode cX8_wipe 8 = .ok (.aload_n 0, 1) := by decide +kernel
theorem dX8_wipe_9 : decode cX8_wipe 9 = .ok (.getfield 16, 3) := by decide +kernel
theorem dX8_wipe_12 : decode cX8_wipe 12 = .ok (.bipush 60, 2) := by decide +kernel
theorem dX8_wipe_14 : decode cX8_wipe 14 = .ok (.iconst 0, 1) := by decide +kernel
theorem dX8_wipe_15 : decode cX8_wipe 15 = .ok (.iastore, 1) := by decide +kernel
theorem dX8_wipe_16 : decode cX8_wipe 16 = .ok (.iload_n 1, 1) := by decide +kernel
theorem dX8_wipe_17 : decode cX8_wipe 17 = .ok (.ireturn, 1) := by decide +kernel
theorem dX8_partsOf_0 : decode cX8_partsOf 0 = .ok (.iload_n 0, 1) := by decide +kernel
theorem dX8_partsOf_1 : decode cX8_partsOf 1 = .ok (.bipush 48, 2) := by decide +kernel
theorem dX8_partsOf_3 : decode cX8_partsOf 3 = .ok (.bipush 57, 2) := by decide +kernel
theorem dX8_partsOf_5 : decode cX8_partsOf 5 = .ok (.invokestatic 66, 3) := by decide +kernel
theorem dX8_partsOf_8 : decode cX8_partsOf 8 = .ok (.ifCond .ne 9, 3) := by decide +kernel
theorem dX8_partsOf_11 : decode cX8_partsOf 11 = .ok (.iload_n 0, 1) := by decide +kernel
theorem dX8_partsOf_12 : decode cX8_partsOf 12 = .ok (.bipush 120, 2) := by decide +kernel
theorem dX8_partsOf_14 : decode cX8_partsOf 14 = .ok (.if_icmp .ne 5, 3) := by decide +kernel
theorem dX8_partsOf_17 : decode cX8_partsOf 17 = .ok (.iconst 0, 1) := by decide +kernel
theorem dX8_partsOf_18 : decode cX8_partsOf 18 = .ok (.ireturn, 1) := by decide +kernel
theorem dX8_partsOf_19 : decode cX8_partsOf 19 = .ok (.iload_n 0, 1) := by decide +kernel
theorem dX8_partsOf_20 : decode cX8_partsOf 20 = .ok (.bipush 97, 2) := by decide +kernel
theorem dX8_partsOf_22 : decode cX8_partsOf 22 = .ok (.bipush 104, 2) := by decide +kernel
theorem dX8_partsOf_24 : decode cX8_partsOf 24 = .ok (.invokestatic 66, 3) := by decide +kernel
theorem dX8_partsOf_27 : decode cX8_partsOf 27 = .ok (.ifCond .eq 5, 3) := by decide +kernel
theorem dX8_partsOf_30 : decode cX8_partsOf 30 = .ok (.iconst 1, 1) := by decide +kernel
theorem dX8_partsOf_31 : decode cX8_partsOf 31 = .ok (.ireturn, 1) := by decide +kernel
theorem dX8_partsOf_32 : decode cX8_partsOf 32 = .ok (.iload_n 0, 1) := by decide +kernel
theorem dX8_partsOf_33 : decode cX8_partsOf 33 = .ok (.bipush 43, 2) := by decide +kernel
theorem dX8_partsOf_35 : decode cX8_partsOf 35 = .ok (.if_icmp .eq 21, 3) := by decide +kernel
theorem dX8_partsOf_38 : decode cX8_partsOf 38 = .ok (.iload_n 0, 1) := by decide +kernel
theorem dX8_partsOf_39 : decode cX8_partsOf 39 = .ok (.bipush 45, 2) := by decide +kernel
theorem dX8_partsOf_41 : decode cX8_partsOf 41 = .ok (.if_icmp .eq 15, 3) := by decide +kernel
theorem dX8_partsOf_44 : decode cX8_partsOf 44 = .ok (.iload_n 0, 1) := by decide +kernel
theorem dX8_partsOf_45 : decode cX8_partsOf 45 = .ok (.bipush 42, 2) := by decide +kernel
theorem dX8_partsOf_47 : decode cX8_partsOf 47 = .ok (.if_icmp .eq 9, 3) := by decide +kernel
theorem dX8_partsOf_50 : decode cX8_partsOf 50 = .ok (.iload_n 0, 1) := by decide +kernel
theorem dX8_partsOf_51 : decode cX8_partsOf 51 = .ok (.bipush 109, 2) := by decide +kernel
theorem dX8_partsOf_53 : decode cX8_partsOf 53 = .ok (.if_icmp .ne 7, 3) := by decide +kernel
theorem dX8_partsOf_56 : decode cX8_partsOf 56 = .ok (.iconst 2, 1) := by decide +kernel
theorem dX8_partsOf_57 : decode cX8_partsOf 57 = .ok (.goto 15, 3) := by decide +kernel
theorem dX8_partsOf_60 : decode cX8_partsOf 60 = .ok (.iload_n 0, 1) := by decide +kernel
theorem dX8_partsOf_61 : decode cX8_partsOf 61 = .ok (.bipush 63, 2) := by decide +kernel
theorem dX8_partsOf_63 : decode cX8_partsOf 63 = .ok (.if_icmp .ne 7, 3) := by decide +kernel
theorem dX8_partsOf_66 : decode cX8_partsOf 66 = .ok (.iconst 3, 1) := by decide +kernel
theorem dX8_partsOf_67 : decode cX8_partsOf 67 = .ok (.goto 5, 3) := by decide +kernel
theorem dX8_partsOf_70 : decode cX8_partsOf 70 = .ok (.bipush (-6), 2) := by decide +kernel
theorem dX8_partsOf_72 : decode cX8_partsOf 72 = .ok (.ireturn, 1) := by decide +kernel
theorem dX8_faultOf_0 : decode cX8_faultOf 0 = .ok (.iconst 0, 1) := by decide +kernel
theorem dX8_faultOf_1 : decode cX8_faultOf 1 = .ok (.istore_n 1, 1) := by decide +kernel
theorem dX8_faultOf_2 : decode cX8_faultOf 2 = .ok (.iconst 0, 1) := by decide +kernel
theorem dX8_faultOf_3 : decode cX8_faultOf 3 = .ok (.istore_n 2, 1) := by decide +kernel
theorem dX8_faultOf_4 : decode cX8_faultOf 4 = .ok (.iload_n 2, 1) := by decide +kernel
theorem dX8_faultOf_5 : decode cX8_faultOf 5 = .ok (.aload_n 0, 1) := by decide +kernel
theorem dX8_faultOf_6 : decode cX8_faultOf 6 = .ok (.getfield 16, 3) := by decide +kernel
theorem dX8_faultOf_9 : decode cX8_faultOf 9 = .ok (.bipush 60, 2) := by decide +kernel
theorem dX8_faultOf_11 : decode cX8_faultOf 11 = .ok (.iaload, 1) := by decide +kernel
theorem dX8_faultOf_12 : decode cX8_faultOf 12 = .ok (.if_icmp .ge 160, 3) := by decide +kernel
theorem dX8_faultOf_15 : decode cX8_faultOf 15 = .ok (.aload_n 0, 1) := by decide +kernel
theorem dX8_faultOf_16 : decode cX8_faultOf 16 = .ok (.getfield 7, 3) := by decide +kernel
theorem dX8_faultOf_19 : decode cX8_faultOf 19 = .ok (.sipush 2400, 3) := by decide +kernel
theorem dX8_faultOf_22 : decode cX8_faultOf 22 = .ok (.iload_n 2, 1) := by decide +kernel
theorem dX8_faultOf_23 : decode cX8_faultOf 23 = .ok (.iadd, 1) := by decide +kernel
theorem dX8_faultOf_24 : decode cX8_faultOf 24 = .ok (.iaload, 1) := by decide +kernel
theorem dX8_faultOf_25 : decode cX8_faultOf 25 = .ok (.invokestatic 77, 3) := by decide +kernel
theorem dX8_faultOf_28 : decode cX8_faultOf 28 = .ok (.istore_n 3, 1) := by decide +kernel
theorem dX8_faultOf_29 : decode cX8_faultOf 29 = .ok (.iload_n 3, 1) := by decide +kernel
theorem dX8_faultOf_30 : decode cX8_faultOf 30 = .ok (.ifCond .lt 13, 3) := by decide +kernel
theorem dX8_faultOf_33 : decode cX8_faultOf 33 = .ok (.iload_n 3, 1) := by decide +kernel
theorem dX8_faultOf_34 : decode cX8_faultOf 34 = .ok (.ifCond .le 11, 3) := by decide +kernel
theorem dX8_faultOf_37 : decode cX8_faultOf 37 = .ok (.iload_n 1, 1) := by decide +kernel
theorem dX8_faultOf_38 : decode cX8_faultOf 38 = .ok (.bipush 6, 2) := by decide +kernel
theorem dX8_faultOf_40 : decode cX8_faultOf 40 = .ok (.if_icmp .ne 5, 3) := by decide +kernel
theorem dX8_faultOf_43 : decode cX8_faultOf 43 = .ok (.iload_n 2, 1) := by decide +kernel
theorem dX8_faultOf_44 : decode cX8_faultOf 44 = .ok (.ireturn, 1) := by decide +kernel
theorem dX8_faultOf_45 : decode cX8_faultOf 45 = .ok (.iload_n 3, 1) := by decide +kernel
theorem dX8_faultOf_46 : decode cX8_faultOf 46 = .ok (.ifCond .le 16, 3) := by decide +kernel
theorem dX8_faultOf_49 : decode cX8_faultOf 49 = .ok (.aload_n 0, 1) := by decide +kernel
theorem dX8_faultOf_50 : decode cX8_faultOf 50 = .ok (.getfield 25, 3) := by decide +kernel
theorem dX8_faultOf_53 : decode cX8_faultOf 53 = .ok (.iload_n 1, 1) := by decide +kernel
theorem dX8_faultOf_54 : decode cX8_faultOf 54 = .ok (.iload_n 3, 1) := by decide +kernel
theorem dX8_faultOf_55 : decode cX8_faultOf 55 = .ok (.iastore, 1) := by decide +kernel
theorem dX8_faultOf_56 : decode cX8_faultOf 56 = .ok (.iinc 1 1, 3) := by decide +kernel
theorem dX8_faultOf_59 : decode cX8_faultOf 59 = .ok (.goto 107, 3) := by decide +kernel
theorem dX8_faultOf_62 : decode cX8_faultOf 62 = .ok (.iload_n 1, 1) := by decide +kernel
theorem dX8_faultOf_63 : decode cX8_faultOf 63 = .ok (.ifCond .le 7, 3) := by decide +kernel
theorem dX8_faultOf_66 : decode cX8_faultOf 66 = .ok (.iconst 1, 1) := by decide +kernel
theorem dX8_faultOf_67 : decode cX8_faultOf 67 = .ok (.goto 4, 3) := by decide +kernel
theorem dX8_faultOf_70 : decode cX8_faultOf 70 = .ok (.iconst 0, 1) := by decide +kernel
theorem dX8_faultOf_71 : decode cX8_faultOf 71 = .ok (.istore 4, 2) := by decide +kernel
theorem dX8_faultOf_73 : decode cX8_faultOf 73 = .ok (.iload 4, 2) := by decide +kernel
theorem dX8_faultOf_75 : decode cX8_faultOf 75 = .ok (.ifCond .eq 65, 3) := by decide +kernel
theorem dX8_faultOf_78 : decode cX8_faultOf 78 = .ok (.aload_n 0, 1) := by decide +kernel
theorem dX8_faultOf_79 : decode cX8_faultOf 79 = .ok (.getfield 25, 3) := by decide +kernel
theorem dX8_faultOf_82 : decode cX8_faultOf 82 = .ok (.iload_n 1, 1) := by decide +kernel
theorem dX8_faultOf_83 : decode cX8_faultOf 83 = .ok (.iconst 1, 1) := by decide +kernel
theorem dX8_faultOf_84 : decode cX8_faultOf 84 = .ok (.isub, 1) := by decide +kernel
theorem dX8_faultOf_85 : decode cX8_faultOf 85 = .ok (.dup2, 1) := by decide +kernel
theorem dX8_faultOf_86 : decode cX8_faultOf 86 = .ok (.iaload, 1) := by decide +kernel
theorem dX8_faultOf_87 : decode cX8_faultOf 87 = .ok (.iconst 1, 1) := by decide +kernel
theorem dX8_faultOf_88 : decode cX8_faultOf 88 = .ok (.isub, 1) := by decide +kernel
theorem dX8_faultOf_89 : decode cX8_faultOf 89 = .ok (.iastore, 1) := by decide +kernel
theorem dX8_faultOf_90 : decode cX8_faultOf 90 = .ok (.aload_n 0, 1) := by decide +kernel
theorem dX8_faultOf_91 : decode cX8_faultOf 91 = .ok (.getfield 25, 3) := by decide +kernel
theorem dX8_faultOf_94 : decode cX8_faultOf 94 = .ok (.iload_n 1, 1) := by decide +kernel
theorem dX8_faultOf_95 : decode cX8_faultOf 95 = .ok (.iconst 1, 1) := by decide +kernel
theorem dX8_faultOf_96 : decode cX8_faultOf 96 = .ok (.isub, 1) := by decide +kernel
theorem dX8_faultOf_97 : decode cX8_faultOf 97 = .ok (.iaload, 1) := by decide +kernel
theorem dX8_faultOf_98 : decode cX8_faultOf 98 = .ok (.ifCond .ne 7, 3) := by decide +kernel
theorem dX8_faultOf_101 : decode cX8_faultOf 101 = .ok (.iconst 1, 1) := by decide +kernel
theorem dX8_faultOf_102 : decode cX8_faultOf 102 = .ok (.goto 4, 3) := by decide +kernel
theorem dX8_faultOf_105 : decode cX8_faultOf 105 = .ok (.iconst 0, 1) := by decide +kernel
theorem dX8_faultOf_106 : decode cX8_faultOf 106 = .ok (.istore 4, 2) := by decide +kernel
theorem dX8_faultOf_108 : decode cX8_faultOf 108 = .ok (.iload_n 1, 1) := by decide +kernel
theorem dX8_faultOf_109 : decode cX8_faultOf 109 = .ok (.iload 4, 2) := by decide +kernel
theorem dX8_faultOf_111 : decode cX8_faultOf 111 = .ok (.ifCond .eq 7, 3) := by decide +kernel
theorem dX8_faultOf_114 : decode cX8_faultOf 114 = .ok (.iconst 1, 1) := by decide +kernel
theorem dX8_faultOf_115 : decode cX8_faultOf 115 = .ok (.goto 4, 3) := by decide +kernel
theorem dX8_faultOf_118 : decode cX8_faultOf 118 = .ok (.iconst 0, 1) := by decide +kernel
theorem dX8_faultOf_119 : decode cX8_faultOf 119 = .ok (.isub, 1) := by decide +kernel
theorem dX8_faultOf_120 : decode cX8_faultOf 120 = .ok (.istore_n 1, 1) := by decide +kernel
theorem dX8_faultOf_121 : decode cX8_faultOf 121 = .ok (.iload 4, 2) := by decide +kernel
theorem dX8_faultOf_123 : decode cX8_faultOf 123 = .ok (.ifCond .eq 11, 3) := by decide +kernel
theorem dX8_faultOf_126 : decode cX8_faultOf 126 = .ok (.iload_n 1, 1) := by decide +kernel
theorem dX8_faultOf_127 : decode cX8_faultOf 127 = .ok (.ifCond .le 7, 3) := by decide +kernel
theorem dX8_faultOf_130 : decode cX8_faultOf 130 = .ok (.iconst 1, 1) := by decide +kernel
theorem dX8_faultOf_131 : decode cX8_faultOf 131 = .ok (.goto 4, 3) := by decide +kernel
theorem dX8_faultOf_134 : decode cX8_faultOf 134 = .ok (.iconst 0, 1) := by decide +kernel
theorem dX8_faultOf_135 : decode cX8_faultOf 135 = .ok (.istore 4, 2) := by decide +kernel
theorem dX8_faultOf_137 : decode cX8_faultOf 137 = .ok (.goto (-64), 3) := by decide +kernel
theorem dX8_faultOf_140 : decode cX8_faultOf 140 = .ok (.iload_n 1, 1) := by decide +kernel
theorem dX8_faultOf_141 : decode cX8_faultOf 141 = .ok (.ifCond .ne 25, 3) := by decide +kernel
theorem dX8_faultOf_144 : decode cX8_faultOf 144 = .ok (.iload_n 2, 1) := by decide +kernel
theorem dX8_faultOf_145 : decode cX8_faultOf 145 = .ok (.iconst 1, 1) := by decide +kernel
theorem dX8_faultOf_146 : decode cX8_faultOf 146 = .ok (.iadd, 1) := by decide +kernel
theorem dX8_faultOf_147 : decode cX8_faultOf 147 = .ok (.aload_n 0, 1) := by decide +kernel
theorem dX8_faultOf_148 : decode cX8_faultOf 148 = .ok (.getfield 16, 3) := by decide +kernel
theorem dX8_faultOf_151 : decode cX8_faultOf 151 = .ok (.bipush 60, 2) := by decide +kernel
theorem dX8_faultOf_153 : decode cX8_faultOf 153 = .ok (.iaload, 1) := by decide +kernel
theorem dX8_faultOf_154 : decode cX8_faultOf 154 = .ok (.if_icmp .ne 8, 3) := by decide +kernel
theorem dX8_faultOf_157 : decode cX8_faultOf 157 = .ok (.bipush (-6), 2) := by decide +kernel
theorem dX8_faultOf_159 : decode cX8_faultOf 159 = .ok (.goto 6, 3) := by decide +kernel
theorem dX8_faultOf_162 : decode cX8_faultOf 162 = .ok (.iload_n 2, 1) := by decide +kernel
theorem dX8_faultOf_163 : decode cX8_faultOf 163 = .ok (.iconst 1, 1) := by decide +kernel
theorem dX8_faultOf_164 : decode cX8_faultOf 164 = .ok (.iadd, 1) := by decide +kernel
theorem dX8_faultOf_165 : decode cX8_faultOf 165 = .ok (.ireturn, 1) := by decide +kernel
theorem dX8_faultOf_166 : decode cX8_faultOf 166 = .ok (.iinc 2 1, 3) := by decide +kernel
theorem dX8_faultOf_169 : decode cX8_faultOf 169 = .ok (.goto (-165), 3) := by decide +kernel
theorem dX8_faultOf_172 : decode cX8_faultOf 172 = .ok (.aload_n 0, 1) := by decide +kernel
theorem dX8_faultOf_173 : decode cX8_faultOf 173 = .ok (.getfield 16, 3) := by decide +kernel
theorem dX8_faultOf_176 : decode cX8_faultOf 176 = .ok (.bipush 60, 2) := by decide +kernel
theorem dX8_faultOf_178 : decode cX8_faultOf 178 = .ok (.iaload, 1) := by decide +kernel
theorem dX8_faultOf_179 : decode cX8_faultOf 179 = .ok (.ireturn, 1) := by decide +kernel
theorem dX8_fault_0 : decode cX8_fault 0 = .ok (.aload_n 0, 1) := by decide +kernel
theorem dX8_fault_1 : decode cX8_fault 1 = .ok (.invokevirtual 81, 3) := by decide +kernel
theorem dX8_fault_4 : decode cX8_fault 4 = .ok (.ireturn, 1) := by decide +kernel
theorem dX8_measure_0 : decode cX8_measure 0 = .ok (.bipush 40, 2) := by decide +kernel
theorem dX8_measure_2 : decode cX8_measure 2 = .ok (.iload_n 1, 1) := by decide +kernel
theorem dX8_measure_3 : decode cX8_measure 3 = .ok (.imul, 1) := by decide +kernel
theorem dX8_measure_4 : decode cX8_measure 4 = .ok (.aload_n 0, 1) := by decide +kernel
theorem dX8_measure_5 : decode cX8_measure 5 = .ok (.getfield 16, 3) := by decide +kernel
theorem dX8_measure_8 : decode cX8_measure 8 = .ok (.iload_n 1, 1) := by decide +kernel
theorem dX8_measure_9 : decode cX8_measure 9 = .ok (.iaload, 1) := by decide +kernel
theorem dX8_measure_10 : decode cX8_measure 10 = .ok (.iadd, 1) := by decide +kernel
theorem dX8_measure_11 : decode cX8_measure 11 = .ok (.iconst 1, 1) := by decide +kernel
theorem dX8_measure_12 : decode cX8_measure 12 = .ok (.isub, 1) := by decide +kernel
theorem dX8_measure_13 : decode cX8_measure 13 = .ok (.istore_n 2, 1) := by decide +kernel
theorem dX8_measure_14 : decode cX8_measure 14 = .ok (.iload_n 2, 1) := by decide +kernel
theorem dX8_measure_15 : decode cX8_measure 15 = .ok (.bipush 40, 2) := by decide +kernel
theorem dX8_measure_17 : decode cX8_measure 17 = .ok (.iload_n 1, 1) := by decide +kernel
theorem dX8_measure_18 : decode cX8_measure 18 = .ok (.imul, 1) := by decide +kernel
theorem dX8_measure_19 : decode cX8_measure 19 = .ok (.if_icmp .lt 52, 3) := by decide +kernel
theorem dX8_measure_22 : decode cX8_measure 22 = .ok (.iconst 1, 1) := by decide +kernel
theorem dX8_measure_23 : decode cX8_measure 23 = .ok (.istore_n 3, 1) := by decide +kernel
theorem dX8_measure_24 : decode cX8_measure 24 = .ok (.iconst 0, 1) := by decide +kernel
theorem dX8_measure_25 : decode cX8_measure 25 = .ok (.istore 4, 2) := by decide +kernel
theorem dX8_measure_27 : decode cX8_measure 27 = .ok (.iload 4, 2) := by decide +kernel
theorem dX8_measure_29 : decode cX8_measure 29 = .ok (.aload_n 0, 1) := by decide +kernel
theorem dX8_measure_30 : decode cX8_measure 30 = .ok (.getfield 7, 3) := by decide +kernel
theorem dX8_measure_33 : decode cX8_measure 33 = .ok (.iload_n 2, 1) := by decide +kernel
theorem dX8_measure_34 : decode cX8_measure 34 = .ok (.iaload, 1) := by decide +kernel
theorem dX8_measure_35 : decode cX8_measure 35 = .ok (.invokestatic 77, 3) := by decide +kernel
theorem dX8_measure_38 : decode cX8_measure 38 = .ok (.if_icmp .ge 20, 3) := by decide +kernel
theorem dX8_measure_41 : decode cX8_measure 41 = .ok (.iload_n 3, 1) := by decide +kernel
theorem dX8_measure_42 : decode cX8_measure 42 = .ok (.aload_n 0, 1) := by decide +kernel
theorem dX8_measure_43 : decode cX8_measure 43 = .ok (.getfield 13, 3) := by decide +kernel
theorem dX8_measure_46 : decode cX8_measure 46 = .ok (.iload_n 2, 1) := by decide +kernel
theorem dX8_measure_47 : decode cX8_measure 47 = .ok (.iload_n 3, 1) := by decide +kernel
theorem dX8_measure_48 : decode cX8_measure 48 = .ok (.iadd, 1) := by decide +kernel
theorem dX8_measure_49 : decode cX8_measure 49 = .ok (.iaload, 1) := by decide +kernel
theorem dX8_measure_50 : decode cX8_measure 50 = .ok (.iadd, 1) := by decide +kernel
theorem dX8_measure_51 : decode cX8_measure 51 = .ok (.istore_n 3, 1) := by decide +kernel
theorem dX8_measure_52 : decode cX8_measure 52 = .ok (.iinc 4 1, 3) := by decide +kernel
theorem dX8_measure_55 : decode cX8_measure 55 = .ok (.goto (-28), 3) := by decide +kernel
theorem dX8_measure_58 : decode cX8_measure 58 = .ok (.aload_n 0, 1) := by decide +kernel
theorem dX8_measure_59 : decode cX8_measure 59 = .ok (.getfield 13, 3) := by decide +kernel
theorem dX8_measure_62 : decode cX8_measure 62 = .ok (.iload_n 2, 1) := by decide +kernel
theorem dX8_measure_63 : decode cX8_measure 63 = .ok (.iload_n 3, 1) := by decide +kernel
theorem dX8_measure_64 : decode cX8_measure 64 = .ok (.iastore, 1) := by decide +kernel
theorem dX8_measure_65 : decode cX8_measure 65 = .ok (.iinc 2 (-1), 3) := by decide +kernel
theorem dX8_measure_68 : decode cX8_measure 68 = .ok (.goto (-54), 3) := by decide +kernel
theorem dX8_measure_71 : decode cX8_measure 71 = .ok (.return_, 1) := by decide +kernel
theorem dX8_copyText_0 : decode cX8_copyText 0 = .ok (.aload_n 0, 1) := by decide +kernel
theorem dX8_copyText_1 : decode cX8_copyText 1 = .ok (.getfield 16, 3) := by decide +kernel
theorem dX8_copyText_4 : decode cX8_copyText 4 = .ok (.iload_n 2, 1) := by decide +kernel
theorem dX8_copyText_5 : decode cX8_copyText 5 = .ok (.aload_n 0, 1) := by decide +kernel
theorem dX8_copyText_6 : decode cX8_copyText 6 = .ok (.getfield 16, 3) := by decide +kernel
theorem dX8_copyText_9 : decode cX8_copyText 9 = .ok (.iload_n 1, 1) := by decide +kernel
theorem dX8_copyText_10 : decode cX8_copyText 10 = .ok (.iaload, 1) := by decide +kernel
theorem dX8_copyText_11 : decode cX8_copyText 11 = .ok (.iastore, 1) := by decide +kernel
theorem dX8_copyText_12 : decode cX8_copyText 12 = .ok (.iconst 0, 1) := by decide +kernel
theorem dX8_copyText_13 : decode cX8_copyText 13 = .ok (.istore_n 3, 1) := by decide +kernel
theorem dX8_copyText_14 : decode cX8_copyText 14 = .ok (.iload_n 3, 1) := by decide +kernel
theorem dX8_copyText_15 : decode cX8_copyText 15 = .ok (.aload_n 0, 1) := by decide +kernel
theorem dX8_copyText_16 : decode cX8_copyText 16 = .ok (.getfield 16, 3) := by decide +kernel
theorem dX8_copyText_19 : decode cX8_copyText 19 = .ok (.iload_n 1, 1) := by decide +kernel
theorem dX8_copyText_20 : decode cX8_copyText 20 = .ok (.iaload, 1) := by decide +kernel
theorem dX8_copyText_21 : decode cX8_copyText 21 = .ok (.if_icmp .ge 31, 3) := by decide +kernel
theorem dX8_copyText_24 : decode cX8_copyText 24 = .ok (.aload_n 0, 1) := by decide +kernel
theorem dX8_copyText_25 : decode cX8_copyText 25 = .ok (.getfield 7, 3) := by decide +kernel
theorem dX8_copyText_28 : decode cX8_copyText 28 = .ok (.bipush 40, 2) := by decide +kernel
theorem dX8_copyText_30 : decode cX8_copyText 30 = .ok (.iload_n 2, 1) := by decide +kernel
theorem dX8_copyText_31 : decode cX8_copyText 31 = .ok (.imul, 1) := by decide +kernel
theorem dX8_copyText_32 : decode cX8_copyText 32 = .ok (.iload_n 3, 1) := by decide +kernel
theorem dX8_copyText_33 : decode cX8_copyText 33 = .ok (.iadd, 1) := by decide +kernel
theorem dX8_copyText_34 : decode cX8_copyText 34 = .ok (.aload_n 0, 1) := by decide +kernel
theorem dX8_copyText_35 : decode cX8_copyText 35 = .ok (.getfield 7, 3) := by decide +kernel
theorem dX8_copyText_38 : decode cX8_copyText 38 = .ok (.bipush 40, 2) := by decide +kernel
theorem dX8_copyText_40 : decode cX8_copyText 40 = .ok (.iload_n 1, 1) := by decide +kernel
theorem dX8_copyText_41 : decode cX8_copyText 41 = .ok (.imul, 1) := by decide +kernel
theorem dX8_copyText_42 : decode cX8_copyText 42 = .ok (.iload_n 3, 1) := by decide +kernel
theorem dX8_copyText_43 : decode cX8_copyText 43 = .ok (.iadd, 1) := by decide +kernel
theorem dX8_copyText_44 : decode cX8_copyText 44 = .ok (.iaload, 1) := by decide +kernel
theorem dX8_copyText_45 : decode cX8_copyText 45 = .ok (.iastore, 1) := by decide +kernel
theorem dX8_copyText_46 : decode cX8_copyText 46 = .ok (.iinc 3 1, 3) := by decide +kernel
theorem dX8_copyText_49 : decode cX8_copyText 49 = .ok (.goto (-35), 3) := by decide +kernel
theorem dX8_copyText_52 : decode cX8_copyText 52 = .ok (.aload_n 0, 1) := by decide +kernel
theorem dX8_copyText_53 : decode cX8_copyText 53 = .ok (.iload_n 2, 1) := by decide +kernel
theorem dX8_copyText_54 : decode cX8_copyText 54 = .ok (.invokevirtual 85, 3) := by decide +kernel
theorem dX8_copyText_57 : decode cX8_copyText 57 = .ok (.return_, 1) := by decide +kernel
theorem dX8_version_0 : decode cX8_version 0 = .ok (.aload_n 0, 1) := by decide +kernel
theorem dX8_version_1 : decode cX8_version 1 = .ok (.getfield 62, 3) := by decide +kernel
theorem dX8_version_4 : decode cX8_version 4 = .ok (.bipush 6, 2) := by decide +kernel
theorem dX8_version_6 : decode cX8_version 6 = .ok (.if_icmp .ne 6, 3) := by decide +kernel
theorem dX8_version_9 : decode cX8_version 9 = .ok (.bipush (-4), 2) := by decide +kernel
theorem dX8_version_11 : decode cX8_version 11 = .ok (.ireturn, 1) := by decide +kernel
theorem dX8_version_12 : decode cX8_version 12 = .ok (.iconst 0, 1) := by decide +kernel
theorem dX8_version_13 : decode cX8_version 13 = .ok (.istore_n 1, 1) := by decide +kernel
theorem dX8_version_14 : decode cX8_version 14 = .ok (.iload_n 1, 1) := by decide +kernel
theorem dX8_version_15 : decode cX8_version 15 = .ok (.bipush 8, 2) := by decide +kernel
theorem dX8_version_17 : decode cX8_version 17 = .ok (.if_icmp .ge 33, 3) := by decide +kernel
theorem dX8_version_20 : decode cX8_version 20 = .ok (.aload_n 0, 1) := by decide +kernel
theorem dX8_version_21 : decode cX8_version 21 = .ok (.bipush 8, 2) := by decide +kernel
theorem dX8_version_23 : decode cX8_version 23 = .ok (.aload_n 0, 1) := by decide +kernel
theorem dX8_version_24 : decode cX8_version 24 = .ok (.getfield 62, 3) := by decide +kernel
theorem dX8_version_27 : decode cX8_version 27 = .ok (.iconst 1, 1) := by decide +kernel
theorem dX8_version_28 : decode cX8_version 28 = .ok (.isub, 1) := by decide +kernel
theorem dX8_version_29 : decode cX8_version 29 = .ok (.imul, 1) := by decide +kernel
theorem dX8_version_30 : decode cX8_version 30 = .ok (.iload_n 1, 1) := by decide +kernel
theorem dX8_version_31 : decode cX8_version 31 = .ok (.iadd, 1) := by decide +kernel
theorem dX8_version_32 : decode cX8_version 32 = .ok (.bipush 8, 2) := by decide +kernel
theorem dX8_version_34 : decode cX8_version 34 = .ok (.aload_n 0, 1) := by decide +kernel
theorem dX8_version_35 : decode cX8_version 35 = .ok (.getfield 62, 3) := by decide +kernel
theorem dX8_version_38 : decode cX8_version 38 = .ok (.imul, 1) := by decide +kernel
theorem dX8_version_39 : decode cX8_version 39 = .ok (.iload_n 1, 1) := by decide +kernel
theorem dX8_version_40 : decode cX8_version 40 = .ok (.iadd, 1) := by decide +kernel
theorem dX8_version_41 : decode cX8_version 41 = .ok (.invokevirtual 89, 3) := by decide +kernel
theorem dX8_version_44 : decode cX8_version 44 = .ok (.iinc 1 1, 3) := by decide +kernel
theorem dX8_version_47 : decode cX8_version 47 = .ok (.goto (-33), 3) := by decide +kernel
theorem dX8_version_50 : decode cX8_version 50 = .ok (.aload_n 0, 1) := by decide +kernel
theorem dX8_version_51 : decode cX8_version 51 = .ok (.dup, 1) := by decide +kernel
theorem dX8_version_52 : decode cX8_version 52 = .ok (.getfield 62, 3) := by decide +kernel
theorem dX8_version_55 : decode cX8_version 55 = .ok (.iconst 1, 1) := by decide +kernel
theorem dX8_version_56 : decode cX8_version 56 = .ok (.iadd, 1) := by decide +kernel
theorem dX8_version_57 : decode cX8_version 57 = .ok (.putfield 62, 3) := by decide +kernel
theorem dX8_version_60 : decode cX8_version 60 = .ok (.aload_n 0, 1) := by decide +kernel
theorem dX8_version_61 : decode cX8_version 61 = .ok (.iconst 0, 1) := by decide +kernel
theorem dX8_version_62 : decode cX8_version 62 = .ok (.putfield 93, 3) := by decide +kernel
theorem dX8_version_65 : decode cX8_version 65 = .ok (.aload_n 0, 1) := by decide +kernel
theorem dX8_version_66 : decode cX8_version 66 = .ok (.getfield 62, 3) := by decide +kernel
theorem dX8_version_69 : decode cX8_version 69 = .ok (.iconst 1, 1) := by decide +kernel
theorem dX8_version_70 : decode cX8_version 70 = .ok (.isub, 1) := by decide +kernel
theorem dX8_version_71 : decode cX8_version 71 = .ok (.ireturn, 1) := by decide +kernel
theorem dX8_word_0 : decode cX8_word 0 = .ok (.iload_n 1, 1) := by decide +kernel
theorem dX8_word_1 : decode cX8_word 1 = .ok (.invokestatic 97, 3) := by decide +kernel
theorem dX8_word_4 : decode cX8_word 4 = .ok (.ifCond .ne 5, 3) := by decide +kernel
theorem dX8_word_7 : decode cX8_word 7 = .ok (.iconst (-1), 1) := by decide +kernel
theorem dX8_word_8 : decode cX8_word 8 = .ok (.ireturn, 1) := by decide +kernel
theorem dX8_word_9 : decode cX8_word 9 = .ok (.aload_n 0, 1) := by decide +kernel
theorem dX8_word_10 : decode cX8_word 10 = .ok (.getfield 16, 3) := by decide +kernel
theorem dX8_word_13 : decode cX8_word 13 = .ok (.bipush 60, 2) := by decide +kernel
theorem dX8_word_15 : decode cX8_word 15 = .ok (.iaload, 1) := by decide +kernel
theorem dX8_word_16 : decode cX8_word 16 = .ok (.ifCond .le 13, 3) := by decide +kernel
theorem dX8_word_19 : decode cX8_word 19 = .ok (.aload_n 0, 1) := by decide +kernel
theorem dX8_word_20 : decode cX8_word 20 = .ok (.invokevirtual 81, 3) := by decide +kernel
theorem dX8_word_23 : decode cX8_word 23 = .ok (.ifCond .lt 6, 3) := by decide +kernel
theorem dX8_word_26 : decode cX8_word 26 = .ok (.bipush (-5), 2) := by decide +kernel
theorem dX8_word_28 : decode cX8_word 28 = .ok (.ireturn, 1) := by decide +kernel
theorem dX8_word_29 : decode cX8_word 29 = .ok (.aload_n 0, 1) := by decide +kernel
theorem dX8_word_30 : decode cX8_word 30 = .ok (.getfield 16, 3) := by decide +kernel
theorem dX8_word_33 : decode cX8_word 33 = .ok (.bipush 60, 2) := by decide +kernel
theorem dX8_word_35 : decode cX8_word 35 = .ok (.iaload, 1) := by decide +kernel
theorem dX8_word_36 : decode cX8_word 36 = .ok (.istore_n 2, 1) := by decide +kernel
theorem dX8_word_37 : decode cX8_word 37 = .ok (.aload_n 0, 1) := by decide +kernel
theorem dX8_word_38 : decode cX8_word 38 = .ok (.bipush 60, 2) := by decide +kernel
theorem dX8_word_40 : decode cX8_word 40 = .ok (.bipush 8, 2) := by decide +kernel
theorem dX8_word_42 : decode cX8_word 42 = .ok (.aload_n 0, 1) := by decide +kernel
theorem dX8_word_43 : decode cX8_word 43 = .ok (.getfield 62, 3) := by decide +kernel
theorem dX8_word_46 : decode cX8_word 46 = .ok (.iconst 1, 1) := by decide +kernel
theorem dX8_word_47 : decode cX8_word 47 = .ok (.isub, 1) := by decide +kernel
theorem dX8_word_48 : decode cX8_word 48 = .ok (.imul, 1) := by decide +kernel
theorem dX8_word_49 : decode cX8_word 49 = .ok (.iload_n 1, 1) := by decide +kernel
theorem dX8_word_50 : decode cX8_word 50 = .ok (.iadd, 1) := by decide +kernel
theorem dX8_word_51 : decode cX8_word 51 = .ok (.invokevirtual 89, 3) := by decide +kernel
theorem dX8_word_54 : decode cX8_word 54 = .ok (.aload_n 0, 1) := by decide +kernel
theorem dX8_word_55 : decode cX8_word 55 = .ok (.getfield 16, 3) := by decide +kernel
theorem dX8_word_58 : decode cX8_word 58 = .ok (.bipush 60, 2) := by decide +kernel
theorem dX8_word_60 : decode cX8_word 60 = .ok (.iconst 0, 1) := by decide +kernel
theorem dX8_word_61 : decode cX8_word 61 = .ok (.iastore, 1) := by decide +kernel
theorem dX8_word_62 : decode cX8_word 62 = .ok (.aload_n 0, 1) := by decide +kernel
theorem dX8_word_63 : decode cX8_word 63 = .ok (.iconst 0, 1) := by decide +kernel
theorem dX8_word_64 : decode cX8_word 64 = .ok (.putfield 93, 3) := by decide +kernel
theorem dX8_word_67 : decode cX8_word 67 = .ok (.iload_n 2, 1) := by decide +kernel
theorem dX8_word_68 : decode cX8_word 68 = .ok (.ireturn, 1) := by decide +kernel
theorem dX8_written_0 : decode cX8_written 0 = .ok (.aload_n 0, 1) := by decide +kernel
theorem dX8_written_1 : decode cX8_written 1 = .ok (.iload_n 1, 1) := by decide +kernel
theorem dX8_written_2 : decode cX8_written 2 = .ok (.invokevirtual 100, 3) := by decide +kernel
theorem dX8_written_5 : decode cX8_written 5 = .ok (.ifCond .eq 10, 3) := by decide +kernel
theorem dX8_written_8 : decode cX8_written 8 = .ok (.iload_n 2, 1) := by decide +kernel
theorem dX8_written_9 : decode cX8_written 9 = .ok (.invokestatic 97, 3) := by decide +kernel
theorem dX8_written_12 : decode cX8_written 12 = .ok (.ifCond .ne 5, 3) := by decide +kernel
theorem dX8_written_15 : decode cX8_written 15 = .ok (.iconst (-1), 1) := by decide +kernel
theorem dX8_written_16 : decode cX8_written 16 = .ok (.ireturn, 1) := by decide +kernel
theorem dX8_written_17 : decode cX8_written 17 = .ok (.bipush 8, 2) := by decide +kernel
theorem dX8_written_19 : decode cX8_written 19 = .ok (.iload_n 1, 1) := by decide +kernel
theorem dX8_written_20 : decode cX8_written 20 = .ok (.imul, 1) := by decide +kernel
theorem dX8_written_21 : decode cX8_written 21 = .ok (.iload_n 2, 1) := by decide +kernel
theorem dX8_written_22 : decode cX8_written 22 = .ok (.iadd, 1) := by decide +kernel
theorem dX8_written_23 : decode cX8_written 23 = .ok (.istore 4, 2) := by decide +kernel
theorem dX8_written_25 : decode cX8_written 25 = .ok (.iload_n 3, 1) := by decide +kernel
theorem dX8_written_26 : decode cX8_written 26 = .ok (.iconst (-1), 1) := by decide +kernel
theorem dX8_written_27 : decode cX8_written 27 = .ok (.if_icmp .ne 13, 3) := by decide +kernel
theorem dX8_written_30 : decode cX8_written 30 = .ok (.aload_n 0, 1) := by decide +kernel
theorem dX8_written_31 : decode cX8_written 31 = .ok (.getfield 16, 3) := by decide +kernel
theorem dX8_written_34 : decode cX8_written 34 = .ok (.iload 4, 2) := by decide +kernel
theorem dX8_written_36 : decode cX8_written 36 = .ok (.iaload, 1) := by decide +kernel
theorem dX8_written_37 : decode cX8_written 37 = .ok (.goto 37, 3) := by decide +kernel
theorem dX8_written_40 : decode cX8_written 40 = .ok (.iload_n 3, 1) := by decide +kernel
theorem dX8_written_41 : decode cX8_written 41 = .ok (.iconst 0, 1) := by decide +kernel
theorem dX8_written_42 : decode cX8_written 42 = .ok (.aload_n 0, 1) := by decide +kernel
theorem dX8_written_43 : decode cX8_written 43 = .ok (.getfield 16, 3) := by decide +kernel
theorem dX8_written_46 : decode cX8_written 46 = .ok (.iload 4, 2) := by decide +kernel
theorem dX8_written_48 : decode cX8_written 48 = .ok (.iaload, 1) := by decide +kernel
theorem dX8_written_49 : decode cX8_written 49 = .ok (.iconst 1, 1) := by decide +kernel
theorem dX8_written_50 : decode cX8_written 50 = .ok (.isub, 1) := by decide +kernel
theorem dX8_written_51 : decode cX8_written 51 = .ok (.invokestatic 66, 3) := by decide +kernel
theorem dX8_written_54 : decode cX8_written 54 = .ok (.ifCond .eq 18, 3) := by decide +kernel
theorem dX8_written_57 : decode cX8_written 57 = .ok (.aload_n 0, 1) := by decide +kernel
theorem dX8_written_58 : decode cX8_written 58 = .ok (.getfield 7, 3) := by decide +kernel
theorem dX8_written_61 : decode cX8_written 61 = .ok (.bipush 40, 2) := by decide +kernel
theorem dX8_written_63 : decode cX8_written 63 = .ok (.iload 4, 2) := by decide +kernel
theorem dX8_written_65 : decode cX8_written 65 = .ok (.imul, 1) := by decide +kernel
theorem dX8_written_66 : decode cX8_written 66 = .ok (.iload_n 3, 1) := by decide +kernel
theorem dX8_written_67 : decode cX8_written 67 = .ok (.iadd, 1) := by decide +kernel
theorem dX8_written_68 : decode cX8_written 68 = .ok (.iaload, 1) := by decide +kernel
theorem dX8_written_69 : decode cX8_written 69 = .ok (.goto 5, 3) := by decide +kernel
theorem dX8_written_72 : decode cX8_written 72 = .ok (.bipush (-6), 2) := by decide +kernel
theorem dX8_written_74 : decode cX8_written 74 = .ok (.ireturn, 1) := by decide +kernel
theorem dX8_byVersion_0 : decode cX8_byVersion 0 = .ok (.iconst 0, 1) := by decide +kernel
theorem dX8_byVersion_1 : decode cX8_byVersion 1 = .ok (.istore_n 2, 1) := by decide +kernel
theorem dX8_byVersion_2 : decode cX8_byVersion 2 = .ok (.iload_n 2, 1) := by decide +kernel
theorem dX8_byVersion_3 : decode cX8_byVersion 3 = .ok (.bipush 8, 2) := by decide +kernel
theorem dX8_byVersion_5 : decode cX8_byVersion 5 = .ok (.if_icmp .ge 16, 3) := by decide +kernel
theorem dX8_byVersion_8 : decode cX8_byVersion 8 = .ok (.aload_n 0, 1) := by decide +kernel
theorem dX8_byVersion_9 : decode cX8_byVersion 9 = .ok (.getfield 37, 3) := by decide +kernel
theorem dX8_byVersion_12 : decode cX8_byVersion 12 = .ok (.iload_n 2, 1) := by decide +kernel
theorem dX8_byVersion_13 : decode cX8_byVersion 13 = .ok (.iload_n 1, 1) := by decide +kernel
theorem dX8_byVersion_14 : decode cX8_byVersion 14 = .ok (.iastore, 1) := by decide +kernel
theorem dX8_byVersion_15 : decode cX8_byVersion 15 = .ok (.iinc 2 1, 3) := by decide +kernel
theorem dX8_byVersion_18 : decode cX8_byVersion 18 = .ok (.goto (-16), 3) := by decide +kernel
theorem dX8_byVersion_21 : decode cX8_byVersion 21 = .ok (.return_, 1) := by decide +kernel
theorem dX8_act_0 : decode cX8_act 0 = .ok (.iload_n 0, 1) := by decide +kernel
theorem dX8_act_1 : decode cX8_act 1 = .ok (.tableswitch 59 42 45 #[51, 31, 59, 39], 31) := by decide +kernel
theorem dX8_act_32 : decode cX8_act 32 = .ok (.iload_n 1, 1) := by decide +kernel
theorem dX8_act_33 : decode cX8_act 33 = .ok (.iload_n 2, 1) := by decide +kernel
theorem dX8_act_34 : decode cX8_act 34 = .ok (.iadd, 1) := by decide +kernel
theorem dX8_act_35 : decode cX8_act 35 = .ok (.sipush 1000, 3) := by decide +kernel
theorem dX8_act_38 : decode cX8_act 38 = .ok (.irem, 1) := by decide +kernel
theorem dX8_act_39 : decode cX8_act 39 = .ok (.ireturn, 1) := by decide +kernel
theorem dX8_act_40 : decode cX8_act 40 = .ok (.iload_n 1, 1) := by decide +kernel
theorem dX8_act_41 : decode cX8_act 41 = .ok (.sipush 1000, 3) := by decide +kernel
theorem dX8_act_44 : decode cX8_act 44 = .ok (.iadd, 1) := by decide +kernel
theorem dX8_act_45 : decode cX8_act 45 = .ok (.iload_n 2, 1) := by decide +kernel
theorem dX8_act_46 : decode cX8_act 46 = .ok (.isub, 1) := by decide +kernel
theorem dX8_act_47 : decode cX8_act 47 = .ok (.sipush 1000, 3) := by decide +kernel
theorem dX8_act_50 : decode cX8_act 50 = .ok (.irem, 1) := by decide +kernel
theorem dX8_act_51 : decode cX8_act 51 = .ok (.ireturn, 1) := by decide +kernel
theorem dX8_act_52 : decode cX8_act 52 = .ok (.iload_n 1, 1) := by decide +kernel
theorem dX8_act_53 : decode cX8_act 53 = .ok (.iload_n 2, 1) := by decide +kernel
theorem dX8_act_54 : decode cX8_act 54 = .ok (.imul, 1) := by decide +kernel
theorem dX8_act_55 : decode cX8_act 55 = .ok (.sipush 1000, 3) := by decide +kernel
theorem dX8_act_58 : decode cX8_act 58 = .ok (.irem, 1) := by decide +kernel
theorem dX8_act_59 : decode cX8_act 59 = .ok (.ireturn, 1) := by decide +kernel
theorem dX8_act_60 : decode cX8_act 60 = .ok (.iload_n 1, 1) := by decide +kernel
theorem dX8_act_61 : decode cX8_act 61 = .ok (.iload_n 2, 1) := by decide +kernel
theorem dX8_act_62 : decode cX8_act 62 = .ok (.if_icmp .ge 7, 3) := by decide +kernel
theorem dX8_act_65 : decode cX8_act 65 = .ok (.iload_n 1, 1) := by decide +kernel
theorem dX8_act_66 : decode cX8_act 66 = .ok (.goto 4, 3) := by decide +kernel
theorem dX8_act_69 : decode cX8_act 69 = .ok (.iload_n 2, 1) := by decide +kernel
theorem dX8_act_70 : decode cX8_act 70 = .ok (.ireturn, 1) := by decide +kernel
theorem dX8_comeTo_0 : decode cX8_comeTo 0 = .ok (.aload_n 0, 1) := by decide +kernel
theorem dX8_comeTo_1 : decode cX8_comeTo 1 = .ok (.iconst 0, 1) := by decide +kernel
theorem dX8_comeTo_2 : decode cX8_comeTo 2 = .ok (.putfield 103, 3) := by decide +kernel
theorem dX8_comeTo_5 : decode cX8_comeTo 5 = .ok (.aload_n 0, 1) := by decide +kernel
theorem dX8_comeTo_6 : decode cX8_comeTo 6 = .ok (.iconst 0, 1) := by decide +kernel
theorem dX8_comeTo_7 : decode cX8_comeTo 7 = .ok (.putfield 106, 3) := by decide +kernel
theorem dX8_comeTo_10 : decode cX8_comeTo 10 = .ok (.aload_n 0, 1) := by decide +kernel
theorem dX8_comeTo_11 : decode cX8_comeTo 11 = .ok (.iconst 0, 1) := by decide +kernel
theorem dX8_comeTo_12 : decode cX8_comeTo 12 = .ok (.putfield 109, 3) := by decide +kernel
theorem dX8_comeTo_15 : decode cX8_comeTo 15 = .ok (.aload_n 0, 1) := by decide +kernel
theorem dX8_comeTo_16 : decode cX8_comeTo 16 = .ok (.iconst 0, 1) := by decide +kernel
theorem dX8_comeTo_17 : decode cX8_comeTo 17 = .ok (.putfield 112, 3) := by decide +kernel
theorem dX8_comeTo_20 : decode cX8_comeTo 20 = .ok (.iload_n 2, 1) := by decide +kernel
theorem dX8_comeTo_21 : decode cX8_comeTo 21 = .ok (.istore_n 3, 1) := by decide +kernel
theorem dX8_comeTo_22 : decode cX8_comeTo 22 = .ok (.bipush 40, 2) := by decide +kernel
theorem dX8_comeTo_24 : decode cX8_comeTo 24 = .ok (.iload_n 1, 1) := by decide +kernel
theorem dX8_comeTo_25 : decode cX8_comeTo 25 = .ok (.imul, 1) := by decide +kernel
theorem dX8_comeTo_26 : decode cX8_comeTo 26 = .ok (.istore 4, 2) := by decide +kernel
theorem dX8_comeTo_28 : decode cX8_comeTo 28 = .ok (.iconst 0, 1) := by decide +kernel
theorem dX8_comeTo_29 : decode cX8_comeTo 29 = .ok (.istore 5, 2) := by decide +kernel
theorem dX8_comeTo_31 : decode cX8_comeTo 31 = .ok (.iload 4, 2) := by decide +kernel
theorem dX8_comeTo_33 : decode cX8_comeTo 33 = .ok (.ifCond .ge 10, 3) := by decide +kernel
theorem dX8_comeTo_36 : decode cX8_comeTo 36 = .ok (.aload_n 0, 1) := by decide +kernel
theorem dX8_comeTo_37 : decode cX8_comeTo 37 = .ok (.getfield 103, 3) := by decide +kernel
theorem dX8_comeTo_40 : decode cX8_comeTo 40 = .ok (.ifCond .le 426, 3) := by decide +kernel
theorem dX8_comeTo_43 : decode cX8_comeTo 43 = .ok (.iload 4, 2) := by decide +kernel
theorem dX8_comeTo_45 : decode cX8_comeTo 45 = .ok (.ifCond .lt 82, 3) := by decide +kernel
theorem dX8_comeTo_48 : decode cX8_comeTo 48 = .ok (.aload_n 0, 1) := by decide +kernel
theorem dX8_comeTo_49 : decode cX8_comeTo 49 = .ok (.getfield 7, 3) := by decide +kernel
theorem dX8_comeTo_52 : decode cX8_comeTo 52 = .ok (.iload 4, 2) := by decide +kernel
theorem dX8_comeTo_54 : decode cX8_comeTo 54 = .ok (.iaload, 1) := by decide +kernel
theorem dX8_comeTo_55 : decode cX8_comeTo 55 = .ok (.istore 6, 2) := by decide +kernel
theorem dX8_comeTo_57 : decode cX8_comeTo 57 = .ok (.iload 6, 2) := by decide +kernel
theorem dX8_comeTo_59 : decode cX8_comeTo 59 = .ok (.invokestatic 77, 3) := by decide +kernel
theorem dX8_comeTo_62 : decode cX8_comeTo 62 = .ok (.ifCond .le 40, 3) := by decide +kernel
theorem dX8_comeTo_65 : decode cX8_comeTo 65 = .ok (.aload_n 0, 1) := by decide +kernel
theorem dX8_comeTo_66 : decode cX8_comeTo 66 = .ok (.getfield 28, 3) := by decide +kernel
theorem dX8_comeTo_69 : decode cX8_comeTo 69 = .ok (.aload_n 0, 1) := by decide +kernel
theorem dX8_comeTo_70 : decode cX8_comeTo 70 = .ok (.getfield 103, 3) := by decide +kernel
theorem dX8_comeTo_73 : decode cX8_comeTo 73 = .ok (.iload 4, 2) := by decide +kernel
theorem dX8_comeTo_75 : decode cX8_comeTo 75 = .ok (.iastore, 1) := by decide +kernel
theorem dX8_comeTo_76 : decode cX8_comeTo 76 = .ok (.aload_n 0, 1) := by decide +kernel
theorem dX8_comeTo_77 : decode cX8_comeTo 77 = .ok (.getfield 31, 3) := by decide +kernel
theorem dX8_comeTo_80 : decode cX8_comeTo 80 = .ok (.aload_n 0, 1) := by decide +kernel
theorem dX8_comeTo_81 : decode cX8_comeTo 81 = .ok (.getfield 103, 3) := by decide +kernel
theorem dX8_comeTo_84 : decode cX8_comeTo 84 = .ok (.iconst 0, 1) := by decide +kernel
theorem dX8_comeTo_85 : decode cX8_comeTo 85 = .ok (.iastore, 1) := by decide +kernel
theorem dX8_comeTo_86 : decode cX8_comeTo 86 = .ok (.aload_n 0, 1) := by decide +kernel
theorem dX8_comeTo_87 : decode cX8_comeTo 87 = .ok (.dup, 1) := by decide +kernel
theorem dX8_comeTo_88 : decode cX8_comeTo 88 = .ok (.getfield 103, 3) := by decide +kernel
theorem dX8_comeTo_91 : decode cX8_comeTo 91 = .ok (.iconst 1, 1) := by decide +kernel
theorem dX8_comeTo_92 : decode cX8_comeTo 92 = .ok (.iadd, 1) := by decide +kernel
theorem dX8_comeTo_93 : decode cX8_comeTo 93 = .ok (.putfield 103, 3) := by decide +kernel
theorem dX8_comeTo_96 : decode cX8_comeTo 96 = .ok (.iinc 4 1, 3) := by decide +kernel
theorem dX8_comeTo_99 : decode cX8_comeTo 99 = .ok (.goto 25, 3) := by decide +kernel
theorem dX8_comeTo_102 : decode cX8_comeTo 102 = .ok (.iload 6, 2) := by decide +kernel
theorem dX8_comeTo_104 : decode cX8_comeTo 104 = .ok (.bipush 120, 2) := by decide +kernel
theorem dX8_comeTo_106 : decode cX8_comeTo 106 = .ok (.if_icmp .ne 7, 3) := by decide +kernel
theorem dX8_comeTo_109 : decode cX8_comeTo 109 = .ok (.iload_n 3, 1) := by decide +kernel
theorem dX8_comeTo_110 : decode cX8_comeTo 110 = .ok (.goto 8, 3) := by decide +kernel
theorem dX8_comeTo_113 : decode cX8_comeTo 113 = .ok (.iload 6, 2) := by decide +kernel
theorem dX8_comeTo_115 : decode cX8_comeTo 115 = .ok (.bipush 48, 2) := by decide +kernel
theorem dX8_comeTo_117 : decode cX8_comeTo 117 = .ok (.isub, 1) := by decide +kernel
theorem dX8_comeTo_118 : decode cX8_comeTo 118 = .ok (.istore 5, 2) := by decide +kernel
theorem dX8_comeTo_120 : decode cX8_comeTo 120 = .ok (.bipush (-6), 2) := by decide +kernel
theorem dX8_comeTo_122 : decode cX8_comeTo 122 = .ok (.istore 4, 2) := by decide +kernel
theorem dX8_comeTo_124 : decode cX8_comeTo 124 = .ok (.goto (-93), 3) := by decide +kernel
theorem dX8_comeTo_127 : decode cX8_comeTo 127 = .ok (.aload_n 0, 1) := by decide +kernel
theorem dX8_comeTo_128 : decode cX8_comeTo 128 = .ok (.getfield 103, 3) := by decide +kernel
theorem dX8_comeTo_131 : decode cX8_comeTo 131 = .ok (.iconst 1, 1) := by decide +kernel
theorem dX8_comeTo_132 : decode cX8_comeTo 132 = .ok (.isub, 1) := by decide +kernel
theorem dX8_comeTo_133 : decode cX8_comeTo 133 = .ok (.istore 6, 2) := by decide +kernel
theorem dX8_comeTo_135 : decode cX8_comeTo 135 = .ok (.aload_n 0, 1) := by decide +kernel
theorem dX8_comeTo_136 : decode cX8_comeTo 136 = .ok (.getfield 28, 3) := by decide +kernel
theorem dX8_comeTo_139 : decode cX8_comeTo 139 = .ok (.iload 6, 2) := by decide +kernel
theorem dX8_comeTo_141 : decode cX8_comeTo 141 = .ok (.iaload, 1) := by decide +kernel
theorem dX8_comeTo_142 : decode cX8_comeTo 142 = .ok (.istore 7, 2) := by decide +kernel
theorem dX8_comeTo_144 : decode cX8_comeTo 144 = .ok (.aload_n 0, 1) := by decide +kernel
theorem dX8_comeTo_145 : decode cX8_comeTo 145 = .ok (.getfield 7, 3) := by decide +kernel
theorem dX8_comeTo_148 : decode cX8_comeTo 148 = .ok (.iload 7, 2) := by decide +kernel
theorem dX8_comeTo_150 : decode cX8_comeTo 150 = .ok (.iaload, 1) := by decide +kernel
theorem dX8_comeTo_151 : decode cX8_comeTo 151 = .ok (.istore 8, 2) := by decide +kernel
theorem dX8_comeTo_153 : decode cX8_comeTo 153 = .ok (.iload 7, 2) := by decide +kernel
theorem dX8_comeTo_155 : decode cX8_comeTo 155 = .ok (.iconst 1, 1) := by decide +kernel
theorem dX8_comeTo_156 : decode cX8_comeTo 156 = .ok (.iadd, 1) := by decide +kernel
theorem dX8_comeTo_157 : decode cX8_comeTo 157 = .ok (.aload_n 0, 1) := by decide +kernel
theorem dX8_comeTo_158 : decode cX8_comeTo 158 = .ok (.getfield 13, 3) := by decide +kernel
theorem dX8_comeTo_161 : decode cX8_comeTo 161 = .ok (.iload 7, 2) := by decide +kernel
theorem dX8_comeTo_163 : decode cX8_comeTo 163 = .ok (.iconst 1, 1) := by decide +kernel
theorem dX8_comeTo_164 : decode cX8_comeTo 164 = .ok (.iadd, 1) := by decide +kernel
theorem dX8_comeTo_165 : decode cX8_comeTo 165 = .ok (.iaload, 1) := by decide +kernel
theorem dX8_comeTo_166 : decode cX8_comeTo 166 = .ok (.iadd, 1) := by decide +kernel
theorem dX8_comeTo_167 : decode cX8_comeTo 167 = .ok (.istore 9, 2) := by decide +kernel
theorem dX8_comeTo_169 : decode cX8_comeTo 169 = .ok (.aload_n 0, 1) := by decide +kernel
theorem dX8_comeTo_170 : decode cX8_comeTo 170 = .ok (.getfield 31, 3) := by decide +kernel
theorem dX8_comeTo_173 : decode cX8_comeTo 173 = .ok (.iload 6, 2) := by decide +kernel
theorem dX8_comeTo_175 : decode cX8_comeTo 175 = .ok (.iaload, 1) := by decide +kernel
theorem dX8_comeTo_176 : decode cX8_comeTo 176 = .ok (.ifCond .ne 7, 3) := by decide +kernel
theorem dX8_comeTo_179 : decode cX8_comeTo 179 = .ok (.iconst 1, 1) := by decide +kernel
theorem dX8_comeTo_180 : decode cX8_comeTo 180 = .ok (.goto 4, 3) := by decide +kernel
theorem dX8_comeTo_183 : decode cX8_comeTo 183 = .ok (.iconst 0, 1) := by decide +kernel
theorem dX8_comeTo_184 : decode cX8_comeTo 184 = .ok (.istore 10, 2) := by decide +kernel
theorem dX8_comeTo_186 : decode cX8_comeTo 186 = .ok (.aload_n 0, 1) := by decide +kernel
theorem dX8_comeTo_187 : decode cX8_comeTo 187 = .ok (.getfield 31, 3) := by decide +kernel
theorem dX8_comeTo_190 : decode cX8_comeTo 190 = .ok (.iload 6, 2) := by decide +kernel
theorem dX8_comeTo_192 : decode cX8_comeTo 192 = .ok (.iconst 1, 1) := by decide +kernel
theorem dX8_comeTo_193 : decode cX8_comeTo 193 = .ok (.iastore, 1) := by decide +kernel
theorem dX8_comeTo_194 : decode cX8_comeTo 194 = .ok (.iload 8, 2) := by decide +kernel
theorem dX8_comeTo_196 : decode cX8_comeTo 196 = .ok (.bipush 97, 2) := by decide +kernel
theorem dX8_comeTo_198 : decode cX8_comeTo 198 = .ok (.bipush 104, 2) := by decide +kernel
theorem dX8_comeTo_200 : decode cX8_comeTo 200 = .ok (.invokestatic 66, 3) := by decide +kernel
theorem dX8_comeTo_203 : decode cX8_comeTo 203 = .ok (.ifCond .eq 163, 3) := by decide +kernel
theorem dX8_comeTo_206 : decode cX8_comeTo 206 = .ok (.iload 10, 2) := by decide +kernel
theorem dX8_comeTo_208 : decode cX8_comeTo 208 = .ok (.ifCond .eq 127, 3) := by decide +kernel
theorem dX8_comeTo_211 : decode cX8_comeTo 211 = .ok (.iload 8, 2) := by decide +kernel
theorem dX8_comeTo_213 : decode cX8_comeTo 213 = .ok (.bipush 97, 2) := by decide +kernel
theorem dX8_comeTo_215 : decode cX8_comeTo 215 = .ok (.isub, 1) := by decide +kernel
theorem dX8_comeTo_216 : decode cX8_comeTo 216 = .ok (.istore 11, 2) := by decide +kernel
theorem dX8_comeTo_218 : decode cX8_comeTo 218 = .ok (.bipush 8, 2) := by decide +kernel
theorem dX8_comeTo_220 : decode cX8_comeTo 220 = .ok (.aload_n 0, 1) := by decide +kernel
theorem dX8_comeTo_221 : decode cX8_comeTo 221 = .ok (.getfield 37, 3) := by decide +kernel
theorem dX8_comeTo_224 : decode cX8_comeTo 224 = .ok (.iload 11, 2) := by decide +kernel
theorem dX8_comeTo_226 : decode cX8_comeTo 226 = .ok (.iaload, 1) := by decide +kernel
theorem dX8_comeTo_227 : decode cX8_comeTo 227 = .ok (.imul, 1) := by decide +kernel
theorem dX8_comeTo_228 : decode cX8_comeTo 228 = .ok (.iload 11, 2) := by decide +kernel
theorem dX8_comeTo_230 : decode cX8_comeTo 230 = .ok (.iadd, 1) := by decide +kernel
theorem dX8_comeTo_231 : decode cX8_comeTo 231 = .ok (.istore 12, 2) := by decide +kernel
theorem dX8_comeTo_233 : decode cX8_comeTo 233 = .ok (.aload_n 0, 1) := by decide +kernel
theorem dX8_comeTo_234 : decode cX8_comeTo 234 = .ok (.getfield 16, 3) := by decide +kernel
theorem dX8_comeTo_237 : decode cX8_comeTo 237 = .ok (.iload 12, 2) := by decide +kernel
theorem dX8_comeTo_239 : decode cX8_comeTo 239 = .ok (.iaload, 1) := by decide +kernel
theorem dX8_comeTo_240 : decode cX8_comeTo 240 = .ok (.ifCond .ne 19, 3) := by decide +kernel
theorem dX8_comeTo_243 : decode cX8_comeTo 243 = .ok (.aload_n 0, 1) := by decide +kernel
theorem dX8_comeTo_244 : decode cX8_comeTo 244 = .ok (.dup, 1) := by decide +kernel
theorem dX8_comeTo_245 : decode cX8_comeTo 245 = .ok (.getfield 106, 3) := by decide +kernel
theorem dX8_comeTo_248 : decode cX8_comeTo 248 = .ok (.iconst 1, 1) := by decide +kernel
theorem dX8_comeTo_249 : decode cX8_comeTo 249 = .ok (.iload 11, 2) := by decide +kernel
theorem dX8_comeTo_251 : decode cX8_comeTo 251 = .ok (.ishl, 1) := by decide +kernel
theorem dX8_comeTo_252 : decode cX8_comeTo 252 = .ok (.ior, 1) := by decide +kernel
theorem dX8_comeTo_253 : decode cX8_comeTo 253 = .ok (.putfield 106, 3) := by decide +kernel
theorem dX8_comeTo_256 : decode cX8_comeTo 256 = .ok (.bipush (-10), 2) := by decide +kernel
theorem dX8_comeTo_258 : decode cX8_comeTo 258 = .ok (.ireturn, 1) := by decide +kernel
theorem dX8_comeTo_259 : decode cX8_comeTo 259 = .ok (.aload_n 0, 1) := by decide +kernel
theorem dX8_comeTo_260 : decode cX8_comeTo 260 = .ok (.getfield 109, 3) := by decide +kernel
theorem dX8_comeTo_263 : decode cX8_comeTo 263 = .ok (.sipush 300, 3) := by decide +kernel
theorem dX8_comeTo_266 : decode cX8_comeTo 266 = .ok (.if_icmp .eq 12, 3) := by decide +kernel
theorem dX8_comeTo_269 : decode cX8_comeTo 269 = .ok (.aload_n 0, 1) := by decide +kernel
theorem dX8_comeTo_270 : decode cX8_comeTo 270 = .ok (.getfield 112, 3) := by decide +kernel
theorem dX8_comeTo_273 : decode cX8_comeTo 273 = .ok (.bipush 20, 2) := by decide +kernel
theorem dX8_comeTo_275 : decode cX8_comeTo 275 = .ok (.if_icmp .ne 6, 3) := by decide +kernel
theorem dX8_comeTo_278 : decode cX8_comeTo 278 = .ok (.bipush (-11), 2) := by decide +kernel
theorem dX8_comeTo_280 : decode cX8_comeTo 280 = .ok (.ireturn, 1) := by decide +kernel
theorem dX8_comeTo_281 : decode cX8_comeTo 281 = .ok (.aload_n 0, 1) := by decide +kernel
theorem dX8_comeTo_282 : decode cX8_comeTo 282 = .ok (.dup, 1) := by decide +kernel
theorem dX8_comeTo_283 : decode cX8_comeTo 283 = .ok (.getfield 106, 3) := by decide +kernel
theorem dX8_comeTo_286 : decode cX8_comeTo 286 = .ok (.iconst 1, 1) := by decide +kernel
theorem dX8_comeTo_287 : decode cX8_comeTo 287 = .ok (.iload 11, 2) := by decide +kernel
theorem dX8_comeTo_289 : decode cX8_comeTo 289 = .ok (.ishl, 1) := by decide +kernel
theorem dX8_comeTo_290 : decode cX8_comeTo 290 = .ok (.ior, 1) := by decide +kernel
theorem dX8_comeTo_291 : decode cX8_comeTo 291 = .ok (.putfield 106, 3) := by decide +kernel
theorem dX8_comeTo_294 : decode cX8_comeTo 294 = .ok (.aload_n 0, 1) := by decide +kernel
theorem dX8_comeTo_295 : decode cX8_comeTo 295 = .ok (.dup, 1) := by decide +kernel
theorem dX8_comeTo_296 : decode cX8_comeTo 296 = .ok (.getfield 109, 3) := by decide +kernel
theorem dX8_comeTo_299 : decode cX8_comeTo 299 = .ok (.iconst 1, 1) := by decide +kernel
theorem dX8_comeTo_300 : decode cX8_comeTo 300 = .ok (.iadd, 1) := by decide +kernel
theorem dX8_comeTo_301 : decode cX8_comeTo 301 = .ok (.putfield 109, 3) := by decide +kernel
theorem dX8_comeTo_304 : decode cX8_comeTo 304 = .ok (.aload_n 0, 1) := by decide +kernel
theorem dX8_comeTo_305 : decode cX8_comeTo 305 = .ok (.dup, 1) := by decide +kernel
theorem dX8_comeTo_306 : decode cX8_comeTo 306 = .ok (.getfield 112, 3) := by decide +kernel
theorem dX8_comeTo_309 : decode cX8_comeTo 309 = .ok (.iconst 1, 1) := by decide +kernel
theorem dX8_comeTo_310 : decode cX8_comeTo 310 = .ok (.iadd, 1) := by decide +kernel
theorem dX8_comeTo_311 : decode cX8_comeTo 311 = .ok (.putfield 112, 3) := by decide +kernel
theorem dX8_comeTo_314 : decode cX8_comeTo 314 = .ok (.aload_n 0, 1) := by decide +kernel
theorem dX8_comeTo_315 : decode cX8_comeTo 315 = .ok (.getfield 34, 3) := by decide +kernel
theorem dX8_comeTo_318 : decode cX8_comeTo 318 = .ok (.iload 6, 2) := by decide +kernel
theorem dX8_comeTo_320 : decode cX8_comeTo 320 = .ok (.iload_n 3, 1) := by decide +kernel
theorem dX8_comeTo_321 : decode cX8_comeTo 321 = .ok (.iastore, 1) := by decide +kernel
theorem dX8_comeTo_322 : decode cX8_comeTo 322 = .ok (.iload 5, 2) := by decide +kernel
theorem dX8_comeTo_324 : decode cX8_comeTo 324 = .ok (.istore_n 3, 1) := by decide +kernel
theorem dX8_comeTo_325 : decode cX8_comeTo 325 = .ok (.bipush 40, 2) := by decide +kernel
theorem dX8_comeTo_327 : decode cX8_comeTo 327 = .ok (.iload 12, 2) := by decide +kernel
theorem dX8_comeTo_329 : decode cX8_comeTo 329 = .ok (.imul, 1) := by decide +kernel
theorem dX8_comeTo_330 : decode cX8_comeTo 330 = .ok (.istore 4, 2) := by decide +kernel
theorem dX8_comeTo_332 : decode cX8_comeTo 332 = .ok (.goto 131, 3) := by decide +kernel
theorem dX8_comeTo_335 : decode cX8_comeTo 335 = .ok (.aload_n 0, 1) := by decide +kernel
theorem dX8_comeTo_336 : decode cX8_comeTo 336 = .ok (.dup, 1) := by decide +kernel
theorem dX8_comeTo_337 : decode cX8_comeTo 337 = .ok (.getfield 112, 3) := by decide +kernel
theorem dX8_comeTo_340 : decode cX8_comeTo 340 = .ok (.iconst 1, 1) := by decide +kernel
theorem dX8_comeTo_341 : decode cX8_comeTo 341 = .ok (.isub, 1) := by decide +kernel
theorem dX8_comeTo_342 : decode cX8_comeTo 342 = .ok (.putfield 112, 3) := by decide +kernel
theorem dX8_comeTo_345 : decode cX8_comeTo 345 = .ok (.aload_n 0, 1) := by decide +kernel
theorem dX8_comeTo_346 : decode cX8_comeTo 346 = .ok (.getfield 34, 3) := by decide +kernel
theorem dX8_comeTo_349 : decode cX8_comeTo 349 = .ok (.iload 6, 2) := by decide +kernel
theorem dX8_comeTo_351 : decode cX8_comeTo 351 = .ok (.iaload, 1) := by decide +kernel
theorem dX8_comeTo_352 : decode cX8_comeTo 352 = .ok (.istore_n 3, 1) := by decide +kernel
theorem dX8_comeTo_353 : decode cX8_comeTo 353 = .ok (.aload_n 0, 1) := by decide +kernel
theorem dX8_comeTo_354 : decode cX8_comeTo 354 = .ok (.dup, 1) := by decide +kernel
theorem dX8_comeTo_355 : decode cX8_comeTo 355 = .ok (.getfield 103, 3) := by decide +kernel
theorem dX8_comeTo_358 : decode cX8_comeTo 358 = .ok (.iconst 1, 1) := by decide +kernel
theorem dX8_comeTo_359 : decode cX8_comeTo 359 = .ok (.isub, 1) := by decide +kernel
theorem dX8_comeTo_360 : decode cX8_comeTo 360 = .ok (.putfield 103, 3) := by decide +kernel
theorem dX8_comeTo_363 : decode cX8_comeTo 363 = .ok (.goto 100, 3) := by decide +kernel
theorem dX8_comeTo_366 : decode cX8_comeTo 366 = .ok (.iload 8, 2) := by decide +kernel
theorem dX8_comeTo_368 : decode cX8_comeTo 368 = .ok (.bipush 63, 2) := by decide +kernel
theorem dX8_comeTo_370 : decode cX8_comeTo 370 = .ok (.if_icmp .ne 46, 3) := by decide +kernel
theorem dX8_comeTo_373 : decode cX8_comeTo 373 = .ok (.iload 10, 2) := by decide +kernel
theorem dX8_comeTo_375 : decode cX8_comeTo 375 = .ok (.ifCond .eq 28, 3) := by decide +kernel
theorem dX8_comeTo_378 : decode cX8_comeTo 378 = .ok (.iload 5, 2) := by decide +kernel
theorem dX8_comeTo_380 : decode cX8_comeTo 380 = .ok (.ifCond .ne 8, 3) := by decide +kernel
theorem dX8_comeTo_383 : decode cX8_comeTo 383 = .ok (.iload 9, 2) := by decide +kernel
theorem dX8_comeTo_385 : decode cX8_comeTo 385 = .ok (.goto 13, 3) := by decide +kernel
theorem dX8_comeTo_388 : decode cX8_comeTo 388 = .ok (.iload 9, 2) := by decide +kernel
theorem dX8_comeTo_390 : decode cX8_comeTo 390 = .ok (.aload_n 0, 1) := by decide +kernel
theorem dX8_comeTo_391 : decode cX8_comeTo 391 = .ok (.getfield 13, 3) := by decide +kernel
theorem dX8_comeTo_394 : decode cX8_comeTo 394 = .ok (.iload 9, 2) := by decide +kernel
theorem dX8_comeTo_396 : decode cX8_comeTo 396 = .ok (.iaload, 1) := by decide +kernel
theorem dX8_comeTo_397 : decode cX8_comeTo 397 = .ok (.iadd, 1) := by decide +kernel
theorem dX8_comeTo_398 : decode cX8_comeTo 398 = .ok (.istore 4, 2) := by decide +kernel
theorem dX8_comeTo_400 : decode cX8_comeTo 400 = .ok (.goto 63, 3) := by decide +kernel
theorem dX8_comeTo_403 : decode cX8_comeTo 403 = .ok (.aload_n 0, 1) := by decide +kernel
theorem dX8_comeTo_404 : decode cX8_comeTo 404 = .ok (.dup, 1) := by decide +kernel
theorem dX8_comeTo_405 : decode cX8_comeTo 405 = .ok (.getfield 103, 3) := by decide +kernel
theorem dX8_comeTo_408 : decode cX8_comeTo 408 = .ok (.iconst 1, 1) := by decide +kernel
theorem dX8_comeTo_409 : decode cX8_comeTo 409 = .ok (.isub, 1) := by decide +kernel
theorem dX8_comeTo_410 : decode cX8_comeTo 410 = .ok (.putfield 103, 3) := by decide +kernel
theorem dX8_comeTo_413 : decode cX8_comeTo 413 = .ok (.goto 50, 3) := by decide +kernel
theorem dX8_comeTo_416 : decode cX8_comeTo 416 = .ok (.iload 10, 2) := by decide +kernel
theorem dX8_comeTo_418 : decode cX8_comeTo 418 = .ok (.ifCond .eq 19, 3) := by decide +kernel
theorem dX8_comeTo_421 : decode cX8_comeTo 421 = .ok (.aload_n 0, 1) := by decide +kernel
theorem dX8_comeTo_422 : decode cX8_comeTo 422 = .ok (.getfield 34, 3) := by decide +kernel
theorem dX8_comeTo_425 : decode cX8_comeTo 425 = .ok (.iload 6, 2) := by decide +kernel
theorem dX8_comeTo_427 : decode cX8_comeTo 427 = .ok (.iload 5, 2) := by decide +kernel
theorem dX8_comeTo_429 : decode cX8_comeTo 429 = .ok (.iastore, 1) := by decide +kernel
theorem dX8_comeTo_430 : decode cX8_comeTo 430 = .ok (.iload 9, 2) := by decide +kernel
theorem dX8_comeTo_432 : decode cX8_comeTo 432 = .ok (.istore 4, 2) := by decide +kernel
theorem dX8_comeTo_434 : decode cX8_comeTo 434 = .ok (.goto 29, 3) := by decide +kernel
theorem dX8_comeTo_437 : decode cX8_comeTo 437 = .ok (.iload 8, 2) := by decide +kernel
theorem dX8_comeTo_439 : decode cX8_comeTo 439 = .ok (.aload_n 0, 1) := by decide +kernel
theorem dX8_comeTo_440 : decode cX8_comeTo 440 = .ok (.getfield 34, 3) := by decide +kernel
theorem dX8_comeTo_443 : decode cX8_comeTo 443 = .ok (.iload 6, 2) := by decide +kernel
theorem dX8_comeTo_445 : decode cX8_comeTo 445 = .ok (.iaload, 1) := by decide +kernel
theorem dX8_comeTo_446 : decode cX8_comeTo 446 = .ok (.iload 5, 2) := by decide +kernel
theorem dX8_comeTo_448 : decode cX8_comeTo 448 = .ok (.invokestatic 115, 3) := by decide +kernel
theorem dX8_comeTo_451 : decode cX8_comeTo 451 = .ok (.istore 5, 2) := by decide +kernel
theorem dX8_comeTo_453 : decode cX8_comeTo 453 = .ok (.aload_n 0, 1) := by decide +kernel
theorem dX8_comeTo_454 : decode cX8_comeTo 454 = .ok (.dup, 1) := by decide +kernel
theorem dX8_comeTo_455 : decode cX8_comeTo 455 = .ok (.getfield 103, 3) := by decide +kernel
theorem dX8_comeTo_458 : decode cX8_comeTo 458 = .ok (.iconst 1, 1) := by decide +kernel
theorem dX8_comeTo_459 : decode cX8_comeTo 459 = .ok (.isub, 1) := by decide +kernel
theorem dX8_comeTo_460 : decode cX8_comeTo 460 = .ok (.putfield 103, 3) := by decide +kernel
theorem dX8_comeTo_463 : decode cX8_comeTo 463 = .ok (.goto (-432), 3) := by decide +kernel
theorem dX8_comeTo_466 : decode cX8_comeTo 466 = .ok (.iload 5, 2) := by decide +kernel
theorem dX8_comeTo_468 : decode cX8_comeTo 468 = .ok (.ireturn, 1) := by decide +kernel
theorem dX8_comes_0 : decode cX8_comes 0 = .ok (.aload_n 0, 1) := by decide +kernel
theorem dX8_comes_1 : decode cX8_comes 1 = .ok (.iload_n 1, 1) := by decide +kernel
theorem dX8_comes_2 : decode cX8_comes 2 = .ok (.invokevirtual 100, 3) := by decide +kernel
theorem dX8_comes_5 : decode cX8_comes 5 = .ok (.ifCond .ne 5, 3) := by decide +kernel
theorem dX8_comes_8 : decode cX8_comes 8 = .ok (.iconst (-1), 1) := by decide +kernel
theorem dX8_comes_9 : decode cX8_comes 9 = .ok (.ireturn, 1) := by decide +kernel
theorem dX8_comes_10 : decode cX8_comes 10 = .ok (.iload_n 2, 1) := by decide +kernel
theorem dX8_comes_11 : decode cX8_comes 11 = .ok (.iconst 0, 1) := by decide +kernel
theorem dX8_comes_12 : decode cX8_comes 12 = .ok (.sipush 999, 3) := by decide +kernel
theorem dX8_comes_15 : decode cX8_comes 15 = .ok (.invokestatic 66, 3) := by decide +kernel
theorem dX8_comes_18 : decode cX8_comes 18 = .ok (.ifCond .ne 6, 3) := by decide +kernel
theorem dX8_comes_21 : decode cX8_comes 21 = .ok (.bipush (-2), 2) := by decide +kernel
theorem dX8_comes_23 : decode cX8_comes 23 = .ok (.ireturn, 1) := by decide +kernel
theorem dX8_comes_24 : decode cX8_comes 24 = .ok (.aload_n 0, 1) := by decide +kernel
theorem dX8_comes_25 : decode cX8_comes 25 = .ok (.invokevirtual 81, 3) := by decide +kernel
theorem dX8_comes_28 : decode cX8_comes 28 = .ok (.ifCond .lt 6, 3) := by decide +kernel
theorem dX8_comes_31 : decode cX8_comes 31 = .ok (.bipush (-5), 2) := by decide +kernel
theorem dX8_comes_33 : decode cX8_comes 33 = .ok (.ireturn, 1) := by decide +kernel
theorem dX8_comes_34 : decode cX8_comes 34 = .ok (.aload_n 0, 1) := by decide +kernel
theorem dX8_comes_35 : decode cX8_comes 35 = .ok (.bipush 60, 2) := by decide +kernel
theorem dX8_comes_37 : decode cX8_comes 37 = .ok (.invokevirtual 85, 3) := by decide +kernel
theorem dX8_comes_40 : decode cX8_comes 40 = .ok (.aload_n 0, 1) := by decide +kernel
theorem dX8_comes_41 : decode cX8_comes 41 = .ok (.iload_n 1, 1) := by decide +kernel
theorem dX8_comes_42 : decode cX8_comes 42 = .ok (.invokevirtual 119, 3) := by decide +kernel
theorem dX8_comes_45 : decode cX8_comes 45 = .ok (.aload_n 0, 1) := by decide +kernel
theorem dX8_comes_46 : decode cX8_comes 46 = .ok (.bipush 60, 2) := by decide +kernel
theorem dX8_comes_48 : decode cX8_comes 48 = .ok (.iload_n 2, 1) := by decide +kernel
theorem dX8_comes_49 : decode cX8_comes 49 = .ok (.invokevirtual 122, 3) := by decide +kernel
theorem dX8_comes_52 : decode cX8_comes 52 = .ok (.ireturn, 1) := by decide +kernel
theorem dX8_tells_0 : decode cX8_tells 0 = .ok (.iload_n 1, 1) := by decide +kernel
theorem dX8_tells_1 : decode cX8_tells 1 = .ok (.invokestatic 97, 3) := by decide +kernel
theorem dX8_tells_4 : decode cX8_tells 4 = .ok (.ifCond .ne 5, 3) := by decide +kernel
theorem dX8_tells_7 : decode cX8_tells 7 = .ok (.iconst (-1), 1) := by decide +kernel
theorem dX8_tells_8 : decode cX8_tells 8 = .ok (.ireturn, 1) := by decide +kernel
theorem dX8_tells_9 : decode cX8_tells 9 = .ok (.aload_n 0, 1) := by decide +kernel
theorem dX8_tells_10 : decode cX8_tells 10 = .ok (.getfield 70, 3) := by decide +kernel
theorem dX8_tells_13 : decode cX8_tells 13 = .ok (.bipush 12, 2) := by decide +kernel
theorem dX8_tells_15 : decode cX8_tells 15 = .ok (.if_icmp .ne 6, 3) := by decide +kernel
theorem dX8_tells_18 : decode cX8_tells 18 = .ok (.bipush (-4), 2) := by decide +kernel
theorem dX8_tells_20 : decode cX8_tells 20 = .ok (.ireturn, 1) := by decide +kernel
theorem dX8_tells_21 : decode cX8_tells 21 = .ok (.aload_n 0, 1) := by decide +kernel
theorem dX8_tells_22 : decode cX8_tells 22 = .ok (.getfield 19, 3) := by decide +kernel
theorem dX8_tells_25 : decode cX8_tells 25 = .ok (.aload_n 0, 1) := by decide +kernel
theorem dX8_tells_26 : decode cX8_tells 26 = .ok (.getfield 70, 3) := by decide +kernel
theorem dX8_tells_29 : decode cX8_tells 29 = .ok (.iload_n 1, 1) := by decide +kernel
theorem dX8_tells_30 : decode cX8_tells 30 = .ok (.iastore, 1) := by decide +kernel
theorem dX8_tells_31 : decode cX8_tells 31 = .ok (.aload_n 0, 1) := by decide +kernel
theorem dX8_tells_32 : decode cX8_tells 32 = .ok (.getfield 16, 3) := by decide +kernel
theorem dX8_tells_35 : decode cX8_tells 35 = .ok (.bipush 48, 2) := by decide +kernel
theorem dX8_tells_37 : decode cX8_tells 37 = .ok (.aload_n 0, 1) := by decide +kernel
theorem dX8_tells_38 : decode cX8_tells 38 = .ok (.getfield 70, 3) := by decide +kernel
theorem dX8_tells_41 : decode cX8_tells 41 = .ok (.iadd, 1) := by decide +kernel
theorem dX8_tells_42 : decode cX8_tells 42 = .ok (.iconst 0, 1) := by decide +kernel
theorem dX8_tells_43 : decode cX8_tells 43 = .ok (.iastore, 1) := by decide +kernel
theorem dX8_tells_44 : decode cX8_tells 44 = .ok (.aload_n 0, 1) := by decide +kernel
theorem dX8_tells_45 : decode cX8_tells 45 = .ok (.dup, 1) := by decide +kernel
theorem dX8_tells_46 : decode cX8_tells 46 = .ok (.getfield 70, 3) := by decide +kernel
theorem dX8_tells_49 : decode cX8_tells 49 = .ok (.iconst 1, 1) := by decide +kernel
theorem dX8_tells_50 : decode cX8_tells 50 = .ok (.iadd, 1) := by decide +kernel
theorem dX8_tells_51 : decode cX8_tells 51 = .ok (.putfield 70, 3) := by decide +kernel
theorem dX8_tells_54 : decode cX8_tells 54 = .ok (.aload_n 0, 1) := by decide +kernel
theorem dX8_tells_55 : decode cX8_tells 55 = .ok (.iconst 0, 1) := by decide +kernel
theorem dX8_tells_56 : decode cX8_tells 56 = .ok (.putfield 93, 3) := by decide +kernel
theorem dX8_tells_59 : decode cX8_tells 59 = .ok (.aload_n 0, 1) := by decide +kernel
theorem dX8_tells_60 : decode cX8_tells 60 = .ok (.getfield 70, 3) := by decide +kernel
theorem dX8_tells_63 : decode cX8_tells 63 = .ok (.iconst 1, 1) := by decide +kernel
theorem dX8_tells_64 : decode cX8_tells 64 = .ok (.isub, 1) := by decide +kernel
theorem dX8_tells_65 : decode cX8_tells 65 = .ok (.ireturn, 1) := by decide +kernel
theorem dX8_shows_0 : decode cX8_shows 0 = .ok (.iload_n 1, 1) := by decide +kernel
theorem dX8_shows_1 : decode cX8_shows 1 = .ok (.iconst 0, 1) := by decide +kernel
theorem dX8_shows_2 : decode cX8_shows 2 = .ok (.sipush 999, 3) := by decide +kernel
theorem dX8_shows_5 : decode cX8_shows 5 = .ok (.invokestatic 66, 3) := by decide +kernel
theorem dX8_shows_8 : decode cX8_shows 8 = .ok (.ifCond .ne 6, 3) := by decide +kernel
theorem dX8_shows_11 : decode cX8_shows 11 = .ok (.bipush (-2), 2) := by decide +kernel
theorem dX8_shows_13 : decode cX8_shows 13 = .ok (.ireturn, 1) := by decide +kernel
theorem dX8_shows_14 : decode cX8_shows 14 = .ok (.aload_n 0, 1) := by decide +kernel
theorem dX8_shows_15 : decode cX8_shows 15 = .ok (.getfield 70, 3) := by decide +kernel
theorem dX8_shows_18 : decode cX8_shows 18 = .ok (.bipush 12, 2) := by decide +kernel
theorem dX8_shows_20 : decode cX8_shows 20 = .ok (.if_icmp .ne 6, 3) := by decide +kernel
theorem dX8_shows_23 : decode cX8_shows 23 = .ok (.bipush (-4), 2) := by decide +kernel
theorem dX8_shows_25 : decode cX8_shows 25 = .ok (.ireturn, 1) := by decide +kernel
theorem dX8_shows_26 : decode cX8_shows 26 = .ok (.iconst 0, 1) := by decide +kernel
theorem dX8_shows_27 : decode cX8_shows 27 = .ok (.istore_n 2, 1) := by decide +kernel
theorem dX8_shows_28 : decode cX8_shows 28 = .ok (.iconst 0, 1) := by decide +kernel
theorem dX8_shows_29 : decode cX8_shows 29 = .ok (.istore_n 3, 1) := by decide +kernel
theorem dX8_shows_30 : decode cX8_shows 30 = .ok (.iload_n 3, 1) := by decide +kernel
theorem dX8_shows_31 : decode cX8_shows 31 = .ok (.aload_n 0, 1) := by decide +kernel
theorem dX8_shows_32 : decode cX8_shows 32 = .ok (.getfield 16, 3) := by decide +kernel
theorem dX8_shows_35 : decode cX8_shows 35 = .ok (.bipush 60, 2) := by decide +kernel
theorem dX8_shows_37 : decode cX8_shows 37 = .ok (.iaload, 1) := by decide +kernel
theorem dX8_shows_38 : decode cX8_shows 38 = .ok (.if_icmp .ge 34, 3) := by decide +kernel
theorem dX8_shows_41 : decode cX8_shows 41 = .ok (.iload_n 2, 1) := by decide +kernel
theorem dX8_shows_42 : decode cX8_shows 42 = .ok (.ifCond .ne 18, 3) := by decide +kernel
theorem dX8_shows_45 : decode cX8_shows 45 = .ok (.aload_n 0, 1) := by decide +kernel
theorem dX8_shows_46 : decode cX8_shows 46 = .ok (.getfield 7, 3) := by decide +kernel
theorem dX8_shows_49 : decode cX8_shows 49 = .ok (.sipush 2400, 3) := by decide +kernel
theorem dX8_shows_52 : decode cX8_shows 52 = .ok (.iload_n 3, 1) := by decide +kernel
theorem dX8_shows_53 : decode cX8_shows 53 = .ok (.iadd, 1) := by decide +kernel
theorem dX8_shows_54 : decode cX8_shows 54 = .ok (.iaload, 1) := by decide +kernel
theorem dX8_shows_55 : decode cX8_shows 55 = .ok (.bipush 120, 2) := by decide +kernel
theorem dX8_shows_57 : decode cX8_shows 57 = .ok (.if_icmp .ne 7, 3) := by decide +kernel
theorem dX8_shows_60 : decode cX8_shows 60 = .ok (.iconst 1, 1) := by decide +kernel
theorem dX8_shows_61 : decode cX8_shows 61 = .ok (.goto 4, 3) := by decide +kernel
theorem dX8_shows_64 : decode cX8_shows 64 = .ok (.iconst 0, 1) := by decide +kernel
theorem dX8_shows_65 : decode cX8_shows 65 = .ok (.istore_n 2, 1) := by decide +kernel
theorem dX8_shows_66 : decode cX8_shows 66 = .ok (.iinc 3 1, 3) := by decide +kernel
theorem dX8_shows_69 : decode cX8_shows 69 = .ok (.goto (-39), 3) := by decide +kernel
theorem dX8_shows_72 : decode cX8_shows 72 = .ok (.iload_n 2, 1) := by decide +kernel
theorem dX8_shows_73 : decode cX8_shows 73 = .ok (.ifCond .ne 10, 3) := by decide +kernel
theorem dX8_shows_76 : decode cX8_shows 76 = .ok (.aload_n 0, 1) := by decide +kernel
theorem dX8_shows_77 : decode cX8_shows 77 = .ok (.invokevirtual 81, 3) := by decide +kernel
theorem dX8_shows_80 : decode cX8_shows 80 = .ok (.ifCond .lt 6, 3) := by decide +kernel
theorem dX8_shows_83 : decode cX8_shows 83 = .ok (.bipush (-5), 2) := by decide +kernel
theorem dX8_shows_85 : decode cX8_shows 85 = .ok (.ireturn, 1) := by decide +kernel
theorem dX8_shows_86 : decode cX8_shows 86 = .ok (.aload_n 0, 1) := by decide +kernel
theorem dX8_shows_87 : decode cX8_shows 87 = .ok (.bipush 60, 2) := by decide +kernel
theorem dX8_shows_89 : decode cX8_shows 89 = .ok (.bipush 48, 2) := by decide +kernel
theorem dX8_shows_91 : decode cX8_shows 91 = .ok (.aload_n 0, 1) := by decide +kernel
theorem dX8_shows_92 : decode cX8_shows 92 = .ok (.getfield 70, 3) := by decide +kernel
theorem dX8_shows_95 : decode cX8_shows 95 = .ok (.iadd, 1) := by decide +kernel
theorem dX8_shows_96 : decode cX8_shows 96 = .ok (.invokevirtual 89, 3) := by decide +kernel
theorem dX8_shows_99 : decode cX8_shows 99 = .ok (.aload_n 0, 1) := by decide +kernel
theorem dX8_shows_100 : decode cX8_shows 100 = .ok (.getfield 16, 3) := by decide +kernel
theorem dX8_shows_103 : decode cX8_shows 103 = .ok (.bipush 60, 2) := by decide +kernel
theorem dX8_shows_105 : decode cX8_shows 105 = .ok (.iconst 0, 1) := by decide +kernel
theorem dX8_shows_106 : decode cX8_shows 106 = .ok (.iastore, 1) := by decide +kernel
theorem dX8_shows_107 : decode cX8_shows 107 = .ok (.aload_n 0, 1) := by decide +kernel
theorem dX8_shows_108 : decode cX8_shows 108 = .ok (.getfield 19, 3) := by decide +kernel
theorem dX8_shows_111 : decode cX8_shows 111 = .ok (.aload_n 0, 1) := by decide +kernel
theorem dX8_shows_112 : decode cX8_shows 112 = .ok (.getfield 70, 3) := by decide +kernel
theorem dX8_shows_115 : decode cX8_shows 115 = .ok (.bipush (-6), 2) := by decide +kernel
theorem dX8_shows_117 : decode cX8_shows 117 = .ok (.iastore, 1) := by decide +kernel
theorem dX8_shows_118 : decode cX8_shows 118 = .ok (.aload_n 0, 1) := by decide +kernel
theorem dX8_shows_119 : decode cX8_shows 119 = .ok (.getfield 22, 3) := by decide +kernel
theorem dX8_shows_122 : decode cX8_shows 122 = .ok (.aload_n 0, 1) := by decide +kernel
theorem dX8_shows_123 : decode cX8_shows 123 = .ok (.getfield 70, 3) := by decide +kernel
theorem dX8_shows_126 : decode cX8_shows 126 = .ok (.iload_n 1, 1) := by decide +kernel
theorem dX8_shows_127 : decode cX8_shows 127 = .ok (.iastore, 1) := by decide +kernel
theorem dX8_shows_128 : decode cX8_shows 128 = .ok (.aload_n 0, 1) := by decide +kernel
theorem dX8_shows_129 : decode cX8_shows 129 = .ok (.dup, 1) := by decide +kernel
theorem dX8_shows_130 : decode cX8_shows 130 = .ok (.getfield 70, 3) := by decide +kernel
theorem dX8_shows_133 : decode cX8_shows 133 = .ok (.iconst 1, 1) := by decide +kernel
theorem dX8_shows_134 : decode cX8_shows 134 = .ok (.iadd, 1) := by decide +kernel
theorem dX8_shows_135 : decode cX8_shows 135 = .ok (.putfield 70, 3) := by decide +kernel
theorem dX8_shows_138 : decode cX8_shows 138 = .ok (.aload_n 0, 1) := by decide +kernel
theorem dX8_shows_139 : decode cX8_shows 139 = .ok (.iconst 0, 1) := by decide +kernel
theorem dX8_shows_140 : decode cX8_shows 140 = .ok (.putfield 93, 3) := by decide +kernel
theorem dX8_shows_143 : decode cX8_shows 143 = .ok (.aload_n 0, 1) := by decide +kernel
theorem dX8_shows_144 : decode cX8_shows 144 = .ok (.getfield 70, 3) := by decide +kernel
theorem dX8_shows_147 : decode cX8_shows 147 = .ok (.iconst 1, 1) := by decide +kernel
theorem dX8_shows_148 : decode cX8_shows 148 = .ok (.isub, 1) := by decide +kernel
theorem dX8_shows_149 : decode cX8_shows 149 = .ok (.ireturn, 1) := by decide +kernel
theorem dX8_namedIn_0 : decode cX8_namedIn 0 = .ok (.iconst 0, 1) := by decide +kernel
theorem dX8_namedIn_1 : decode cX8_namedIn 1 = .ok (.istore_n 2, 1) := by decide +kernel
theorem dX8_namedIn_2 : decode cX8_namedIn 2 = .ok (.iconst 0, 1) := by decide +kernel
theorem dX8_namedIn_3 : decode cX8_namedIn 3 = .ok (.istore_n 3, 1) := by decide +kernel
theorem dX8_namedIn_4 : decode cX8_namedIn 4 = .ok (.iload_n 3, 1) := by decide +kernel
theorem dX8_namedIn_5 : decode cX8_namedIn 5 = .ok (.aload_n 0, 1) := by decide +kernel
theorem dX8_namedIn_6 : decode cX8_namedIn 6 = .ok (.getfield 16, 3) := by decide +kernel
theorem dX8_namedIn_9 : decode cX8_namedIn 9 = .ok (.bipush 48, 2) := by decide +kernel
theorem dX8_namedIn_11 : decode cX8_namedIn 11 = .ok (.iload_n 1, 1) := by decide +kernel
theorem dX8_namedIn_12 : decode cX8_namedIn 12 = .ok (.iadd, 1) := by decide +kernel
theorem dX8_namedIn_13 : decode cX8_namedIn 13 = .ok (.iaload, 1) := by decide +kernel
theorem dX8_namedIn_14 : decode cX8_namedIn 14 = .ok (.if_icmp .ge 51, 3) := by decide +kernel
theorem dX8_namedIn_17 : decode cX8_namedIn 17 = .ok (.aload_n 0, 1) := by decide +kernel
theorem dX8_namedIn_18 : decode cX8_namedIn 18 = .ok (.getfield 7, 3) := by decide +kernel
theorem dX8_namedIn_21 : decode cX8_namedIn 21 = .ok (.bipush 40, 2) := by decide +kernel
theorem dX8_namedIn_23 : decode cX8_namedIn 23 = .ok (.bipush 48, 2) := by decide +kernel
theorem dX8_namedIn_25 : decode cX8_namedIn 25 = .ok (.iload_n 1, 1) := by decide +kernel
theorem dX8_namedIn_26 : decode cX8_namedIn 26 = .ok (.iadd, 1) := by decide +kernel
theorem dX8_namedIn_27 : decode cX8_namedIn 27 = .ok (.imul, 1) := by decide +kernel
theorem dX8_namedIn_28 : decode cX8_namedIn 28 = .ok (.iload_n 3, 1) := by decide +kernel
theorem dX8_namedIn_29 : decode cX8_namedIn 29 = .ok (.iadd, 1) := by decide +kernel
theorem dX8_namedIn_30 : decode cX8_namedIn 30 = .ok (.iaload, 1) := by decide +kernel
theorem dX8_namedIn_31 : decode cX8_namedIn 31 = .ok (.istore 4, 2) := by decide +kernel
theorem dX8_namedIn_33 : decode cX8_namedIn 33 = .ok (.iload_n 2, 1) := by decide +kernel
theorem dX8_namedIn_34 : decode cX8_namedIn 34 = .ok (.iload 4, 2) := by decide +kernel
theorem dX8_namedIn_36 : decode cX8_namedIn 36 = .ok (.bipush 97, 2) := by decide +kernel
theorem dX8_namedIn_38 : decode cX8_namedIn 38 = .ok (.bipush 104, 2) := by decide +kernel
theorem dX8_namedIn_40 : decode cX8_namedIn 40 = .ok (.invokestatic 66, 3) := by decide +kernel
theorem dX8_namedIn_43 : decode cX8_namedIn 43 = .ok (.ifCond .eq 13, 3) := by decide +kernel
theorem dX8_namedIn_46 : decode cX8_namedIn 46 = .ok (.iconst 1, 1) := by decide +kernel
theorem dX8_namedIn_47 : decode cX8_namedIn 47 = .ok (.iload 4, 2) := by decide +kernel
theorem dX8_namedIn_49 : decode cX8_namedIn 49 = .ok (.bipush 97, 2) := by decide +kernel
theorem dX8_namedIn_51 : decode cX8_namedIn 51 = .ok (.isub, 1) := by decide +kernel
theorem dX8_namedIn_52 : decode cX8_namedIn 52 = .ok (.ishl, 1) := by decide +kernel
theorem dX8_namedIn_53 : decode cX8_namedIn 53 = .ok (.goto 4, 3) := by decide +kernel
theorem dX8_namedIn_56 : decode cX8_namedIn 56 = .ok (.iconst 0, 1) := by decide +kernel
theorem dX8_namedIn_57 : decode cX8_namedIn 57 = .ok (.ior, 1) := by decide +kernel
theorem dX8_namedIn_58 : decode cX8_namedIn 58 = .ok (.istore_n 2, 1) := by decide +kernel
theorem dX8_namedIn_59 : decode cX8_namedIn 59 = .ok (.iinc 3 1, 3) := by decide +kernel
theorem dX8_namedIn_62 : decode cX8_namedIn 62 = .ok (.goto (-58), 3) := by decide +kernel
theorem dX8_namedIn_65 : decode cX8_namedIn 65 = .ok (.iload_n 2, 1) := by decide +kernel
theorem dX8_namedIn_66 : decode cX8_namedIn 66 = .ok (.ireturn, 1) := by decide +kernel
theorem dX8_page_0 : decode cX8_page 0 = .ok (.aload_n 0, 1) := by decide +kernel
theorem dX8_page_1 : decode cX8_page 1 = .ok (.iload_n 1, 1) := by decide +kernel
theorem dX8_page_2 : decode cX8_page 2 = .ok (.invokevirtual 73, 3) := by decide +kernel
theorem dX8_page_5 : decode cX8_page 5 = .ok (.ifCond .ne 5, 3) := by decide +kernel
theorem dX8_page_8 : decode cX8_page 8 = .ok (.iconst (-1), 1) := by decide +kernel
theorem dX8_page_9 : decode cX8_page 9 = .ok (.ireturn, 1) := by decide +kernel
theorem dX8_page_10 : decode cX8_page 10 = .ok (.aload_n 0, 1) := by decide +kernel
theorem dX8_page_11 : decode cX8_page 11 = .ok (.getfield 19, 3) := by decide +kernel
theorem dX8_page_14 : decode cX8_page 14 = .ok (.iload_n 1, 1) := by decide +kernel
theorem dX8_page_15 : decode cX8_page 15 = .ok (.iaload, 1) := by decide +kernel
theorem dX8_page_16 : decode cX8_page 16 = .ok (.ifCond .ge 7, 3) := by decide +kernel
theorem dX8_page_19 : decode cX8_page 19 = .ok (.iconst 1, 1) := by decide +kernel
theorem dX8_page_20 : decode cX8_page 20 = .ok (.goto 4, 3) := by decide +kernel
theorem dX8_page_23 : decode cX8_page 23 = .ok (.iconst 0, 1) := by decide +kernel
theorem dX8_page_24 : decode cX8_page 24 = .ok (.istore_n 3, 1) := by decide +kernel
theorem dX8_page_25 : decode cX8_page 25 = .ok (.iload_n 2, 1) := by decide +kernel
theorem dX8_page_26 : decode cX8_page 26 = .ok (.ifCond .ne 12, 3) := by decide +kernel
theorem dX8_page_29 : decode cX8_page 29 = .ok (.aload_n 0, 1) := by decide +kernel
theorem dX8_page_30 : decode cX8_page 30 = .ok (.getfield 19, 3) := by decide +kernel
theorem dX8_page_33 : decode cX8_page 33 = .ok (.iload_n 1, 1) := by decide +kernel
theorem dX8_page_34 : decode cX8_page 34 = .ok (.iaload, 1) := by decide +kernel
theorem dX8_page_35 : decode cX8_page 35 = .ok (.goto 58, 3) := by decide +kernel
theorem dX8_page_38 : decode cX8_page 38 = .ok (.iload_n 2, 1) := by decide +kernel
theorem dX8_page_39 : decode cX8_page 39 = .ok (.iconst 1, 1) := by decide +kernel
theorem dX8_page_40 : decode cX8_page 40 = .ok (.if_icmp .ne 21, 3) := by decide +kernel
theorem dX8_page_43 : decode cX8_page 43 = .ok (.iload_n 3, 1) := by decide +kernel
theorem dX8_page_44 : decode cX8_page 44 = .ok (.ifCond .eq 12, 3) := by decide +kernel
theorem dX8_page_47 : decode cX8_page 47 = .ok (.aload_n 0, 1) := by decide +kernel
theorem dX8_page_48 : decode cX8_page 48 = .ok (.getfield 22, 3) := by decide +kernel
theorem dX8_page_51 : decode cX8_page 51 = .ok (.iload_n 1, 1) := by decide +kernel
theorem dX8_page_52 : decode cX8_page 52 = .ok (.iaload, 1) := by decide +kernel
theorem dX8_page_53 : decode cX8_page 53 = .ok (.goto 40, 3) := by decide +kernel
theorem dX8_page_56 : decode cX8_page 56 = .ok (.bipush (-6), 2) := by decide +kernel
theorem dX8_page_58 : decode cX8_page 58 = .ok (.goto 35, 3) := by decide +kernel
theorem dX8_page_61 : decode cX8_page 61 = .ok (.iload_n 2, 1) := by decide +kernel
theorem dX8_page_62 : decode cX8_page 62 = .ok (.iconst 2, 1) := by decide +kernel
theorem dX8_page_63 : decode cX8_page 63 = .ok (.if_icmp .ne 11, 3) := by decide +kernel
theorem dX8_page_66 : decode cX8_page 66 = .ok (.aload_n 0, 1) := by decide +kernel
theorem dX8_page_67 : decode cX8_page 67 = .ok (.iload_n 1, 1) := by decide +kernel
theorem dX8_page_68 : decode cX8_page 68 = .ok (.invokevirtual 126, 3) := by decide +kernel
theorem dX8_page_71 : decode cX8_page 71 = .ok (.goto 22, 3) := by decide +kernel
theorem dX8_page_74 : decode cX8_page 74 = .ok (.iload_n 2, 1) := by decide +kernel
theorem dX8_page_75 : decode cX8_page 75 = .ok (.iconst 3, 1) := by decide +kernel
theorem dX8_page_76 : decode cX8_page 76 = .ok (.if_icmp .ne 15, 3) := by decide +kernel
theorem dX8_page_79 : decode cX8_page 79 = .ok (.aload_n 0, 1) := by decide +kernel
theorem dX8_page_80 : decode cX8_page 80 = .ok (.getfield 16, 3) := by decide +kernel
theorem dX8_page_83 : decode cX8_page 83 = .ok (.bipush 48, 2) := by decide +kernel
theorem dX8_page_85 : decode cX8_page 85 = .ok (.iload_n 1, 1) := by decide +kernel
theorem dX8_page_86 : decode cX8_page 86 = .ok (.iadd, 1) := by decide +kernel
theorem dX8_page_87 : decode cX8_page 87 = .ok (.iaload, 1) := by decide +kernel
theorem dX8_page_88 : decode cX8_page 88 = .ok (.goto 5, 3) := by decide +kernel
theorem dX8_page_91 : decode cX8_page 91 = .ok (.bipush (-2), 2) := by decide +kernel
theorem dX8_page_93 : decode cX8_page 93 = .ok (.ireturn, 1) := by decide +kernel
theorem dX8_holds_0 : decode cX8_holds 0 = .ok (.aload_n 0, 1) := by decide +kernel
theorem dX8_holds_1 : decode cX8_holds 1 = .ok (.bipush 48, 2) := by decide +kernel
theorem dX8_holds_3 : decode cX8_holds 3 = .ok (.iload_n 1, 1) := by decide +kernel
theorem dX8_holds_4 : decode cX8_holds 4 = .ok (.iadd, 1) := by decide +kernel
theorem dX8_holds_5 : decode cX8_holds 5 = .ok (.iconst 0, 1) := by decide +kernel
theorem dX8_holds_6 : decode cX8_holds 6 = .ok (.invokevirtual 122, 3) := by decide +kernel
theorem dX8_holds_9 : decode cX8_holds 9 = .ok (.aload_n 0, 1) := by decide +kernel
theorem dX8_holds_10 : decode cX8_holds 10 = .ok (.getfield 22, 3) := by decide +kernel
theorem dX8_holds_13 : decode cX8_holds 13 = .ok (.iload_n 1, 1) := by decide +kernel
theorem dX8_holds_14 : decode cX8_holds 14 = .ok (.iaload, 1) := by decide +kernel
theorem dX8_holds_15 : decode cX8_holds 15 = .ok (.if_icmp .ne 7, 3) := by decide +kernel
theorem dX8_holds_18 : decode cX8_holds 18 = .ok (.iconst 1, 1) := by decide +kernel
theorem dX8_holds_19 : decode cX8_holds 19 = .ok (.goto 4, 3) := by decide +kernel
theorem dX8_holds_22 : decode cX8_holds 22 = .ok (.iconst 0, 1) := by decide +kernel
theorem dX8_holds_23 : decode cX8_holds 23 = .ok (.ireturn, 1) := by decide +kernel
theorem dX8_holdsIn_0 : decode cX8_holdsIn 0 = .ok (.aload_n 0, 1) := by decide +kernel
theorem dX8_holdsIn_1 : decode cX8_holdsIn 1 = .ok (.iload_n 2, 1) := by decide +kernel
theorem dX8_holdsIn_2 : decode cX8_holdsIn 2 = .ok (.invokevirtual 119, 3) := by decide +kernel
theorem dX8_holdsIn_5 : decode cX8_holdsIn 5 = .ok (.aload_n 0, 1) := by decide +kernel
theorem dX8_holdsIn_6 : decode cX8_holdsIn 6 = .ok (.iload_n 1, 1) := by decide +kernel
theorem dX8_holdsIn_7 : decode cX8_holdsIn 7 = .ok (.invokevirtual 129, 3) := by decide +kernel
theorem dX8_holdsIn_10 : decode cX8_holdsIn 10 = .ok (.ireturn, 1) := by decide +kernel
theorem dX8_held_0 : decode cX8_held 0 = .ok (.aload_n 0, 1) := by decide +kernel
theorem dX8_held_1 : decode cX8_held 1 = .ok (.iload_n 1, 1) := by decide +kernel
theorem dX8_held_2 : decode cX8_held 2 = .ok (.invokevirtual 132, 3) := by decide +kernel
theorem dX8_held_5 : decode cX8_held 5 = .ok (.ifCond .eq 11, 3) := by decide +kernel
theorem dX8_held_8 : decode cX8_held 8 = .ok (.aload_n 0, 1) := by decide +kernel
theorem dX8_held_9 : decode cX8_held 9 = .ok (.iload_n 2, 1) := by decide +kernel
theorem dX8_held_10 : decode cX8_held 10 = .ok (.invokevirtual 100, 3) := by decide +kernel
theorem dX8_held_13 : decode cX8_held 13 = .ok (.ifCond .ne 5, 3) := by decide +kernel
theorem dX8_held_16 : decode cX8_held 16 = .ok (.iconst (-1), 1) := by decide +kernel
theorem dX8_held_17 : decode cX8_held 17 = .ok (.ireturn, 1) := by decide +kernel
theorem dX8_held_18 : decode cX8_held 18 = .ok (.iload_n 3, 1) := by decide +kernel
theorem dX8_held_19 : decode cX8_held 19 = .ok (.iconst 0, 1) := by decide +kernel
theorem dX8_held_20 : decode cX8_held 20 = .ok (.iconst 2, 1) := by decide +kernel
theorem dX8_held_21 : decode cX8_held 21 = .ok (.invokestatic 66, 3) := by decide +kernel
theorem dX8_held_24 : decode cX8_held 24 = .ok (.ifCond .ne 6, 3) := by decide +kernel
theorem dX8_held_27 : decode cX8_held 27 = .ok (.bipush (-2), 2) := by decide +kernel
theorem dX8_held_29 : decode cX8_held 29 = .ok (.ireturn, 1) := by decide +kernel
theorem dX8_held_30 : decode cX8_held 30 = .ok (.aload_n 0, 1) := by decide +kernel
theorem dX8_held_31 : decode cX8_held 31 = .ok (.iload_n 2, 1) := by decide +kernel
theorem dX8_held_32 : decode cX8_held 32 = .ok (.invokevirtual 119, 3) := by decide +kernel
theorem dX8_held_35 : decode cX8_held 35 = .ok (.aload_n 0, 1) := by decide +kernel
theorem dX8_held_36 : decode cX8_held 36 = .ok (.bipush 48, 2) := by decide +kernel
theorem dX8_held_38 : decode cX8_held 38 = .ok (.iload_n 1, 1) := by decide +kernel
theorem dX8_held_39 : decode cX8_held 39 = .ok (.iadd, 1) := by decide +kernel
theorem dX8_held_40 : decode cX8_held 40 = .ok (.iconst 0, 1) := by decide +kernel
theorem dX8_held_41 : decode cX8_held 41 = .ok (.invokevirtual 122, 3) := by decide +kernel
theorem dX8_held_44 : decode cX8_held 44 = .ok (.istore 4, 2) := by decide +kernel
theorem dX8_held_46 : decode cX8_held 46 = .ok (.iload_n 3, 1) := by decide +kernel
theorem dX8_held_47 : decode cX8_held 47 = .ok (.ifCond .ne 8, 3) := by decide +kernel
theorem dX8_held_50 : decode cX8_held 50 = .ok (.iload 4, 2) := by decide +kernel
theorem dX8_held_52 : decode cX8_held 52 = .ok (.goto 31, 3) := by decide +kernel
theorem dX8_held_55 : decode cX8_held 55 = .ok (.iload_n 3, 1) := by decide +kernel
theorem dX8_held_56 : decode cX8_held 56 = .ok (.iconst 1, 1) := by decide +kernel
theorem dX8_held_57 : decode cX8_held 57 = .ok (.if_icmp .ne 22, 3) := by decide +kernel
theorem dX8_held_60 : decode cX8_held 60 = .ok (.iload 4, 2) := by decide +kernel
theorem dX8_held_62 : decode cX8_held 62 = .ok (.aload_n 0, 1) := by decide +kernel
theorem dX8_held_63 : decode cX8_held 63 = .ok (.getfield 22, 3) := by decide +kernel
theorem dX8_held_66 : decode cX8_held 66 = .ok (.iload_n 1, 1) := by decide +kernel
theorem dX8_held_67 : decode cX8_held 67 = .ok (.iaload, 1) := by decide +kernel
theorem dX8_held_68 : decode cX8_held 68 = .ok (.if_icmp .ne 7, 3) := by decide +kernel
theorem dX8_held_71 : decode cX8_held 71 = .ok (.iconst 1, 1) := by decide +kernel
theorem dX8_held_72 : decode cX8_held 72 = .ok (.goto 11, 3) := by decide +kernel
theorem dX8_held_75 : decode cX8_held 75 = .ok (.iconst 0, 1) := by decide +kernel
theorem dX8_held_76 : decode cX8_held 76 = .ok (.goto 7, 3) := by decide +kernel
theorem dX8_held_79 : decode cX8_held 79 = .ok (.aload_n 0, 1) := by decide +kernel
theorem dX8_held_80 : decode cX8_held 80 = .ok (.getfield 106, 3) := by decide +kernel
theorem dX8_held_83 : decode cX8_held 83 = .ok (.ireturn, 1) := by decide +kernel
theorem dX8_stale_0 : decode cX8_stale 0 = .ok (.aload_n 0, 1) := by decide +kernel
theorem dX8_stale_1 : decode cX8_stale 1 = .ok (.iload_n 1, 1) := by decide +kernel
theorem dX8_stale_2 : decode cX8_stale 2 = .ok (.invokevirtual 132, 3) := by decide +kernel
theorem dX8_stale_5 : decode cX8_stale 5 = .ok (.ifCond .ne 5, 3) := by decide +kernel
theorem dX8_stale_8 : decode cX8_stale 8 = .ok (.iconst (-1), 1) := by decide +kernel
theorem dX8_stale_9 : decode cX8_stale 9 = .ok (.ireturn, 1) := by decide +kernel
theorem dX8_stale_10 : decode cX8_stale 10 = .ok (.iconst 0, 1) := by decide +kernel
theorem dX8_stale_11 : decode cX8_stale 11 = .ok (.istore_n 2, 1) := by decide +kernel
theorem dX8_stale_12 : decode cX8_stale 12 = .ok (.iconst 0, 1) := by decide +kernel
theorem dX8_stale_13 : decode cX8_stale 13 = .ok (.istore_n 3, 1) := by decide +kernel
theorem dX8_stale_14 : decode cX8_stale 14 = .ok (.iload_n 3, 1) := by decide +kernel
theorem dX8_stale_15 : decode cX8_stale 15 = .ok (.aload_n 0, 1) := by decide +kernel
theorem dX8_stale_16 : decode cX8_stale 16 = .ok (.getfield 62, 3) := by decide +kernel
theorem dX8_stale_19 : decode cX8_stale 19 = .ok (.if_icmp .ge 43, 3) := by decide +kernel
theorem dX8_stale_22 : decode cX8_stale 22 = .ok (.aload_n 0, 1) := by decide +kernel
theorem dX8_stale_23 : decode cX8_stale 23 = .ok (.iload_n 1, 1) := by decide +kernel
theorem dX8_stale_24 : decode cX8_stale 24 = .ok (.iload_n 3, 1) := by decide +kernel
theorem dX8_stale_25 : decode cX8_stale 25 = .ok (.invokevirtual 135, 3) := by decide +kernel
theorem dX8_stale_28 : decode cX8_stale 28 = .ok (.istore 4, 2) := by decide +kernel
theorem dX8_stale_30 : decode cX8_stale 30 = .ok (.iload_n 2, 1) := by decide +kernel
theorem dX8_stale_31 : decode cX8_stale 31 = .ok (.ifCond .eq 10, 3) := by decide +kernel
theorem dX8_stale_34 : decode cX8_stale 34 = .ok (.iload 4, 2) := by decide +kernel
theorem dX8_stale_36 : decode cX8_stale 36 = .ok (.ifCond .ne 5, 3) := by decide +kernel
theorem dX8_stale_39 : decode cX8_stale 39 = .ok (.iload_n 3, 1) := by decide +kernel
theorem dX8_stale_40 : decode cX8_stale 40 = .ok (.ireturn, 1) := by decide +kernel
theorem dX8_stale_41 : decode cX8_stale 41 = .ok (.iload_n 2, 1) := by decide +kernel
theorem dX8_stale_42 : decode cX8_stale 42 = .ok (.ifCond .ne 8, 3) := by decide +kernel
theorem dX8_stale_45 : decode cX8_stale 45 = .ok (.iload 4, 2) := by decide +kernel
theorem dX8_stale_47 : decode cX8_stale 47 = .ok (.ifCond .eq 7, 3) := by decide +kernel
theorem dX8_stale_50 : decode cX8_stale 50 = .ok (.iconst 1, 1) := by decide +kernel
theorem dX8_stale_51 : decode cX8_stale 51 = .ok (.goto 4, 3) := by decide +kernel
theorem dX8_stale_54 : decode cX8_stale 54 = .ok (.iconst 0, 1) := by decide +kernel
theorem dX8_stale_55 : decode cX8_stale 55 = .ok (.istore_n 2, 1) := by decide +kernel
theorem dX8_stale_56 : decode cX8_stale 56 = .ok (.iinc 3 1, 3) := by decide +kernel
theorem dX8_stale_59 : decode cX8_stale 59 = .ok (.goto (-45), 3) := by decide +kernel
theorem dX8_stale_62 : decode cX8_stale 62 = .ok (.bipush (-6), 2) := by decide +kernel
theorem dX8_stale_64 : decode cX8_stale 64 = .ok (.ireturn, 1) := by decide +kernel
theorem dX8_blame_0 : decode cX8_blame 0 = .ok (.aload_n 0, 1) := by decide +kernel
theorem dX8_blame_1 : decode cX8_blame 1 = .ok (.iload_n 1, 1) := by decide +kernel
theorem dX8_blame_2 : decode cX8_blame 2 = .ok (.invokevirtual 132, 3) := by decide +kernel
theorem dX8_blame_5 : decode cX8_blame 5 = .ok (.ifCond .eq 11, 3) := by decide +kernel
theorem dX8_blame_8 : decode cX8_blame 8 = .ok (.aload_n 0, 1) := by decide +kernel
theorem dX8_blame_9 : decode cX8_blame 9 = .ok (.iload_n 2, 1) := by decide +kernel
theorem dX8_blame_10 : decode cX8_blame 10 = .ok (.invokevirtual 100, 3) := by decide +kernel
theorem dX8_blame_13 : decode cX8_blame 13 = .ok (.ifCond .ne 5, 3) := by decide +kernel
theorem dX8_blame_16 : decode cX8_blame 16 = .ok (.iconst (-1), 1) := by decide +kernel
theorem dX8_blame_17 : decode cX8_blame 17 = .ok (.ireturn, 1) := by decide +kernel
theorem dX8_blame_18 : decode cX8_blame 18 = .ok (.iload_n 2, 1) := by decide +kernel
theorem dX8_blame_19 : decode cX8_blame 19 = .ok (.ifCond .eq 12, 3) := by decide +kernel
theorem dX8_blame_22 : decode cX8_blame 22 = .ok (.aload_n 0, 1) := by decide +kernel
theorem dX8_blame_23 : decode cX8_blame 23 = .ok (.iload_n 1, 1) := by decide +kernel
theorem dX8_blame_24 : decode cX8_blame 24 = .ok (.iload_n 2, 1) := by decide +kernel
theorem dX8_blame_25 : decode cX8_blame 25 = .ok (.invokevirtual 135, 3) := by decide +kernel
theorem dX8_blame_28 : decode cX8_blame 28 = .ok (.ifCond .eq 6, 3) := by decide +kernel
theorem dX8_blame_31 : decode cX8_blame 31 = .ok (.bipush (-3), 2) := by decide +kernel
theorem dX8_blame_33 : decode cX8_blame 33 = .ok (.ireturn, 1) := by decide +kernel
theorem dX8_blame_34 : decode cX8_blame 34 = .ok (.bipush (-6), 2) := by decide +kernel
theorem dX8_blame_36 : decode cX8_blame 36 = .ok (.istore_n 3, 1) := by decide +kernel
theorem dX8_blame_37 : decode cX8_blame 37 = .ok (.iconst 1, 1) := by decide +kernel
theorem dX8_blame_38 : decode cX8_blame 38 = .ok (.istore 4, 2) := by decide +kernel
theorem dX8_blame_40 : decode cX8_blame 40 = .ok (.iload 4, 2) := by decide +kernel
theorem dX8_blame_42 : decode cX8_blame 42 = .ok (.sipush 256, 3) := by decide +kernel
theorem dX8_blame_45 : decode cX8_blame 45 = .ok (.if_icmp .ge 72, 3) := by decide +kernel
theorem dX8_blame_48 : decode cX8_blame 48 = .ok (.iload_n 3, 1) := by decide +kernel
theorem dX8_blame_49 : decode cX8_blame 49 = .ok (.ifCond .lt 15, 3) := by decide +kernel
theorem dX8_blame_52 : decode cX8_blame 52 = .ok (.iload 4, 2) := by decide +kernel
theorem dX8_blame_54 : decode cX8_blame 54 = .ok (.invokestatic 139, 3) := by decide +kernel
theorem dX8_blame_57 : decode cX8_blame 57 = .ok (.iload_n 3, 1) := by decide +kernel
theorem dX8_blame_58 : decode cX8_blame 58 = .ok (.invokestatic 139, 3) := by decide +kernel
theorem dX8_blame_61 : decode cX8_blame 61 = .ok (.if_icmp .ge 50, 3) := by decide +kernel
theorem dX8_blame_64 : decode cX8_blame 64 = .ok (.iconst 0, 1) := by decide +kernel
theorem dX8_blame_65 : decode cX8_blame 65 = .ok (.istore 5, 2) := by decide +kernel
theorem dX8_blame_67 : decode cX8_blame 67 = .ok (.iload 5, 2) := by decide +kernel
theorem dX8_blame_69 : decode cX8_blame 69 = .ok (.bipush 8, 2) := by decide +kernel
theorem dX8_blame_71 : decode cX8_blame 71 = .ok (.if_icmp .ge 25, 3) := by decide +kernel
theorem dX8_blame_74 : decode cX8_blame 74 = .ok (.aload_n 0, 1) := by decide +kernel
theorem dX8_blame_75 : decode cX8_blame 75 = .ok (.getfield 37, 3) := by decide +kernel
theorem dX8_blame_78 : decode cX8_blame 78 = .ok (.iload 5, 2) := by decide +kernel
theorem dX8_blame_80 : decode cX8_blame 80 = .ok (.iload_n 2, 1) := by decide +kernel
theorem dX8_blame_81 : decode cX8_blame 81 = .ok (.iload 4, 2) := by decide +kernel
theorem dX8_blame_83 : decode cX8_blame 83 = .ok (.iload 5, 2) := by decide +kernel
theorem dX8_blame_85 : decode cX8_blame 85 = .ok (.ishr, 1) := by decide +kernel
theorem dX8_blame_86 : decode cX8_blame 86 = .ok (.iconst 1, 1) := by decide +kernel
theorem dX8_blame_87 : decode cX8_blame 87 = .ok (.iand, 1) := by decide +kernel
theorem dX8_blame_88 : decode cX8_blame 88 = .ok (.isub, 1) := by decide +kernel
theorem dX8_blame_89 : decode cX8_blame 89 = .ok (.iastore, 1) := by decide +kernel
theorem dX8_blame_90 : decode cX8_blame 90 = .ok (.iinc 5 1, 3) := by decide +kernel
theorem dX8_blame_93 : decode cX8_blame 93 = .ok (.goto (-26), 3) := by decide +kernel
theorem dX8_blame_96 : decode cX8_blame 96 = .ok (.aload_n 0, 1) := by decide +kernel
theorem dX8_blame_97 : decode cX8_blame 97 = .ok (.iload_n 1, 1) := by decide +kernel
theorem dX8_blame_98 : decode cX8_blame 98 = .ok (.invokevirtual 129, 3) := by decide +kernel
theorem dX8_blame_101 : decode cX8_blame 101 = .ok (.ifCond .eq 8, 3) := by decide +kernel
theorem dX8_blame_104 : decode cX8_blame 104 = .ok (.iload 4, 2) := by decide +kernel
theorem dX8_blame_106 : decode cX8_blame 106 = .ok (.goto 4, 3) := by decide +kernel
theorem dX8_blame_109 : decode cX8_blame 109 = .ok (.iload_n 3, 1) := by decide +kernel
theorem dX8_blame_110 : decode cX8_blame 110 = .ok (.istore_n 3, 1) := by decide +kernel
theorem dX8_blame_111 : decode cX8_blame 111 = .ok (.iinc 4 1, 3) := by decide +kernel
theorem dX8_blame_114 : decode cX8_blame 114 = .ok (.goto (-74), 3) := by decide +kernel
theorem dX8_blame_117 : decode cX8_blame 117 = .ok (.iload_n 3, 1) := by decide +kernel
theorem dX8_blame_118 : decode cX8_blame 118 = .ok (.ifCond .ge 8, 3) := by decide +kernel
theorem dX8_blame_121 : decode cX8_blame 121 = .ok (.bipush (-5), 2) := by decide +kernel
theorem dX8_blame_123 : decode cX8_blame 123 = .ok (.goto 4, 3) := by decide +kernel
theorem dX8_blame_126 : decode cX8_blame 126 = .ok (.iload_n 3, 1) := by decide +kernel
theorem dX8_blame_127 : decode cX8_blame 127 = .ok (.ireturn, 1) := by decide +kernel
theorem dX8_toldBy_0 : decode cX8_toldBy 0 = .ok (.iconst 0, 1) := by decide +kernel
theorem dX8_toldBy_1 : decode cX8_toldBy 1 = .ok (.istore_n 2, 1) := by decide +kernel
theorem dX8_toldBy_2 : decode cX8_toldBy 2 = .ok (.iconst 0, 1) := by decide +kernel
theorem dX8_toldBy_3 : decode cX8_toldBy 3 = .ok (.istore_n 3, 1) := by decide +kernel
theorem dX8_toldBy_4 : decode cX8_toldBy 4 = .ok (.iload_n 3, 1) := by decide +kernel
theorem dX8_toldBy_5 : decode cX8_toldBy 5 = .ok (.aload_n 0, 1) := by decide +kernel
theorem dX8_toldBy_6 : decode cX8_toldBy 6 = .ok (.getfield 70, 3) := by decide +kernel
theorem dX8_toldBy_9 : decode cX8_toldBy 9 = .ok (.if_icmp .ge 42, 3) := by decide +kernel
theorem dX8_toldBy_12 : decode cX8_toldBy 12 = .ok (.iload_n 2, 1) := by decide +kernel
theorem dX8_toldBy_13 : decode cX8_toldBy 13 = .ok (.iload_n 1, 1) := by decide +kernel
theorem dX8_toldBy_14 : decode cX8_toldBy 14 = .ok (.iload_n 3, 1) := by decide +kernel
theorem dX8_toldBy_15 : decode cX8_toldBy 15 = .ok (.ishr, 1) := by decide +kernel
theorem dX8_toldBy_16 : decode cX8_toldBy 16 = .ok (.iconst 1, 1) := by decide +kernel
theorem dX8_toldBy_17 : decode cX8_toldBy 17 = .ok (.iand, 1) := by decide +kernel
theorem dX8_toldBy_18 : decode cX8_toldBy 18 = .ok (.iconst 1, 1) := by decide +kernel
theorem dX8_toldBy_19 : decode cX8_toldBy 19 = .ok (.if_icmp .ne 23, 3) := by decide +kernel
theorem dX8_toldBy_22 : decode cX8_toldBy 22 = .ok (.aload_n 0, 1) := by decide +kernel
theorem dX8_toldBy_23 : decode cX8_toldBy 23 = .ok (.getfield 19, 3) := by decide +kernel
theorem dX8_toldBy_26 : decode cX8_toldBy 26 = .ok (.iload_n 3, 1) := by decide +kernel
theorem dX8_toldBy_27 : decode cX8_toldBy 27 = .ok (.iaload, 1) := by decide +kernel
theorem dX8_toldBy_28 : decode cX8_toldBy 28 = .ok (.ifCond .lt 14, 3) := by decide +kernel
theorem dX8_toldBy_31 : decode cX8_toldBy 31 = .ok (.iconst 1, 1) := by decide +kernel
theorem dX8_toldBy_32 : decode cX8_toldBy 32 = .ok (.aload_n 0, 1) := by decide +kernel
theorem dX8_toldBy_33 : decode cX8_toldBy 33 = .ok (.getfield 19, 3) := by decide +kernel
theorem dX8_toldBy_36 : decode cX8_toldBy 36 = .ok (.iload_n 3, 1) := by decide +kernel
theorem dX8_toldBy_37 : decode cX8_toldBy 37 = .ok (.iaload, 1) := by decide +kernel
theorem dX8_toldBy_38 : decode cX8_toldBy 38 = .ok (.ishl, 1) := by decide +kernel
theorem dX8_toldBy_39 : decode cX8_toldBy 39 = .ok (.goto 4, 3) := by decide +kernel
theorem dX8_toldBy_42 : decode cX8_toldBy 42 = .ok (.iconst 0, 1) := by decide +kernel
theorem dX8_toldBy_43 : decode cX8_toldBy 43 = .ok (.ior, 1) := by decide +kernel
theorem dX8_toldBy_44 : decode cX8_toldBy 44 = .ok (.istore_n 2, 1) := by decide +kernel
theorem dX8_toldBy_45 : decode cX8_toldBy 45 = .ok (.iinc 3 1, 3) := by decide +kernel
theorem dX8_toldBy_48 : decode cX8_toldBy 48 = .ok (.goto (-44), 3) := by decide +kernel
theorem dX8_toldBy_51 : decode cX8_toldBy 51 = .ok (.iload_n 2, 1) := by decide +kernel
theorem dX8_toldBy_52 : decode cX8_toldBy 52 = .ok (.ireturn, 1) := by decide +kernel
theorem dX8_layOrders_0 : decode cX8_layOrders 0 = .ok (.iconst 1, 1) := by decide +kernel
theorem dX8_layOrders_1 : decode cX8_layOrders 1 = .ok (.aload_n 0, 1) := by decide +kernel
theorem dX8_layOrders_2 : decode cX8_layOrders 2 = .ok (.getfield 70, 3) := by decide +kernel
theorem dX8_layOrders_5 : decode cX8_layOrders 5 = .ok (.ishl, 1) := by decide +kernel
theorem dX8_layOrders_6 : decode cX8_layOrders 6 = .ok (.iconst 1, 1) := by decide +kernel
theorem dX8_layOrders_7 : decode cX8_layOrders 7 = .ok (.isub, 1) := by decide +kernel
theorem dX8_layOrders_8 : decode cX8_layOrders 8 = .ok (.istore_n 1, 1) := by decide +kernel
theorem dX8_layOrders_9 : decode cX8_layOrders 9 = .ok (.aload_n 0, 1) := by decide +kernel
theorem dX8_layOrders_10 : decode cX8_layOrders 10 = .ok (.getfield 40, 3) := by decide +kernel
theorem dX8_layOrders_13 : decode cX8_layOrders 13 = .ok (.iload_n 1, 1) := by decide +kernel
theorem dX8_layOrders_14 : decode cX8_layOrders 14 = .ok (.iconst 0, 1) := by decide +kernel
theorem dX8_layOrders_15 : decode cX8_layOrders 15 = .ok (.iastore, 1) := by decide +kernel
theorem dX8_layOrders_16 : decode cX8_layOrders 16 = .ok (.iload_n 1, 1) := by decide +kernel
theorem dX8_layOrders_17 : decode cX8_layOrders 17 = .ok (.iconst 1, 1) := by decide +kernel
theorem dX8_layOrders_18 : decode cX8_layOrders 18 = .ok (.isub, 1) := by decide +kernel
theorem dX8_layOrders_19 : decode cX8_layOrders 19 = .ok (.istore_n 2, 1) := by decide +kernel
theorem dX8_layOrders_20 : decode cX8_layOrders 20 = .ok (.iload_n 2, 1) := by decide +kernel
theorem dX8_layOrders_21 : decode cX8_layOrders 21 = .ok (.ifCond .lt 102, 3) := by decide +kernel
theorem dX8_layOrders_24 : decode cX8_layOrders 24 = .ok (.aload_n 0, 1) := by decide +kernel
theorem dX8_layOrders_25 : decode cX8_layOrders 25 = .ok (.iload_n 2, 1) := by decide +kernel
theorem dX8_layOrders_26 : decode cX8_layOrders 26 = .ok (.invokevirtual 142, 3) := by decide +kernel
theorem dX8_layOrders_29 : decode cX8_layOrders 29 = .ok (.istore_n 3, 1) := by decide +kernel
theorem dX8_layOrders_30 : decode cX8_layOrders 30 = .ok (.bipush (-6), 2) := by decide +kernel
theorem dX8_layOrders_32 : decode cX8_layOrders 32 = .ok (.istore 4, 2) := by decide +kernel
theorem dX8_layOrders_34 : decode cX8_layOrders 34 = .ok (.iconst 0, 1) := by decide +kernel
theorem dX8_layOrders_35 : decode cX8_layOrders 35 = .ok (.istore 5, 2) := by decide +kernel
theorem dX8_layOrders_37 : decode cX8_layOrders 37 = .ok (.iload 5, 2) := by decide +kernel
theorem dX8_layOrders_39 : decode cX8_layOrders 39 = .ok (.aload_n 0, 1) := by decide +kernel
theorem dX8_layOrders_40 : decode cX8_layOrders 40 = .ok (.getfield 70, 3) := by decide +kernel
theorem dX8_layOrders_43 : decode cX8_layOrders 43 = .ok (.if_icmp .ge 66, 3) := by decide +kernel
theorem dX8_layOrders_46 : decode cX8_layOrders 46 = .ok (.iload_n 2, 1) := by decide +kernel
theorem dX8_layOrders_47 : decode cX8_layOrders 47 = .ok (.iload 5, 2) := by decide +kernel
theorem dX8_layOrders_49 : decode cX8_layOrders 49 = .ok (.ishr, 1) := by decide +kernel
theorem dX8_layOrders_50 : decode cX8_layOrders 50 = .ok (.iconst 1, 1) := by decide +kernel
theorem dX8_layOrders_51 : decode cX8_layOrders 51 = .ok (.iand, 1) := by decide +kernel
theorem dX8_layOrders_52 : decode cX8_layOrders 52 = .ok (.ifCond .ne 51, 3) := by decide +kernel
theorem dX8_layOrders_55 : decode cX8_layOrders 55 = .ok (.aload_n 0, 1) := by decide +kernel
theorem dX8_layOrders_56 : decode cX8_layOrders 56 = .ok (.getfield 40, 3) := by decide +kernel
theorem dX8_layOrders_59 : decode cX8_layOrders 59 = .ok (.iload_n 2, 1) := by decide +kernel
theorem dX8_layOrders_60 : decode cX8_layOrders 60 = .ok (.iconst 1, 1) := by decide +kernel
theorem dX8_layOrders_61 : decode cX8_layOrders 61 = .ok (.iload 5, 2) := by decide +kernel
theorem dX8_layOrders_63 : decode cX8_layOrders 63 = .ok (.ishl, 1) := by decide +kernel
theorem dX8_layOrders_64 : decode cX8_layOrders 64 = .ok (.ior, 1) := by decide +kernel
theorem dX8_layOrders_65 : decode cX8_layOrders 65 = .ok (.iaload, 1) := by decide +kernel
theorem dX8_layOrders_66 : decode cX8_layOrders 66 = .ok (.aload_n 0, 1) := by decide +kernel
theorem dX8_layOrders_67 : decode cX8_layOrders 67 = .ok (.iload 5, 2) := by decide +kernel
theorem dX8_layOrders_69 : decode cX8_layOrders 69 = .ok (.invokevirtual 126, 3) := by decide +kernel
theorem dX8_layOrders_72 : decode cX8_layOrders 72 = .ok (.iload_n 3, 1) := by decide +kernel
theorem dX8_layOrders_73 : decode cX8_layOrders 73 = .ok (.iconst (-1), 1) := by decide +kernel
theorem dX8_layOrders_74 : decode cX8_layOrders 74 = .ok (.ixor, 1) := by decide +kernel
theorem dX8_layOrders_75 : decode cX8_layOrders 75 = .ok (.iand, 1) := by decide +kernel
theorem dX8_layOrders_76 : decode cX8_layOrders 76 = .ok (.invokestatic 139, 3) := by decide +kernel
theorem dX8_layOrders_79 : decode cX8_layOrders 79 = .ok (.iadd, 1) := by decide +kernel
theorem dX8_layOrders_80 : decode cX8_layOrders 80 = .ok (.istore 6, 2) := by decide +kernel
theorem dX8_layOrders_82 : decode cX8_layOrders 82 = .ok (.iload 4, 2) := by decide +kernel
theorem dX8_layOrders_84 : decode cX8_layOrders 84 = .ok (.ifCond .lt 10, 3) := by decide +kernel
theorem dX8_layOrders_87 : decode cX8_layOrders 87 = .ok (.iload 6, 2) := by decide +kernel
theorem dX8_layOrders_89 : decode cX8_layOrders 89 = .ok (.iload 4, 2) := by decide +kernel
theorem dX8_layOrders_91 : decode cX8_layOrders 91 = .ok (.if_icmp .ge 8, 3) := by decide +kernel
theorem dX8_layOrders_94 : decode cX8_layOrders 94 = .ok (.iload 6, 2) := by decide +kernel
theorem dX8_layOrders_96 : decode cX8_layOrders 96 = .ok (.goto 5, 3) := by decide +kernel
theorem dX8_layOrders_99 : decode cX8_layOrders 99 = .ok (.iload 4, 2) := by decide +kernel
theorem dX8_layOrders_101 : decode cX8_layOrders 101 = .ok (.istore 4, 2) := by decide +kernel
theorem dX8_layOrders_103 : decode cX8_layOrders 103 = .ok (.iinc 5 1, 3) := by decide +kernel
theorem dX8_layOrders_106 : decode cX8_layOrders 106 = .ok (.goto (-69), 3) := by decide +kernel
theorem dX8_layOrders_109 : decode cX8_layOrders 109 = .ok (.aload_n 0, 1) := by decide +kernel
theorem dX8_layOrders_110 : decode cX8_layOrders 110 = .ok (.getfield 40, 3) := by decide +kernel
theorem dX8_layOrders_113 : decode cX8_layOrders 113 = .ok (.iload_n 2, 1) := by decide +kernel
theorem dX8_layOrders_114 : decode cX8_layOrders 114 = .ok (.iload 4, 2) := by decide +kernel
theorem dX8_layOrders_116 : decode cX8_layOrders 116 = .ok (.iastore, 1) := by decide +kernel
theorem dX8_layOrders_117 : decode cX8_layOrders 117 = .ok (.iinc 2 (-1), 3) := by decide +kernel
theorem dX8_layOrders_120 : decode cX8_layOrders 120 = .ok (.goto (-100), 3) := by decide +kernel
theorem dX8_layOrders_123 : decode cX8_layOrders 123 = .ok (.return_, 1) := by decide +kernel
theorem dX8_order_0 : decode cX8_order 0 = .ok (.iload_n 1, 1) := by decide +kernel
theorem dX8_order_1 : decode cX8_order 1 = .ok (.iconst (-1), 1) := by decide +kernel
theorem dX8_order_2 : decode cX8_order 2 = .ok (.if_icmp .ne 46, 3) := by decide +kernel
theorem dX8_order_5 : decode cX8_order 5 = .ok (.iconst 0, 1) := by decide +kernel
theorem dX8_order_6 : decode cX8_order 6 = .ok (.istore_n 2, 1) := by decide +kernel
theorem dX8_order_7 : decode cX8_order 7 = .ok (.iconst 0, 1) := by decide +kernel
theorem dX8_order_8 : decode cX8_order 8 = .ok (.istore_n 3, 1) := by decide +kernel
theorem dX8_order_9 : decode cX8_order 9 = .ok (.iload_n 3, 1) := by decide +kernel
theorem dX8_order_10 : decode cX8_order 10 = .ok (.aload_n 0, 1) := by decide +kernel
theorem dX8_order_11 : decode cX8_order 11 = .ok (.getfield 70, 3) := by decide +kernel
theorem dX8_order_14 : decode cX8_order 14 = .ok (.if_icmp .ge 32, 3) := by decide +kernel
theorem dX8_order_17 : decode cX8_order 17 = .ok (.iload_n 2, 1) := by decide +kernel
theorem dX8_order_18 : decode cX8_order 18 = .ok (.aload_n 0, 1) := by decide +kernel
theorem dX8_order_19 : decode cX8_order 19 = .ok (.iload_n 3, 1) := by decide +kernel
theorem dX8_order_20 : decode cX8_order 20 = .ok (.invokevirtual 126, 3) := by decide +kernel
theorem dX8_order_23 : decode cX8_order 23 = .ok (.aload_n 0, 1) := by decide +kernel
theorem dX8_order_24 : decode cX8_order 24 = .ok (.iconst 1, 1) := by decide +kernel
theorem dX8_order_25 : decode cX8_order 25 = .ok (.iload_n 3, 1) := by decide +kernel
theorem dX8_order_26 : decode cX8_order 26 = .ok (.ishl, 1) := by decide +kernel
theorem dX8_order_27 : decode cX8_order 27 = .ok (.iconst 1, 1) := by decide +kernel
theorem dX8_order_28 : decode cX8_order 28 = .ok (.isub, 1) := by decide +kernel
theorem dX8_order_29 : decode cX8_order 29 = .ok (.invokevirtual 142, 3) := by decide +kernel
theorem dX8_order_32 : decode cX8_order 32 = .ok (.iconst (-1), 1) := by decide +kernel
theorem dX8_order_33 : decode cX8_order 33 = .ok (.ixor, 1) := by decide +kernel
theorem dX8_order_34 : decode cX8_order 34 = .ok (.iand, 1) := by decide +kernel
theorem dX8_order_35 : decode cX8_order 35 = .ok (.invokestatic 139, 3) := by decide +kernel
theorem dX8_order_38 : decode cX8_order 38 = .ok (.iadd, 1) := by decide +kernel
theorem dX8_order_39 : decode cX8_order 39 = .ok (.istore_n 2, 1) := by decide +kernel
theorem dX8_order_40 : decode cX8_order 40 = .ok (.iinc 3 1, 3) := by decide +kernel
theorem dX8_order_43 : decode cX8_order 43 = .ok (.goto (-34), 3) := by decide +kernel
theorem dX8_order_46 : decode cX8_order 46 = .ok (.iload_n 2, 1) := by decide +kernel
theorem dX8_order_47 : decode cX8_order 47 = .ok (.ireturn, 1) := by decide +kernel
theorem dX8_order_48 : decode cX8_order 48 = .ok (.aload_n 0, 1) := by decide +kernel
theorem dX8_order_49 : decode cX8_order 49 = .ok (.invokevirtual 145, 3) := by decide +kernel
theorem dX8_order_52 : decode cX8_order 52 = .ok (.iload_n 1, 1) := by decide +kernel
theorem dX8_order_53 : decode cX8_order 53 = .ok (.bipush (-2), 2) := by decide +kernel
theorem dX8_order_55 : decode cX8_order 55 = .ok (.if_icmp .ne 10, 3) := by decide +kernel
theorem dX8_order_58 : decode cX8_order 58 = .ok (.aload_n 0, 1) := by decide +kernel
theorem dX8_order_59 : decode cX8_order 59 = .ok (.getfield 40, 3) := by decide +kernel
theorem dX8_order_62 : decode cX8_order 62 = .ok (.iconst 0, 1) := by decide +kernel
theorem dX8_order_63 : decode cX8_order 63 = .ok (.iaload, 1) := by decide +kernel
theorem dX8_order_64 : decode cX8_order 64 = .ok (.ireturn, 1) := by decide +kernel
theorem dX8_order_65 : decode cX8_order 65 = .ok (.iload_n 1, 1) := by decide +kernel
theorem dX8_order_66 : decode cX8_order 66 = .ok (.iconst 0, 1) := by decide +kernel
theorem dX8_order_67 : decode cX8_order 67 = .ok (.aload_n 0, 1) := by decide +kernel
theorem dX8_order_68 : decode cX8_order 68 = .ok (.getfield 70, 3) := by decide +kernel
theorem dX8_order_71 : decode cX8_order 71 = .ok (.iconst 1, 1) := by decide +kernel
theorem dX8_order_72 : decode cX8_order 72 = .ok (.isub, 1) := by decide +kernel
theorem dX8_order_73 : decode cX8_order 73 = .ok (.invokestatic 66, 3) := by decide +kernel
theorem dX8_order_76 : decode cX8_order 76 = .ok (.ifCond .ne 6, 3) := by decide +kernel
theorem dX8_order_79 : decode cX8_order 79 = .ok (.bipush (-6), 2) := by decide +kernel
theorem dX8_order_81 : decode cX8_order 81 = .ok (.ireturn, 1) := by decide +kernel
theorem dX8_order_82 : decode cX8_order 82 = .ok (.iconst 0, 1) := by decide +kernel
theorem dX8_order_83 : decode cX8_order 83 = .ok (.istore_n 2, 1) := by decide +kernel
theorem dX8_order_84 : decode cX8_order 84 = .ok (.bipush (-6), 2) := by decide +kernel
theorem dX8_order_86 : decode cX8_order 86 = .ok (.istore_n 3, 1) := by decide +kernel
theorem dX8_order_87 : decode cX8_order 87 = .ok (.iconst 0, 1) := by decide +kernel
theorem dX8_order_88 : decode cX8_order 88 = .ok (.istore 4, 2) := by decide +kernel
theorem dX8_order_90 : decode cX8_order 90 = .ok (.iload 4, 2) := by decide +kernel
theorem dX8_order_92 : decode cX8_order 92 = .ok (.iload_n 1, 1) := by decide +kernel
theorem dX8_order_93 : decode cX8_order 93 = .ok (.if_icmp .gt 110, 3) := by decide +kernel
theorem dX8_order_96 : decode cX8_order 96 = .ok (.aload_n 0, 1) := by decide +kernel
theorem dX8_order_97 : decode cX8_order 97 = .ok (.iload_n 2, 1) := by decide +kernel
theorem dX8_order_98 : decode cX8_order 98 = .ok (.invokevirtual 142, 3) := by decide +kernel
theorem dX8_order_101 : decode cX8_order 101 = .ok (.istore 5, 2) := by decide +kernel
theorem dX8_order_103 : decode cX8_order 103 = .ok (.bipush (-6), 2) := by decide +kernel
theorem dX8_order_105 : decode cX8_order 105 = .ok (.istore_n 3, 1) := by decide +kernel
theorem dX8_order_106 : decode cX8_order 106 = .ok (.iconst 0, 1) := by decide +kernel
theorem dX8_order_107 : decode cX8_order 107 = .ok (.istore 6, 2) := by decide +kernel
theorem dX8_order_109 : decode cX8_order 109 = .ok (.iload 6, 2) := by decide +kernel
theorem dX8_order_111 : decode cX8_order 111 = .ok (.aload_n 0, 1) := by decide +kernel
theorem dX8_order_112 : decode cX8_order 112 = .ok (.getfield 70, 3) := by decide +kernel
theorem dX8_order_115 : decode cX8_order 115 = .ok (.if_icmp .ge 76, 3) := by decide +kernel
theorem dX8_order_118 : decode cX8_order 118 = .ok (.iload_n 3, 1) := by decide +kernel
theorem dX8_order_119 : decode cX8_order 119 = .ok (.ifCond .ge 72, 3) := by decide +kernel
theorem dX8_order_122 : decode cX8_order 122 = .ok (.iload_n 2, 1) := by decide +kernel
theorem dX8_order_123 : decode cX8_order 123 = .ok (.iload 6, 2) := by decide +kernel
theorem dX8_order_125 : decode cX8_order 125 = .ok (.ishr, 1) := by decide +kernel
theorem dX8_order_126 : decode cX8_order 126 = .ok (.iconst 1, 1) := by decide +kernel
theorem dX8_order_127 : decode cX8_order 127 = .ok (.iand, 1) := by decide +kernel
theorem dX8_order_128 : decode cX8_order 128 = .ok (.ifCond .ne 42, 3) := by decide +kernel
theorem dX8_order_131 : decode cX8_order 131 = .ok (.aload_n 0, 1) := by decide +kernel
theorem dX8_order_132 : decode cX8_order 132 = .ok (.getfield 40, 3) := by decide +kernel
theorem dX8_order_135 : decode cX8_order 135 = .ok (.iload_n 2, 1) := by decide +kernel
theorem dX8_order_136 : decode cX8_order 136 = .ok (.iconst 1, 1) := by decide +kernel
theorem dX8_order_137 : decode cX8_order 137 = .ok (.iload 6, 2) := by decide +kernel
theorem dX8_order_139 : decode cX8_order 139 = .ok (.ishl, 1) := by decide +kernel
theorem dX8_order_140 : decode cX8_order 140 = .ok (.ior, 1) := by decide +kernel
theorem dX8_order_141 : decode cX8_order 141 = .ok (.iaload, 1) := by decide +kernel
theorem dX8_order_142 : decode cX8_order 142 = .ok (.aload_n 0, 1) := by decide +kernel
theorem dX8_order_143 : decode cX8_order 143 = .ok (.iload 6, 2) := by decide +kernel
theorem dX8_order_145 : decode cX8_order 145 = .ok (.invokevirtual 126, 3) := by decide +kernel
theorem dX8_order_148 : decode cX8_order 148 = .ok (.iload 5, 2) := by decide +kernel
theorem dX8_order_150 : decode cX8_order 150 = .ok (.iconst (-1), 1) := by decide +kernel
theorem dX8_order_151 : decode cX8_order 151 = .ok (.ixor, 1) := by decide +kernel
theorem dX8_order_152 : decode cX8_order 152 = .ok (.iand, 1) := by decide +kernel
theorem dX8_order_153 : decode cX8_order 153 = .ok (.invokestatic 139, 3) := by decide +kernel
theorem dX8_order_156 : decode cX8_order 156 = .ok (.iadd, 1) := by decide +kernel
theorem dX8_order_157 : decode cX8_order 157 = .ok (.aload_n 0, 1) := by decide +kernel
theorem dX8_order_158 : decode cX8_order 158 = .ok (.getfield 40, 3) := by decide +kernel
theorem dX8_order_161 : decode cX8_order 161 = .ok (.iload_n 2, 1) := by decide +kernel
theorem dX8_order_162 : decode cX8_order 162 = .ok (.iaload, 1) := by decide +kernel
theorem dX8_order_163 : decode cX8_order 163 = .ok (.if_icmp .ne 7, 3) := by decide +kernel
theorem dX8_order_166 : decode cX8_order 166 = .ok (.iconst 1, 1) := by decide +kernel
theorem dX8_order_167 : decode cX8_order 167 = .ok (.goto 4, 3) := by decide +kernel
theorem dX8_order_170 : decode cX8_order 170 = .ok (.iconst 0, 1) := by decide +kernel
theorem dX8_order_171 : decode cX8_order 171 = .ok (.istore 7, 2) := by decide +kernel
theorem dX8_order_173 : decode cX8_order 173 = .ok (.iload 7, 2) := by decide +kernel
theorem dX8_order_175 : decode cX8_order 175 = .ok (.ifCond .eq 8, 3) := by decide +kernel
theorem dX8_order_178 : decode cX8_order 178 = .ok (.iload 6, 2) := by decide +kernel
theorem dX8_order_180 : decode cX8_order 180 = .ok (.goto 4, 3) := by decide +kernel
theorem dX8_order_183 : decode cX8_order 183 = .ok (.iload_n 3, 1) := by decide +kernel
theorem dX8_order_184 : decode cX8_order 184 = .ok (.istore_n 3, 1) := by decide +kernel
theorem dX8_order_185 : decode cX8_order 185 = .ok (.iinc 6 1, 3) := by decide +kernel
theorem dX8_order_188 : decode cX8_order 188 = .ok (.goto (-79), 3) := by decide +kernel
theorem dX8_order_191 : decode cX8_order 191 = .ok (.iload_n 2, 1) := by decide +kernel
theorem dX8_order_192 : decode cX8_order 192 = .ok (.iconst 1, 1) := by decide +kernel
theorem dX8_order_193 : decode cX8_order 193 = .ok (.iload_n 3, 1) := by decide +kernel
theorem dX8_order_194 : decode cX8_order 194 = .ok (.ishl, 1) := by decide +kernel
theorem dX8_order_195 : decode cX8_order 195 = .ok (.ior, 1) := by decide +kernel
theorem dX8_order_196 : decode cX8_order 196 = .ok (.istore_n 2, 1) := by decide +kernel
theorem dX8_order_197 : decode cX8_order 197 = .ok (.iinc 4 1, 3) := by decide +kernel
theorem dX8_order_200 : decode cX8_order 200 = .ok (.goto (-110), 3) := by decide +kernel
theorem dX8_order_203 : decode cX8_order 203 = .ok (.iload_n 3, 1) := by decide +kernel
theorem dX8_order_204 : decode cX8_order 204 = .ok (.ireturn, 1) := by decide +kernel
theorem dX8_fewest_0 : decode cX8_fewest 0 = .ok (.bipush (-6), 2) := by decide +kernel
theorem dX8_fewest_2 : decode cX8_fewest 2 = .ok (.istore_n 1, 1) := by decide +kernel
theorem dX8_fewest_3 : decode cX8_fewest 3 = .ok (.iconst 0, 1) := by decide +kernel
theorem dX8_fewest_4 : decode cX8_fewest 4 = .ok (.istore_n 2, 1) := by decide +kernel
theorem dX8_fewest_5 : decode cX8_fewest 5 = .ok (.iload_n 2, 1) := by decide +kernel
theorem dX8_fewest_6 : decode cX8_fewest 6 = .ok (.iconst 1, 1) := by decide +kernel
theorem dX8_fewest_7 : decode cX8_fewest 7 = .ok (.aload_n 0, 1) := by decide +kernel
theorem dX8_fewest_8 : decode cX8_fewest 8 = .ok (.getfield 70, 3) := by decide +kernel
theorem dX8_fewest_11 : decode cX8_fewest 11 = .ok (.ishl, 1) := by decide +kernel
theorem dX8_fewest_12 : decode cX8_fewest 12 = .ok (.if_icmp .ge 86, 3) := by decide +kernel
theorem dX8_fewest_15 : decode cX8_fewest 15 = .ok (.iload_n 1, 1) := by decide +kernel
theorem dX8_fewest_16 : decode cX8_fewest 16 = .ok (.ifCond .lt 14, 3) := by decide +kernel
theorem dX8_fewest_19 : decode cX8_fewest 19 = .ok (.iload_n 2, 1) := by decide +kernel
theorem dX8_fewest_20 : decode cX8_fewest 20 = .ok (.invokestatic 139, 3) := by decide +kernel
theorem dX8_fewest_23 : decode cX8_fewest 23 = .ok (.iload_n 1, 1) := by decide +kernel
theorem dX8_fewest_24 : decode cX8_fewest 24 = .ok (.invokestatic 139, 3) := by decide +kernel
theorem dX8_fewest_27 : decode cX8_fewest 27 = .ok (.if_icmp .ge 65, 3) := by decide +kernel
theorem dX8_fewest_30 : decode cX8_fewest 30 = .ok (.iconst 1, 1) := by decide +kernel
theorem dX8_fewest_31 : decode cX8_fewest 31 = .ok (.istore_n 3, 1) := by decide +kernel
theorem dX8_fewest_32 : decode cX8_fewest 32 = .ok (.iconst 0, 1) := by decide +kernel
theorem dX8_fewest_33 : decode cX8_fewest 33 = .ok (.istore 4, 2) := by decide +kernel
theorem dX8_fewest_35 : decode cX8_fewest 35 = .ok (.iload 4, 2) := by decide +kernel
theorem dX8_fewest_37 : decode cX8_fewest 37 = .ok (.aload_n 0, 1) := by decide +kernel
theorem dX8_fewest_38 : decode cX8_fewest 38 = .ok (.getfield 148, 3) := by decide +kernel
theorem dX8_fewest_41 : decode cX8_fewest 41 = .ok (.if_icmp .ge 41, 3) := by decide +kernel
theorem dX8_fewest_44 : decode cX8_fewest 44 = .ok (.iload_n 3, 1) := by decide +kernel
theorem dX8_fewest_45 : decode cX8_fewest 45 = .ok (.ifCond .eq 37, 3) := by decide +kernel
theorem dX8_fewest_48 : decode cX8_fewest 48 = .ok (.aload_n 0, 1) := by decide +kernel
theorem dX8_fewest_49 : decode cX8_fewest 49 = .ok (.getfield 43, 3) := by decide +kernel
theorem dX8_fewest_52 : decode cX8_fewest 52 = .ok (.iload 4, 2) := by decide +kernel
theorem dX8_fewest_54 : decode cX8_fewest 54 = .ok (.iaload, 1) := by decide +kernel
theorem dX8_fewest_55 : decode cX8_fewest 55 = .ok (.ifCond .eq 15, 3) := by decide +kernel
theorem dX8_fewest_58 : decode cX8_fewest 58 = .ok (.aload_n 0, 1) := by decide +kernel
theorem dX8_fewest_59 : decode cX8_fewest 59 = .ok (.getfield 43, 3) := by decide +kernel
theorem dX8_fewest_62 : decode cX8_fewest 62 = .ok (.iload 4, 2) := by decide +kernel
theorem dX8_fewest_64 : decode cX8_fewest 64 = .ok (.iaload, 1) := by decide +kernel
theorem dX8_fewest_65 : decode cX8_fewest 65 = .ok (.iload_n 2, 1) := by decide +kernel
theorem dX8_fewest_66 : decode cX8_fewest 66 = .ok (.iand, 1) := by decide +kernel
theorem dX8_fewest_67 : decode cX8_fewest 67 = .ok (.ifCond .eq 7, 3) := by decide +kernel
theorem dX8_fewest_70 : decode cX8_fewest 70 = .ok (.iconst 1, 1) := by decide +kernel
theorem dX8_fewest_71 : decode cX8_fewest 71 = .ok (.goto 4, 3) := by decide +kernel
theorem dX8_fewest_74 : decode cX8_fewest 74 = .ok (.iconst 0, 1) := by decide +kernel
theorem dX8_fewest_75 : decode cX8_fewest 75 = .ok (.istore_n 3, 1) := by decide +kernel
theorem dX8_fewest_76 : decode cX8_fewest 76 = .ok (.iinc 4 1, 3) := by decide +kernel
theorem dX8_fewest_79 : decode cX8_fewest 79 = .ok (.goto (-44), 3) := by decide +kernel
theorem dX8_fewest_82 : decode cX8_fewest 82 = .ok (.iload_n 3, 1) := by decide +kernel
theorem dX8_fewest_83 : decode cX8_fewest 83 = .ok (.ifCond .eq 7, 3) := by decide +kernel
theorem dX8_fewest_86 : decode cX8_fewest 86 = .ok (.iload_n 2, 1) := by decide +kernel
theorem dX8_fewest_87 : decode cX8_fewest 87 = .ok (.goto 4, 3) := by decide +kernel
theorem dX8_fewest_90 : decode cX8_fewest 90 = .ok (.iload_n 1, 1) := by decide +kernel
theorem dX8_fewest_91 : decode cX8_fewest 91 = .ok (.istore_n 1, 1) := by decide +kernel
theorem dX8_fewest_92 : decode cX8_fewest 92 = .ok (.iinc 2 1, 3) := by decide +kernel
theorem dX8_fewest_95 : decode cX8_fewest 95 = .ok (.goto (-90), 3) := by decide +kernel
theorem dX8_fewest_98 : decode cX8_fewest 98 = .ok (.iload_n 1, 1) := by decide +kernel
theorem dX8_fewest_99 : decode cX8_fewest 99 = .ok (.ireturn, 1) := by decide +kernel
theorem dX8_cover_0 : decode cX8_cover 0 = .ok (.aload_n 0, 1) := by decide +kernel
theorem dX8_cover_1 : decode cX8_cover 1 = .ok (.iload_n 1, 1) := by decide +kernel
theorem dX8_cover_2 : decode cX8_cover 2 = .ok (.invokevirtual 100, 3) := by decide +kernel
theorem dX8_cover_5 : decode cX8_cover 5 = .ok (.ifCond .ne 5, 3) := by decide +kernel
theorem dX8_cover_8 : decode cX8_cover 8 = .ok (.iconst (-1), 1) := by decide +kernel
theorem dX8_cover_9 : decode cX8_cover 9 = .ok (.ireturn, 1) := by decide +kernel
theorem dX8_cover_10 : decode cX8_cover 10 = .ok (.aload_n 0, 1) := by decide +kernel
theorem dX8_cover_11 : decode cX8_cover 11 = .ok (.bipush 8, 2) := by decide +kernel
theorem dX8_cover_13 : decode cX8_cover 13 = .ok (.putfield 148, 3) := by decide +kernel
theorem dX8_cover_16 : decode cX8_cover 16 = .ok (.iconst 0, 1) := by decide +kernel
theorem dX8_cover_17 : decode cX8_cover 17 = .ok (.istore_n 2, 1) := by decide +kernel
theorem dX8_cover_18 : decode cX8_cover 18 = .ok (.iload_n 2, 1) := by decide +kernel
theorem dX8_cover_19 : decode cX8_cover 19 = .ok (.bipush 8, 2) := by decide +kernel
theorem dX8_cover_21 : decode cX8_cover 21 = .ok (.if_icmp .ge 16, 3) := by decide +kernel
theorem dX8_cover_24 : decode cX8_cover 24 = .ok (.aload_n 0, 1) := by decide +kernel
theorem dX8_cover_25 : decode cX8_cover 25 = .ok (.getfield 43, 3) := by decide +kernel
theorem dX8_cover_28 : decode cX8_cover 28 = .ok (.iload_n 2, 1) := by decide +kernel
theorem dX8_cover_29 : decode cX8_cover 29 = .ok (.iconst 0, 1) := by decide +kernel
theorem dX8_cover_30 : decode cX8_cover 30 = .ok (.iastore, 1) := by decide +kernel
theorem dX8_cover_31 : decode cX8_cover 31 = .ok (.iinc 2 1, 3) := by decide +kernel
theorem dX8_cover_34 : decode cX8_cover 34 = .ok (.goto (-16), 3) := by decide +kernel
theorem dX8_cover_37 : decode cX8_cover 37 = .ok (.aload_n 0, 1) := by decide +kernel
theorem dX8_cover_38 : decode cX8_cover 38 = .ok (.iload_n 1, 1) := by decide +kernel
theorem dX8_cover_39 : decode cX8_cover 39 = .ok (.invokevirtual 119, 3) := by decide +kernel
theorem dX8_cover_42 : decode cX8_cover 42 = .ok (.iconst 0, 1) := by decide +kernel
theorem dX8_cover_43 : decode cX8_cover 43 = .ok (.istore_n 2, 1) := by decide +kernel
theorem dX8_cover_44 : decode cX8_cover 44 = .ok (.iload_n 2, 1) := by decide +kernel
theorem dX8_cover_45 : decode cX8_cover 45 = .ok (.aload_n 0, 1) := by decide +kernel
theorem dX8_cover_46 : decode cX8_cover 46 = .ok (.getfield 70, 3) := by decide +kernel
theorem dX8_cover_49 : decode cX8_cover 49 = .ok (.if_icmp .ge 61, 3) := by decide +kernel
theorem dX8_cover_52 : decode cX8_cover 52 = .ok (.aload_n 0, 1) := by decide +kernel
theorem dX8_cover_53 : decode cX8_cover 53 = .ok (.getfield 19, 3) := by decide +kernel
theorem dX8_cover_56 : decode cX8_cover 56 = .ok (.iload_n 2, 1) := by decide +kernel
theorem dX8_cover_57 : decode cX8_cover 57 = .ok (.iaload, 1) := by decide +kernel
theorem dX8_cover_58 : decode cX8_cover 58 = .ok (.ifCond .ge 46, 3) := by decide +kernel
theorem dX8_cover_61 : decode cX8_cover 61 = .ok (.aload_n 0, 1) := by decide +kernel
theorem dX8_cover_62 : decode cX8_cover 62 = .ok (.bipush 48, 2) := by decide +kernel
theorem dX8_cover_64 : decode cX8_cover 64 = .ok (.iload_n 2, 1) := by decide +kernel
theorem dX8_cover_65 : decode cX8_cover 65 = .ok (.iadd, 1) := by decide +kernel
theorem dX8_cover_66 : decode cX8_cover 66 = .ok (.iconst 0, 1) := by decide +kernel
theorem dX8_cover_67 : decode cX8_cover 67 = .ok (.invokevirtual 122, 3) := by decide +kernel
theorem dX8_cover_70 : decode cX8_cover 70 = .ok (.pop, 1) := by decide +kernel
theorem dX8_cover_71 : decode cX8_cover 71 = .ok (.iconst 0, 1) := by decide +kernel
theorem dX8_cover_72 : decode cX8_cover 72 = .ok (.istore_n 3, 1) := by decide +kernel
theorem dX8_cover_73 : decode cX8_cover 73 = .ok (.iload_n 3, 1) := by decide +kernel
theorem dX8_cover_74 : decode cX8_cover 74 = .ok (.bipush 8, 2) := by decide +kernel
theorem dX8_cover_76 : decode cX8_cover 76 = .ok (.if_icmp .ge 28, 3) := by decide +kernel
theorem dX8_cover_79 : decode cX8_cover 79 = .ok (.aload_n 0, 1) := by decide +kernel
theorem dX8_cover_80 : decode cX8_cover 80 = .ok (.getfield 43, 3) := by decide +kernel
theorem dX8_cover_83 : decode cX8_cover 83 = .ok (.iload_n 3, 1) := by decide +kernel
theorem dX8_cover_84 : decode cX8_cover 84 = .ok (.dup2, 1) := by decide +kernel
theorem dX8_cover_85 : decode cX8_cover 85 = .ok (.iaload, 1) := by decide +kernel
theorem dX8_cover_86 : decode cX8_cover 86 = .ok (.aload_n 0, 1) := by decide +kernel
theorem dX8_cover_87 : decode cX8_cover 87 = .ok (.getfield 106, 3) := by decide +kernel
theorem dX8_cover_90 : decode cX8_cover 90 = .ok (.iload_n 3, 1) := by decide +kernel
theorem dX8_cover_91 : decode cX8_cover 91 = .ok (.ishr, 1) := by decide +kernel
theorem dX8_cover_92 : decode cX8_cover 92 = .ok (.iconst 1, 1) := by decide +kernel
theorem dX8_cover_93 : decode cX8_cover 93 = .ok (.iand, 1) := by decide +kernel
theorem dX8_cover_94 : decode cX8_cover 94 = .ok (.iload_n 2, 1) := by decide +kernel
theorem dX8_cover_95 : decode cX8_cover 95 = .ok (.ishl, 1) := by decide +kernel
theorem dX8_cover_96 : decode cX8_cover 96 = .ok (.ior, 1) := by decide +kernel
theorem dX8_cover_97 : decode cX8_cover 97 = .ok (.iastore, 1) := by decide +kernel
theorem dX8_cover_98 : decode cX8_cover 98 = .ok (.iinc 3 1, 3) := by decide +kernel
theorem dX8_cover_101 : decode cX8_cover 101 = .ok (.goto (-28), 3) := by decide +kernel
theorem dX8_cover_104 : decode cX8_cover 104 = .ok (.iinc 2 1, 3) := by decide +kernel
theorem dX8_cover_107 : decode cX8_cover 107 = .ok (.goto (-63), 3) := by decide +kernel
theorem dX8_cover_110 : decode cX8_cover 110 = .ok (.aload_n 0, 1) := by decide +kernel
theorem dX8_cover_111 : decode cX8_cover 111 = .ok (.invokevirtual 151, 3) := by decide +kernel
theorem dX8_cover_114 : decode cX8_cover 114 = .ok (.ireturn, 1) := by decide +kernel
theorem dX8_apart_0 : decode cX8_apart 0 = .ok (.iconst 0, 1) := by decide +kernel
theorem dX8_apart_1 : decode cX8_apart 1 = .ok (.istore_n 1, 1) := by decide +kernel
theorem dX8_apart_2 : decode cX8_apart 2 = .ok (.iload_n 1, 1) := by decide +kernel
theorem dX8_apart_3 : decode cX8_apart 3 = .ok (.aload_n 0, 1) := by decide +kernel
theorem dX8_apart_4 : decode cX8_apart 4 = .ok (.getfield 62, 3) := by decide +kernel
theorem dX8_apart_7 : decode cX8_apart 7 = .ok (.if_icmp .ge 66, 3) := by decide +kernel
theorem dX8_apart_10 : decode cX8_apart 10 = .ok (.aload_n 0, 1) := by decide +kernel
theorem dX8_apart_11 : decode cX8_apart 11 = .ok (.getfield 46, 3) := by decide +kernel
theorem dX8_apart_14 : decode cX8_apart 14 = .ok (.iload_n 1, 1) := by decide +kernel
theorem dX8_apart_15 : decode cX8_apart 15 = .ok (.iconst 0, 1) := by decide +kernel
theorem dX8_apart_16 : decode cX8_apart 16 = .ok (.iastore, 1) := by decide +kernel
theorem dX8_apart_17 : decode cX8_apart 17 = .ok (.iconst 0, 1) := by decide +kernel
theorem dX8_apart_18 : decode cX8_apart 18 = .ok (.istore_n 2, 1) := by decide +kernel
theorem dX8_apart_19 : decode cX8_apart 19 = .ok (.iload_n 2, 1) := by decide +kernel
theorem dX8_apart_20 : decode cX8_apart 20 = .ok (.aload_n 0, 1) := by decide +kernel
theorem dX8_apart_21 : decode cX8_apart 21 = .ok (.getfield 70, 3) := by decide +kernel
theorem dX8_apart_24 : decode cX8_apart 24 = .ok (.if_icmp .ge 43, 3) := by decide +kernel
theorem dX8_apart_27 : decode cX8_apart 27 = .ok (.aload_n 0, 1) := by decide +kernel
theorem dX8_apart_28 : decode cX8_apart 28 = .ok (.getfield 46, 3) := by decide +kernel
theorem dX8_apart_31 : decode cX8_apart 31 = .ok (.iload_n 1, 1) := by decide +kernel
theorem dX8_apart_32 : decode cX8_apart 32 = .ok (.dup2, 1) := by decide +kernel
theorem dX8_apart_33 : decode cX8_apart 33 = .ok (.iaload, 1) := by decide +kernel
theorem dX8_apart_34 : decode cX8_apart 34 = .ok (.aload_n 0, 1) := by decide +kernel
theorem dX8_apart_35 : decode cX8_apart 35 = .ok (.getfield 19, 3) := by decide +kernel
theorem dX8_apart_38 : decode cX8_apart 38 = .ok (.iload_n 2, 1) := by decide +kernel
theorem dX8_apart_39 : decode cX8_apart 39 = .ok (.iaload, 1) := by decide +kernel
theorem dX8_apart_40 : decode cX8_apart 40 = .ok (.ifCond .ge 18, 3) := by decide +kernel
theorem dX8_apart_43 : decode cX8_apart 43 = .ok (.aload_n 0, 1) := by decide +kernel
theorem dX8_apart_44 : decode cX8_apart 44 = .ok (.iload_n 2, 1) := by decide +kernel
theorem dX8_apart_45 : decode cX8_apart 45 = .ok (.iload_n 1, 1) := by decide +kernel
theorem dX8_apart_46 : decode cX8_apart 46 = .ok (.invokevirtual 135, 3) := by decide +kernel
theorem dX8_apart_49 : decode cX8_apart 49 = .ok (.ifCond .eq 9, 3) := by decide +kernel
theorem dX8_apart_52 : decode cX8_apart 52 = .ok (.iconst 1, 1) := by decide +kernel
theorem dX8_apart_53 : decode cX8_apart 53 = .ok (.iload_n 2, 1) := by decide +kernel
theorem dX8_apart_54 : decode cX8_apart 54 = .ok (.ishl, 1) := by decide +kernel
theorem dX8_apart_55 : decode cX8_apart 55 = .ok (.goto 4, 3) := by decide +kernel
theorem dX8_apart_58 : decode cX8_apart 58 = .ok (.iconst 0, 1) := by decide +kernel
theorem dX8_apart_59 : decode cX8_apart 59 = .ok (.ior, 1) := by decide +kernel
theorem dX8_apart_60 : decode cX8_apart 60 = .ok (.iastore, 1) := by decide +kernel
theorem dX8_apart_61 : decode cX8_apart 61 = .ok (.iinc 2 1, 3) := by decide +kernel
theorem dX8_apart_64 : decode cX8_apart 64 = .ok (.goto (-45), 3) := by decide +kernel
theorem dX8_apart_67 : decode cX8_apart 67 = .ok (.iinc 1 1, 3) := by decide +kernel
theorem dX8_apart_70 : decode cX8_apart 70 = .ok (.goto (-68), 3) := by decide +kernel
theorem dX8_apart_73 : decode cX8_apart 73 = .ok (.aload_n 0, 1) := by decide +kernel
theorem dX8_apart_74 : decode cX8_apart 74 = .ok (.iconst 0, 1) := by decide +kernel
theorem dX8_apart_75 : decode cX8_apart 75 = .ok (.putfield 148, 3) := by decide +kernel
theorem dX8_apart_78 : decode cX8_apart 78 = .ok (.iconst 0, 1) := by decide +kernel
theorem dX8_apart_79 : decode cX8_apart 79 = .ok (.istore_n 1, 1) := by decide +kernel
theorem dX8_apart_80 : decode cX8_apart 80 = .ok (.iload_n 1, 1) := by decide +kernel
theorem dX8_apart_81 : decode cX8_apart 81 = .ok (.aload_n 0, 1) := by decide +kernel
theorem dX8_apart_82 : decode cX8_apart 82 = .ok (.getfield 62, 3) := by decide +kernel
theorem dX8_apart_85 : decode cX8_apart 85 = .ok (.if_icmp .ge 54, 3) := by decide +kernel
theorem dX8_apart_88 : decode cX8_apart 88 = .ok (.iconst 0, 1) := by decide +kernel
theorem dX8_apart_89 : decode cX8_apart 89 = .ok (.istore_n 2, 1) := by decide +kernel
theorem dX8_apart_90 : decode cX8_apart 90 = .ok (.iload_n 2, 1) := by decide +kernel
theorem dX8_apart_91 : decode cX8_apart 91 = .ok (.iload_n 1, 1) := by decide +kernel
theorem dX8_apart_92 : decode cX8_apart 92 = .ok (.if_icmp .ge 41, 3) := by decide +kernel
theorem dX8_apart_95 : decode cX8_apart 95 = .ok (.aload_n 0, 1) := by decide +kernel
theorem dX8_apart_96 : decode cX8_apart 96 = .ok (.getfield 43, 3) := by decide +kernel
theorem dX8_apart_99 : decode cX8_apart 99 = .ok (.aload_n 0, 1) := by decide +kernel
theorem dX8_apart_100 : decode cX8_apart 100 = .ok (.getfield 148, 3) := by decide +kernel
theorem dX8_apart_103 : decode cX8_apart 103 = .ok (.aload_n 0, 1) := by decide +kernel
theorem dX8_apart_104 : decode cX8_apart 104 = .ok (.getfield 46, 3) := by decide +kernel
theorem dX8_apart_107 : decode cX8_apart 107 = .ok (.iload_n 2, 1) := by decide +kernel
theorem dX8_apart_108 : decode cX8_apart 108 = .ok (.iaload, 1) := by decide +kernel
theorem dX8_apart_109 : decode cX8_apart 109 = .ok (.aload_n 0, 1) := by decide +kernel
theorem dX8_apart_110 : decode cX8_apart 110 = .ok (.getfield 46, 3) := by decide +kernel
theorem dX8_apart_113 : decode cX8_apart 113 = .ok (.iload_n 1, 1) := by decide +kernel
theorem dX8_apart_114 : decode cX8_apart 114 = .ok (.iaload, 1) := by decide +kernel
theorem dX8_apart_115 : decode cX8_apart 115 = .ok (.ixor, 1) := by decide +kernel
theorem dX8_apart_116 : decode cX8_apart 116 = .ok (.iastore, 1) := by decide +kernel
theorem dX8_apart_117 : decode cX8_apart 117 = .ok (.aload_n 0, 1) := by decide +kernel
theorem dX8_apart_118 : decode cX8_apart 118 = .ok (.dup, 1) := by decide +kernel
theorem dX8_apart_119 : decode cX8_apart 119 = .ok (.getfield 148, 3) := by decide +kernel
theorem dX8_apart_122 : decode cX8_apart 122 = .ok (.iconst 1, 1) := by decide +kernel
theorem dX8_apart_123 : decode cX8_apart 123 = .ok (.iadd, 1) := by decide +kernel
theorem dX8_apart_124 : decode cX8_apart 124 = .ok (.putfield 148, 3) := by decide +kernel
theorem dX8_apart_127 : decode cX8_apart 127 = .ok (.iinc 2 1, 3) := by decide +kernel
theorem dX8_apart_130 : decode cX8_apart 130 = .ok (.goto (-40), 3) := by decide +kernel
theorem dX8_apart_133 : decode cX8_apart 133 = .ok (.iinc 1 1, 3) := by decide +kernel
theorem dX8_apart_136 : decode cX8_apart 136 = .ok (.goto (-56), 3) := by decide +kernel
theorem dX8_apart_139 : decode cX8_apart 139 = .ok (.aload_n 0, 1) := by decide +kernel
theorem dX8_apart_140 : decode cX8_apart 140 = .ok (.invokevirtual 151, 3) := by decide +kernel
theorem dX8_apart_143 : decode cX8_apart 143 = .ok (.ireturn, 1) := by decide +kernel
theorem dX8_slipped_0 : decode cX8_slipped 0 = .ok (.iload_n 0, 1) := by decide +kernel
theorem dX8_slipped_1 : decode cX8_slipped 1 = .ok (.bipush 48, 2) := by decide +kernel
theorem dX8_slipped_3 : decode cX8_slipped 3 = .ok (.bipush 57, 2) := by decide +kernel
theorem dX8_slipped_5 : decode cX8_slipped 5 = .ok (.invokestatic 66, 3) := by decide +kernel
theorem dX8_slipped_8 : decode cX8_slipped 8 = .ok (.ifCond .eq 18, 3) := by decide +kernel
theorem dX8_slipped_11 : decode cX8_slipped 11 = .ok (.iload_n 0, 1) := by decide +kernel
theorem dX8_slipped_12 : decode cX8_slipped 12 = .ok (.bipush 57, 2) := by decide +kernel
theorem dX8_slipped_14 : decode cX8_slipped 14 = .ok (.if_icmp .ne 8, 3) := by decide +kernel
theorem dX8_slipped_17 : decode cX8_slipped 17 = .ok (.bipush 48, 2) := by decide +kernel
theorem dX8_slipped_19 : decode cX8_slipped 19 = .ok (.goto 6, 3) := by decide +kernel
theorem dX8_slipped_22 : decode cX8_slipped 22 = .ok (.iload_n 0, 1) := by decide +kernel
theorem dX8_slipped_23 : decode cX8_slipped 23 = .ok (.iconst 1, 1) := by decide +kernel
theorem dX8_slipped_24 : decode cX8_slipped 24 = .ok (.iadd, 1) := by decide +kernel
theorem dX8_slipped_25 : decode cX8_slipped 25 = .ok (.ireturn, 1) := by decide +kernel
theorem dX8_slipped_26 : decode cX8_slipped 26 = .ok (.iload_n 0, 1) := by decide +kernel
theorem dX8_slipped_27 : decode cX8_slipped 27 = .ok (.bipush 120, 2) := by decide +kernel
theorem dX8_slipped_29 : decode cX8_slipped 29 = .ok (.if_icmp .ne 8, 3) := by decide +kernel
theorem dX8_slipped_32 : decode cX8_slipped 32 = .ok (.bipush 48, 2) := by decide +kernel
theorem dX8_slipped_34 : decode cX8_slipped 34 = .ok (.goto 16, 3) := by decide +kernel
theorem dX8_slipped_37 : decode cX8_slipped 37 = .ok (.iload_n 0, 1) := by decide +kernel
theorem dX8_slipped_38 : decode cX8_slipped 38 = .ok (.bipush 43, 2) := by decide +kernel
theorem dX8_slipped_40 : decode cX8_slipped 40 = .ok (.if_icmp .ne 8, 3) := by decide +kernel
theorem dX8_slipped_43 : decode cX8_slipped 43 = .ok (.bipush 45, 2) := by decide +kernel
theorem dX8_slipped_45 : decode cX8_slipped 45 = .ok (.goto 5, 3) := by decide +kernel
theorem dX8_slipped_48 : decode cX8_slipped 48 = .ok (.bipush 43, 2) := by decide +kernel
theorem dX8_slipped_50 : decode cX8_slipped 50 = .ok (.ireturn, 1) := by decide +kernel
theorem dX8_laySlips_0 : decode cX8_laySlips 0 = .ok (.aload_n 0, 1) := by decide +kernel
theorem dX8_laySlips_1 : decode cX8_laySlips 1 = .ok (.getfield 93, 3) := by decide +kernel
theorem dX8_laySlips_4 : decode cX8_laySlips 4 = .ok (.ifCond .eq 12, 3) := by decide +kernel
theorem dX8_laySlips_7 : decode cX8_laySlips 7 = .ok (.aload_n 0, 1) := by decide +kernel
theorem dX8_laySlips_8 : decode cX8_laySlips 8 = .ok (.getfield 154, 3) := by decide +kernel
theorem dX8_laySlips_11 : decode cX8_laySlips 11 = .ok (.iload_n 1, 1) := by decide +kernel
theorem dX8_laySlips_12 : decode cX8_laySlips 12 = .ok (.if_icmp .ne 4, 3) := by decide +kernel
theorem dX8_laySlips_15 : decode cX8_laySlips 15 = .ok (.return_, 1) := by decide +kernel
theorem dX8_laySlips_16 : decode cX8_laySlips 16 = .ok (.aload_n 0, 1) := by decide +kernel
theorem dX8_laySlips_17 : decode cX8_laySlips 17 = .ok (.iconst 1, 1) := by decide +kernel
theorem dX8_laySlips_18 : decode cX8_laySlips 18 = .ok (.putfield 93, 3) := by decide +kernel
theorem dX8_laySlips_21 : decode cX8_laySlips 21 = .ok (.aload_n 0, 1) := by decide +kernel
theorem dX8_laySlips_22 : decode cX8_laySlips 22 = .ok (.iload_n 1, 1) := by decide +kernel
theorem dX8_laySlips_23 : decode cX8_laySlips 23 = .ok (.putfield 154, 3) := by decide +kernel
theorem dX8_laySlips_26 : decode cX8_laySlips 26 = .ok (.aload_n 0, 1) := by decide +kernel
theorem dX8_laySlips_27 : decode cX8_laySlips 27 = .ok (.iconst 0, 1) := by decide +kernel
theorem dX8_laySlips_28 : decode cX8_laySlips 28 = .ok (.putfield 157, 3) := by decide +kernel
theorem dX8_laySlips_31 : decode cX8_laySlips 31 = .ok (.iconst 0, 1) := by decide +kernel
theorem dX8_laySlips_32 : decode cX8_laySlips 32 = .ok (.istore_n 2, 1) := by decide +kernel
theorem dX8_laySlips_33 : decode cX8_laySlips 33 = .ok (.aload_n 0, 1) := by decide +kernel
theorem dX8_laySlips_34 : decode cX8_laySlips 34 = .ok (.iload_n 1, 1) := by decide +kernel
theorem dX8_laySlips_35 : decode cX8_laySlips 35 = .ok (.invokevirtual 119, 3) := by decide +kernel
theorem dX8_laySlips_38 : decode cX8_laySlips 38 = .ok (.iconst 0, 1) := by decide +kernel
theorem dX8_laySlips_39 : decode cX8_laySlips 39 = .ok (.istore_n 3, 1) := by decide +kernel
theorem dX8_laySlips_40 : decode cX8_laySlips 40 = .ok (.iload_n 3, 1) := by decide +kernel
theorem dX8_laySlips_41 : decode cX8_laySlips 41 = .ok (.aload_n 0, 1) := by decide +kernel
theorem dX8_laySlips_42 : decode cX8_laySlips 42 = .ok (.getfield 70, 3) := by decide +kernel
theorem dX8_laySlips_45 : decode cX8_laySlips 45 = .ok (.if_icmp .ge 36, 3) := by decide +kernel
theorem dX8_laySlips_48 : decode cX8_laySlips 48 = .ok (.iload_n 2, 1) := by decide +kernel
theorem dX8_laySlips_49 : decode cX8_laySlips 49 = .ok (.aload_n 0, 1) := by decide +kernel
theorem dX8_laySlips_50 : decode cX8_laySlips 50 = .ok (.getfield 19, 3) := by decide +kernel
theorem dX8_laySlips_53 : decode cX8_laySlips 53 = .ok (.iload_n 3, 1) := by decide +kernel
theorem dX8_laySlips_54 : decode cX8_laySlips 54 = .ok (.iaload, 1) := by decide +kernel
theorem dX8_laySlips_55 : decode cX8_laySlips 55 = .ok (.ifCond .ge 17, 3) := by decide +kernel
theorem dX8_laySlips_58 : decode cX8_laySlips 58 = .ok (.aload_n 0, 1) := by decide +kernel
theorem dX8_laySlips_59 : decode cX8_laySlips 59 = .ok (.iload_n 3, 1) := by decide +kernel
theorem dX8_laySlips_60 : decode cX8_laySlips 60 = .ok (.invokevirtual 129, 3) := by decide +kernel
theorem dX8_laySlips_63 : decode cX8_laySlips 63 = .ok (.ifCond .eq 9, 3) := by decide +kernel
theorem dX8_laySlips_66 : decode cX8_laySlips 66 = .ok (.iconst 1, 1) := by decide +kernel
theorem dX8_laySlips_67 : decode cX8_laySlips 67 = .ok (.iload_n 3, 1) := by decide +kernel
theorem dX8_laySlips_68 : decode cX8_laySlips 68 = .ok (.ishl, 1) := by decide +kernel
theorem dX8_laySlips_69 : decode cX8_laySlips 69 = .ok (.goto 4, 3) := by decide +kernel
theorem dX8_laySlips_72 : decode cX8_laySlips 72 = .ok (.iconst 0, 1) := by decide +kernel
theorem dX8_laySlips_73 : decode cX8_laySlips 73 = .ok (.ior, 1) := by decide +kernel
theorem dX8_laySlips_74 : decode cX8_laySlips 74 = .ok (.istore_n 2, 1) := by decide +kernel
theorem dX8_laySlips_75 : decode cX8_laySlips 75 = .ok (.iinc 3 1, 3) := by decide +kernel
theorem dX8_laySlips_78 : decode cX8_laySlips 78 = .ok (.goto (-38), 3) := by decide +kernel
theorem dX8_laySlips_81 : decode cX8_laySlips 81 = .ok (.iconst 0, 1) := by decide +kernel
theorem dX8_laySlips_82 : decode cX8_laySlips 82 = .ok (.istore_n 3, 1) := by decide +kernel
theorem dX8_laySlips_83 : decode cX8_laySlips 83 = .ok (.iload_n 3, 1) := by decide +kernel
theorem dX8_laySlips_84 : decode cX8_laySlips 84 = .ok (.bipush 8, 2) := by decide +kernel
theorem dX8_laySlips_86 : decode cX8_laySlips 86 = .ok (.if_icmp .ge 199, 3) := by decide +kernel
theorem dX8_laySlips_89 : decode cX8_laySlips 89 = .ok (.bipush 8, 2) := by decide +kernel
theorem dX8_laySlips_91 : decode cX8_laySlips 91 = .ok (.iload_n 1, 1) := by decide +kernel
theorem dX8_laySlips_92 : decode cX8_laySlips 92 = .ok (.imul, 1) := by decide +kernel
theorem dX8_laySlips_93 : decode cX8_laySlips 93 = .ok (.iload_n 3, 1) := by decide +kernel
theorem dX8_laySlips_94 : decode cX8_laySlips 94 = .ok (.iadd, 1) := by decide +kernel
theorem dX8_laySlips_95 : decode cX8_laySlips 95 = .ok (.istore 4, 2) := by decide +kernel
theorem dX8_laySlips_97 : decode cX8_laySlips 97 = .ok (.iconst 0, 1) := by decide +kernel
theorem dX8_laySlips_98 : decode cX8_laySlips 98 = .ok (.istore 5, 2) := by decide +kernel
theorem dX8_laySlips_100 : decode cX8_laySlips 100 = .ok (.iload 5, 2) := by decide +kernel
theorem dX8_laySlips_102 : decode cX8_laySlips 102 = .ok (.aload_n 0, 1) := by decide +kernel
theorem dX8_laySlips_103 : decode cX8_laySlips 103 = .ok (.getfield 16, 3) := by decide +kernel
theorem dX8_laySlips_106 : decode cX8_laySlips 106 = .ok (.iload 4, 2) := by decide +kernel
theorem dX8_laySlips_108 : decode cX8_laySlips 108 = .ok (.iaload, 1) := by decide +kernel
theorem dX8_laySlips_109 : decode cX8_laySlips 109 = .ok (.if_icmp .ge 170, 3) := by decide +kernel
theorem dX8_laySlips_112 : decode cX8_laySlips 112 = .ok (.aload_n 0, 1) := by decide +kernel
theorem dX8_laySlips_113 : decode cX8_laySlips 113 = .ok (.getfield 7, 3) := by decide +kernel
theorem dX8_laySlips_116 : decode cX8_laySlips 116 = .ok (.bipush 40, 2) := by decide +kernel
theorem dX8_laySlips_118 : decode cX8_laySlips 118 = .ok (.iload 4, 2) := by decide +kernel
theorem dX8_laySlips_120 : decode cX8_laySlips 120 = .ok (.imul, 1) := by decide +kernel
theorem dX8_laySlips_121 : decode cX8_laySlips 121 = .ok (.iload 5, 2) := by decide +kernel
theorem dX8_laySlips_123 : decode cX8_laySlips 123 = .ok (.iadd, 1) := by decide +kernel
theorem dX8_laySlips_124 : decode cX8_laySlips 124 = .ok (.iaload, 1) := by decide +kernel
theorem dX8_laySlips_125 : decode cX8_laySlips 125 = .ok (.istore 6, 2) := by decide +kernel
theorem dX8_laySlips_127 : decode cX8_laySlips 127 = .ok (.iload 6, 2) := by decide +kernel
theorem dX8_laySlips_129 : decode cX8_laySlips 129 = .ok (.bipush 63, 2) := by decide +kernel
theorem dX8_laySlips_131 : decode cX8_laySlips 131 = .ok (.if_icmp .eq 142, 3) := by decide +kernel
theorem dX8_laySlips_134 : decode cX8_laySlips 134 = .ok (.iload 6, 2) := by decide +kernel
theorem dX8_laySlips_136 : decode cX8_laySlips 136 = .ok (.bipush 97, 2) := by decide +kernel
theorem dX8_laySlips_138 : decode cX8_laySlips 138 = .ok (.bipush 104, 2) := by decide +kernel
theorem dX8_laySlips_140 : decode cX8_laySlips 140 = .ok (.invokestatic 66, 3) := by decide +kernel
theorem dX8_laySlips_143 : decode cX8_laySlips 143 = .ok (.ifCond .ne 130, 3) := by decide +kernel
theorem dX8_laySlips_146 : decode cX8_laySlips 146 = .ok (.aload_n 0, 1) := by decide +kernel
theorem dX8_laySlips_147 : decode cX8_laySlips 147 = .ok (.getfield 49, 3) := by decide +kernel
theorem dX8_laySlips_150 : decode cX8_laySlips 150 = .ok (.aload_n 0, 1) := by decide +kernel
theorem dX8_laySlips_151 : decode cX8_laySlips 151 = .ok (.getfield 157, 3) := by decide +kernel
theorem dX8_laySlips_154 : decode cX8_laySlips 154 = .ok (.bipush 40, 2) := by decide +kernel
theorem dX8_laySlips_156 : decode cX8_laySlips 156 = .ok (.iload 4, 2) := by decide +kernel
theorem dX8_laySlips_158 : decode cX8_laySlips 158 = .ok (.imul, 1) := by decide +kernel
theorem dX8_laySlips_159 : decode cX8_laySlips 159 = .ok (.iload 5, 2) := by decide +kernel
theorem dX8_laySlips_161 : decode cX8_laySlips 161 = .ok (.iadd, 1) := by decide +kernel
theorem dX8_laySlips_162 : decode cX8_laySlips 162 = .ok (.iastore, 1) := by decide +kernel
theorem dX8_laySlips_163 : decode cX8_laySlips 163 = .ok (.aload_n 0, 1) := by decide +kernel
theorem dX8_laySlips_164 : decode cX8_laySlips 164 = .ok (.getfield 7, 3) := by decide +kernel
theorem dX8_laySlips_167 : decode cX8_laySlips 167 = .ok (.bipush 40, 2) := by decide +kernel
theorem dX8_laySlips_169 : decode cX8_laySlips 169 = .ok (.iload 4, 2) := by decide +kernel
theorem dX8_laySlips_171 : decode cX8_laySlips 171 = .ok (.imul, 1) := by decide +kernel
theorem dX8_laySlips_172 : decode cX8_laySlips 172 = .ok (.iload 5, 2) := by decide +kernel
theorem dX8_laySlips_174 : decode cX8_laySlips 174 = .ok (.iadd, 1) := by decide +kernel
theorem dX8_laySlips_175 : decode cX8_laySlips 175 = .ok (.iload 6, 2) := by decide +kernel
theorem dX8_laySlips_177 : decode cX8_laySlips 177 = .ok (.invokestatic 160, 3) := by decide +kernel
theorem dX8_laySlips_180 : decode cX8_laySlips 180 = .ok (.iastore, 1) := by decide +kernel
theorem dX8_laySlips_181 : decode cX8_laySlips 181 = .ok (.aload_n 0, 1) := by decide +kernel
theorem dX8_laySlips_182 : decode cX8_laySlips 182 = .ok (.getfield 52, 3) := by decide +kernel
theorem dX8_laySlips_185 : decode cX8_laySlips 185 = .ok (.aload_n 0, 1) := by decide +kernel
theorem dX8_laySlips_186 : decode cX8_laySlips 186 = .ok (.getfield 157, 3) := by decide +kernel
theorem dX8_laySlips_189 : decode cX8_laySlips 189 = .ok (.iconst 0, 1) := by decide +kernel
theorem dX8_laySlips_190 : decode cX8_laySlips 190 = .ok (.iastore, 1) := by decide +kernel
theorem dX8_laySlips_191 : decode cX8_laySlips 191 = .ok (.iconst 0, 1) := by decide +kernel
theorem dX8_laySlips_192 : decode cX8_laySlips 192 = .ok (.istore 7, 2) := by decide +kernel
theorem dX8_laySlips_194 : decode cX8_laySlips 194 = .ok (.iload 7, 2) := by decide +kernel
theorem dX8_laySlips_196 : decode cX8_laySlips 196 = .ok (.aload_n 0, 1) := by decide +kernel
theorem dX8_laySlips_197 : decode cX8_laySlips 197 = .ok (.getfield 70, 3) := by decide +kernel
theorem dX8_laySlips_200 : decode cX8_laySlips 200 = .ok (.if_icmp .ge 48, 3) := by decide +kernel
theorem dX8_laySlips_203 : decode cX8_laySlips 203 = .ok (.aload_n 0, 1) := by decide +kernel
theorem dX8_laySlips_204 : decode cX8_laySlips 204 = .ok (.getfield 52, 3) := by decide +kernel
theorem dX8_laySlips_207 : decode cX8_laySlips 207 = .ok (.aload_n 0, 1) := by decide +kernel
theorem dX8_laySlips_208 : decode cX8_laySlips 208 = .ok (.getfield 157, 3) := by decide +kernel
theorem dX8_laySlips_211 : decode cX8_laySlips 211 = .ok (.dup2, 1) := by decide +kernel
theorem dX8_laySlips_212 : decode cX8_laySlips 212 = .ok (.iaload, 1) := by decide +kernel
theorem dX8_laySlips_213 : decode cX8_laySlips 213 = .ok (.iload_n 2, 1) := by decide +kernel
theorem dX8_laySlips_214 : decode cX8_laySlips 214 = .ok (.iload 7, 2) := by decide +kernel
theorem dX8_laySlips_216 : decode cX8_laySlips 216 = .ok (.ishr, 1) := by decide +kernel
theorem dX8_laySlips_217 : decode cX8_laySlips 217 = .ok (.iconst 1, 1) := by decide +kernel
theorem dX8_laySlips_218 : decode cX8_laySlips 218 = .ok (.iand, 1) := by decide +kernel
theorem dX8_laySlips_219 : decode cX8_laySlips 219 = .ok (.iconst 1, 1) := by decide +kernel
theorem dX8_laySlips_220 : decode cX8_laySlips 220 = .ok (.if_icmp .ne 19, 3) := by decide +kernel
theorem dX8_laySlips_223 : decode cX8_laySlips 223 = .ok (.aload_n 0, 1) := by decide +kernel
theorem dX8_laySlips_224 : decode cX8_laySlips 224 = .ok (.iload 7, 2) := by decide +kernel
theorem dX8_laySlips_226 : decode cX8_laySlips 226 = .ok (.invokevirtual 129, 3) := by decide +kernel
theorem dX8_laySlips_229 : decode cX8_laySlips 229 = .ok (.ifCond .ne 10, 3) := by decide +kernel
theorem dX8_laySlips_232 : decode cX8_laySlips 232 = .ok (.iconst 1, 1) := by decide +kernel
theorem dX8_laySlips_233 : decode cX8_laySlips 233 = .ok (.iload 7, 2) := by decide +kernel
theorem dX8_laySlips_235 : decode cX8_laySlips 235 = .ok (.ishl, 1) := by decide +kernel
theorem dX8_laySlips_236 : decode cX8_laySlips 236 = .ok (.goto 4, 3) := by decide +kernel
theorem dX8_laySlips_239 : decode cX8_laySlips 239 = .ok (.iconst 0, 1) := by decide +kernel
theorem dX8_laySlips_240 : decode cX8_laySlips 240 = .ok (.ior, 1) := by decide +kernel
theorem dX8_laySlips_241 : decode cX8_laySlips 241 = .ok (.iastore, 1) := by decide +kernel
theorem dX8_laySlips_242 : decode cX8_laySlips 242 = .ok (.iinc 7 1, 3) := by decide +kernel
theorem dX8_laySlips_245 : decode cX8_laySlips 245 = .ok (.goto (-51), 3) := by decide +kernel
theorem dX8_laySlips_248 : decode cX8_laySlips 248 = .ok (.aload_n 0, 1) := by decide +kernel
theorem dX8_laySlips_249 : decode cX8_laySlips 249 = .ok (.getfield 7, 3) := by decide +kernel
theorem dX8_laySlips_252 : decode cX8_laySlips 252 = .ok (.bipush 40, 2) := by decide +kernel
theorem dX8_laySlips_254 : decode cX8_laySlips 254 = .ok (.iload 4, 2) := by decide +kernel
theorem dX8_laySlips_256 : decode cX8_laySlips 256 = .ok (.imul, 1) := by decide +kernel
theorem dX8_laySlips_257 : decode cX8_laySlips 257 = .ok (.iload 5, 2) := by decide +kernel
theorem dX8_laySlips_259 : decode cX8_laySlips 259 = .ok (.iadd, 1) := by decide +kernel
theorem dX8_laySlips_260 : decode cX8_laySlips 260 = .ok (.iload 6, 2) := by decide +kernel
theorem dX8_laySlips_262 : decode cX8_laySlips 262 = .ok (.iastore, 1) := by decide +kernel
theorem dX8_laySlips_263 : decode cX8_laySlips 263 = .ok (.aload_n 0, 1) := by decide +kernel
theorem dX8_laySlips_264 : decode cX8_laySlips 264 = .ok (.dup, 1) := by decide +kernel
theorem dX8_laySlips_265 : decode cX8_laySlips 265 = .ok (.getfield 157, 3) := by decide +kernel
theorem dX8_laySlips_268 : decode cX8_laySlips 268 = .ok (.iconst 1, 1) := by decide +kernel
theorem dX8_laySlips_269 : decode cX8_laySlips 269 = .ok (.iadd, 1) := by decide +kernel
theorem dX8_laySlips_270 : decode cX8_laySlips 270 = .ok (.putfield 157, 3) := by decide +kernel
theorem dX8_laySlips_273 : decode cX8_laySlips 273 = .ok (.iinc 5 1, 3) := by decide +kernel
theorem dX8_laySlips_276 : decode cX8_laySlips 276 = .ok (.goto (-176), 3) := by decide +kernel
theorem dX8_laySlips_279 : decode cX8_laySlips 279 = .ok (.iinc 3 1, 3) := by decide +kernel
theorem dX8_laySlips_282 : decode cX8_laySlips 282 = .ok (.goto (-199), 3) := by decide +kernel
theorem dX8_laySlips_285 : decode cX8_laySlips 285 = .ok (.return_, 1) := by decide +kernel
theorem dX8_slip_0 : decode cX8_slip 0 = .ok (.aload_n 0, 1) := by decide +kernel
theorem dX8_slip_1 : decode cX8_slip 1 = .ok (.iload_n 1, 1) := by decide +kernel
theorem dX8_slip_2 : decode cX8_slip 2 = .ok (.invokevirtual 100, 3) := by decide +kernel
theorem dX8_slip_5 : decode cX8_slip 5 = .ok (.ifCond .ne 5, 3) := by decide +kernel
theorem dX8_slip_8 : decode cX8_slip 8 = .ok (.iconst (-1), 1) := by decide +kernel
theorem dX8_slip_9 : decode cX8_slip 9 = .ok (.ireturn, 1) := by decide +kernel
theorem dX8_slip_10 : decode cX8_slip 10 = .ok (.aload_n 0, 1) := by decide +kernel
theorem dX8_slip_11 : decode cX8_slip 11 = .ok (.iload_n 1, 1) := by decide +kernel
theorem dX8_slip_12 : decode cX8_slip 12 = .ok (.invokevirtual 163, 3) := by decide +kernel
theorem dX8_slip_15 : decode cX8_slip 15 = .ok (.iload_n 2, 1) := by decide +kernel
theorem dX8_slip_16 : decode cX8_slip 16 = .ok (.iconst (-1), 1) := by decide +kernel
theorem dX8_slip_17 : decode cX8_slip 17 = .ok (.if_icmp .ne 10, 3) := by decide +kernel
theorem dX8_slip_20 : decode cX8_slip 20 = .ok (.aload_n 0, 1) := by decide +kernel
theorem dX8_slip_21 : decode cX8_slip 21 = .ok (.getfield 157, 3) := by decide +kernel
theorem dX8_slip_24 : decode cX8_slip 24 = .ok (.goto 47, 3) := by decide +kernel
theorem dX8_slip_27 : decode cX8_slip 27 = .ok (.iload_n 2, 1) := by decide +kernel
theorem dX8_slip_28 : decode cX8_slip 28 = .ok (.iconst 0, 1) := by decide +kernel
theorem dX8_slip_29 : decode cX8_slip 29 = .ok (.aload_n 0, 1) := by decide +kernel
theorem dX8_slip_30 : decode cX8_slip 30 = .ok (.getfield 157, 3) := by decide +kernel
theorem dX8_slip_33 : decode cX8_slip 33 = .ok (.iconst 1, 1) := by decide +kernel
theorem dX8_slip_34 : decode cX8_slip 34 = .ok (.isub, 1) := by decide +kernel
theorem dX8_slip_35 : decode cX8_slip 35 = .ok (.invokestatic 66, 3) := by decide +kernel
theorem dX8_slip_38 : decode cX8_slip 38 = .ok (.ifCond .eq 31, 3) := by decide +kernel
theorem dX8_slip_41 : decode cX8_slip 41 = .ok (.bipush 100, 2) := by decide +kernel
theorem dX8_slip_43 : decode cX8_slip 43 = .ok (.aload_n 0, 1) := by decide +kernel
theorem dX8_slip_44 : decode cX8_slip 44 = .ok (.getfield 49, 3) := by decide +kernel
theorem dX8_slip_47 : decode cX8_slip 47 = .ok (.iload_n 2, 1) := by decide +kernel
theorem dX8_slip_48 : decode cX8_slip 48 = .ok (.iaload, 1) := by decide +kernel
theorem dX8_slip_49 : decode cX8_slip 49 = .ok (.bipush 40, 2) := by decide +kernel
theorem dX8_slip_51 : decode cX8_slip 51 = .ok (.idiv, 1) := by decide +kernel
theorem dX8_slip_52 : decode cX8_slip 52 = .ok (.bipush 8, 2) := by decide +kernel
theorem dX8_slip_54 : decode cX8_slip 54 = .ok (.irem, 1) := by decide +kernel
theorem dX8_slip_55 : decode cX8_slip 55 = .ok (.imul, 1) := by decide +kernel
theorem dX8_slip_56 : decode cX8_slip 56 = .ok (.aload_n 0, 1) := by decide +kernel
theorem dX8_slip_57 : decode cX8_slip 57 = .ok (.getfield 49, 3) := by decide +kernel
theorem dX8_slip_60 : decode cX8_slip 60 = .ok (.iload_n 2, 1) := by decide +kernel
theorem dX8_slip_61 : decode cX8_slip 61 = .ok (.iaload, 1) := by decide +kernel
theorem dX8_slip_62 : decode cX8_slip 62 = .ok (.bipush 40, 2) := by decide +kernel
theorem dX8_slip_64 : decode cX8_slip 64 = .ok (.irem, 1) := by decide +kernel
theorem dX8_slip_65 : decode cX8_slip 65 = .ok (.iadd, 1) := by decide +kernel
theorem dX8_slip_66 : decode cX8_slip 66 = .ok (.goto 5, 3) := by decide +kernel
theorem dX8_slip_69 : decode cX8_slip 69 = .ok (.bipush (-6), 2) := by decide +kernel
theorem dX8_slip_71 : decode cX8_slip 71 = .ok (.ireturn, 1) := by decide +kernel
theorem dX8_noticed_0 : decode cX8_noticed 0 = .ok (.aload_n 0, 1) := by decide +kernel
theorem dX8_noticed_1 : decode cX8_noticed 1 = .ok (.iload_n 1, 1) := by decide +kernel
theorem dX8_noticed_2 : decode cX8_noticed 2 = .ok (.invokevirtual 100, 3) := by decide +kernel
theorem dX8_noticed_5 : decode cX8_noticed 5 = .ok (.ifCond .ne 5, 3) := by decide +kernel
theorem dX8_noticed_8 : decode cX8_noticed 8 = .ok (.iconst (-1), 1) := by decide +kernel
theorem dX8_noticed_9 : decode cX8_noticed 9 = .ok (.ireturn, 1) := by decide +kernel
theorem dX8_noticed_10 : decode cX8_noticed 10 = .ok (.aload_n 0, 1) := by decide +kernel
theorem dX8_noticed_11 : decode cX8_noticed 11 = .ok (.iload_n 1, 1) := by decide +kernel
theorem dX8_noticed_12 : decode cX8_noticed 12 = .ok (.invokevirtual 163, 3) := by decide +kernel
theorem dX8_noticed_15 : decode cX8_noticed 15 = .ok (.iload_n 2, 1) := by decide +kernel
theorem dX8_noticed_16 : decode cX8_noticed 16 = .ok (.iconst 0, 1) := by decide +kernel
theorem dX8_noticed_17 : decode cX8_noticed 17 = .ok (.aload_n 0, 1) := by decide +kernel
theorem dX8_noticed_18 : decode cX8_noticed 18 = .ok (.getfield 157, 3) := by decide +kernel
theorem dX8_noticed_21 : decode cX8_noticed 21 = .ok (.iconst 1, 1) := by decide +kernel
theorem dX8_noticed_22 : decode cX8_noticed 22 = .ok (.isub, 1) := by decide +kernel
theorem dX8_noticed_23 : decode cX8_noticed 23 = .ok (.invokestatic 66, 3) := by decide +kernel
theorem dX8_noticed_26 : decode cX8_noticed 26 = .ok (.ifCond .eq 12, 3) := by decide +kernel
theorem dX8_noticed_29 : decode cX8_noticed 29 = .ok (.aload_n 0, 1) := by decide +kernel
theorem dX8_noticed_30 : decode cX8_noticed 30 = .ok (.getfield 52, 3) := by decide +kernel
theorem dX8_noticed_33 : decode cX8_noticed 33 = .ok (.iload_n 2, 1) := by decide +kernel
theorem dX8_noticed_34 : decode cX8_noticed 34 = .ok (.iaload, 1) := by decide +kernel
theorem dX8_noticed_35 : decode cX8_noticed 35 = .ok (.goto 5, 3) := by decide +kernel
theorem dX8_noticed_38 : decode cX8_noticed 38 = .ok (.bipush (-2), 2) := by decide +kernel
theorem dX8_noticed_40 : decode cX8_noticed 40 = .ok (.ireturn, 1) := by decide +kernel
theorem dX8_unshown_0 : decode cX8_unshown 0 = .ok (.aload_n 0, 1) := by decide +kernel
theorem dX8_unshown_1 : decode cX8_unshown 1 = .ok (.iload_n 1, 1) := by decide +kernel
theorem dX8_unshown_2 : decode cX8_unshown 2 = .ok (.invokevirtual 100, 3) := by decide +kernel
theorem dX8_unshown_5 : decode cX8_unshown 5 = .ok (.ifCond .ne 5, 3) := by decide +kernel
theorem dX8_unshown_8 : decode cX8_unshown 8 = .ok (.iconst (-1), 1) := by decide +kernel
theorem dX8_unshown_9 : decode cX8_unshown 9 = .ok (.ireturn, 1) := by decide +kernel
theorem dX8_unshown_10 : decode cX8_unshown 10 = .ok (.aload_n 0, 1) := by decide +kernel
theorem dX8_unshown_11 : decode cX8_unshown 11 = .ok (.iload_n 1, 1) := by decide +kernel
theorem dX8_unshown_12 : decode cX8_unshown 12 = .ok (.invokevirtual 163, 3) := by decide +kernel
theorem dX8_unshown_15 : decode cX8_unshown 15 = .ok (.iconst 0, 1) := by decide +kernel
theorem dX8_unshown_16 : decode cX8_unshown 16 = .ok (.istore_n 3, 1) := by decide +kernel
theorem dX8_unshown_17 : decode cX8_unshown 17 = .ok (.iconst 0, 1) := by decide +kernel
theorem dX8_unshown_18 : decode cX8_unshown 18 = .ok (.istore 4, 2) := by decide +kernel
theorem dX8_unshown_20 : decode cX8_unshown 20 = .ok (.iload 4, 2) := by decide +kernel
theorem dX8_unshown_22 : decode cX8_unshown 22 = .ok (.aload_n 0, 1) := by decide +kernel
theorem dX8_unshown_23 : decode cX8_unshown 23 = .ok (.getfield 157, 3) := by decide +kernel
theorem dX8_unshown_26 : decode cX8_unshown 26 = .ok (.if_icmp .ge 30, 3) := by decide +kernel
theorem dX8_unshown_29 : decode cX8_unshown 29 = .ok (.aload_n 0, 1) := by decide +kernel
theorem dX8_unshown_30 : decode cX8_unshown 30 = .ok (.getfield 52, 3) := by decide +kernel
theorem dX8_unshown_33 : decode cX8_unshown 33 = .ok (.iload 4, 2) := by decide +kernel
theorem dX8_unshown_35 : decode cX8_unshown 35 = .ok (.iaload, 1) := by decide +kernel
theorem dX8_unshown_36 : decode cX8_unshown 36 = .ok (.ifCond .ne 14, 3) := by decide +kernel
theorem dX8_unshown_39 : decode cX8_unshown 39 = .ok (.iload_n 3, 1) := by decide +kernel
theorem dX8_unshown_40 : decode cX8_unshown 40 = .ok (.iload_n 2, 1) := by decide +kernel
theorem dX8_unshown_41 : decode cX8_unshown 41 = .ok (.if_icmp .ne 6, 3) := by decide +kernel
theorem dX8_unshown_44 : decode cX8_unshown 44 = .ok (.iload 4, 2) := by decide +kernel
theorem dX8_unshown_46 : decode cX8_unshown 46 = .ok (.ireturn, 1) := by decide +kernel
theorem dX8_unshown_47 : decode cX8_unshown 47 = .ok (.iinc 3 1, 3) := by decide +kernel
theorem dX8_unshown_50 : decode cX8_unshown 50 = .ok (.iinc 4 1, 3) := by decide +kernel
theorem dX8_unshown_53 : decode cX8_unshown 53 = .ok (.goto (-33), 3) := by decide +kernel
theorem dX8_unshown_56 : decode cX8_unshown 56 = .ok (.iload_n 2, 1) := by decide +kernel
theorem dX8_unshown_57 : decode cX8_unshown 57 = .ok (.iconst (-1), 1) := by decide +kernel
theorem dX8_unshown_58 : decode cX8_unshown 58 = .ok (.if_icmp .ne 7, 3) := by decide +kernel
theorem dX8_unshown_61 : decode cX8_unshown 61 = .ok (.iload_n 3, 1) := by decide +kernel
theorem dX8_unshown_62 : decode cX8_unshown 62 = .ok (.goto 5, 3) := by decide +kernel
theorem dX8_unshown_65 : decode cX8_unshown 65 = .ok (.bipush (-6), 2) := by decide +kernel
theorem dX8_unshown_67 : decode cX8_unshown 67 = .ok (.ireturn, 1) := by decide +kernel
theorem dX8_notice_0 : decode cX8_notice 0 = .ok (.aload_n 0, 1) := by decide +kernel
theorem dX8_notice_1 : decode cX8_notice 1 = .ok (.iload_n 1, 1) := by decide +kernel
theorem dX8_notice_2 : decode cX8_notice 2 = .ok (.invokevirtual 100, 3) := by decide +kernel
theorem dX8_notice_5 : decode cX8_notice 5 = .ok (.ifCond .ne 5, 3) := by decide +kernel
theorem dX8_notice_8 : decode cX8_notice 8 = .ok (.iconst (-1), 1) := by decide +kernel
theorem dX8_notice_9 : decode cX8_notice 9 = .ok (.ireturn, 1) := by decide +kernel
theorem dX8_notice_10 : decode cX8_notice 10 = .ok (.aload_n 0, 1) := by decide +kernel
theorem dX8_notice_11 : decode cX8_notice 11 = .ok (.iload_n 1, 1) := by decide +kernel
theorem dX8_notice_12 : decode cX8_notice 12 = .ok (.invokevirtual 163, 3) := by decide +kernel
theorem dX8_notice_15 : decode cX8_notice 15 = .ok (.aload_n 0, 1) := by decide +kernel
theorem dX8_notice_16 : decode cX8_notice 16 = .ok (.aload_n 0, 1) := by decide +kernel
theorem dX8_notice_17 : decode cX8_notice 17 = .ok (.getfield 157, 3) := by decide +kernel
theorem dX8_notice_20 : decode cX8_notice 20 = .ok (.putfield 148, 3) := by decide +kernel
theorem dX8_notice_23 : decode cX8_notice 23 = .ok (.iconst 0, 1) := by decide +kernel
theorem dX8_notice_24 : decode cX8_notice 24 = .ok (.istore_n 2, 1) := by decide +kernel
theorem dX8_notice_25 : decode cX8_notice 25 = .ok (.iload_n 2, 1) := by decide +kernel
theorem dX8_notice_26 : decode cX8_notice 26 = .ok (.aload_n 0, 1) := by decide +kernel
theorem dX8_notice_27 : decode cX8_notice 27 = .ok (.getfield 157, 3) := by decide +kernel
theorem dX8_notice_30 : decode cX8_notice 30 = .ok (.if_icmp .ge 21, 3) := by decide +kernel
theorem dX8_notice_33 : decode cX8_notice 33 = .ok (.aload_n 0, 1) := by decide +kernel
theorem dX8_notice_34 : decode cX8_notice 34 = .ok (.getfield 43, 3) := by decide +kernel
theorem dX8_notice_37 : decode cX8_notice 37 = .ok (.iload_n 2, 1) := by decide +kernel
theorem dX8_notice_38 : decode cX8_notice 38 = .ok (.aload_n 0, 1) := by decide +kernel
theorem dX8_notice_39 : decode cX8_notice 39 = .ok (.getfield 52, 3) := by decide +kernel
theorem dX8_notice_42 : decode cX8_notice 42 = .ok (.iload_n 2, 1) := by decide +kernel
theorem dX8_notice_43 : decode cX8_notice 43 = .ok (.iaload, 1) := by decide +kernel
theorem dX8_notice_44 : decode cX8_notice 44 = .ok (.iastore, 1) := by decide +kernel
theorem dX8_notice_45 : decode cX8_notice 45 = .ok (.iinc 2 1, 3) := by decide +kernel
theorem dX8_notice_48 : decode cX8_notice 48 = .ok (.goto (-23), 3) := by decide +kernel
theorem dX8_notice_51 : decode cX8_notice 51 = .ok (.aload_n 0, 1) := by decide +kernel
theorem dX8_notice_52 : decode cX8_notice 52 = .ok (.invokevirtual 151, 3) := by decide +kernel
theorem dX8_notice_55 : decode cX8_notice 55 = .ok (.ireturn, 1) := by decide +kernel
theorem dX8_mend_0 : decode cX8_mend 0 = .ok (.aload_n 0, 1) := by decide +kernel
theorem dX8_mend_1 : decode cX8_mend 1 = .ok (.iload_n 1, 1) := by decide +kernel
theorem dX8_mend_2 : decode cX8_mend 2 = .ok (.invokevirtual 132, 3) := by decide +kernel
theorem dX8_mend_5 : decode cX8_mend 5 = .ok (.ifCond .eq 11, 3) := by decide +kernel
theorem dX8_mend_8 : decode cX8_mend 8 = .ok (.aload_n 0, 1) := by decide +kernel
theorem dX8_mend_9 : decode cX8_mend 9 = .ok (.iload_n 2, 1) := by decide +kernel
theorem dX8_mend_10 : decode cX8_mend 10 = .ok (.invokevirtual 100, 3) := by decide +kernel
theorem dX8_mend_13 : decode cX8_mend 13 = .ok (.ifCond .ne 5, 3) := by decide +kernel
theorem dX8_mend_16 : decode cX8_mend 16 = .ok (.iconst (-1), 1) := by decide +kernel
theorem dX8_mend_17 : decode cX8_mend 17 = .ok (.ireturn, 1) := by decide +kernel
theorem dX8_mend_18 : decode cX8_mend 18 = .ok (.aload_n 0, 1) := by decide +kernel
theorem dX8_mend_19 : decode cX8_mend 19 = .ok (.iload_n 2, 1) := by decide +kernel
theorem dX8_mend_20 : decode cX8_mend 20 = .ok (.invokevirtual 119, 3) := by decide +kernel
theorem dX8_mend_23 : decode cX8_mend 23 = .ok (.aload_n 0, 1) := by decide +kernel
theorem dX8_mend_24 : decode cX8_mend 24 = .ok (.bipush 48, 2) := by decide +kernel
theorem dX8_mend_26 : decode cX8_mend 26 = .ok (.iload_n 1, 1) := by decide +kernel
theorem dX8_mend_27 : decode cX8_mend 27 = .ok (.iadd, 1) := by decide +kernel
theorem dX8_mend_28 : decode cX8_mend 28 = .ok (.iconst 0, 1) := by decide +kernel
theorem dX8_mend_29 : decode cX8_mend 29 = .ok (.invokevirtual 122, 3) := by decide +kernel
theorem dX8_mend_32 : decode cX8_mend 32 = .ok (.istore_n 3, 1) := by decide +kernel
theorem dX8_mend_33 : decode cX8_mend 33 = .ok (.iload_n 3, 1) := by decide +kernel
theorem dX8_mend_34 : decode cX8_mend 34 = .ok (.ifCond .ge 6, 3) := by decide +kernel
theorem dX8_mend_37 : decode cX8_mend 37 = .ok (.bipush (-5), 2) := by decide +kernel
theorem dX8_mend_39 : decode cX8_mend 39 = .ok (.ireturn, 1) := by decide +kernel
theorem dX8_mend_40 : decode cX8_mend 40 = .ok (.aload_n 0, 1) := by decide +kernel
theorem dX8_mend_41 : decode cX8_mend 41 = .ok (.getfield 22, 3) := by decide +kernel
theorem dX8_mend_44 : decode cX8_mend 44 = .ok (.iload_n 1, 1) := by decide +kernel
theorem dX8_mend_45 : decode cX8_mend 45 = .ok (.iaload, 1) := by decide +kernel
theorem dX8_mend_46 : decode cX8_mend 46 = .ok (.istore 4, 2) := by decide +kernel
theorem dX8_mend_48 : decode cX8_mend 48 = .ok (.aload_n 0, 1) := by decide +kernel
theorem dX8_mend_49 : decode cX8_mend 49 = .ok (.getfield 22, 3) := by decide +kernel
theorem dX8_mend_52 : decode cX8_mend 52 = .ok (.iload_n 1, 1) := by decide +kernel
theorem dX8_mend_53 : decode cX8_mend 53 = .ok (.iload_n 3, 1) := by decide +kernel
theorem dX8_mend_54 : decode cX8_mend 54 = .ok (.iastore, 1) := by decide +kernel
theorem dX8_mend_55 : decode cX8_mend 55 = .ok (.aload_n 0, 1) := by decide +kernel
theorem dX8_mend_56 : decode cX8_mend 56 = .ok (.iconst 0, 1) := by decide +kernel
theorem dX8_mend_57 : decode cX8_mend 57 = .ok (.putfield 93, 3) := by decide +kernel
theorem dX8_mend_60 : decode cX8_mend 60 = .ok (.iload 4, 2) := by decide +kernel
theorem dX8_mend_62 : decode cX8_mend 62 = .ok (.ireturn, 1) := by decide +kernel
theorem dX8_instead_0 : decode cX8_instead 0 = .ok (.aload_n 0, 1) := by decide +kernel
theorem dX8_instead_1 : decode cX8_instead 1 = .ok (.iload_n 1, 1) := by decide +kernel
theorem dX8_instead_2 : decode cX8_instead 2 = .ok (.invokevirtual 132, 3) := by decide +kernel
theorem dX8_instead_5 : decode cX8_instead 5 = .ok (.ifCond .eq 11, 3) := by decide +kernel
theorem dX8_instead_8 : decode cX8_instead 8 = .ok (.aload_n 0, 1) := by decide +kernel
theorem dX8_instead_9 : decode cX8_instead 9 = .ok (.iload_n 2, 1) := by decide +kernel
theorem dX8_instead_10 : decode cX8_instead 10 = .ok (.invokevirtual 100, 3) := by decide +kernel
theorem dX8_instead_13 : decode cX8_instead 13 = .ok (.ifCond .ne 5, 3) := by decide +kernel
theorem dX8_instead_16 : decode cX8_instead 16 = .ok (.iconst (-1), 1) := by decide +kernel
theorem dX8_instead_17 : decode cX8_instead 17 = .ok (.ireturn, 1) := by decide +kernel
theorem dX8_instead_18 : decode cX8_instead 18 = .ok (.aload_n 0, 1) := by decide +kernel
theorem dX8_instead_19 : decode cX8_instead 19 = .ok (.iload_n 2, 1) := by decide +kernel
theorem dX8_instead_20 : decode cX8_instead 20 = .ok (.invokevirtual 119, 3) := by decide +kernel
theorem dX8_instead_23 : decode cX8_instead 23 = .ok (.bipush (-6), 2) := by decide +kernel
theorem dX8_instead_25 : decode cX8_instead 25 = .ok (.istore_n 3, 1) := by decide +kernel
theorem dX8_instead_26 : decode cX8_instead 26 = .ok (.iconst 0, 1) := by decide +kernel
theorem dX8_instead_27 : decode cX8_instead 27 = .ok (.istore 4, 2) := by decide +kernel
theorem dX8_instead_29 : decode cX8_instead 29 = .ok (.iload 4, 2) := by decide +kernel
theorem dX8_instead_31 : decode cX8_instead 31 = .ok (.aload_n 0, 1) := by decide +kernel
theorem dX8_instead_32 : decode cX8_instead 32 = .ok (.getfield 16, 3) := by decide +kernel
theorem dX8_instead_35 : decode cX8_instead 35 = .ok (.bipush 48, 2) := by decide +kernel
theorem dX8_instead_37 : decode cX8_instead 37 = .ok (.iload_n 1, 1) := by decide +kernel
theorem dX8_instead_38 : decode cX8_instead 38 = .ok (.iadd, 1) := by decide +kernel
theorem dX8_instead_39 : decode cX8_instead 39 = .ok (.iaload, 1) := by decide +kernel
theorem dX8_instead_40 : decode cX8_instead 40 = .ok (.if_icmp .ge 118, 3) := by decide +kernel
theorem dX8_instead_43 : decode cX8_instead 43 = .ok (.iload_n 3, 1) := by decide +kernel
theorem dX8_instead_44 : decode cX8_instead 44 = .ok (.ifCond .ge 114, 3) := by decide +kernel
theorem dX8_instead_47 : decode cX8_instead 47 = .ok (.bipush 40, 2) := by decide +kernel
theorem dX8_instead_49 : decode cX8_instead 49 = .ok (.bipush 48, 2) := by decide +kernel
theorem dX8_instead_51 : decode cX8_instead 51 = .ok (.iload_n 1, 1) := by decide +kernel
theorem dX8_instead_52 : decode cX8_instead 52 = .ok (.iadd, 1) := by decide +kernel
theorem dX8_instead_53 : decode cX8_instead 53 = .ok (.imul, 1) := by decide +kernel
theorem dX8_instead_54 : decode cX8_instead 54 = .ok (.iload 4, 2) := by decide +kernel
theorem dX8_instead_56 : decode cX8_instead 56 = .ok (.iadd, 1) := by decide +kernel
theorem dX8_instead_57 : decode cX8_instead 57 = .ok (.istore 5, 2) := by decide +kernel
theorem dX8_instead_59 : decode cX8_instead 59 = .ok (.aload_n 0, 1) := by decide +kernel
theorem dX8_instead_60 : decode cX8_instead 60 = .ok (.getfield 7, 3) := by decide +kernel
theorem dX8_instead_63 : decode cX8_instead 63 = .ok (.iload 5, 2) := by decide +kernel
theorem dX8_instead_65 : decode cX8_instead 65 = .ok (.iaload, 1) := by decide +kernel
theorem dX8_instead_66 : decode cX8_instead 66 = .ok (.istore 6, 2) := by decide +kernel
theorem dX8_instead_68 : decode cX8_instead 68 = .ok (.iconst 0, 1) := by decide +kernel
theorem dX8_instead_69 : decode cX8_instead 69 = .ok (.istore 7, 2) := by decide +kernel
theorem dX8_instead_71 : decode cX8_instead 71 = .ok (.iload 7, 2) := by decide +kernel
theorem dX8_instead_73 : decode cX8_instead 73 = .ok (.bipush 8, 2) := by decide +kernel
theorem dX8_instead_75 : decode cX8_instead 75 = .ok (.if_icmp .ge 68, 3) := by decide +kernel
theorem dX8_instead_78 : decode cX8_instead 78 = .ok (.iload 6, 2) := by decide +kernel
theorem dX8_instead_80 : decode cX8_instead 80 = .ok (.bipush 97, 2) := by decide +kernel
theorem dX8_instead_82 : decode cX8_instead 82 = .ok (.bipush 104, 2) := by decide +kernel
theorem dX8_instead_84 : decode cX8_instead 84 = .ok (.invokestatic 66, 3) := by decide +kernel
theorem dX8_instead_87 : decode cX8_instead 87 = .ok (.ifCond .eq 56, 3) := by decide +kernel
theorem dX8_instead_90 : decode cX8_instead 90 = .ok (.iload_n 3, 1) := by decide +kernel
theorem dX8_instead_91 : decode cX8_instead 91 = .ok (.ifCond .ge 52, 3) := by decide +kernel
theorem dX8_instead_94 : decode cX8_instead 94 = .ok (.iload 7, 2) := by decide +kernel
theorem dX8_instead_96 : decode cX8_instead 96 = .ok (.iload 6, 2) := by decide +kernel
theorem dX8_instead_98 : decode cX8_instead 98 = .ok (.bipush 97, 2) := by decide +kernel
theorem dX8_instead_100 : decode cX8_instead 100 = .ok (.isub, 1) := by decide +kernel
theorem dX8_instead_101 : decode cX8_instead 101 = .ok (.if_icmp .eq 36, 3) := by decide +kernel
theorem dX8_instead_104 : decode cX8_instead 104 = .ok (.aload_n 0, 1) := by decide +kernel
theorem dX8_instead_105 : decode cX8_instead 105 = .ok (.getfield 7, 3) := by decide +kernel
theorem dX8_instead_108 : decode cX8_instead 108 = .ok (.iload 5, 2) := by decide +kernel
theorem dX8_instead_110 : decode cX8_instead 110 = .ok (.bipush 97, 2) := by decide +kernel
theorem dX8_instead_112 : decode cX8_instead 112 = .ok (.iload 7, 2) := by decide +kernel
theorem dX8_instead_114 : decode cX8_instead 114 = .ok (.iadd, 1) := by decide +kernel
theorem dX8_instead_115 : decode cX8_instead 115 = .ok (.iastore, 1) := by decide +kernel
theorem dX8_instead_116 : decode cX8_instead 116 = .ok (.aload_n 0, 1) := by decide +kernel
theorem dX8_instead_117 : decode cX8_instead 117 = .ok (.iload_n 1, 1) := by decide +kernel
theorem dX8_instead_118 : decode cX8_instead 118 = .ok (.invokevirtual 129, 3) := by decide +kernel
theorem dX8_instead_121 : decode cX8_instead 121 = .ok (.ifCond .eq 14, 3) := by decide +kernel
theorem dX8_instead_124 : decode cX8_instead 124 = .ok (.bipush 10, 2) := by decide +kernel
theorem dX8_instead_126 : decode cX8_instead 126 = .ok (.iload 4, 2) := by decide +kernel
theorem dX8_instead_128 : decode cX8_instead 128 = .ok (.imul, 1) := by decide +kernel
theorem dX8_instead_129 : decode cX8_instead 129 = .ok (.iload 7, 2) := by decide +kernel
theorem dX8_instead_131 : decode cX8_instead 131 = .ok (.iadd, 1) := by decide +kernel
theorem dX8_instead_132 : decode cX8_instead 132 = .ok (.goto 4, 3) := by decide +kernel
theorem dX8_instead_135 : decode cX8_instead 135 = .ok (.iload_n 3, 1) := by decide +kernel
theorem dX8_instead_136 : decode cX8_instead 136 = .ok (.istore_n 3, 1) := by decide +kernel
theorem dX8_instead_137 : decode cX8_instead 137 = .ok (.iinc 7 1, 3) := by decide +kernel
theorem dX8_instead_140 : decode cX8_instead 140 = .ok (.goto (-69), 3) := by decide +kernel
theorem dX8_instead_143 : decode cX8_instead 143 = .ok (.aload_n 0, 1) := by decide +kernel
theorem dX8_instead_144 : decode cX8_instead 144 = .ok (.getfield 7, 3) := by decide +kernel
theorem dX8_instead_147 : decode cX8_instead 147 = .ok (.iload 5, 2) := by decide +kernel
theorem dX8_instead_149 : decode cX8_instead 149 = .ok (.iload 6, 2) := by decide +kernel
theorem dX8_instead_151 : decode cX8_instead 151 = .ok (.iastore, 1) := by decide +kernel
theorem dX8_instead_152 : decode cX8_instead 152 = .ok (.iinc 4 1, 3) := by decide +kernel
theorem dX8_instead_155 : decode cX8_instead 155 = .ok (.goto (-126), 3) := by decide +kernel
theorem dX8_instead_158 : decode cX8_instead 158 = .ok (.iload_n 3, 1) := by decide +kernel
theorem dX8_instead_159 : decode cX8_instead 159 = .ok (.ireturn, 1) := by decide +kernel
theorem dX8_image_0 : decode cX8_image 0 = .ok (.iload_n 1, 1) := by decide +kernel
theorem dX8_image_1 : decode cX8_image 1 = .ok (.iconst 0, 1) := by decide +kernel
theorem dX8_image_2 : decode cX8_image 2 = .ok (.iconst 1, 1) := by decide +kernel
theorem dX8_image_3 : decode cX8_image 3 = .ok (.invokestatic 66, 3) := by decide +kernel
theorem dX8_image_6 : decode cX8_image 6 = .ok (.ifCond .ne 6, 3) := by decide +kernel
theorem dX8_image_9 : decode cX8_image 9 = .ok (.bipush (-2), 2) := by decide +kernel
theorem dX8_image_11 : decode cX8_image 11 = .ok (.ireturn, 1) := by decide +kernel
theorem dX8_image_12 : decode cX8_image 12 = .ok (.sipush 2500, 3) := by decide +kernel
theorem dX8_image_15 : decode cX8_image 15 = .ok (.iload_n 1, 1) := by decide +kernel
theorem dX8_image_16 : decode cX8_image 16 = .ok (.imul, 1) := by decide +kernel
theorem dX8_image_17 : decode cX8_image 17 = .ok (.istore_n 2, 1) := by decide +kernel
theorem dX8_image_18 : decode cX8_image 18 = .ok (.aload_n 0, 1) := by decide +kernel
theorem dX8_image_19 : decode cX8_image 19 = .ok (.getfield 55, 3) := by decide +kernel
theorem dX8_image_22 : decode cX8_image 22 = .ok (.iload_n 2, 1) := by decide +kernel
theorem dX8_image_23 : decode cX8_image 23 = .ok (.aload_n 0, 1) := by decide +kernel
theorem dX8_image_24 : decode cX8_image 24 = .ok (.getfield 62, 3) := by decide +kernel
theorem dX8_image_27 : decode cX8_image 27 = .ok (.iastore, 1) := by decide +kernel
theorem dX8_image_28 : decode cX8_image 28 = .ok (.aload_n 0, 1) := by decide +kernel
theorem dX8_image_29 : decode cX8_image 29 = .ok (.getfield 55, 3) := by decide +kernel
theorem dX8_image_32 : decode cX8_image 32 = .ok (.iload_n 2, 1) := by decide +kernel
theorem dX8_image_33 : decode cX8_image 33 = .ok (.iconst 1, 1) := by decide +kernel
theorem dX8_image_34 : decode cX8_image 34 = .ok (.iadd, 1) := by decide +kernel
theorem dX8_image_35 : decode cX8_image 35 = .ok (.aload_n 0, 1) := by decide +kernel
theorem dX8_image_36 : decode cX8_image 36 = .ok (.getfield 70, 3) := by decide +kernel
theorem dX8_image_39 : decode cX8_image 39 = .ok (.iastore, 1) := by decide +kernel
theorem dX8_image_40 : decode cX8_image 40 = .ok (.iconst 0, 1) := by decide +kernel
theorem dX8_image_41 : decode cX8_image 41 = .ok (.istore_n 3, 1) := by decide +kernel
theorem dX8_image_42 : decode cX8_image 42 = .ok (.iload_n 3, 1) := by decide +kernel
theorem dX8_image_43 : decode cX8_image 43 = .ok (.bipush 60, 2) := by decide +kernel
theorem dX8_image_45 : decode cX8_image 45 = .ok (.if_icmp .ge 25, 3) := by decide +kernel
theorem dX8_image_48 : decode cX8_image 48 = .ok (.aload_n 0, 1) := by decide +kernel
theorem dX8_image_49 : decode cX8_image 49 = .ok (.getfield 55, 3) := by decide +kernel
theorem dX8_image_52 : decode cX8_image 52 = .ok (.iload_n 2, 1) := by decide +kernel
theorem dX8_image_53 : decode cX8_image 53 = .ok (.iconst 2, 1) := by decide +kernel
theorem dX8_image_54 : decode cX8_image 54 = .ok (.iadd, 1) := by decide +kernel
theorem dX8_image_55 : decode cX8_image 55 = .ok (.iload_n 3, 1) := by decide +kernel
theorem dX8_image_56 : decode cX8_image 56 = .ok (.iadd, 1) := by decide +kernel
theorem dX8_image_57 : decode cX8_image 57 = .ok (.aload_n 0, 1) := by decide +kernel
theorem dX8_image_58 : decode cX8_image 58 = .ok (.getfield 16, 3) := by decide +kernel
theorem dX8_image_61 : decode cX8_image 61 = .ok (.iload_n 3, 1) := by decide +kernel
theorem dX8_image_62 : decode cX8_image 62 = .ok (.iaload, 1) := by decide +kernel
theorem dX8_image_63 : decode cX8_image 63 = .ok (.iastore, 1) := by decide +kernel
theorem dX8_image_64 : decode cX8_image 64 = .ok (.iinc 3 1, 3) := by decide +kernel
theorem dX8_image_67 : decode cX8_image 67 = .ok (.goto (-25), 3) := by decide +kernel
theorem dX8_image_70 : decode cX8_image 70 = .ok (.iconst 0, 1) := by decide +kernel
theorem dX8_image_71 : decode cX8_image 71 = .ok (.istore_n 3, 1) := by decide +kernel
theorem dX8_image_72 : decode cX8_image 72 = .ok (.iload_n 3, 1) := by decide +kernel
theorem dX8_image_73 : decode cX8_image 73 = .ok (.bipush 12, 2) := by decide +kernel
theorem dX8_image_75 : decode cX8_image 75 = .ok (.if_icmp .ge 43, 3) := by decide +kernel
theorem dX8_image_78 : decode cX8_image 78 = .ok (.aload_n 0, 1) := by decide +kernel
theorem dX8_image_79 : decode cX8_image 79 = .ok (.getfield 55, 3) := by decide +kernel
theorem dX8_image_82 : decode cX8_image 82 = .ok (.iload_n 2, 1) := by decide +kernel
theorem dX8_image_83 : decode cX8_image 83 = .ok (.bipush 62, 2) := by decide +kernel
theorem dX8_image_85 : decode cX8_image 85 = .ok (.iadd, 1) := by decide +kernel
theorem dX8_image_86 : decode cX8_image 86 = .ok (.iload_n 3, 1) := by decide +kernel
theorem dX8_image_87 : decode cX8_image 87 = .ok (.iadd, 1) := by decide +kernel
theorem dX8_image_88 : decode cX8_image 88 = .ok (.aload_n 0, 1) := by decide +kernel
theorem dX8_image_89 : decode cX8_image 89 = .ok (.getfield 19, 3) := by decide +kernel
theorem dX8_image_92 : decode cX8_image 92 = .ok (.iload_n 3, 1) := by decide +kernel
theorem dX8_image_93 : decode cX8_image 93 = .ok (.iaload, 1) := by decide +kernel
theorem dX8_image_94 : decode cX8_image 94 = .ok (.iastore, 1) := by decide +kernel
theorem dX8_image_95 : decode cX8_image 95 = .ok (.aload_n 0, 1) := by decide +kernel
theorem dX8_image_96 : decode cX8_image 96 = .ok (.getfield 55, 3) := by decide +kernel
theorem dX8_image_99 : decode cX8_image 99 = .ok (.iload_n 2, 1) := by decide +kernel
theorem dX8_image_100 : decode cX8_image 100 = .ok (.bipush 74, 2) := by decide +kernel
theorem dX8_image_102 : decode cX8_image 102 = .ok (.iadd, 1) := by decide +kernel
theorem dX8_image_103 : decode cX8_image 103 = .ok (.iload_n 3, 1) := by decide +kernel
theorem dX8_image_104 : decode cX8_image 104 = .ok (.iadd, 1) := by decide +kernel
theorem dX8_image_105 : decode cX8_image 105 = .ok (.aload_n 0, 1) := by decide +kernel
theorem dX8_image_106 : decode cX8_image 106 = .ok (.getfield 22, 3) := by decide +kernel
theorem dX8_image_109 : decode cX8_image 109 = .ok (.iload_n 3, 1) := by decide +kernel
theorem dX8_image_110 : decode cX8_image 110 = .ok (.iaload, 1) := by decide +kernel
theorem dX8_image_111 : decode cX8_image 111 = .ok (.iastore, 1) := by decide +kernel
theorem dX8_image_112 : decode cX8_image 112 = .ok (.iinc 3 1, 3) := by decide +kernel
theorem dX8_image_115 : decode cX8_image 115 = .ok (.goto (-43), 3) := by decide +kernel
theorem dX8_image_118 : decode cX8_image 118 = .ok (.iconst 0, 1) := by decide +kernel
theorem dX8_image_119 : decode cX8_image 119 = .ok (.istore_n 3, 1) := by decide +kernel
theorem dX8_image_120 : decode cX8_image 120 = .ok (.iload_n 3, 1) := by decide +kernel
theorem dX8_image_121 : decode cX8_image 121 = .ok (.sipush 2400, 3) := by decide +kernel
theorem dX8_image_124 : decode cX8_image 124 = .ok (.if_icmp .ge 26, 3) := by decide +kernel
theorem dX8_image_127 : decode cX8_image 127 = .ok (.aload_n 0, 1) := by decide +kernel
theorem dX8_image_128 : decode cX8_image 128 = .ok (.getfield 55, 3) := by decide +kernel
theorem dX8_image_131 : decode cX8_image 131 = .ok (.iload_n 2, 1) := by decide +kernel
theorem dX8_image_132 : decode cX8_image 132 = .ok (.bipush 86, 2) := by decide +kernel
theorem dX8_image_134 : decode cX8_image 134 = .ok (.iadd, 1) := by decide +kernel
theorem dX8_image_135 : decode cX8_image 135 = .ok (.iload_n 3, 1) := by decide +kernel
theorem dX8_image_136 : decode cX8_image 136 = .ok (.iadd, 1) := by decide +kernel
theorem dX8_image_137 : decode cX8_image 137 = .ok (.aload_n 0, 1) := by decide +kernel
theorem dX8_image_138 : decode cX8_image 138 = .ok (.getfield 7, 3) := by decide +kernel
theorem dX8_image_141 : decode cX8_image 141 = .ok (.iload_n 3, 1) := by decide +kernel
theorem dX8_image_142 : decode cX8_image 142 = .ok (.iaload, 1) := by decide +kernel
theorem dX8_image_143 : decode cX8_image 143 = .ok (.iastore, 1) := by decide +kernel
theorem dX8_image_144 : decode cX8_image 144 = .ok (.iinc 3 1, 3) := by decide +kernel
theorem dX8_image_147 : decode cX8_image 147 = .ok (.goto (-27), 3) := by decide +kernel
theorem dX8_image_150 : decode cX8_image 150 = .ok (.aload_n 0, 1) := by decide +kernel
theorem dX8_image_151 : decode cX8_image 151 = .ok (.getfield 58, 3) := by decide +kernel
theorem dX8_image_154 : decode cX8_image 154 = .ok (.iload_n 1, 1) := by decide +kernel
theorem dX8_image_155 : decode cX8_image 155 = .ok (.iconst 1, 1) := by decide +kernel
theorem dX8_image_156 : decode cX8_image 156 = .ok (.bastore, 1) := by decide +kernel
theorem dX8_image_157 : decode cX8_image 157 = .ok (.iconst 1, 1) := by decide +kernel
theorem dX8_image_158 : decode cX8_image 158 = .ok (.ireturn, 1) := by decide +kernel
theorem dX8_restore_0 : decode cX8_restore 0 = .ok (.iload_n 1, 1) := by decide +kernel
theorem dX8_restore_1 : decode cX8_restore 1 = .ok (.iconst 0, 1) := by decide +kernel
theorem dX8_restore_2 : decode cX8_restore 2 = .ok (.iconst 1, 1) := by decide +kernel
theorem dX8_restore_3 : decode cX8_restore 3 = .ok (.invokestatic 66, 3) := by decide +kernel
theorem dX8_restore_6 : decode cX8_restore 6 = .ok (.ifCond .ne 6, 3) := by decide +kernel
theorem dX8_restore_9 : decode cX8_restore 9 = .ok (.bipush (-2), 2) := by decide +kernel
theorem dX8_restore_11 : decode cX8_restore 11 = .ok (.ireturn, 1) := by decide +kernel
theorem dX8_restore_12 : decode cX8_restore 12 = .ok (.aload_n 0, 1) := by decide +kernel
theorem dX8_restore_13 : decode cX8_restore 13 = .ok (.getfield 58, 3) := by decide +kernel
theorem dX8_restore_16 : decode cX8_restore 16 = .ok (.iload_n 1, 1) := by decide +kernel
theorem dX8_restore_17 : decode cX8_restore 17 = .ok (.baload, 1) := by decide +kernel
theorem dX8_restore_18 : decode cX8_restore 18 = .ok (.ifCond .ne 6, 3) := by decide +kernel
theorem dX8_restore_21 : decode cX8_restore 21 = .ok (.bipush (-3), 2) := by decide +kernel
theorem dX8_restore_23 : decode cX8_restore 23 = .ok (.ireturn, 1) := by decide +kernel
theorem dX8_restore_24 : decode cX8_restore 24 = .ok (.sipush 2500, 3) := by decide +kernel
theorem dX8_restore_27 : decode cX8_restore 27 = .ok (.iload_n 1, 1) := by decide +kernel
theorem dX8_restore_28 : decode cX8_restore 28 = .ok (.imul, 1) := by decide +kernel
theorem dX8_restore_29 : decode cX8_restore 29 = .ok (.istore_n 2, 1) := by decide +kernel
theorem dX8_restore_30 : decode cX8_restore 30 = .ok (.aload_n 0, 1) := by decide +kernel
theorem dX8_restore_31 : decode cX8_restore 31 = .ok (.aload_n 0, 1) := by decide +kernel
theorem dX8_restore_32 : decode cX8_restore 32 = .ok (.getfield 55, 3) := by decide +kernel
theorem dX8_restore_35 : decode cX8_restore 35 = .ok (.iload_n 2, 1) := by decide +kernel
theorem dX8_restore_36 : decode cX8_restore 36 = .ok (.iaload, 1) := by decide +kernel
theorem dX8_restore_37 : decode cX8_restore 37 = .ok (.putfield 62, 3) := by decide +kernel
theorem dX8_restore_40 : decode cX8_restore 40 = .ok (.aload_n 0, 1) := by decide +kernel
theorem dX8_restore_41 : decode cX8_restore 41 = .ok (.aload_n 0, 1) := by decide +kernel
theorem dX8_restore_42 : decode cX8_restore 42 = .ok (.getfield 55, 3) := by decide +kernel
theorem dX8_restore_45 : decode cX8_restore 45 = .ok (.iload_n 2, 1) := by decide +kernel
theorem dX8_restore_46 : decode cX8_restore 46 = .ok (.iconst 1, 1) := by decide +kernel
theorem dX8_restore_47 : decode cX8_restore 47 = .ok (.iadd, 1) := by decide +kernel
theorem dX8_restore_48 : decode cX8_restore 48 = .ok (.iaload, 1) := by decide +kernel
theorem dX8_restore_49 : decode cX8_restore 49 = .ok (.putfield 70, 3) := by decide +kernel
theorem dX8_restore_52 : decode cX8_restore 52 = .ok (.iconst 0, 1) := by decide +kernel
theorem dX8_restore_53 : decode cX8_restore 53 = .ok (.istore_n 3, 1) := by decide +kernel
theorem dX8_restore_54 : decode cX8_restore 54 = .ok (.iload_n 3, 1) := by decide +kernel
theorem dX8_restore_55 : decode cX8_restore 55 = .ok (.bipush 60, 2) := by decide +kernel
theorem dX8_restore_57 : decode cX8_restore 57 = .ok (.if_icmp .ge 25, 3) := by decide +kernel
theorem dX8_restore_60 : decode cX8_restore 60 = .ok (.aload_n 0, 1) := by decide +kernel
theorem dX8_restore_61 : decode cX8_restore 61 = .ok (.getfield 16, 3) := by decide +kernel
theorem dX8_restore_64 : decode cX8_restore 64 = .ok (.iload_n 3, 1) := by decide +kernel
theorem dX8_restore_65 : decode cX8_restore 65 = .ok (.aload_n 0, 1) := by decide +kernel
theorem dX8_restore_66 : decode cX8_restore 66 = .ok (.getfield 55, 3) := by decide +kernel
theorem dX8_restore_69 : decode cX8_restore 69 = .ok (.iload_n 2, 1) := by decide +kernel
theorem dX8_restore_70 : decode cX8_restore 70 = .ok (.iconst 2, 1) := by decide +kernel
theorem dX8_restore_71 : decode cX8_restore 71 = .ok (.iadd, 1) := by decide +kernel
theorem dX8_restore_72 : decode cX8_restore 72 = .ok (.iload_n 3, 1) := by decide +kernel
theorem dX8_restore_73 : decode cX8_restore 73 = .ok (.iadd, 1) := by decide +kernel
theorem dX8_restore_74 : decode cX8_restore 74 = .ok (.iaload, 1) := by decide +kernel
theorem dX8_restore_75 : decode cX8_restore 75 = .ok (.iastore, 1) := by decide +kernel
theorem dX8_restore_76 : decode cX8_restore 76 = .ok (.iinc 3 1, 3) := by decide +kernel
theorem dX8_restore_79 : decode cX8_restore 79 = .ok (.goto (-25), 3) := by decide +kernel
theorem dX8_restore_82 : decode cX8_restore 82 = .ok (.iconst 0, 1) := by decide +kernel
theorem dX8_restore_83 : decode cX8_restore 83 = .ok (.istore_n 3, 1) := by decide +kernel
theorem dX8_restore_84 : decode cX8_restore 84 = .ok (.iload_n 3, 1) := by decide +kernel
theorem dX8_restore_85 : decode cX8_restore 85 = .ok (.bipush 12, 2) := by decide +kernel
theorem dX8_restore_87 : decode cX8_restore 87 = .ok (.if_icmp .ge 43, 3) := by decide +kernel
theorem dX8_restore_90 : decode cX8_restore 90 = .ok (.aload_n 0, 1) := by decide +kernel
theorem dX8_restore_91 : decode cX8_restore 91 = .ok (.getfield 19, 3) := by decide +kernel
theorem dX8_restore_94 : decode cX8_restore 94 = .ok (.iload_n 3, 1) := by decide +kernel
theorem dX8_restore_95 : decode cX8_restore 95 = .ok (.aload_n 0, 1) := by decide +kernel
theorem dX8_restore_96 : decode cX8_restore 96 = .ok (.getfield 55, 3) := by decide +kernel
theorem dX8_restore_99 : decode cX8_restore 99 = .ok (.iload_n 2, 1) := by decide +kernel
theorem dX8_restore_100 : decode cX8_restore 100 = .ok (.bipush 62, 2) := by decide +kernel
theorem dX8_restore_102 : decode cX8_restore 102 = .ok (.iadd, 1) := by decide +kernel
theorem dX8_restore_103 : decode cX8_restore 103 = .ok (.iload_n 3, 1) := by decide +kernel
theorem dX8_restore_104 : decode cX8_restore 104 = .ok (.iadd, 1) := by decide +kernel
theorem dX8_restore_105 : decode cX8_restore 105 = .ok (.iaload, 1) := by decide +kernel
theorem dX8_restore_106 : decode cX8_restore 106 = .ok (.iastore, 1) := by decide +kernel
theorem dX8_restore_107 : decode cX8_restore 107 = .ok (.aload_n 0, 1) := by decide +kernel
theorem dX8_restore_108 : decode cX8_restore 108 = .ok (.getfield 22, 3) := by decide +kernel
theorem dX8_restore_111 : decode cX8_restore 111 = .ok (.iload_n 3, 1) := by decide +kernel
theorem dX8_restore_112 : decode cX8_restore 112 = .ok (.aload_n 0, 1) := by decide +kernel
theorem dX8_restore_113 : decode cX8_restore 113 = .ok (.getfield 55, 3) := by decide +kernel
theorem dX8_restore_116 : decode cX8_restore 116 = .ok (.iload_n 2, 1) := by decide +kernel
theorem dX8_restore_117 : decode cX8_restore 117 = .ok (.bipush 74, 2) := by decide +kernel
theorem dX8_restore_119 : decode cX8_restore 119 = .ok (.iadd, 1) := by decide +kernel
theorem dX8_restore_120 : decode cX8_restore 120 = .ok (.iload_n 3, 1) := by decide +kernel
theorem dX8_restore_121 : decode cX8_restore 121 = .ok (.iadd, 1) := by decide +kernel
theorem dX8_restore_122 : decode cX8_restore 122 = .ok (.iaload, 1) := by decide +kernel
theorem dX8_restore_123 : decode cX8_restore 123 = .ok (.iastore, 1) := by decide +kernel
theorem dX8_restore_124 : decode cX8_restore 124 = .ok (.iinc 3 1, 3) := by decide +kernel
theorem dX8_restore_127 : decode cX8_restore 127 = .ok (.goto (-43), 3) := by decide +kernel
theorem dX8_restore_130 : decode cX8_restore 130 = .ok (.iconst 0, 1) := by decide +kernel
theorem dX8_restore_131 : decode cX8_restore 131 = .ok (.istore_n 3, 1) := by decide +kernel
theorem dX8_restore_132 : decode cX8_restore 132 = .ok (.iload_n 3, 1) := by decide +kernel
theorem dX8_restore_133 : decode cX8_restore 133 = .ok (.sipush 2400, 3) := by decide +kernel
theorem dX8_restore_136 : decode cX8_restore 136 = .ok (.if_icmp .ge 26, 3) := by decide +kernel
theorem dX8_restore_139 : decode cX8_restore 139 = .ok (.aload_n 0, 1) := by decide +kernel
theorem dX8_restore_140 : decode cX8_restore 140 = .ok (.getfield 7, 3) := by decide +kernel
theorem dX8_restore_143 : decode cX8_restore 143 = .ok (.iload_n 3, 1) := by decide +kernel
theorem dX8_restore_144 : decode cX8_restore 144 = .ok (.aload_n 0, 1) := by decide +kernel
theorem dX8_restore_145 : decode cX8_restore 145 = .ok (.getfield 55, 3) := by decide +kernel
theorem dX8_restore_148 : decode cX8_restore 148 = .ok (.iload_n 2, 1) := by decide +kernel
theorem dX8_restore_149 : decode cX8_restore 149 = .ok (.bipush 86, 2) := by decide +kernel
theorem dX8_restore_151 : decode cX8_restore 151 = .ok (.iadd, 1) := by decide +kernel
theorem dX8_restore_152 : decode cX8_restore 152 = .ok (.iload_n 3, 1) := by decide +kernel
theorem dX8_restore_153 : decode cX8_restore 153 = .ok (.iadd, 1) := by decide +kernel
theorem dX8_restore_154 : decode cX8_restore 154 = .ok (.iaload, 1) := by decide +kernel
theorem dX8_restore_155 : decode cX8_restore 155 = .ok (.iastore, 1) := by decide +kernel
theorem dX8_restore_156 : decode cX8_restore 156 = .ok (.iinc 3 1, 3) := by decide +kernel
theorem dX8_restore_159 : decode cX8_restore 159 = .ok (.goto (-27), 3) := by decide +kernel
theorem dX8_restore_162 : decode cX8_restore 162 = .ok (.iconst 0, 1) := by decide +kernel
theorem dX8_restore_163 : decode cX8_restore 163 = .ok (.istore_n 3, 1) := by decide +kernel
theorem dX8_restore_164 : decode cX8_restore 164 = .ok (.iload_n 3, 1) := by decide +kernel
theorem dX8_restore_165 : decode cX8_restore 165 = .ok (.bipush 60, 2) := by decide +kernel
theorem dX8_restore_167 : decode cX8_restore 167 = .ok (.if_icmp .ge 14, 3) := by decide +kernel
theorem dX8_restore_170 : decode cX8_restore 170 = .ok (.aload_n 0, 1) := by decide +kernel
theorem dX8_restore_171 : decode cX8_restore 171 = .ok (.iload_n 3, 1) := by decide +kernel
theorem dX8_restore_172 : decode cX8_restore 172 = .ok (.invokevirtual 85, 3) := by decide +kernel
theorem dX8_restore_175 : decode cX8_restore 175 = .ok (.iinc 3 1, 3) := by decide +kernel
theorem dX8_restore_178 : decode cX8_restore 178 = .ok (.goto (-14), 3) := by decide +kernel
theorem dX8_restore_181 : decode cX8_restore 181 = .ok (.aload_n 0, 1) := by decide +kernel
theorem dX8_restore_182 : decode cX8_restore 182 = .ok (.iconst 0, 1) := by decide +kernel
theorem dX8_restore_183 : decode cX8_restore 183 = .ok (.putfield 93, 3) := by decide +kernel
theorem dX8_restore_186 : decode cX8_restore 186 = .ok (.iconst 1, 1) := by decide +kernel
theorem dX8_restore_187 : decode cX8_restore 187 = .ok (.ireturn, 1) := by decide +kernel
theorem dX8_told_0 : decode cX8_told 0 = .ok (.iconst 0, 1) := by decide +kernel
theorem dX8_told_1 : decode cX8_told 1 = .ok (.istore_n 2, 1) := by decide +kernel
theorem dX8_told_2 : decode cX8_told 2 = .ok (.iconst 0, 1) := by decide +kernel
theorem dX8_told_3 : decode cX8_told 3 = .ok (.istore_n 3, 1) := by decide +kernel
theorem dX8_told_4 : decode cX8_told 4 = .ok (.iload_n 3, 1) := by decide +kernel
theorem dX8_told_5 : decode cX8_told 5 = .ok (.aload_n 0, 1) := by decide +kernel
theorem dX8_told_6 : decode cX8_told 6 = .ok (.getfield 70, 3) := by decide +kernel
theorem dX8_told_9 : decode cX8_told 9 = .ok (.if_icmp .ge 28, 3) := by decide +kernel
theorem dX8_told_12 : decode cX8_told 12 = .ok (.iload_n 2, 1) := by decide +kernel
theorem dX8_told_13 : decode cX8_told 13 = .ok (.aload_n 0, 1) := by decide +kernel
theorem dX8_told_14 : decode cX8_told 14 = .ok (.getfield 19, 3) := by decide +kernel
theorem dX8_told_17 : decode cX8_told 17 = .ok (.iload_n 3, 1) := by decide +kernel
theorem dX8_told_18 : decode cX8_told 18 = .ok (.iaload, 1) := by decide +kernel
theorem dX8_told_19 : decode cX8_told 19 = .ok (.ifCond .ge 9, 3) := by decide +kernel
theorem dX8_told_22 : decode cX8_told 22 = .ok (.iconst 1, 1) := by decide +kernel
theorem dX8_told_23 : decode cX8_told 23 = .ok (.iload_n 3, 1) := by decide +kernel
theorem dX8_told_24 : decode cX8_told 24 = .ok (.ishl, 1) := by decide +kernel
theorem dX8_told_25 : decode cX8_told 25 = .ok (.goto 4, 3) := by decide +kernel
theorem dX8_told_28 : decode cX8_told 28 = .ok (.iconst 0, 1) := by decide +kernel
theorem dX8_told_29 : decode cX8_told 29 = .ok (.ior, 1) := by decide +kernel
theorem dX8_told_30 : decode cX8_told 30 = .ok (.istore_n 2, 1) := by decide +kernel
theorem dX8_told_31 : decode cX8_told 31 = .ok (.iinc 3 1, 3) := by decide +kernel
theorem dX8_told_34 : decode cX8_told 34 = .ok (.goto (-30), 3) := by decide +kernel
theorem dX8_told_37 : decode cX8_told 37 = .ok (.iload_n 1, 1) := by decide +kernel
theorem dX8_told_38 : decode cX8_told 38 = .ok (.ifCond .ne 13, 3) := by decide +kernel
theorem dX8_told_41 : decode cX8_told 41 = .ok (.aload_n 0, 1) := by decide +kernel
theorem dX8_told_42 : decode cX8_told 42 = .ok (.getfield 16, 3) := by decide +kernel
theorem dX8_told_45 : decode cX8_told 45 = .ok (.bipush 60, 2) := by decide +kernel
theorem dX8_told_47 : decode cX8_told 47 = .ok (.iaload, 1) := by decide +kernel
theorem dX8_told_48 : decode cX8_told 48 = .ok (.goto 38, 3) := by decide +kernel
theorem dX8_told_51 : decode cX8_told 51 = .ok (.iload_n 1, 1) := by decide +kernel
theorem dX8_told_52 : decode cX8_told 52 = .ok (.iconst 1, 1) := by decide +kernel
theorem dX8_told_53 : decode cX8_told 53 = .ok (.if_icmp .ne 10, 3) := by decide +kernel
theorem dX8_told_56 : decode cX8_told 56 = .ok (.aload_n 0, 1) := by decide +kernel
theorem dX8_told_57 : decode cX8_told 57 = .ok (.getfield 62, 3) := by decide +kernel
theorem dX8_told_60 : decode cX8_told 60 = .ok (.goto 26, 3) := by decide +kernel
theorem dX8_told_63 : decode cX8_told 63 = .ok (.iload_n 1, 1) := by decide +kernel
theorem dX8_told_64 : decode cX8_told 64 = .ok (.iconst 2, 1) := by decide +kernel
theorem dX8_told_65 : decode cX8_told 65 = .ok (.if_icmp .ne 10, 3) := by decide +kernel
theorem dX8_told_68 : decode cX8_told 68 = .ok (.aload_n 0, 1) := by decide +kernel
theorem dX8_told_69 : decode cX8_told 69 = .ok (.getfield 70, 3) := by decide +kernel
theorem dX8_told_72 : decode cX8_told 72 = .ok (.goto 14, 3) := by decide +kernel
theorem dX8_told_75 : decode cX8_told 75 = .ok (.iload_n 1, 1) := by decide +kernel
theorem dX8_told_76 : decode cX8_told 76 = .ok (.iconst 3, 1) := by decide +kernel
theorem dX8_told_77 : decode cX8_told 77 = .ok (.if_icmp .ne 7, 3) := by decide +kernel
theorem dX8_told_80 : decode cX8_told 80 = .ok (.iload_n 2, 1) := by decide +kernel
theorem dX8_told_81 : decode cX8_told 81 = .ok (.goto 5, 3) := by decide +kernel
theorem dX8_told_84 : decode cX8_told 84 = .ok (.bipush (-2), 2) := by decide +kernel
theorem dX8_told_86 : decode cX8_told 86 = .ok (.ireturn, 1) := by decide +kernel
end
section
theorem dL_law_0 : decode cL_law 0 = .ok (.new 7, 3) := by decide +kernel
theorem dL_law_3 : decode cL_law 3 = .ok (.dup, 1) := by decide +kernel
theorem dL_law_4 : decode cL_law 4 = .ok (.invokespecial 9, 3) := by decide +kernel
theorem dL_law_7 : decode cL_law 7 = .ok (.astore_n 1, 1) := by decide +kernel
theorem dL_law_8 : decode cL_law 8 = .ok (.new 10, 3) := by decide +kernel
theorem dL_law_11 : decode cL_law 11 = .ok (.dup, 1) := by decide +kernel
theorem dL_law_12 : decode cL_law 12 = .ok (.invokespecial 12, 3) := by decide +kernel
theorem dL_law_15 : decode cL_law 15 = .ok (.astore_n 2, 1) := by decide +kernel
theorem dL_law_16 : decode cL_law 16 = .ok (.iconst 0, 1) := by decide +kernel
theorem dL_law_17 : decode cL_law 17 = .ok (.istore_n 3, 1) := by decide +kernel
theorem dL_law_18 : decode cL_law 18 = .ok (.iload_n 3, 1) := by decide +kernel
theorem dL_law_19 : decode cL_law 19 = .ok (.aload_n 0, 1) := by decide +kernel
theorem dL_law_20 : decode cL_law 20 = .ok (.arraylength, 1) := by decide +kernel
theorem dL_law_21 : decode cL_law 21 = .ok (.iconst 4, 1) := by decide +kernel
theorem dL_law_22 : decode cL_law 22 = .ok (.isub, 1) := by decide +kernel
theorem dL_law_23 : decode cL_law 23 = .ok (.if_icmp .gt 786, 3) := by decide +kernel
theorem dL_law_26 : decode cL_law 26 = .ok (.aload_n 0, 1) := by decide +kernel
theorem dL_law_27 : decode cL_law 27 = .ok (.iload_n 3, 1) := by decide +kernel
theorem dL_law_28 : decode cL_law 28 = .ok (.iaload, 1) := by decide +kernel
theorem dL_law_29 : decode cL_law 29 = .ok (.bipush 31, 2) := by decide +kernel
theorem dL_law_31 : decode cL_law 31 = .ok (.iand, 1) := by decide +kernel
theorem dL_law_32 : decode cL_law 32 = .ok (.tableswitch 771 0 24 #[116, 139, 152, 165, 178, 201, 244, 277, 300, 323, 356, 399, 422, 455, 478, 501, 514, 547, 580, 613, 636, 669, 702, 725, 748], 116) := by decide +kernel
theorem dL_law_148 : decode cL_law 148 = .ok (.aload_n 1, 1) := by decide +kernel
theorem dL_law_149 : decode cL_law 149 = .ok (.aload_n 0, 1) := by decide +kernel
theorem dL_law_150 : decode cL_law 150 = .ok (.iload_n 3, 1) := by decide +kernel
theorem dL_law_151 : decode cL_law 151 = .ok (.iconst 1, 1) := by decide +kernel
theorem dL_law_152 : decode cL_law 152 = .ok (.iadd, 1) := by decide +kernel
theorem dL_law_153 : decode cL_law 153 = .ok (.iaload, 1) := by decide +kernel
theorem dL_law_154 : decode cL_law 154 = .ok (.invokevirtual 13, 3) := by decide +kernel
theorem dL_law_157 : decode cL_law 157 = .ok (.aload_n 2, 1) := by decide +kernel
theorem dL_law_158 : decode cL_law 158 = .ok (.aload_n 0, 1) := by decide +kernel
theorem dL_law_159 : decode cL_law 159 = .ok (.iload_n 3, 1) := by decide +kernel
theorem dL_law_160 : decode cL_law 160 = .ok (.iconst 1, 1) := by decide +kernel
theorem dL_law_161 : decode cL_law 161 = .ok (.iadd, 1) := by decide +kernel
theorem dL_law_162 : decode cL_law 162 = .ok (.iaload, 1) := by decide +kernel
theorem dL_law_163 : decode cL_law 163 = .ok (.invokevirtual 17, 3) := by decide +kernel
theorem dL_law_166 : decode cL_law 166 = .ok (.if_icmp .eq 637, 3) := by decide +kernel
theorem dL_law_169 : decode cL_law 169 = .ok (.iconst 0, 1) := by decide +kernel
theorem dL_law_170 : decode cL_law 170 = .ok (.ireturn, 1) := by decide +kernel
theorem dL_law_171 : decode cL_law 171 = .ok (.aload_n 1, 1) := by decide +kernel
theorem dL_law_172 : decode cL_law 172 = .ok (.invokevirtual 18, 3) := by decide +kernel
theorem dL_law_175 : decode cL_law 175 = .ok (.aload_n 2, 1) := by decide +kernel
theorem dL_law_176 : decode cL_law 176 = .ok (.invokevirtual 22, 3) := by decide +kernel
theorem dL_law_179 : decode cL_law 179 = .ok (.if_icmp .eq 624, 3) := by decide +kernel
theorem dL_law_182 : decode cL_law 182 = .ok (.iconst 0, 1) := by decide +kernel
theorem dL_law_183 : decode cL_law 183 = .ok (.ireturn, 1) := by decide +kernel
theorem dL_law_184 : decode cL_law 184 = .ok (.aload_n 1, 1) := by decide +kernel
theorem dL_law_185 : decode cL_law 185 = .ok (.invokevirtual 23, 3) := by decide +kernel
theorem dL_law_188 : decode cL_law 188 = .ok (.aload_n 2, 1) := by decide +kernel
theorem dL_law_189 : decode cL_law 189 = .ok (.invokevirtual 26, 3) := by decide +kernel
theorem dL_law_192 : decode cL_law 192 = .ok (.if_icmp .eq 611, 3) := by decide +kernel
theorem dL_law_195 : decode cL_law 195 = .ok (.iconst 0, 1) := by decide +kernel
theorem dL_law_196 : decode cL_law 196 = .ok (.ireturn, 1) := by decide +kernel
theorem dL_law_197 : decode cL_law 197 = .ok (.aload_n 1, 1) := by decide +kernel
theorem dL_law_198 : decode cL_law 198 = .ok (.invokevirtual 27, 3) := by decide +kernel
theorem dL_law_201 : decode cL_law 201 = .ok (.aload_n 2, 1) := by decide +kernel
theorem dL_law_202 : decode cL_law 202 = .ok (.invokevirtual 30, 3) := by decide +kernel
theorem dL_law_205 : decode cL_law 205 = .ok (.if_icmp .eq 598, 3) := by decide +kernel
theorem dL_law_208 : decode cL_law 208 = .ok (.iconst 0, 1) := by decide +kernel
theorem dL_law_209 : decode cL_law 209 = .ok (.ireturn, 1) := by decide +kernel
theorem dL_law_210 : decode cL_law 210 = .ok (.aload_n 1, 1) := by decide +kernel
theorem dL_law_211 : decode cL_law 211 = .ok (.aload_n 0, 1) := by decide +kernel
theorem dL_law_212 : decode cL_law 212 = .ok (.iload_n 3, 1) := by decide +kernel
theorem dL_law_213 : decode cL_law 213 = .ok (.iconst 1, 1) := by decide +kernel
theorem dL_law_214 : decode cL_law 214 = .ok (.iadd, 1) := by decide +kernel
theorem dL_law_215 : decode cL_law 215 = .ok (.iaload, 1) := by decide +kernel
theorem dL_law_216 : decode cL_law 216 = .ok (.invokevirtual 31, 3) := by decide +kernel
theorem dL_law_219 : decode cL_law 219 = .ok (.aload_n 2, 1) := by decide +kernel
theorem dL_law_220 : decode cL_law 220 = .ok (.aload_n 0, 1) := by decide +kernel
theorem dL_law_221 : decode cL_law 221 = .ok (.iload_n 3, 1) := by decide +kernel
theorem dL_law_222 : decode cL_law 222 = .ok (.iconst 1, 1) := by decide +kernel
theorem dL_law_223 : decode cL_law 223 = .ok (.iadd, 1) := by decide +kernel
theorem dL_law_224 : decode cL_law 224 = .ok (.iaload, 1) := by decide +kernel
theorem dL_law_225 : decode cL_law 225 = .ok (.invokevirtual 34, 3) := by decide +kernel
theorem dL_law_228 : decode cL_law 228 = .ok (.if_icmp .eq 575, 3) := by decide +kernel
theorem dL_law_231 : decode cL_law 231 = .ok (.iconst 0, 1) := by decide +kernel
theorem dL_law_232 : decode cL_law 232 = .ok (.ireturn, 1) := by decide +kernel
theorem dL_law_233 : decode cL_law 233 = .ok (.aload_n 1, 1) := by decide +kernel
theorem dL_law_234 : decode cL_law 234 = .ok (.aload_n 0, 1) := by decide +kernel
theorem dL_law_235 : decode cL_law 235 = .ok (.iload_n 3, 1) := by decide +kernel
theorem dL_law_236 : decode cL_law 236 = .ok (.iconst 1, 1) := by decide +kernel
theorem dL_law_237 : decode cL_law 237 = .ok (.iadd, 1) := by decide +kernel
theorem dL_law_238 : decode cL_law 238 = .ok (.iaload, 1) := by decide +kernel
theorem dL_law_239 : decode cL_law 239 = .ok (.aload_n 0, 1) := by decide +kernel
theorem dL_law_240 : decode cL_law 240 = .ok (.iload_n 3, 1) := by decide +kernel
theorem dL_law_241 : decode cL_law 241 = .ok (.iconst 2, 1) := by decide +kernel
theorem dL_law_242 : decode cL_law 242 = .ok (.iadd, 1) := by decide +kernel
theorem dL_law_243 : decode cL_law 243 = .ok (.iaload, 1) := by decide +kernel
theorem dL_law_244 : decode cL_law 244 = .ok (.aload_n 0, 1) := by decide +kernel
theorem dL_law_245 : decode cL_law 245 = .ok (.iload_n 3, 1) := by decide +kernel
theorem dL_law_246 : decode cL_law 246 = .ok (.iconst 3, 1) := by decide +kernel
theorem dL_law_247 : decode cL_law 247 = .ok (.iadd, 1) := by decide +kernel
theorem dL_law_248 : decode cL_law 248 = .ok (.iaload, 1) := by decide +kernel
theorem dL_law_249 : decode cL_law 249 = .ok (.invokevirtual 35, 3) := by decide +kernel
theorem dL_law_252 : decode cL_law 252 = .ok (.aload_n 2, 1) := by decide +kernel
theorem dL_law_253 : decode cL_law 253 = .ok (.aload_n 0, 1) := by decide +kernel
theorem dL_law_254 : decode cL_law 254 = .ok (.iload_n 3, 1) := by decide +kernel
theorem dL_law_255 : decode cL_law 255 = .ok (.iconst 1, 1) := by decide +kernel
theorem dL_law_256 : decode cL_law 256 = .ok (.iadd, 1) := by decide +kernel
theorem dL_law_257 : decode cL_law 257 = .ok (.iaload, 1) := by decide +kernel
theorem dL_law_258 : decode cL_law 258 = .ok (.aload_n 0, 1) := by decide +kernel
theorem dL_law_259 : decode cL_law 259 = .ok (.iload_n 3, 1) := by decide +kernel
theorem dL_law_260 : decode cL_law 260 = .ok (.iconst 2, 1) := by decide +kernel
theorem dL_law_261 : decode cL_law 261 = .ok (.iadd, 1) := by decide +kernel
theorem dL_law_262 : decode cL_law 262 = .ok (.iaload, 1) := by decide +kernel
theorem dL_law_263 : decode cL_law 263 = .ok (.aload_n 0, 1) := by decide +kernel
theorem dL_law_264 : decode cL_law 264 = .ok (.iload_n 3, 1) := by decide +kernel
theorem dL_law_265 : decode cL_law 265 = .ok (.iconst 3, 1) := by decide +kernel
theorem dL_law_266 : decode cL_law 266 = .ok (.iadd, 1) := by decide +kernel
theorem dL_law_267 : decode cL_law 267 = .ok (.iaload, 1) := by decide +kernel
theorem dL_law_268 : decode cL_law 268 = .ok (.invokevirtual 39, 3) := by decide +kernel
theorem dL_law_271 : decode cL_law 271 = .ok (.if_icmp .eq 532, 3) := by decide +kernel
theorem dL_law_274 : decode cL_law 274 = .ok (.iconst 0, 1) := by decide +kernel
theorem dL_law_275 : decode cL_law 275 = .ok (.ireturn, 1) := by decide +kernel
theorem dL_law_276 : decode cL_law 276 = .ok (.aload_n 1, 1) := by decide +kernel
theorem dL_law_277 : decode cL_law 277 = .ok (.aload_n 0, 1) := by decide +kernel
theorem dL_law_278 : decode cL_law 278 = .ok (.iload_n 3, 1) := by decide +kernel
theorem dL_law_279 : decode cL_law 279 = .ok (.iconst 1, 1) := by decide +kernel
theorem dL_law_280 : decode cL_law 280 = .ok (.iadd, 1) := by decide +kernel
theorem dL_law_281 : decode cL_law 281 = .ok (.iaload, 1) := by decide +kernel
theorem dL_law_282 : decode cL_law 282 = .ok (.aload_n 0, 1) := by decide +kernel
theorem dL_law_283 : decode cL_law 283 = .ok (.iload_n 3, 1) := by decide +kernel
theorem dL_law_284 : decode cL_law 284 = .ok (.iconst 2, 1) := by decide +kernel
theorem dL_law_285 : decode cL_law 285 = .ok (.iadd, 1) := by decide +kernel
theorem dL_law_286 : decode cL_law 286 = .ok (.iaload, 1) := by decide +kernel
theorem dL_law_287 : decode cL_law 287 = .ok (.invokevirtual 40, 3) := by decide +kernel
theorem dL_law_290 : decode cL_law 290 = .ok (.aload_n 2, 1) := by decide +kernel
theorem dL_law_291 : decode cL_law 291 = .ok (.aload_n 0, 1) := by decide +kernel
theorem dL_law_292 : decode cL_law 292 = .ok (.iload_n 3, 1) := by decide +kernel
theorem dL_law_293 : decode cL_law 293 = .ok (.iconst 1, 1) := by decide +kernel
theorem dL_law_294 : decode cL_law 294 = .ok (.iadd, 1) := by decide +kernel
theorem dL_law_295 : decode cL_law 295 = .ok (.iaload, 1) := by decide +kernel
theorem dL_law_296 : decode cL_law 296 = .ok (.aload_n 0, 1) := by decide +kernel
theorem dL_law_297 : decode cL_law 297 = .ok (.iload_n 3, 1) := by decide +kernel
theorem dL_law_298 : decode cL_law 298 = .ok (.iconst 2, 1) := by decide +kernel
theorem dL_law_299 : decode cL_law 299 = .ok (.iadd, 1) := by decide +kernel
theorem dL_law_300 : decode cL_law 300 = .ok (.iaload, 1) := by decide +kernel
theorem dL_law_301 : decode cL_law 301 = .ok (.invokevirtual 44, 3) := by decide +kernel
theorem dL_law_304 : decode cL_law 304 = .ok (.if_icmp .eq 499, 3) := by decide +kernel
theorem dL_law_307 : decode cL_law 307 = .ok (.iconst 0, 1) := by decide +kernel
theorem dL_law_308 : decode cL_law 308 = .ok (.ireturn, 1) := by decide +kernel
theorem dL_law_309 : decode cL_law 309 = .ok (.aload_n 1, 1) := by decide +kernel
theorem dL_law_310 : decode cL_law 310 = .ok (.aload_n 0, 1) := by decide +kernel
theorem dL_law_311 : decode cL_law 311 = .ok (.iload_n 3, 1) := by decide +kernel
theorem dL_law_312 : decode cL_law 312 = .ok (.iconst 1, 1) := by decide +kernel
theorem dL_law_313 : decode cL_law 313 = .ok (.iadd, 1) := by decide +kernel
theorem dL_law_314 : decode cL_law 314 = .ok (.iaload, 1) := by decide +kernel
theorem dL_law_315 : decode cL_law 315 = .ok (.invokevirtual 45, 3) := by decide +kernel
theorem dL_law_318 : decode cL_law 318 = .ok (.aload_n 2, 1) := by decide +kernel
theorem dL_law_319 : decode cL_law 319 = .ok (.aload_n 0, 1) := by decide +kernel
theorem dL_law_320 : decode cL_law 320 = .ok (.iload_n 3, 1) := by decide +kernel
theorem dL_law_321 : decode cL_law 321 = .ok (.iconst 1, 1) := by decide +kernel
theorem dL_law_322 : decode cL_law 322 = .ok (.iadd, 1) := by decide +kernel
theorem dL_law_323 : decode cL_law 323 = .ok (.iaload, 1) := by decide +kernel
theorem dL_law_324 : decode cL_law 324 = .ok (.invokevirtual 48, 3) := by decide +kernel
theorem dL_law_327 : decode cL_law 327 = .ok (.if_icmp .eq 476, 3) := by decide +kernel
theorem dL_law_330 : decode cL_law 330 = .ok (.iconst 0, 1) := by decide +kernel
theorem dL_law_331 : decode cL_law 331 = .ok (.ireturn, 1) := by decide +kernel
theorem dL_law_332 : decode cL_law 332 = .ok (.aload_n 1, 1) := by decide +kernel
theorem dL_law_333 : decode cL_law 333 = .ok (.aload_n 0, 1) := by decide +kernel
theorem dL_law_334 : decode cL_law 334 = .ok (.iload_n 3, 1) := by decide +kernel
theorem dL_law_335 : decode cL_law 335 = .ok (.iconst 1, 1) := by decide +kernel
theorem dL_law_336 : decode cL_law 336 = .ok (.iadd, 1) := by decide +kernel
theorem dL_law_337 : decode cL_law 337 = .ok (.iaload, 1) := by decide +kernel
theorem dL_law_338 : decode cL_law 338 = .ok (.invokevirtual 49, 3) := by decide +kernel
theorem dL_law_341 : decode cL_law 341 = .ok (.aload_n 2, 1) := by decide +kernel
theorem dL_law_342 : decode cL_law 342 = .ok (.aload_n 0, 1) := by decide +kernel
theorem dL_law_343 : decode cL_law 343 = .ok (.iload_n 3, 1) := by decide +kernel
theorem dL_law_344 : decode cL_law 344 = .ok (.iconst 1, 1) := by decide +kernel
theorem dL_law_345 : decode cL_law 345 = .ok (.iadd, 1) := by decide +kernel
theorem dL_law_346 : decode cL_law 346 = .ok (.iaload, 1) := by decide +kernel
theorem dL_law_347 : decode cL_law 347 = .ok (.invokevirtual 52, 3) := by decide +kernel
theorem dL_law_350 : decode cL_law 350 = .ok (.if_icmp .eq 453, 3) := by decide +kernel
theorem dL_law_353 : decode cL_law 353 = .ok (.iconst 0, 1) := by decide +kernel
theorem dL_law_354 : decode cL_law 354 = .ok (.ireturn, 1) := by decide +kernel
theorem dL_law_355 : decode cL_law 355 = .ok (.aload_n 1, 1) := by decide +kernel
theorem dL_law_356 : decode cL_law 356 = .ok (.aload_n 0, 1) := by decide +kernel
theorem dL_law_357 : decode cL_law 357 = .ok (.iload_n 3, 1) := by decide +kernel
theorem dL_law_358 : decode cL_law 358 = .ok (.iconst 1, 1) := by decide +kernel
theorem dL_law_359 : decode cL_law 359 = .ok (.iadd, 1) := by decide +kernel
theorem dL_law_360 : decode cL_law 360 = .ok (.iaload, 1) := by decide +kernel
theorem dL_law_361 : decode cL_law 361 = .ok (.aload_n 0, 1) := by decide +kernel
theorem dL_law_362 : decode cL_law 362 = .ok (.iload_n 3, 1) := by decide +kernel
theorem dL_law_363 : decode cL_law 363 = .ok (.iconst 2, 1) := by decide +kernel
theorem dL_law_364 : decode cL_law 364 = .ok (.iadd, 1) := by decide +kernel
theorem dL_law_365 : decode cL_law 365 = .ok (.iaload, 1) := by decide +kernel
theorem dL_law_366 : decode cL_law 366 = .ok (.invokevirtual 53, 3) := by decide +kernel
theorem dL_law_369 : decode cL_law 369 = .ok (.aload_n 2, 1) := by decide +kernel
theorem dL_law_370 : decode cL_law 370 = .ok (.aload_n 0, 1) := by decide +kernel
theorem dL_law_371 : decode cL_law 371 = .ok (.iload_n 3, 1) := by decide +kernel
theorem dL_law_372 : decode cL_law 372 = .ok (.iconst 1, 1) := by decide +kernel
theorem dL_law_373 : decode cL_law 373 = .ok (.iadd, 1) := by decide +kernel
theorem dL_law_374 : decode cL_law 374 = .ok (.iaload, 1) := by decide +kernel
theorem dL_law_375 : decode cL_law 375 = .ok (.aload_n 0, 1) := by decide +kernel
theorem dL_law_376 : decode cL_law 376 = .ok (.iload_n 3, 1) := by decide +kernel
theorem dL_law_377 : decode cL_law 377 = .ok (.iconst 2, 1) := by decide +kernel
theorem dL_law_378 : decode cL_law 378 = .ok (.iadd, 1) := by decide +kernel
theorem dL_law_379 : decode cL_law 379 = .ok (.iaload, 1) := by decide +kernel
theorem dL_law_380 : decode cL_law 380 = .ok (.invokevirtual 56, 3) := by decide +kernel
theorem dL_law_383 : decode cL_law 383 = .ok (.if_icmp .eq 420, 3) := by decide +kernel
theorem dL_law_386 : decode cL_law 386 = .ok (.iconst 0, 1) := by decide +kernel
theorem dL_law_387 : decode cL_law 387 = .ok (.ireturn, 1) := by decide +kernel
theorem dL_law_388 : decode cL_law 388 = .ok (.aload_n 1, 1) := by decide +kernel
theorem dL_law_389 : decode cL_law 389 = .ok (.aload_n 0, 1) := by decide +kernel
theorem dL_law_390 : decode cL_law 390 = .ok (.iload_n 3, 1) := by decide +kernel
theorem dL_law_391 : decode cL_law 391 = .ok (.iconst 1, 1) := by decide +kernel
theorem dL_law_392 : decode cL_law 392 = .ok (.iadd, 1) := by decide +kernel
theorem dL_law_393 : decode cL_law 393 = .ok (.iaload, 1) := by decide +kernel
theorem dL_law_394 : decode cL_law 394 = .ok (.aload_n 0, 1) := by decide +kernel
theorem dL_law_395 : decode cL_law 395 = .ok (.iload_n 3, 1) := by decide +kernel
theorem dL_law_396 : decode cL_law 396 = .ok (.iconst 2, 1) := by decide +kernel
theorem dL_law_397 : decode cL_law 397 = .ok (.iadd, 1) := by decide +kernel
theorem dL_law_398 : decode cL_law 398 = .ok (.iaload, 1) := by decide +kernel
theorem dL_law_399 : decode cL_law 399 = .ok (.aload_n 0, 1) := by decide +kernel
theorem dL_law_400 : decode cL_law 400 = .ok (.iload_n 3, 1) := by decide +kernel
theorem dL_law_401 : decode cL_law 401 = .ok (.iconst 3, 1) := by decide +kernel
theorem dL_law_402 : decode cL_law 402 = .ok (.iadd, 1) := by decide +kernel
theorem dL_law_403 : decode cL_law 403 = .ok (.iaload, 1) := by decide +kernel
theorem dL_law_404 : decode cL_law 404 = .ok (.invokevirtual 57, 3) := by decide +kernel
theorem dL_law_407 : decode cL_law 407 = .ok (.aload_n 2, 1) := by decide +kernel
theorem dL_law_408 : decode cL_law 408 = .ok (.aload_n 0, 1) := by decide +kernel
theorem dL_law_409 : decode cL_law 409 = .ok (.iload_n 3, 1) := by decide +kernel
theorem dL_law_410 : decode cL_law 410 = .ok (.iconst 1, 1) := by decide +kernel
theorem dL_law_411 : decode cL_law 411 = .ok (.iadd, 1) := by decide +kernel
theorem dL_law_412 : decode cL_law 412 = .ok (.iaload, 1) := by decide +kernel
theorem dL_law_413 : decode cL_law 413 = .ok (.aload_n 0, 1) := by decide +kernel
theorem dL_law_414 : decode cL_law 414 = .ok (.iload_n 3, 1) := by decide +kernel
theorem dL_law_415 : decode cL_law 415 = .ok (.iconst 2, 1) := by decide +kernel
theorem dL_law_416 : decode cL_law 416 = .ok (.iadd, 1) := by decide +kernel
theorem dL_law_417 : decode cL_law 417 = .ok (.iaload, 1) := by decide +kernel
theorem dL_law_418 : decode cL_law 418 = .ok (.aload_n 0, 1) := by decide +kernel
theorem dL_law_419 : decode cL_law 419 = .ok (.iload_n 3, 1) := by decide +kernel
theorem dL_law_420 : decode cL_law 420 = .ok (.iconst 3, 1) := by decide +kernel
theorem dL_law_421 : decode cL_law 421 = .ok (.iadd, 1) := by decide +kernel
theorem dL_law_422 : decode cL_law 422 = .ok (.iaload, 1) := by decide +kernel
theorem dL_law_423 : decode cL_law 423 = .ok (.invokevirtual 60, 3) := by decide +kernel
theorem dL_law_426 : decode cL_law 426 = .ok (.if_icmp .eq 377, 3) := by decide +kernel
theorem dL_law_429 : decode cL_law 429 = .ok (.iconst 0, 1) := by decide +kernel
theorem dL_law_430 : decode cL_law 430 = .ok (.ireturn, 1) := by decide +kernel
theorem dL_law_431 : decode cL_law 431 = .ok (.aload_n 1, 1) := by decide +kernel
theorem dL_law_432 : decode cL_law 432 = .ok (.aload_n 0, 1) := by decide +kernel
theorem dL_law_433 : decode cL_law 433 = .ok (.iload_n 3, 1) := by decide +kernel
theorem dL_law_434 : decode cL_law 434 = .ok (.iconst 1, 1) := by decide +kernel
theorem dL_law_435 : decode cL_law 435 = .ok (.iadd, 1) := by decide +kernel
theorem dL_law_436 : decode cL_law 436 = .ok (.iaload, 1) := by decide +kernel
theorem dL_law_437 : decode cL_law 437 = .ok (.invokevirtual 61, 3) := by decide +kernel
theorem dL_law_440 : decode cL_law 440 = .ok (.aload_n 2, 1) := by decide +kernel
theorem dL_law_441 : decode cL_law 441 = .ok (.aload_n 0, 1) := by decide +kernel
theorem dL_law_442 : decode cL_law 442 = .ok (.iload_n 3, 1) := by decide +kernel
theorem dL_law_443 : decode cL_law 443 = .ok (.iconst 1, 1) := by decide +kernel
theorem dL_law_444 : decode cL_law 444 = .ok (.iadd, 1) := by decide +kernel
theorem dL_law_445 : decode cL_law 445 = .ok (.iaload, 1) := by decide +kernel
theorem dL_law_446 : decode cL_law 446 = .ok (.invokevirtual 64, 3) := by decide +kernel
theorem dL_law_449 : decode cL_law 449 = .ok (.if_icmp .eq 354, 3) := by decide +kernel
theorem dL_law_452 : decode cL_law 452 = .ok (.iconst 0, 1) := by decide +kernel
theorem dL_law_453 : decode cL_law 453 = .ok (.ireturn, 1) := by decide +kernel
theorem dL_law_454 : decode cL_law 454 = .ok (.aload_n 1, 1) := by decide +kernel
theorem dL_law_455 : decode cL_law 455 = .ok (.aload_n 0, 1) := by decide +kernel
theorem dL_law_456 : decode cL_law 456 = .ok (.iload_n 3, 1) := by decide +kernel
theorem dL_law_457 : decode cL_law 457 = .ok (.iconst 1, 1) := by decide +kernel
theorem dL_law_458 : decode cL_law 458 = .ok (.iadd, 1) := by decide +kernel
theorem dL_law_459 : decode cL_law 459 = .ok (.iaload, 1) := by decide +kernel
theorem dL_law_460 : decode cL_law 460 = .ok (.aload_n 0, 1) := by decide +kernel
theorem dL_law_461 : decode cL_law 461 = .ok (.iload_n 3, 1) := by decide +kernel
theorem dL_law_462 : decode cL_law 462 = .ok (.iconst 2, 1) := by decide +kernel
theorem dL_law_463 : decode cL_law 463 = .ok (.iadd, 1) := by decide +kernel
theorem dL_law_464 : decode cL_law 464 = .ok (.iaload, 1) := by decide +kernel
theorem dL_law_465 : decode cL_law 465 = .ok (.invokevirtual 65, 3) := by decide +kernel
theorem dL_law_468 : decode cL_law 468 = .ok (.aload_n 2, 1) := by decide +kernel
theorem dL_law_469 : decode cL_law 469 = .ok (.aload_n 0, 1) := by decide +kernel
theorem dL_law_470 : decode cL_law 470 = .ok (.iload_n 3, 1) := by decide +kernel
theorem dL_law_471 : decode cL_law 471 = .ok (.iconst 1, 1) := by decide +kernel
theorem dL_law_472 : decode cL_law 472 = .ok (.iadd, 1) := by decide +kernel
theorem dL_law_473 : decode cL_law 473 = .ok (.iaload, 1) := by decide +kernel
theorem dL_law_474 : decode cL_law 474 = .ok (.aload_n 0, 1) := by decide +kernel
theorem dL_law_475 : decode cL_law 475 = .ok (.iload_n 3, 1) := by decide +kernel
theorem dL_law_476 : decode cL_law 476 = .ok (.iconst 2, 1) := by decide +kernel
theorem dL_law_477 : decode cL_law 477 = .ok (.iadd, 1) := by decide +kernel
theorem dL_law_478 : decode cL_law 478 = .ok (.iaload, 1) := by decide +kernel
theorem dL_law_479 : decode cL_law 479 = .ok (.invokevirtual 68, 3) := by decide +kernel
theorem dL_law_482 : decode cL_law 482 = .ok (.if_icmp .eq 321, 3) := by decide +kernel
theorem dL_law_485 : decode cL_law 485 = .ok (.iconst 0, 1) := by decide +kernel
theorem dL_law_486 : decode cL_law 486 = .ok (.ireturn, 1) := by decide +kernel
theorem dL_law_487 : decode cL_law 487 = .ok (.aload_n 1, 1) := by decide +kernel
theorem dL_law_488 : decode cL_law 488 = .ok (.aload_n 0, 1) := by decide +kernel
theorem dL_law_489 : decode cL_law 489 = .ok (.iload_n 3, 1) := by decide +kernel
theorem dL_law_490 : decode cL_law 490 = .ok (.iconst 1, 1) := by decide +kernel
theorem dL_law_491 : decode cL_law 491 = .ok (.iadd, 1) := by decide +kernel
theorem dL_law_492 : decode cL_law 492 = .ok (.iaload, 1) := by decide +kernel
theorem dL_law_493 : decode cL_law 493 = .ok (.invokevirtual 69, 3) := by decide +kernel
theorem dL_law_496 : decode cL_law 496 = .ok (.aload_n 2, 1) := by decide +kernel
theorem dL_law_497 : decode cL_law 497 = .ok (.aload_n 0, 1) := by decide +kernel
theorem dL_law_498 : decode cL_law 498 = .ok (.iload_n 3, 1) := by decide +kernel
theorem dL_law_499 : decode cL_law 499 = .ok (.iconst 1, 1) := by decide +kernel
theorem dL_law_500 : decode cL_law 500 = .ok (.iadd, 1) := by decide +kernel
theorem dL_law_501 : decode cL_law 501 = .ok (.iaload, 1) := by decide +kernel
theorem dL_law_502 : decode cL_law 502 = .ok (.invokevirtual 72, 3) := by decide +kernel
theorem dL_law_505 : decode cL_law 505 = .ok (.if_icmp .eq 298, 3) := by decide +kernel
theorem dL_law_508 : decode cL_law 508 = .ok (.iconst 0, 1) := by decide +kernel
theorem dL_law_509 : decode cL_law 509 = .ok (.ireturn, 1) := by decide +kernel
theorem dL_law_510 : decode cL_law 510 = .ok (.aload_n 1, 1) := by decide +kernel
theorem dL_law_511 : decode cL_law 511 = .ok (.aload_n 0, 1) := by decide +kernel
theorem dL_law_512 : decode cL_law 512 = .ok (.iload_n 3, 1) := by decide +kernel
theorem dL_law_513 : decode cL_law 513 = .ok (.iconst 1, 1) := by decide +kernel
theorem dL_law_514 : decode cL_law 514 = .ok (.iadd, 1) := by decide +kernel
theorem dL_law_515 : decode cL_law 515 = .ok (.iaload, 1) := by decide +kernel
theorem dL_law_516 : decode cL_law 516 = .ok (.invokevirtual 73, 3) := by decide +kernel
theorem dL_law_519 : decode cL_law 519 = .ok (.aload_n 2, 1) := by decide +kernel
theorem dL_law_520 : decode cL_law 520 = .ok (.aload_n 0, 1) := by decide +kernel
theorem dL_law_521 : decode cL_law 521 = .ok (.iload_n 3, 1) := by decide +kernel
theorem dL_law_522 : decode cL_law 522 = .ok (.iconst 1, 1) := by decide +kernel
theorem dL_law_523 : decode cL_law 523 = .ok (.iadd, 1) := by decide +kernel
theorem dL_law_524 : decode cL_law 524 = .ok (.iaload, 1) := by decide +kernel
theorem dL_law_525 : decode cL_law 525 = .ok (.invokevirtual 76, 3) := by decide +kernel
theorem dL_law_528 : decode cL_law 528 = .ok (.if_icmp .eq 275, 3) := by decide +kernel
theorem dL_law_531 : decode cL_law 531 = .ok (.iconst 0, 1) := by decide +kernel
theorem dL_law_532 : decode cL_law 532 = .ok (.ireturn, 1) := by decide +kernel
theorem dL_law_533 : decode cL_law 533 = .ok (.aload_n 1, 1) := by decide +kernel
theorem dL_law_534 : decode cL_law 534 = .ok (.invokevirtual 77, 3) := by decide +kernel
theorem dL_law_537 : decode cL_law 537 = .ok (.aload_n 2, 1) := by decide +kernel
theorem dL_law_538 : decode cL_law 538 = .ok (.invokevirtual 80, 3) := by decide +kernel
theorem dL_law_541 : decode cL_law 541 = .ok (.if_icmp .eq 262, 3) := by decide +kernel
theorem dL_law_544 : decode cL_law 544 = .ok (.iconst 0, 1) := by decide +kernel
theorem dL_law_545 : decode cL_law 545 = .ok (.ireturn, 1) := by decide +kernel
theorem dL_law_546 : decode cL_law 546 = .ok (.aload_n 1, 1) := by decide +kernel
theorem dL_law_547 : decode cL_law 547 = .ok (.aload_n 0, 1) := by decide +kernel
theorem dL_law_548 : decode cL_law 548 = .ok (.iload_n 3, 1) := by decide +kernel
theorem dL_law_549 : decode cL_law 549 = .ok (.iconst 1, 1) := by decide +kernel
theorem dL_law_550 : decode cL_law 550 = .ok (.iadd, 1) := by decide +kernel
theorem dL_law_551 : decode cL_law 551 = .ok (.iaload, 1) := by decide +kernel
theorem dL_law_552 : decode cL_law 552 = .ok (.aload_n 0, 1) := by decide +kernel
theorem dL_law_553 : decode cL_law 553 = .ok (.iload_n 3, 1) := by decide +kernel
theorem dL_law_554 : decode cL_law 554 = .ok (.iconst 2, 1) := by decide +kernel
theorem dL_law_555 : decode cL_law 555 = .ok (.iadd, 1) := by decide +kernel
theorem dL_law_556 : decode cL_law 556 = .ok (.iaload, 1) := by decide +kernel
theorem dL_law_557 : decode cL_law 557 = .ok (.invokevirtual 81, 3) := by decide +kernel
theorem dL_law_560 : decode cL_law 560 = .ok (.aload_n 2, 1) := by decide +kernel
theorem dL_law_561 : decode cL_law 561 = .ok (.aload_n 0, 1) := by decide +kernel
theorem dL_law_562 : decode cL_law 562 = .ok (.iload_n 3, 1) := by decide +kernel
theorem dL_law_563 : decode cL_law 563 = .ok (.iconst 1, 1) := by decide +kernel
theorem dL_law_564 : decode cL_law 564 = .ok (.iadd, 1) := by decide +kernel
theorem dL_law_565 : decode cL_law 565 = .ok (.iaload, 1) := by decide +kernel
theorem dL_law_566 : decode cL_law 566 = .ok (.aload_n 0, 1) := by decide +kernel
theorem dL_law_567 : decode cL_law 567 = .ok (.iload_n 3, 1) := by decide +kernel
theorem dL_law_568 : decode cL_law 568 = .ok (.iconst 2, 1) := by decide +kernel
theorem dL_law_569 : decode cL_law 569 = .ok (.iadd, 1) := by decide +kernel
theorem dL_law_570 : decode cL_law 570 = .ok (.iaload, 1) := by decide +kernel
theorem dL_law_571 : decode cL_law 571 = .ok (.invokevirtual 84, 3) := by decide +kernel
theorem dL_law_574 : decode cL_law 574 = .ok (.if_icmp .eq 229, 3) := by decide +kernel
theorem dL_law_577 : decode cL_law 577 = .ok (.iconst 0, 1) := by decide +kernel
theorem dL_law_578 : decode cL_law 578 = .ok (.ireturn, 1) := by decide +kernel
theorem dL_law_579 : decode cL_law 579 = .ok (.aload_n 1, 1) := by decide +kernel
theorem dL_law_580 : decode cL_law 580 = .ok (.aload_n 0, 1) := by decide +kernel
theorem dL_law_581 : decode cL_law 581 = .ok (.iload_n 3, 1) := by decide +kernel
theorem dL_law_582 : decode cL_law 582 = .ok (.iconst 1, 1) := by decide +kernel
theorem dL_law_583 : decode cL_law 583 = .ok (.iadd, 1) := by decide +kernel
theorem dL_law_584 : decode cL_law 584 = .ok (.iaload, 1) := by decide +kernel
theorem dL_law_585 : decode cL_law 585 = .ok (.aload_n 0, 1) := by decide +kernel
theorem dL_law_586 : decode cL_law 586 = .ok (.iload_n 3, 1) := by decide +kernel
theorem dL_law_587 : decode cL_law 587 = .ok (.iconst 2, 1) := by decide +kernel
theorem dL_law_588 : decode cL_law 588 = .ok (.iadd, 1) := by decide +kernel
theorem dL_law_589 : decode cL_law 589 = .ok (.iaload, 1) := by decide +kernel
theorem dL_law_590 : decode cL_law 590 = .ok (.invokevirtual 85, 3) := by decide +kernel
theorem dL_law_593 : decode cL_law 593 = .ok (.aload_n 2, 1) := by decide +kernel
theorem dL_law_594 : decode cL_law 594 = .ok (.aload_n 0, 1) := by decide +kernel
theorem dL_law_595 : decode cL_law 595 = .ok (.iload_n 3, 1) := by decide +kernel
theorem dL_law_596 : decode cL_law 596 = .ok (.iconst 1, 1) := by decide +kernel
theorem dL_law_597 : decode cL_law 597 = .ok (.iadd, 1) := by decide +kernel
theorem dL_law_598 : decode cL_law 598 = .ok (.iaload, 1) := by decide +kernel
theorem dL_law_599 : decode cL_law 599 = .ok (.aload_n 0, 1) := by decide +kernel
theorem dL_law_600 : decode cL_law 600 = .ok (.iload_n 3, 1) := by decide +kernel
theorem dL_law_601 : decode cL_law 601 = .ok (.iconst 2, 1) := by decide +kernel
theorem dL_law_602 : decode cL_law 602 = .ok (.iadd, 1) := by decide +kernel
theorem dL_law_603 : decode cL_law 603 = .ok (.iaload, 1) := by decide +kernel
theorem dL_law_604 : decode cL_law 604 = .ok (.invokevirtual 88, 3) := by decide +kernel
theorem dL_law_607 : decode cL_law 607 = .ok (.if_icmp .eq 196, 3) := by decide +kernel
theorem dL_law_610 : decode cL_law 610 = .ok (.iconst 0, 1) := by decide +kernel
theorem dL_law_611 : decode cL_law 611 = .ok (.ireturn, 1) := by decide +kernel
theorem dL_law_612 : decode cL_law 612 = .ok (.aload_n 1, 1) := by decide +kernel
theorem dL_law_613 : decode cL_law 613 = .ok (.aload_n 0, 1) := by decide +kernel
theorem dL_law_614 : decode cL_law 614 = .ok (.iload_n 3, 1) := by decide +kernel
theorem dL_law_615 : decode cL_law 615 = .ok (.iconst 1, 1) := by decide +kernel
theorem dL_law_616 : decode cL_law 616 = .ok (.iadd, 1) := by decide +kernel
theorem dL_law_617 : decode cL_law 617 = .ok (.iaload, 1) := by decide +kernel
theorem dL_law_618 : decode cL_law 618 = .ok (.aload_n 0, 1) := by decide +kernel
theorem dL_law_619 : decode cL_law 619 = .ok (.iload_n 3, 1) := by decide +kernel
theorem dL_law_620 : decode cL_law 620 = .ok (.iconst 2, 1) := by decide +kernel
theorem dL_law_621 : decode cL_law 621 = .ok (.iadd, 1) := by decide +kernel
theorem dL_law_622 : decode cL_law 622 = .ok (.iaload, 1) := by decide +kernel
theorem dL_law_623 : decode cL_law 623 = .ok (.invokevirtual 89, 3) := by decide +kernel
theorem dL_law_626 : decode cL_law 626 = .ok (.aload_n 2, 1) := by decide +kernel
theorem dL_law_627 : decode cL_law 627 = .ok (.aload_n 0, 1) := by decide +kernel
theorem dL_law_628 : decode cL_law 628 = .ok (.iload_n 3, 1) := by decide +kernel
theorem dL_law_629 : decode cL_law 629 = .ok (.iconst 1, 1) := by decide +kernel
theorem dL_law_630 : decode cL_law 630 = .ok (.iadd, 1) := by decide +kernel
theorem dL_law_631 : decode cL_law 631 = .ok (.iaload, 1) := by decide +kernel
theorem dL_law_632 : decode cL_law 632 = .ok (.aload_n 0, 1) := by decide +kernel
theorem dL_law_633 : decode cL_law 633 = .ok (.iload_n 3, 1) := by decide +kernel
theorem dL_law_634 : decode cL_law 634 = .ok (.iconst 2, 1) := by decide +kernel
theorem dL_law_635 : decode cL_law 635 = .ok (.iadd, 1) := by decide +kernel
theorem dL_law_636 : decode cL_law 636 = .ok (.iaload, 1) := by decide +kernel
theorem dL_law_637 : decode cL_law 637 = .ok (.invokevirtual 92, 3) := by decide +kernel
theorem dL_law_640 : decode cL_law 640 = .ok (.if_icmp .eq 163, 3) := by decide +kernel
theorem dL_law_643 : decode cL_law 643 = .ok (.iconst 0, 1) := by decide +kernel
theorem dL_law_644 : decode cL_law 644 = .ok (.ireturn, 1) := by decide +kernel
theorem dL_law_645 : decode cL_law 645 = .ok (.aload_n 1, 1) := by decide +kernel
theorem dL_law_646 : decode cL_law 646 = .ok (.aload_n 0, 1) := by decide +kernel
theorem dL_law_647 : decode cL_law 647 = .ok (.iload_n 3, 1) := by decide +kernel
theorem dL_law_648 : decode cL_law 648 = .ok (.iconst 1, 1) := by decide +kernel
theorem dL_law_649 : decode cL_law 649 = .ok (.iadd, 1) := by decide +kernel
theorem dL_law_650 : decode cL_law 650 = .ok (.iaload, 1) := by decide +kernel
theorem dL_law_651 : decode cL_law 651 = .ok (.invokevirtual 93, 3) := by decide +kernel
theorem dL_law_654 : decode cL_law 654 = .ok (.aload_n 2, 1) := by decide +kernel
theorem dL_law_655 : decode cL_law 655 = .ok (.aload_n 0, 1) := by decide +kernel
theorem dL_law_656 : decode cL_law 656 = .ok (.iload_n 3, 1) := by decide +kernel
theorem dL_law_657 : decode cL_law 657 = .ok (.iconst 1, 1) := by decide +kernel
theorem dL_law_658 : decode cL_law 658 = .ok (.iadd, 1) := by decide +kernel
theorem dL_law_659 : decode cL_law 659 = .ok (.iaload, 1) := by decide +kernel
theorem dL_law_660 : decode cL_law 660 = .ok (.invokevirtual 96, 3) := by decide +kernel
theorem dL_law_663 : decode cL_law 663 = .ok (.if_icmp .eq 140, 3) := by decide +kernel
theorem dL_law_666 : decode cL_law 666 = .ok (.iconst 0, 1) := by decide +kernel
theorem dL_law_667 : decode cL_law 667 = .ok (.ireturn, 1) := by decide +kernel
theorem dL_law_668 : decode cL_law 668 = .ok (.aload_n 1, 1) := by decide +kernel
theorem dL_law_669 : decode cL_law 669 = .ok (.aload_n 0, 1) := by decide +kernel
theorem dL_law_670 : decode cL_law 670 = .ok (.iload_n 3, 1) := by decide +kernel
theorem dL_law_671 : decode cL_law 671 = .ok (.iconst 1, 1) := by decide +kernel
theorem dL_law_672 : decode cL_law 672 = .ok (.iadd, 1) := by decide +kernel
theorem dL_law_673 : decode cL_law 673 = .ok (.iaload, 1) := by decide +kernel
theorem dL_law_674 : decode cL_law 674 = .ok (.aload_n 0, 1) := by decide +kernel
theorem dL_law_675 : decode cL_law 675 = .ok (.iload_n 3, 1) := by decide +kernel
theorem dL_law_676 : decode cL_law 676 = .ok (.iconst 2, 1) := by decide +kernel
theorem dL_law_677 : decode cL_law 677 = .ok (.iadd, 1) := by decide +kernel
theorem dL_law_678 : decode cL_law 678 = .ok (.iaload, 1) := by decide +kernel
theorem dL_law_679 : decode cL_law 679 = .ok (.invokevirtual 97, 3) := by decide +kernel
theorem dL_law_682 : decode cL_law 682 = .ok (.aload_n 2, 1) := by decide +kernel
theorem dL_law_683 : decode cL_law 683 = .ok (.aload_n 0, 1) := by decide +kernel
theorem dL_law_684 : decode cL_law 684 = .ok (.iload_n 3, 1) := by decide +kernel
theorem dL_law_685 : decode cL_law 685 = .ok (.iconst 1, 1) := by decide +kernel
theorem dL_law_686 : decode cL_law 686 = .ok (.iadd, 1) := by decide +kernel
theorem dL_law_687 : decode cL_law 687 = .ok (.iaload, 1) := by decide +kernel
theorem dL_law_688 : decode cL_law 688 = .ok (.aload_n 0, 1) := by decide +kernel
theorem dL_law_689 : decode cL_law 689 = .ok (.iload_n 3, 1) := by decide +kernel
theorem dL_law_690 : decode cL_law 690 = .ok (.iconst 2, 1) := by decide +kernel
theorem dL_law_691 : decode cL_law 691 = .ok (.iadd, 1) := by decide +kernel
theorem dL_law_692 : decode cL_law 692 = .ok (.iaload, 1) := by decide +kernel
theorem dL_law_693 : decode cL_law 693 = .ok (.invokevirtual 100, 3) := by decide +kernel
theorem dL_law_696 : decode cL_law 696 = .ok (.if_icmp .eq 107, 3) := by decide +kernel
theorem dL_law_699 : decode cL_law 699 = .ok (.iconst 0, 1) := by decide +kernel
theorem dL_law_700 : decode cL_law 700 = .ok (.ireturn, 1) := by decide +kernel
theorem dL_law_701 : decode cL_law 701 = .ok (.aload_n 1, 1) := by decide +kernel
theorem dL_law_702 : decode cL_law 702 = .ok (.aload_n 0, 1) := by decide +kernel
theorem dL_law_703 : decode cL_law 703 = .ok (.iload_n 3, 1) := by decide +kernel
theorem dL_law_704 : decode cL_law 704 = .ok (.iconst 1, 1) := by decide +kernel
theorem dL_law_705 : decode cL_law 705 = .ok (.iadd, 1) := by decide +kernel
theorem dL_law_706 : decode cL_law 706 = .ok (.iaload, 1) := by decide +kernel
theorem dL_law_707 : decode cL_law 707 = .ok (.aload_n 0, 1) := by decide +kernel
theorem dL_law_708 : decode cL_law 708 = .ok (.iload_n 3, 1) := by decide +kernel
theorem dL_law_709 : decode cL_law 709 = .ok (.iconst 2, 1) := by decide +kernel
theorem dL_law_710 : decode cL_law 710 = .ok (.iadd, 1) := by decide +kernel
theorem dL_law_711 : decode cL_law 711 = .ok (.iaload, 1) := by decide +kernel
theorem dL_law_712 : decode cL_law 712 = .ok (.invokevirtual 101, 3) := by decide +kernel
theorem dL_law_715 : decode cL_law 715 = .ok (.aload_n 2, 1) := by decide +kernel
theorem dL_law_716 : decode cL_law 716 = .ok (.aload_n 0, 1) := by decide +kernel
theorem dL_law_717 : decode cL_law 717 = .ok (.iload_n 3, 1) := by decide +kernel
theorem dL_law_718 : decode cL_law 718 = .ok (.iconst 1, 1) := by decide +kernel
theorem dL_law_719 : decode cL_law 719 = .ok (.iadd, 1) := by decide +kernel
theorem dL_law_720 : decode cL_law 720 = .ok (.iaload, 1) := by decide +kernel
theorem dL_law_721 : decode cL_law 721 = .ok (.aload_n 0, 1) := by decide +kernel
theorem dL_law_722 : decode cL_law 722 = .ok (.iload_n 3, 1) := by decide +kernel
theorem dL_law_723 : decode cL_law 723 = .ok (.iconst 2, 1) := by decide +kernel
theorem dL_law_724 : decode cL_law 724 = .ok (.iadd, 1) := by decide +kernel
theorem dL_law_725 : decode cL_law 725 = .ok (.iaload, 1) := by decide +kernel
theorem dL_law_726 : decode cL_law 726 = .ok (.invokevirtual 104, 3) := by decide +kernel
theorem dL_law_729 : decode cL_law 729 = .ok (.if_icmp .eq 74, 3) := by decide +kernel
theorem dL_law_732 : decode cL_law 732 = .ok (.iconst 0, 1) := by decide +kernel
theorem dL_law_733 : decode cL_law 733 = .ok (.ireturn, 1) := by decide +kernel
theorem dL_law_734 : decode cL_law 734 = .ok (.aload_n 1, 1) := by decide +kernel
theorem dL_law_735 : decode cL_law 735 = .ok (.aload_n 0, 1) := by decide +kernel
theorem dL_law_736 : decode cL_law 736 = .ok (.iload_n 3, 1) := by decide +kernel
theorem dL_law_737 : decode cL_law 737 = .ok (.iconst 1, 1) := by decide +kernel
theorem dL_law_738 : decode cL_law 738 = .ok (.iadd, 1) := by decide +kernel
theorem dL_law_739 : decode cL_law 739 = .ok (.iaload, 1) := by decide +kernel
theorem dL_law_740 : decode cL_law 740 = .ok (.invokevirtual 105, 3) := by decide +kernel
theorem dL_law_743 : decode cL_law 743 = .ok (.aload_n 2, 1) := by decide +kernel
theorem dL_law_744 : decode cL_law 744 = .ok (.aload_n 0, 1) := by decide +kernel
theorem dL_law_745 : decode cL_law 745 = .ok (.iload_n 3, 1) := by decide +kernel
theorem dL_law_746 : decode cL_law 746 = .ok (.iconst 1, 1) := by decide +kernel
theorem dL_law_747 : decode cL_law 747 = .ok (.iadd, 1) := by decide +kernel
theorem dL_law_748 : decode cL_law 748 = .ok (.iaload, 1) := by decide +kernel
theorem dL_law_749 : decode cL_law 749 = .ok (.invokevirtual 108, 3) := by decide +kernel
theorem dL_law_752 : decode cL_law 752 = .ok (.if_icmp .eq 51, 3) := by decide +kernel
theorem dL_law_755 : decode cL_law 755 = .ok (.iconst 0, 1) := by decide +kernel
theorem dL_law_756 : decode cL_law 756 = .ok (.ireturn, 1) := by decide +kernel
theorem dL_law_757 : decode cL_law 757 = .ok (.aload_n 1, 1) := by decide +kernel
theorem dL_law_758 : decode cL_law 758 = .ok (.aload_n 0, 1) := by decide +kernel
theorem dL_law_759 : decode cL_law 759 = .ok (.iload_n 3, 1) := by decide +kernel
theorem dL_law_760 : decode cL_law 760 = .ok (.iconst 1, 1) := by decide +kernel
theorem dL_law_761 : decode cL_law 761 = .ok (.iadd, 1) := by decide +kernel
theorem dL_law_762 : decode cL_law 762 = .ok (.iaload, 1) := by decide +kernel
theorem dL_law_763 : decode cL_law 763 = .ok (.invokevirtual 109, 3) := by decide +kernel
theorem dL_law_766 : decode cL_law 766 = .ok (.aload_n 2, 1) := by decide +kernel
theorem dL_law_767 : decode cL_law 767 = .ok (.aload_n 0, 1) := by decide +kernel
theorem dL_law_768 : decode cL_law 768 = .ok (.iload_n 3, 1) := by decide +kernel
theorem dL_law_769 : decode cL_law 769 = .ok (.iconst 1, 1) := by decide +kernel
theorem dL_law_770 : decode cL_law 770 = .ok (.iadd, 1) := by decide +kernel
theorem dL_law_771 : decode cL_law 771 = .ok (.iaload, 1) := by decide +kernel
theorem dL_law_772 : decode cL_law 772 = .ok (.invokevirtual 112, 3) := by decide +kernel
theorem dL_law_775 : decode cL_law 775 = .ok (.if_icmp .eq 28, 3) := by decide +kernel
theorem dL_law_778 : decode cL_law 778 = .ok (.iconst 0, 1) := by decide +kernel
theorem dL_law_779 : decode cL_law 779 = .ok (.ireturn, 1) := by decide +kernel
theorem dL_law_780 : decode cL_law 780 = .ok (.aload_n 1, 1) := by decide +kernel
theorem dL_law_781 : decode cL_law 781 = .ok (.aload_n 0, 1) := by decide +kernel
theorem dL_law_782 : decode cL_law 782 = .ok (.iload_n 3, 1) := by decide +kernel
theorem dL_law_783 : decode cL_law 783 = .ok (.iconst 1, 1) := by decide +kernel
theorem dL_law_784 : decode cL_law 784 = .ok (.iadd, 1) := by decide +kernel
theorem dL_law_785 : decode cL_law 785 = .ok (.iaload, 1) := by decide +kernel
theorem dL_law_786 : decode cL_law 786 = .ok (.invokevirtual 113, 3) := by decide +kernel
theorem dL_law_789 : decode cL_law 789 = .ok (.aload_n 2, 1) := by decide +kernel
theorem dL_law_790 : decode cL_law 790 = .ok (.aload_n 0, 1) := by decide +kernel
theorem dL_law_791 : decode cL_law 791 = .ok (.iload_n 3, 1) := by decide +kernel
theorem dL_law_792 : decode cL_law 792 = .ok (.iconst 1, 1) := by decide +kernel
theorem dL_law_793 : decode cL_law 793 = .ok (.iadd, 1) := by decide +kernel
theorem dL_law_794 : decode cL_law 794 = .ok (.iaload, 1) := by decide +kernel
theorem dL_law_795 : decode cL_law 795 = .ok (.invokevirtual 116, 3) := by decide +kernel
theorem dL_law_798 : decode cL_law 798 = .ok (.if_icmp .eq 5, 3) := by decide +kernel
theorem dL_law_801 : decode cL_law 801 = .ok (.iconst 0, 1) := by decide +kernel
theorem dL_law_802 : decode cL_law 802 = .ok (.ireturn, 1) := by decide +kernel
theorem dL_law_803 : decode cL_law 803 = .ok (.iinc 3 4, 3) := by decide +kernel
theorem dL_law_806 : decode cL_law 806 = .ok (.goto (-788), 3) := by decide +kernel
theorem dL_law_809 : decode cL_law 809 = .ok (.iconst 1, 1) := by decide +kernel
theorem dL_law_810 : decode cL_law 810 = .ok (.ireturn, 1) := by decide +kernel
end
section
/-- what a call needs of a method: its words -/
def CalV (y : MethodName) (cc : ByteArray) (nL : Nat) (ret : Option FieldType) (n : Nat) : Prop := (Cond.code y cc nL ret ∈ mw ∧ Cond.initialized y.cls ∈ mw ∧ (y.cls ≠ "java/lang/invoke/MethodHandle" ∧ y.cls ≠ "java/lang/invoke/VarHandle" ∧ (parseMethodDescriptor y.desc).map (fun d => d.parameters.length) = some n)) ∧ Cond.instanceMethod y ∈ mw ∧ Cond.selects y.cls y y ∈ mw
def CalS (y : MethodName) (cc : ByteArray) (nL : Nat) (ret : Option FieldType) (n : Nat) : Prop := (Cond.code y cc nL ret ∈ mw ∧ Cond.initialized y.cls ∈ mw ∧ (y.cls ≠ "java/lang/invoke/MethodHandle" ∧ y.cls ≠ "java/lang/invoke/VarHandle" ∧ (parseMethodDescriptor y.desc).map (fun d => d.parameters.length) = some n)) ∧ Cond.static y ∈ mw
def CalI (y : MethodName) (cc : ByteArray) (nL : Nat) (n : Nat) : Prop := (Cond.code y cc nL none ∈ mw ∧ Cond.initialized y.cls ∈ mw ∧ (y.cls ≠ "java/lang/invoke/MethodHandle" ∧ y.cls ≠ "java/lang/invoke/VarHandle" ∧ (parseMethodDescriptor y.desc).map (fun d => d.parameters.length) = some n)) ∧ Cond.instanceMethod y ∈ mw ∧ y.name = "<init>"
/-- a field: the class of its object, its place among the fields -/
def FL (own : String) (i ci k : Nat) (fin : Bool) (tf : FieldType) : Prop := ∃ (C : String) (T : u_T) (N : Nat) (ty : Nat → FieldType), classes[ci]? = some (C, T, N) ∧ k < N ∧ Cond.fieldLink own i C (T k).2.1 (T k).2.2.1 ∈ mw ∧ (T k).1 = C ∧ (T k).2.2.2 = fin ∧ ty k = tf ∧ (∀ w ∈ u_ws C T N, w ∈ mw) ∧ (∀ j, j < N → parseFieldDescriptor (T j).2.2.1 = some (ty j)) ∧ (∀ a, a < N → ∀ b, b < N → a ≠ b → (T a).2.1 ≠ (T b).2.1)

theorem iX0 : ∀ w ∈ u_ws RX0 TX0 8, w ∈ mw := by decide +kernel
theorem iX1 : ∀ w ∈ u_ws RX1 TX1 2, w ∈ mw := by decide +kernel
theorem iX2 : ∀ w ∈ u_ws RX2 TX2 5, w ∈ mw := by decide +kernel
theorem iX3 : ∀ w ∈ u_ws RX3 TX3 5, w ∈ mw := by decide +kernel
theorem iX5 : ∀ w ∈ u_ws RX5 TX5 7, w ∈ mw := by decide +kernel
theorem iX6 : ∀ w ∈ u_ws RX6 TX6 2, w ∈ mw := by decide +kernel
theorem iX7 : ∀ w ∈ u_ws RX7 TX7 9, w ∈ mw := by decide +kernel
theorem iX8 : ∀ w ∈ u_ws RX8 TX8 27, w ∈ mw := by decide +kernel
theorem kJ6_bitCount_0f7a4 : CalS yJ6_bitCount_0f7a4 cJ6_bitCount_0f7a4 1 (some .int) 1 := ⟨⟨(mwT 441 (by decide +kernel) rfl), (mwT 11 (by decide +kernel) rfl), by decide +kernel⟩, (mwT 440 (by decide +kernel) rfl)⟩
theorem kJ9_floorMod_7cf53 : CalS yJ9_floorMod_7cf53 cJ9_floorMod_7cf53 3 (some .int) 2 := ⟨⟨(mwT 327 (by decide +kernel) rfl), (mwT 3 (by decide +kernel) rfl), by decide +kernel⟩, (mwT 326 (by decide +kernel) rfl)⟩
theorem kJ9_max_7cf53 : CalS yJ9_max_7cf53 cJ9_max_7cf53 2 (some .int) 2 := ⟨⟨(mwT 28 (by decide +kernel) rfl), (mwT 3 (by decide +kernel) rfl), by decide +kernel⟩, (mwT 27 (by decide +kernel) rfl)⟩
theorem kJ9_min_7cf53 : CalS yJ9_min_7cf53 cJ9_min_7cf53 2 (some .int) 2 := ⟨⟨(mwT 330 (by decide +kernel) rfl), (mwT 3 (by decide +kernel) rfl), by decide +kernel⟩, (mwT 329 (by decide +kernel) rfl)⟩
theorem kX0_add : CalV yX0_add cX0_add 4 (some .int) 3 := ⟨⟨(mwT 346 (by decide +kernel) rfl), (mwT 4 (by decide +kernel) rfl), by decide +kernel⟩, (mwT 345 (by decide +kernel) rfl), (mwS 3 (by decide +kernel) rfl)⟩
theorem kX0_addExample : CalV yX0_addExample cX0_addExample 3 (some .int) 2 := ⟨⟨(mwT 363 (by decide +kernel) rfl), (mwT 4 (by decide +kernel) rfl), by decide +kernel⟩, (mwT 361 (by decide +kernel) rfl), (mwT 362 (by decide +kernel) rfl)⟩
theorem kX0_addTelling : CalV yX0_addTelling cX0_addTelling 2 (some .int) 1 := ⟨⟨(mwT 342 (by decide +kernel) rfl), (mwT 4 (by decide +kernel) rfl), by decide +kernel⟩, (mwT 340 (by decide +kernel) rfl), (mwT 341 (by decide +kernel) rfl)⟩
theorem kX0_addVersion : CalV yX0_addVersion cX0_addVersion 2 (some .int) 0 := ⟨⟨(mwT 237 (by decide +kernel) rfl), (mwT 4 (by decide +kernel) rfl), by decide +kernel⟩, (mwT 235 (by decide +kernel) rfl), (mwT 236 (by decide +kernel) rfl)⟩
theorem kX0_become : CalV yX0_become cX0_become 3 none 1 := ⟨⟨(mwT 606 (by decide +kernel) rfl), (mwT 4 (by decide +kernel) rfl), by decide +kernel⟩, (mwT 604 (by decide +kernel) rfl), (mwT 605 (by decide +kernel) rfl)⟩
theorem kX0_changed : CalV yX0_changed cX0_changed 4 (some .int) 1 := ⟨⟨(mwT 434 (by decide +kernel) rfl), (mwT 4 (by decide +kernel) rfl), by decide +kernel⟩, (mwT 432 (by decide +kernel) rfl), (mwT 433 (by decide +kernel) rfl)⟩
theorem kX0_due : CalV yX0_due cX0_due 2 (some .int) 1 := ⟨⟨(mwT 384 (by decide +kernel) rfl), (mwT 4 (by decide +kernel) rfl), by decide +kernel⟩, (mwT 382 (by decide +kernel) rfl), (mwT 383 (by decide +kernel) rfl)⟩
theorem kX0_example : CalV yX0_example cX0_example 2 (some (.object "BookShows$Text")) 1 := ⟨⟨(mwT 392 (by decide +kernel) rfl), (mwT 4 (by decide +kernel) rfl), by decide +kernel⟩, (mwT 390 (by decide +kernel) rfl), (mwT 391 (by decide +kernel) rfl)⟩
theorem kX0_examples : CalV yX0_examples cX0_examples 3 (some .int) 0 := ⟨⟨(mwT 623 (by decide +kernel) rfl), (mwT 4 (by decide +kernel) rfl), by decide +kernel⟩, (mwT 621 (by decide +kernel) rfl), (mwT 622 (by decide +kernel) rfl)⟩
theorem kX0_hasPage : CalV yX0_hasPage cX0_hasPage 2 (some .boolean) 1 := ⟨⟨(mwT 371 (by decide +kernel) rfl), (mwT 4 (by decide +kernel) rfl), by decide +kernel⟩, (mwT 369 (by decide +kernel) rfl), (mwT 370 (by decide +kernel) rfl)⟩
theorem kX0_hasVersion : CalV yX0_hasVersion cX0_hasVersion 2 (some .boolean) 1 := ⟨⟨(mwT 245 (by decide +kernel) rfl), (mwT 4 (by decide +kernel) rfl), by decide +kernel⟩, (mwT 243 (by decide +kernel) rfl), (mwT 244 (by decide +kernel) rfl)⟩
theorem kX0_init : CalI yX0_init cX0_init 3 1 := ⟨⟨(mwT 41 (by decide +kernel) rfl), (mwT 4 (by decide +kernel) rfl), by decide +kernel⟩, (mwT 40 (by decide +kernel) rfl), rfl⟩
theorem kX0_isExample : CalV yX0_isExample cX0_isExample 2 (some .boolean) 1 := ⟨⟨(mwT 380 (by decide +kernel) rfl), (mwT 4 (by decide +kernel) rfl), by decide +kernel⟩, (mwT 378 (by decide +kernel) rfl), (mwT 379 (by decide +kernel) rfl)⟩
theorem kX0_named : CalV yX0_named cX0_named 2 (some .int) 1 := ⟨⟨(mwT 388 (by decide +kernel) rfl), (mwT 4 (by decide +kernel) rfl), by decide +kernel⟩, (mwT 386 (by decide +kernel) rfl), (mwT 387 (by decide +kernel) rfl)⟩
theorem kX0_pages : CalV yX0_pages cX0_pages 1 (some .int) 0 := ⟨⟨(mwT 338 (by decide +kernel) rfl), (mwT 4 (by decide +kernel) rfl), by decide +kernel⟩, (mwT 336 (by decide +kernel) rfl), (mwT 337 (by decide +kernel) rfl)⟩
theorem kX0_rewrite : CalV yX0_rewrite cX0_rewrite 3 none 2 := ⟨⟨(mwT 269 (by decide +kernel) rfl), (mwT 4 (by decide +kernel) rfl), by decide +kernel⟩, (mwT 267 (by decide +kernel) rfl), (mwT 268 (by decide +kernel) rfl)⟩
theorem kX0_setDue : CalV yX0_setDue cX0_setDue 3 none 2 := ⟨⟨(mwT 584 (by decide +kernel) rfl), (mwT 4 (by decide +kernel) rfl), by decide +kernel⟩, (mwT 582 (by decide +kernel) rfl), (mwT 583 (by decide +kernel) rfl)⟩
theorem kX0_text : CalV yX0_text cX0_text 3 (some (.object "BookShows$Text")) 2 := ⟨⟨(mwT 241 (by decide +kernel) rfl), (mwT 4 (by decide +kernel) rfl), by decide +kernel⟩, (mwT 239 (by decide +kernel) rfl), (mwT 240 (by decide +kernel) rfl)⟩
theorem kX0_toldWord : CalV yX0_toldWord cX0_toldWord 2 (some .int) 1 := ⟨⟨(mwT 375 (by decide +kernel) rfl), (mwT 4 (by decide +kernel) rfl), by decide +kernel⟩, (mwT 373 (by decide +kernel) rfl), (mwT 374 (by decide +kernel) rfl)⟩
theorem kX0_toldWords : CalV yX0_toldWords cX0_toldWords 3 (some .int) 0 := ⟨⟨(mwT 468 (by decide +kernel) rfl), (mwT 4 (by decide +kernel) rfl), by decide +kernel⟩, (mwT 466 (by decide +kernel) rfl), (mwT 467 (by decide +kernel) rfl)⟩
theorem kX0_versions : CalV yX0_versions cX0_versions 1 (some .int) 0 := ⟨⟨(mwT 233 (by decide +kernel) rfl), (mwT 4 (by decide +kernel) rfl), by decide +kernel⟩, (mwT 231 (by decide +kernel) rfl), (mwT 232 (by decide +kernel) rfl)⟩
theorem kX1_add : CalV yX1_add cX1_add 3 none 1 := ⟨⟨(mwT 500 (by decide +kernel) rfl), (mwT 8 (by decide +kernel) rfl), by decide +kernel⟩, (mwT 498 (by decide +kernel) rfl), (mwT 499 (by decide +kernel) rfl)⟩
theorem kX1_clear : CalV yX1_clear cX1_clear 1 none 0 := ⟨⟨(mwT 491 (by decide +kernel) rfl), (mwT 8 (by decide +kernel) rfl), by decide +kernel⟩, (mwT 489 (by decide +kernel) rfl), (mwT 490 (by decide +kernel) rfl)⟩
theorem kX1_fewest : CalV yX1_fewest cX1_fewest 6 (some .int) 1 := ⟨⟨(mwT 504 (by decide +kernel) rfl), (mwT 8 (by decide +kernel) rfl), by decide +kernel⟩, (mwT 502 (by decide +kernel) rfl), (mwT 503 (by decide +kernel) rfl)⟩
theorem kX1_init : CalI yX1_init cX1_init 1 0 := ⟨⟨(mwT 150 (by decide +kernel) rfl), (mwT 8 (by decide +kernel) rfl), by decide +kernel⟩, (mwT 149 (by decide +kernel) rfl), rfl⟩
theorem kX1_isEnough : CalV yX1_isEnough cX1_isEnough 3 (some .boolean) 1 := ⟨⟨(mwT 509 (by decide +kernel) rfl), (mwT 8 (by decide +kernel) rfl), by decide +kernel⟩, (mwT 508 (by decide +kernel) rfl), (mwS 9 (by decide +kernel) rfl)⟩
theorem kX2_forget : CalV yX2_forget cX2_forget 3 none 1 := ⟨⟨(mwT 273 (by decide +kernel) rfl), (mwT 6 (by decide +kernel) rfl), by decide +kernel⟩, (mwT 271 (by decide +kernel) rfl), (mwT 272 (by decide +kernel) rfl)⟩
theorem kX2_forgetAll : CalV yX2_forgetAll cX2_forgetAll 2 none 0 := ⟨⟨(mwT 614 (by decide +kernel) rfl), (mwT 6 (by decide +kernel) rfl), by decide +kernel⟩, (mwT 612 (by decide +kernel) rfl), (mwT 613 (by decide +kernel) rfl)⟩
theorem kX2_holding : CalV yX2_holding cX2_holding 4 (some .int) 1 := ⟨⟨(mwT 517 (by decide +kernel) rfl), (mwT 6 (by decide +kernel) rfl), by decide +kernel⟩, (mwT 515 (by decide +kernel) rfl), (mwT 516 (by decide +kernel) rfl)⟩
theorem kX2_holds : CalV yX2_holds cX2_holds 3 (some .boolean) 2 := ⟨⟨(mwT 417 (by decide +kernel) rfl), (mwT 6 (by decide +kernel) rfl), by decide +kernel⟩, (mwT 415 (by decide +kernel) rfl), (mwT 416 (by decide +kernel) rfl)⟩
theorem kX2_init : CalI yX2_init cX2_init 3 2 := ⟨⟨(mwT 100 (by decide +kernel) rfl), (mwT 6 (by decide +kernel) rfl), by decide +kernel⟩, (mwT 99 (by decide +kernel) rfl), rfl⟩
theorem kX2_learn : CalV yX2_learn cX2_learn 4 none 2 := ⟨⟨(mwT 400 (by decide +kernel) rfl), (mwT 6 (by decide +kernel) rfl), by decide +kernel⟩, (mwT 398 (by decide +kernel) rfl), (mwT 399 (by decide +kernel) rfl)⟩
theorem kX2_learnAll : CalV yX2_learnAll cX2_learnAll 3 none 1 := ⟨⟨(mwT 485 (by decide +kernel) rfl), (mwT 6 (by decide +kernel) rfl), by decide +kernel⟩, (mwT 483 (by decide +kernel) rfl), (mwT 484 (by decide +kernel) rfl)⟩
theorem kX2_of : CalV yX2_of cX2_of 3 (some .int) 2 := ⟨⟨(mwT 413 (by decide +kernel) rfl), (mwT 6 (by decide +kernel) rfl), by decide +kernel⟩, (mwT 411 (by decide +kernel) rfl), (mwT 412 (by decide +kernel) rfl)⟩
theorem kX2_used : CalV yX2_used cX2_used 3 (some .int) 2 := ⟨⟨(mwT 422 (by decide +kernel) rfl), (mwT 6 (by decide +kernel) rfl), by decide +kernel⟩, (mwT 420 (by decide +kernel) rfl), (mwT 421 (by decide +kernel) rfl)⟩
theorem kX2_users : CalV yX2_users cX2_users 5 (some .int) 2 := ⟨⟨(mwT 495 (by decide +kernel) rfl), (mwT 6 (by decide +kernel) rfl), by decide +kernel⟩, (mwT 493 (by decide +kernel) rfl), (mwT 494 (by decide +kernel) rfl)⟩
theorem kX3_give : CalV yX3_give cX3_give 6 (some .int) 2 := ⟨⟨(mwT 315 (by decide +kernel) rfl), (mwT 5 (by decide +kernel) rfl), by decide +kernel⟩, (mwT 314 (by decide +kernel) rfl), (mwS 2 (by decide +kernel) rfl)⟩
theorem kX3_init : CalI yX3_init cX3_init 3 1 := ⟨⟨(mwT 76 (by decide +kernel) rfl), (mwT 5 (by decide +kernel) rfl), by decide +kernel⟩, (mwT 75 (by decide +kernel) rfl), rfl⟩
theorem kX3_outcome : CalV yX3_outcome cX3_outcome 3 (some .int) 2 := ⟨⟨(mwT 300 (by decide +kernel) rfl), (mwT 5 (by decide +kernel) rfl), by decide +kernel⟩, (mwT 298 (by decide +kernel) rfl), (mwT 299 (by decide +kernel) rfl)⟩
theorem kX3_part : CalV yX3_part cX3_part 7 (some .int) 3 := ⟨⟨(mwT 304 (by decide +kernel) rfl), (mwT 5 (by decide +kernel) rfl), by decide +kernel⟩, (mwT 303 (by decide +kernel) rfl), (mwS 1 (by decide +kernel) rfl)⟩
theorem kX3_replace : CalV yX3_replace cX3_replace 3 none 2 := ⟨⟨(mwT 452 (by decide +kernel) rfl), (mwT 5 (by decide +kernel) rfl), by decide +kernel⟩, (mwT 450 (by decide +kernel) rfl), (mwT 451 (by decide +kernel) rfl)⟩
theorem kX3_take : CalV yX3_take cX3_take 4 none 2 := ⟨⟨(mwT 295 (by decide +kernel) rfl), (mwT 5 (by decide +kernel) rfl), by decide +kernel⟩, (mwT 293 (by decide +kernel) rfl), (mwT 294 (by decide +kernel) rfl)⟩
theorem kX3_used : CalV yX3_used cX3_used 1 (some .int) 0 := ⟨⟨(mwT 409 (by decide +kernel) rfl), (mwT 5 (by decide +kernel) rfl), by decide +kernel⟩, (mwT 407 (by decide +kernel) rfl), (mwT 408 (by decide +kernel) rfl)⟩
theorem kX4_isDigit : CalS yX4_isDigit cX4_isDigit 1 (some .boolean) 1 := ⟨⟨(mwT 308 (by decide +kernel) rfl), (mwT 10 (by decide +kernel) rfl), by decide +kernel⟩, (mwT 307 (by decide +kernel) rfl)⟩
theorem kX4_isWord : CalS yX4_isWord cX4_isWord 1 (some .boolean) 1 := ⟨⟨(mwT 311 (by decide +kernel) rfl), (mwT 10 (by decide +kernel) rfl), by decide +kernel⟩, (mwT 310 (by decide +kernel) rfl)⟩
theorem kX4_joined : CalS yX4_joined cX4_joined 3 (some .int) 3 := ⟨⟨(mwT 324 (by decide +kernel) rfl), (mwT 10 (by decide +kernel) rfl), by decide +kernel⟩, (mwT 323 (by decide +kernel) rfl)⟩
theorem kX4_needs : CalS yX4_needs cX4_needs 1 (some .int) 1 := ⟨⟨(mwT 225 (by decide +kernel) rfl), (mwT 10 (by decide +kernel) rfl), by decide +kernel⟩, (mwT 224 (by decide +kernel) rfl)⟩
theorem kX4_slipped : CalS yX4_slipped cX4_slipped 1 (some .int) 1 := ⟨⟨(mwT 532 (by decide +kernel) rfl), (mwT 10 (by decide +kernel) rfl), by decide +kernel⟩, (mwT 531 (by decide +kernel) rfl)⟩
theorem kX5_code : CalV yX5_code cX5_code 2 (some .int) 1 := ⟨⟨(mwT 537 (by decide +kernel) rfl), (mwT 7 (by decide +kernel) rfl), by decide +kernel⟩, (mwT 535 (by decide +kernel) rfl), (mwT 536 (by decide +kernel) rfl)⟩
theorem kX5_forget : CalV yX5_forget cX5_forget 2 none 0 := ⟨⟨(mwT 277 (by decide +kernel) rfl), (mwT 7 (by decide +kernel) rfl), by decide +kernel⟩, (mwT 275 (by decide +kernel) rfl), (mwT 276 (by decide +kernel) rfl)⟩
theorem kX5_init : CalI yX5_init cX5_init 5 4 := ⟨⟨(mwT 122 (by decide +kernel) rfl), (mwT 7 (by decide +kernel) rfl), by decide +kernel⟩, (mwT 121 (by decide +kernel) rfl), rfl⟩
theorem kX5_learn : CalV yX5_learn cX5_learn 4 (some .int) 1 := ⟨⟨(mwT 545 (by decide +kernel) rfl), (mwT 7 (by decide +kernel) rfl), by decide +kernel⟩, (mwT 543 (by decide +kernel) rfl), (mwT 544 (by decide +kernel) rfl)⟩
theorem kX5_list : CalV yX5_list cX5_list 6 (some .int) 1 := ⟨⟨(mwT 526 (by decide +kernel) rfl), (mwT 7 (by decide +kernel) rfl), by decide +kernel⟩, (mwT 524 (by decide +kernel) rfl), (mwT 525 (by decide +kernel) rfl)⟩
theorem kX5_noticers : CalV yX5_noticers cX5_noticers 3 (some .int) 2 := ⟨⟨(mwT 568 (by decide +kernel) rfl), (mwT 7 (by decide +kernel) rfl), by decide +kernel⟩, (mwT 566 (by decide +kernel) rfl), (mwT 567 (by decide +kernel) rfl)⟩
theorem kX5_reckonNoticers : CalV yX5_reckonNoticers cX5_reckonNoticers 7 (some .int) 3 := ⟨⟨(mwT 551 (by decide +kernel) rfl), (mwT 7 (by decide +kernel) rfl), by decide +kernel⟩, (mwT 550 (by decide +kernel) rfl), (mwS 10 (by decide +kernel) rfl)⟩
theorem kX6_add : CalV yX6_add cX6_add 2 none 1 := ⟨⟨(mwT 198 (by decide +kernel) rfl), (mwT 2 (by decide +kernel) rfl), by decide +kernel⟩, (mwT 196 (by decide +kernel) rfl), (mwT 197 (by decide +kernel) rfl)⟩
theorem kX6_become : CalV yX6_become cX6_become 3 none 1 := ⟨⟨(mwT 263 (by decide +kernel) rfl), (mwT 2 (by decide +kernel) rfl), by decide +kernel⟩, (mwT 261 (by decide +kernel) rfl), (mwT 262 (by decide +kernel) rfl)⟩
theorem kX6_behind : CalV yX6_behind cX6_behind 4 (some .int) 1 := ⟨⟨(mwT 321 (by decide +kernel) rfl), (mwT 2 (by decide +kernel) rfl), by decide +kernel⟩, (mwT 319 (by decide +kernel) rfl), (mwT 320 (by decide +kernel) rfl)⟩
theorem kX6_clear : CalV yX6_clear cX6_clear 1 none 0 := ⟨⟨(mwT 206 (by decide +kernel) rfl), (mwT 2 (by decide +kernel) rfl), by decide +kernel⟩, (mwT 204 (by decide +kernel) rfl), (mwT 205 (by decide +kernel) rfl)⟩
theorem kX6_copy : CalV yX6_copy cX6_copy 2 (some (.object "BookShows$Text")) 0 := ⟨⟨(mwT 257 (by decide +kernel) rfl), (mwT 2 (by decide +kernel) rfl), by decide +kernel⟩, (mwT 255 (by decide +kernel) rfl), (mwT 256 (by decide +kernel) rfl)⟩
theorem kX6_count : CalV yX6_count cX6_count 1 (some .int) 0 := ⟨⟨(mwT 194 (by decide +kernel) rfl), (mwT 2 (by decide +kernel) rfl), by decide +kernel⟩, (mwT 192 (by decide +kernel) rfl), (mwT 193 (by decide +kernel) rfl)⟩
theorem kX6_endOf : CalV yX6_endOf cX6_endOf 6 (some .int) 2 := ⟨⟨(mwT 218 (by decide +kernel) rfl), (mwT 2 (by decide +kernel) rfl), by decide +kernel⟩, (mwT 217 (by decide +kernel) rfl), (mwS 0 (by decide +kernel) rfl)⟩
theorem kX6_firstFault : CalV yX6_firstFault cX6_firstFault 2 (some .int) 0 := ⟨⟨(mwT 214 (by decide +kernel) rfl), (mwT 2 (by decide +kernel) rfl), by decide +kernel⟩, (mwT 212 (by decide +kernel) rfl), (mwT 213 (by decide +kernel) rfl)⟩
theorem kX6_has : CalV yX6_has cX6_has 3 (some .boolean) 1 := ⟨⟨(mwT 359 (by decide +kernel) rfl), (mwT 2 (by decide +kernel) rfl), by decide +kernel⟩, (mwT 357 (by decide +kernel) rfl), (mwT 358 (by decide +kernel) rfl)⟩
theorem kX6_init : CalI yX6_init cX6_init 2 1 := ⟨⟨(mwT 24 (by decide +kernel) rfl), (mwT 2 (by decide +kernel) rfl), by decide +kernel⟩, (mwT 23 (by decide +kernel) rfl), rfl⟩
theorem kX6_isLike : CalV yX6_isLike cX6_isLike 3 (some .boolean) 1 := ⟨⟨(mwT 438 (by decide +kernel) rfl), (mwT 2 (by decide +kernel) rfl), by decide +kernel⟩, (mwT 436 (by decide +kernel) rfl), (mwT 437 (by decide +kernel) rfl)⟩
theorem kX6_named : CalV yX6_named cX6_named 3 (some .int) 0 := ⟨⟨(mwT 350 (by decide +kernel) rfl), (mwT 2 (by decide +kernel) rfl), by decide +kernel⟩, (mwT 348 (by decide +kernel) rfl), (mwT 349 (by decide +kernel) rfl)⟩
theorem kX6_put : CalV yX6_put cX6_put 3 none 2 := ⟨⟨(mwT 558 (by decide +kernel) rfl), (mwT 2 (by decide +kernel) rfl), by decide +kernel⟩, (mwT 556 (by decide +kernel) rfl), (mwT 557 (by decide +kernel) rfl)⟩
theorem kX6_sign : CalV yX6_sign cX6_sign 2 (some .int) 1 := ⟨⟨(mwT 222 (by decide +kernel) rfl), (mwT 2 (by decide +kernel) rfl), by decide +kernel⟩, (mwT 220 (by decide +kernel) rfl), (mwT 221 (by decide +kernel) rfl)⟩
theorem kX7_apart : CalV yX7_apart cX7_apart 3 (some .int) 0 := ⟨⟨(mwT 513 (by decide +kernel) rfl), (mwT 1 (by decide +kernel) rfl), by decide +kernel⟩, (mwT 511 (by decide +kernel) rfl), (mwT 512 (by decide +kernel) rfl)⟩
theorem kX7_blame : CalV yX7_blame cX7_blame 8 (some .int) 2 := ⟨⟨(mwT 430 (by decide +kernel) rfl), (mwT 1 (by decide +kernel) rfl), by decide +kernel⟩, (mwT 428 (by decide +kernel) rfl), (mwT 429 (by decide +kernel) rfl)⟩
theorem kX7_comes : CalV yX7_comes cX7_comes 3 (some .int) 2 := ⟨⟨(mwT 288 (by decide +kernel) rfl), (mwT 1 (by decide +kernel) rfl), by decide +kernel⟩, (mwT 286 (by decide +kernel) rfl), (mwT 287 (by decide +kernel) rfl)⟩
theorem kX7_cover : CalV yX7_cover cX7_cover 3 (some .int) 1 := ⟨⟨(mwT 481 (by decide +kernel) rfl), (mwT 1 (by decide +kernel) rfl), by decide +kernel⟩, (mwT 479 (by decide +kernel) rfl), (mwT 480 (by decide +kernel) rfl)⟩
theorem kX7_earlyAsTheyStand : CalV yX7_earlyAsTheyStand cX7_earlyAsTheyStand 4 (some .int) 0 := ⟨⟨(mwT 460 (by decide +kernel) rfl), (mwT 1 (by decide +kernel) rfl), by decide +kernel⟩, (mwT 459 (by decide +kernel) rfl), (mwS 5 (by decide +kernel) rfl)⟩
theorem kX7_fault : CalV yX7_fault cX7_fault 1 (some .int) 0 := ⟨⟨(mwT 210 (by decide +kernel) rfl), (mwT 1 (by decide +kernel) rfl), by decide +kernel⟩, (mwT 208 (by decide +kernel) rfl), (mwT 209 (by decide +kernel) rfl)⟩
theorem kX7_firstFree : CalV yX7_firstFree cX7_firstFree 4 (some .int) 2 := ⟨⟨(mwT 477 (by decide +kernel) rfl), (mwT 1 (by decide +kernel) rfl), by decide +kernel⟩, (mwT 476 (by decide +kernel) rfl), (mwS 8 (by decide +kernel) rfl)⟩
theorem kX7_held : CalV yX7_held cX7_held 4 (some .int) 3 := ⟨⟨(mwT 396 (by decide +kernel) rfl), (mwT 1 (by decide +kernel) rfl), by decide +kernel⟩, (mwT 394 (by decide +kernel) rfl), (mwT 395 (by decide +kernel) rfl)⟩
theorem kX7_holdsTakenBack : CalV yX7_holdsTakenBack cX7_holdsTakenBack 5 (some .boolean) 3 := ⟨⟨(mwT 448 (by decide +kernel) rfl), (mwT 1 (by decide +kernel) rfl), by decide +kernel⟩, (mwT 447 (by decide +kernel) rfl), (mwS 4 (by decide +kernel) rfl)⟩
theorem kX7_image : CalV yX7_image cX7_image 2 (some .int) 1 := ⟨⟨(mwT 599 (by decide +kernel) rfl), (mwT 1 (by decide +kernel) rfl), by decide +kernel⟩, (mwT 597 (by decide +kernel) rfl), (mwT 598 (by decide +kernel) rfl)⟩
theorem kX7_init : CalI yX7_init cX7_init 3 0 := ⟨⟨(mwT 16 (by decide +kernel) rfl), (mwT 1 (by decide +kernel) rfl), by decide +kernel⟩, (mwT 15 (by decide +kernel) rfl), rfl⟩
theorem kX7_instead : CalV yX7_instead cX7_instead 6 (some .int) 2 := ⟨⟨(mwT 588 (by decide +kernel) rfl), (mwT 1 (by decide +kernel) rfl), by decide +kernel⟩, (mwT 586 (by decide +kernel) rfl), (mwT 587 (by decide +kernel) rfl)⟩
theorem kX7_isImage : CalS yX7_isImage cX7_isImage 1 (some .boolean) 1 := ⟨⟨(mwT 602 (by decide +kernel) rfl), (mwT 1 (by decide +kernel) rfl), by decide +kernel⟩, (mwT 601 (by decide +kernel) rfl)⟩
theorem kX7_isNumber : CalS yX7_isNumber cX7_isNumber 1 (some .boolean) 1 := ⟨⟨(mwT 291 (by decide +kernel) rfl), (mwT 1 (by decide +kernel) rfl), by decide +kernel⟩, (mwT 290 (by decide +kernel) rfl)⟩
theorem kX7_isWord : CalS yX7_isWord cX7_isWord 1 (some .boolean) 1 := ⟨⟨(mwT 248 (by decide +kernel) rfl), (mwT 1 (by decide +kernel) rfl), by decide +kernel⟩, (mwT 247 (by decide +kernel) rfl)⟩
theorem kX7_leastEarly : CalV yX7_leastEarly cX7_leastEarly 4 (some .int) 0 := ⟨⟨(mwT 464 (by decide +kernel) rfl), (mwT 1 (by decide +kernel) rfl), by decide +kernel⟩, (mwT 463 (by decide +kernel) rfl), (mwS 6 (by decide +kernel) rfl)⟩
theorem kX7_mend : CalV yX7_mend cX7_mend 5 (some .int) 2 := ⟨⟨(mwT 580 (by decide +kernel) rfl), (mwT 1 (by decide +kernel) rfl), by decide +kernel⟩, (mwT 578 (by decide +kernel) rfl), (mwT 579 (by decide +kernel) rfl)⟩
theorem kX7_mendingWord : CalV yX7_mendingWord cX7_mendingWord 6 (some .int) 3 := ⟨⟨(mwT 593 (by decide +kernel) rfl), (mwT 1 (by decide +kernel) rfl), by decide +kernel⟩, (mwT 592 (by decide +kernel) rfl), (mwS 11 (by decide +kernel) rfl)⟩
theorem kX7_notice : CalV yX7_notice cX7_notice 4 (some .int) 1 := ⟨⟨(mwT 576 (by decide +kernel) rfl), (mwT 1 (by decide +kernel) rfl), by decide +kernel⟩, (mwT 574 (by decide +kernel) rfl), (mwT 575 (by decide +kernel) rfl)⟩
theorem kX7_noticed : CalV yX7_noticed cX7_noticed 4 (some .int) 2 := ⟨⟨(mwT 541 (by decide +kernel) rfl), (mwT 1 (by decide +kernel) rfl), by decide +kernel⟩, (mwT 539 (by decide +kernel) rfl), (mwT 540 (by decide +kernel) rfl)⟩
theorem kX7_order : CalV yX7_order cX7_order 2 (some .int) 1 := ⟨⟨(mwT 456 (by decide +kernel) rfl), (mwT 1 (by decide +kernel) rfl), by decide +kernel⟩, (mwT 454 (by decide +kernel) rfl), (mwT 455 (by decide +kernel) rfl)⟩
theorem kX7_page : CalV yX7_page cX7_page 3 (some .int) 2 := ⟨⟨(mwT 367 (by decide +kernel) rfl), (mwT 1 (by decide +kernel) rfl), by decide +kernel⟩, (mwT 365 (by decide +kernel) rfl), (mwT 366 (by decide +kernel) rfl)⟩
theorem kX7_placedAt : CalV yX7_placedAt cX7_placedAt 7 (some .int) 1 := ⟨⟨(mwT 473 (by decide +kernel) rfl), (mwT 1 (by decide +kernel) rfl), by decide +kernel⟩, (mwT 472 (by decide +kernel) rfl), (mwS 7 (by decide +kernel) rfl)⟩
theorem kX7_restore : CalV yX7_restore cX7_restore 2 (some .int) 1 := ⟨⟨(mwT 610 (by decide +kernel) rfl), (mwT 1 (by decide +kernel) rfl), by decide +kernel⟩, (mwT 608 (by decide +kernel) rfl), (mwT 609 (by decide +kernel) rfl)⟩
theorem kX7_say : CalV yX7_say cX7_say 2 (some .int) 1 := ⟨⟨(mwT 190 (by decide +kernel) rfl), (mwT 1 (by decide +kernel) rfl), by decide +kernel⟩, (mwT 188 (by decide +kernel) rfl), (mwT 189 (by decide +kernel) rfl)⟩
theorem kX7_shows : CalV yX7_shows cX7_shows 3 (some .int) 1 := ⟨⟨(mwT 355 (by decide +kernel) rfl), (mwT 1 (by decide +kernel) rfl), by decide +kernel⟩, (mwT 353 (by decide +kernel) rfl), (mwT 354 (by decide +kernel) rfl)⟩
theorem kX7_slip : CalV yX7_slip cX7_slip 4 (some .int) 2 := ⟨⟨(mwT 522 (by decide +kernel) rfl), (mwT 1 (by decide +kernel) rfl), by decide +kernel⟩, (mwT 520 (by decide +kernel) rfl), (mwT 521 (by decide +kernel) rfl)⟩
theorem kX7_stale : CalV yX7_stale cX7_stale 5 (some .int) 1 := ⟨⟨(mwT 426 (by decide +kernel) rfl), (mwT 1 (by decide +kernel) rfl), by decide +kernel⟩, (mwT 424 (by decide +kernel) rfl), (mwT 425 (by decide +kernel) rfl)⟩
theorem kX7_tells : CalV yX7_tells cX7_tells 2 (some .int) 1 := ⟨⟨(mwT 334 (by decide +kernel) rfl), (mwT 1 (by decide +kernel) rfl), by decide +kernel⟩, (mwT 332 (by decide +kernel) rfl), (mwT 333 (by decide +kernel) rfl)⟩
theorem kX7_told : CalV yX7_told cX7_told 2 (some .int) 1 := ⟨⟨(mwT 619 (by decide +kernel) rfl), (mwT 1 (by decide +kernel) rfl), by decide +kernel⟩, (mwT 617 (by decide +kernel) rfl), (mwT 618 (by decide +kernel) rfl)⟩
theorem kX7_unshown : CalV yX7_unshown cX7_unshown 6 (some .int) 2 := ⟨⟨(mwT 572 (by decide +kernel) rfl), (mwT 1 (by decide +kernel) rfl), by decide +kernel⟩, (mwT 570 (by decide +kernel) rfl), (mwT 571 (by decide +kernel) rfl)⟩
theorem kX7_version : CalV yX7_version cX7_version 1 (some .int) 0 := ⟨⟨(mwT 229 (by decide +kernel) rfl), (mwT 1 (by decide +kernel) rfl), by decide +kernel⟩, (mwT 227 (by decide +kernel) rfl), (mwT 228 (by decide +kernel) rfl)⟩
theorem kX7_wipe : CalV yX7_wipe cX7_wipe 2 (some .int) 0 := ⟨⟨(mwT 202 (by decide +kernel) rfl), (mwT 1 (by decide +kernel) rfl), by decide +kernel⟩, (mwT 200 (by decide +kernel) rfl), (mwT 201 (by decide +kernel) rfl)⟩
theorem kX7_word : CalV yX7_word cX7_word 3 (some .int) 1 := ⟨⟨(mwT 252 (by decide +kernel) rfl), (mwT 1 (by decide +kernel) rfl), by decide +kernel⟩, (mwT 250 (by decide +kernel) rfl), (mwT 251 (by decide +kernel) rfl)⟩
theorem kX7_written : CalV yX7_written cX7_written 5 (some .int) 3 := ⟨⟨(mwT 281 (by decide +kernel) rfl), (mwT 1 (by decide +kernel) rfl), by decide +kernel⟩, (mwT 279 (by decide +kernel) rfl), (mwT 280 (by decide +kernel) rfl)⟩
theorem kX8_act : CalS yX8_act cX8_act 3 (some .int) 3 := ⟨⟨(mwT 775 (by decide +kernel) rfl), (mwT 9 (by decide +kernel) rfl), by decide +kernel⟩, (mwT 774 (by decide +kernel) rfl)⟩
theorem kX8_apart : CalV yX8_apart cX8_apart 3 (some .int) 0 := ⟨⟨(mwT 846 (by decide +kernel) rfl), (mwT 9 (by decide +kernel) rfl), by decide +kernel⟩, (mwT 844 (by decide +kernel) rfl), (mwT 845 (by decide +kernel) rfl)⟩
theorem kX8_bits : CalS yX8_bits cX8_bits 3 (some .int) 1 := ⟨⟨(mwT 822 (by decide +kernel) rfl), (mwT 9 (by decide +kernel) rfl), by decide +kernel⟩, (mwT 821 (by decide +kernel) rfl)⟩
theorem kX8_blame : CalV yX8_blame cX8_blame 6 (some .int) 2 := ⟨⟨(mwT 819 (by decide +kernel) rfl), (mwT 9 (by decide +kernel) rfl), by decide +kernel⟩, (mwT 817 (by decide +kernel) rfl), (mwT 818 (by decide +kernel) rfl)⟩
theorem kX8_byVersion : CalV yX8_byVersion cX8_byVersion 3 none 1 := ⟨⟨(mwT 768 (by decide +kernel) rfl), (mwT 9 (by decide +kernel) rfl), by decide +kernel⟩, (mwT 767 (by decide +kernel) rfl), (mwS 16 (by decide +kernel) rfl)⟩
theorem kX8_comeTo : CalV yX8_comeTo cX8_comeTo 13 (some .int) 2 := ⟨⟨(mwT 772 (by decide +kernel) rfl), (mwT 9 (by decide +kernel) rfl), by decide +kernel⟩, (mwT 771 (by decide +kernel) rfl), (mwS 17 (by decide +kernel) rfl)⟩
theorem kX8_comes : CalV yX8_comes cX8_comes 3 (some .int) 2 := ⟨⟨(mwT 764 (by decide +kernel) rfl), (mwT 9 (by decide +kernel) rfl), by decide +kernel⟩, (mwT 762 (by decide +kernel) rfl), (mwT 763 (by decide +kernel) rfl)⟩
theorem kX8_copyText : CalV yX8_copyText cX8_copyText 4 none 2 := ⟨⟨(mwT 741 (by decide +kernel) rfl), (mwT 9 (by decide +kernel) rfl), by decide +kernel⟩, (mwT 740 (by decide +kernel) rfl), (mwS 13 (by decide +kernel) rfl)⟩
theorem kX8_cover : CalV yX8_cover cX8_cover 4 (some .int) 1 := ⟨⟨(mwT 838 (by decide +kernel) rfl), (mwT 9 (by decide +kernel) rfl), by decide +kernel⟩, (mwT 836 (by decide +kernel) rfl), (mwT 837 (by decide +kernel) rfl)⟩
theorem kX8_fault : CalV yX8_fault cX8_fault 1 (some .int) 0 := ⟨⟨(mwT 726 (by decide +kernel) rfl), (mwT 9 (by decide +kernel) rfl), by decide +kernel⟩, (mwT 724 (by decide +kernel) rfl), (mwT 725 (by decide +kernel) rfl)⟩
theorem kX8_faultOf : CalV yX8_faultOf cX8_faultOf 5 (some .int) 0 := ⟨⟨(mwT 730 (by decide +kernel) rfl), (mwT 9 (by decide +kernel) rfl), by decide +kernel⟩, (mwT 729 (by decide +kernel) rfl), (mwS 12 (by decide +kernel) rfl)⟩
theorem kX8_fewest : CalV yX8_fewest cX8_fewest 5 (some .int) 0 := ⟨⟨(mwT 842 (by decide +kernel) rfl), (mwT 9 (by decide +kernel) rfl), by decide +kernel⟩, (mwT 841 (by decide +kernel) rfl), (mwS 25 (by decide +kernel) rfl)⟩
theorem kX8_held : CalV yX8_held cX8_held 5 (some .int) 3 := ⟨⟨(mwT 799 (by decide +kernel) rfl), (mwT 9 (by decide +kernel) rfl), by decide +kernel⟩, (mwT 797 (by decide +kernel) rfl), (mwT 798 (by decide +kernel) rfl)⟩
theorem kX8_holds : CalV yX8_holds cX8_holds 2 (some .boolean) 1 := ⟨⟨(mwT 815 (by decide +kernel) rfl), (mwT 9 (by decide +kernel) rfl), by decide +kernel⟩, (mwT 814 (by decide +kernel) rfl), (mwS 22 (by decide +kernel) rfl)⟩
theorem kX8_holdsIn : CalV yX8_holdsIn cX8_holdsIn 3 (some .boolean) 2 := ⟨⟨(mwT 811 (by decide +kernel) rfl), (mwT 9 (by decide +kernel) rfl), by decide +kernel⟩, (mwT 810 (by decide +kernel) rfl), (mwS 21 (by decide +kernel) rfl)⟩
theorem kX8_image : CalV yX8_image cX8_image 4 (some .int) 1 := ⟨⟨(mwT 881 (by decide +kernel) rfl), (mwT 9 (by decide +kernel) rfl), by decide +kernel⟩, (mwT 879 (by decide +kernel) rfl), (mwT 880 (by decide +kernel) rfl)⟩
theorem kX8_in : CalS yX8_in cX8_in 3 (some .boolean) 3 := ⟨⟨(mwT 718 (by decide +kernel) rfl), (mwT 9 (by decide +kernel) rfl), by decide +kernel⟩, (mwT 717 (by decide +kernel) rfl)⟩
theorem kX8_init : CalI yX8_init cX8_init 1 0 := ⟨⟨(mwT 628 (by decide +kernel) rfl), (mwT 9 (by decide +kernel) rfl), by decide +kernel⟩, (mwT 627 (by decide +kernel) rfl), rfl⟩
theorem kX8_instead : CalV yX8_instead cX8_instead 8 (some .int) 2 := ⟨⟨(mwT 877 (by decide +kernel) rfl), (mwT 9 (by decide +kernel) rfl), by decide +kernel⟩, (mwT 875 (by decide +kernel) rfl), (mwT 876 (by decide +kernel) rfl)⟩
theorem kX8_isExample : CalV yX8_isExample cX8_isExample 2 (some .boolean) 1 := ⟨⟨(mwT 803 (by decide +kernel) rfl), (mwT 9 (by decide +kernel) rfl), by decide +kernel⟩, (mwT 802 (by decide +kernel) rfl), (mwS 20 (by decide +kernel) rfl)⟩
theorem kX8_isPage : CalV yX8_isPage cX8_isPage 2 (some .boolean) 1 := ⟨⟨(mwT 791 (by decide +kernel) rfl), (mwT 9 (by decide +kernel) rfl), by decide +kernel⟩, (mwT 790 (by decide +kernel) rfl), (mwS 18 (by decide +kernel) rfl)⟩
theorem kX8_isVersion : CalV yX8_isVersion cX8_isVersion 2 (some .boolean) 1 := ⟨⟨(mwT 760 (by decide +kernel) rfl), (mwT 9 (by decide +kernel) rfl), by decide +kernel⟩, (mwT 759 (by decide +kernel) rfl), (mwS 15 (by decide +kernel) rfl)⟩
theorem kX8_isWord : CalS yX8_isWord cX8_isWord 1 (some .boolean) 1 := ⟨⟨(mwT 752 (by decide +kernel) rfl), (mwT 9 (by decide +kernel) rfl), by decide +kernel⟩, (mwT 751 (by decide +kernel) rfl)⟩
theorem kX8_layOrders : CalV yX8_layOrders cX8_layOrders 7 none 0 := ⟨⟨(mwT 834 (by decide +kernel) rfl), (mwT 9 (by decide +kernel) rfl), by decide +kernel⟩, (mwT 833 (by decide +kernel) rfl), (mwS 24 (by decide +kernel) rfl)⟩
theorem kX8_laySlips : CalV yX8_laySlips cX8_laySlips 8 none 1 := ⟨⟨(mwT 854 (by decide +kernel) rfl), (mwT 9 (by decide +kernel) rfl), by decide +kernel⟩, (mwT 853 (by decide +kernel) rfl), (mwS 26 (by decide +kernel) rfl)⟩
theorem kX8_measure : CalV yX8_measure cX8_measure 5 none 1 := ⟨⟨(mwT 745 (by decide +kernel) rfl), (mwT 9 (by decide +kernel) rfl), by decide +kernel⟩, (mwT 744 (by decide +kernel) rfl), (mwS 14 (by decide +kernel) rfl)⟩
theorem kX8_mend : CalV yX8_mend cX8_mend 5 (some .int) 2 := ⟨⟨(mwT 873 (by decide +kernel) rfl), (mwT 9 (by decide +kernel) rfl), by decide +kernel⟩, (mwT 871 (by decide +kernel) rfl), (mwT 872 (by decide +kernel) rfl)⟩
theorem kX8_namedIn : CalV yX8_namedIn cX8_namedIn 5 (some .int) 1 := ⟨⟨(mwT 795 (by decide +kernel) rfl), (mwT 9 (by decide +kernel) rfl), by decide +kernel⟩, (mwT 794 (by decide +kernel) rfl), (mwS 19 (by decide +kernel) rfl)⟩
theorem kX8_notice : CalV yX8_notice cX8_notice 3 (some .int) 1 := ⟨⟨(mwT 869 (by decide +kernel) rfl), (mwT 9 (by decide +kernel) rfl), by decide +kernel⟩, (mwT 867 (by decide +kernel) rfl), (mwT 868 (by decide +kernel) rfl)⟩
theorem kX8_noticed : CalV yX8_noticed cX8_noticed 3 (some .int) 2 := ⟨⟨(mwT 861 (by decide +kernel) rfl), (mwT 9 (by decide +kernel) rfl), by decide +kernel⟩, (mwT 859 (by decide +kernel) rfl), (mwT 860 (by decide +kernel) rfl)⟩
theorem kX8_order : CalV yX8_order cX8_order 8 (some .int) 1 := ⟨⟨(mwT 826 (by decide +kernel) rfl), (mwT 9 (by decide +kernel) rfl), by decide +kernel⟩, (mwT 824 (by decide +kernel) rfl), (mwT 825 (by decide +kernel) rfl)⟩
theorem kX8_page : CalV yX8_page cX8_page 4 (some .int) 2 := ⟨⟨(mwT 787 (by decide +kernel) rfl), (mwT 9 (by decide +kernel) rfl), by decide +kernel⟩, (mwT 785 (by decide +kernel) rfl), (mwT 786 (by decide +kernel) rfl)⟩
theorem kX8_partsOf : CalS yX8_partsOf cX8_partsOf 1 (some .int) 1 := ⟨⟨(mwT 733 (by decide +kernel) rfl), (mwT 9 (by decide +kernel) rfl), by decide +kernel⟩, (mwT 732 (by decide +kernel) rfl)⟩
theorem kX8_restore : CalV yX8_restore cX8_restore 4 (some .int) 1 := ⟨⟨(mwT 885 (by decide +kernel) rfl), (mwT 9 (by decide +kernel) rfl), by decide +kernel⟩, (mwT 883 (by decide +kernel) rfl), (mwT 884 (by decide +kernel) rfl)⟩
theorem kX8_say : CalV yX8_say cX8_say 2 (some .int) 1 := ⟨⟨(mwT 715 (by decide +kernel) rfl), (mwT 9 (by decide +kernel) rfl), by decide +kernel⟩, (mwT 713 (by decide +kernel) rfl), (mwT 714 (by decide +kernel) rfl)⟩
theorem kX8_shows : CalV yX8_shows cX8_shows 4 (some .int) 1 := ⟨⟨(mwT 783 (by decide +kernel) rfl), (mwT 9 (by decide +kernel) rfl), by decide +kernel⟩, (mwT 781 (by decide +kernel) rfl), (mwT 782 (by decide +kernel) rfl)⟩
theorem kX8_slip : CalV yX8_slip cX8_slip 3 (some .int) 2 := ⟨⟨(mwT 850 (by decide +kernel) rfl), (mwT 9 (by decide +kernel) rfl), by decide +kernel⟩, (mwT 848 (by decide +kernel) rfl), (mwT 849 (by decide +kernel) rfl)⟩
theorem kX8_slipped : CalS yX8_slipped cX8_slipped 1 (some .int) 1 := ⟨⟨(mwT 857 (by decide +kernel) rfl), (mwT 9 (by decide +kernel) rfl), by decide +kernel⟩, (mwT 856 (by decide +kernel) rfl)⟩
theorem kX8_stale : CalV yX8_stale cX8_stale 5 (some .int) 1 := ⟨⟨(mwT 807 (by decide +kernel) rfl), (mwT 9 (by decide +kernel) rfl), by decide +kernel⟩, (mwT 805 (by decide +kernel) rfl), (mwT 806 (by decide +kernel) rfl)⟩
theorem kX8_tells : CalV yX8_tells cX8_tells 2 (some .int) 1 := ⟨⟨(mwT 779 (by decide +kernel) rfl), (mwT 9 (by decide +kernel) rfl), by decide +kernel⟩, (mwT 777 (by decide +kernel) rfl), (mwT 778 (by decide +kernel) rfl)⟩
theorem kX8_told : CalV yX8_told cX8_told 4 (some .int) 1 := ⟨⟨(mwT 889 (by decide +kernel) rfl), (mwT 9 (by decide +kernel) rfl), by decide +kernel⟩, (mwT 887 (by decide +kernel) rfl), (mwT 888 (by decide +kernel) rfl)⟩
theorem kX8_toldBy : CalV yX8_toldBy cX8_toldBy 4 (some .int) 1 := ⟨⟨(mwT 830 (by decide +kernel) rfl), (mwT 9 (by decide +kernel) rfl), by decide +kernel⟩, (mwT 829 (by decide +kernel) rfl), (mwS 23 (by decide +kernel) rfl)⟩
theorem kX8_unshown : CalV yX8_unshown cX8_unshown 5 (some .int) 2 := ⟨⟨(mwT 865 (by decide +kernel) rfl), (mwT 9 (by decide +kernel) rfl), by decide +kernel⟩, (mwT 863 (by decide +kernel) rfl), (mwT 864 (by decide +kernel) rfl)⟩
theorem kX8_version : CalV yX8_version cX8_version 2 (some .int) 0 := ⟨⟨(mwT 737 (by decide +kernel) rfl), (mwT 9 (by decide +kernel) rfl), by decide +kernel⟩, (mwT 735 (by decide +kernel) rfl), (mwT 736 (by decide +kernel) rfl)⟩
theorem kX8_wipe : CalV yX8_wipe cX8_wipe 2 (some .int) 0 := ⟨⟨(mwT 722 (by decide +kernel) rfl), (mwT 9 (by decide +kernel) rfl), by decide +kernel⟩, (mwT 720 (by decide +kernel) rfl), (mwT 721 (by decide +kernel) rfl)⟩
theorem kX8_word : CalV yX8_word cX8_word 3 (some .int) 1 := ⟨⟨(mwT 749 (by decide +kernel) rfl), (mwT 9 (by decide +kernel) rfl), by decide +kernel⟩, (mwT 747 (by decide +kernel) rfl), (mwT 748 (by decide +kernel) rfl)⟩
theorem kX8_written : CalV yX8_written cX8_written 5 (some .int) 3 := ⟨⟨(mwT 756 (by decide +kernel) rfl), (mwT 9 (by decide +kernel) rfl), by decide +kernel⟩, (mwT 754 (by decide +kernel) rfl), (mwT 755 (by decide +kernel) rfl)⟩
theorem mlX7_3 : Cond.methodLink RX7 3 objectInit ∈ mw := (mwT 17 (by decide +kernel) rfl)
theorem mlX7_11 : Cond.methodLink RX7 11 yX6_init ∈ mw := (mwT 22 (by decide +kernel) rfl)
theorem mlX7_23 : Cond.methodLink RX7 23 yX0_init ∈ mw := (mwT 39 (by decide +kernel) rfl)
theorem mlX7_40 : Cond.methodLink RX7 40 yX3_init ∈ mw := (mwT 74 (by decide +kernel) rfl)
theorem mlX7_47 : Cond.methodLink RX7 47 yX2_init ∈ mw := (mwT 98 (by decide +kernel) rfl)
theorem mlX7_56 : Cond.methodLink RX7 56 yX5_init ∈ mw := (mwT 120 (by decide +kernel) rfl)
theorem mlX7_65 : Cond.methodLink RX7 65 yX1_init ∈ mw := (mwT 148 (by decide +kernel) rfl)
theorem mlX7_70 : Cond.methodLink RX7 70 yX6_count ∈ mw := (mwT 191 (by decide +kernel) rfl)
theorem mlX7_74 : Cond.methodLink RX7 74 yX6_add ∈ mw := (mwT 195 (by decide +kernel) rfl)
theorem mlX7_77 : Cond.methodLink RX7 77 yX6_clear ∈ mw := (mwT 203 (by decide +kernel) rfl)
theorem mlX7_80 : Cond.methodLink RX7 80 yX6_firstFault ∈ mw := (mwT 211 (by decide +kernel) rfl)
theorem mlX7_83 : Cond.methodLink RX7 83 yX0_versions ∈ mw := (mwT 230 (by decide +kernel) rfl)
theorem mlX7_86 : Cond.methodLink RX7 86 yX0_addVersion ∈ mw := (mwT 234 (by decide +kernel) rfl)
theorem mlX7_89 : Cond.methodLink RX7 89 yX7_isWord ∈ mw := (mwT 253 (by decide +kernel) rfl)
theorem mlX7_93 : Cond.methodLink RX7 93 yX6_copy ∈ mw := (mwT 254 (by decide +kernel) rfl)
theorem mlX7_97 : Cond.methodLink RX7 97 yX0_rewrite ∈ mw := (mwT 266 (by decide +kernel) rfl)
theorem mlX7_101 : Cond.methodLink RX7 101 yX2_forget ∈ mw := (mwT 270 (by decide +kernel) rfl)
theorem mlX7_104 : Cond.methodLink RX7 104 yX5_forget ∈ mw := (mwT 274 (by decide +kernel) rfl)
theorem mlX7_106 : Cond.methodLink RX7 106 yX0_hasVersion ∈ mw := (mwT 282 (by decide +kernel) rfl)
theorem mlX7_109 : Cond.methodLink RX7 109 yX0_text ∈ mw := (mwT 283 (by decide +kernel) rfl)
theorem mlX7_113 : Cond.methodLink RX7 113 yX6_sign ∈ mw := (mwT 284 (by decide +kernel) rfl)
theorem mlX7_117 : Cond.methodLink RX7 117 yX7_isNumber ∈ mw := (mwT 289 (by decide +kernel) rfl)
theorem mlX7_120 : Cond.methodLink RX7 120 yX3_take ∈ mw := (mwT 292 (by decide +kernel) rfl)
theorem mlX7_124 : Cond.methodLink RX7 124 yX3_outcome ∈ mw := (mwT 297 (by decide +kernel) rfl)
theorem mlX7_128 : Cond.methodLink RX7 128 yX0_pages ∈ mw := (mwT 335 (by decide +kernel) rfl)
theorem mlX7_131 : Cond.methodLink RX7 131 yX0_addTelling ∈ mw := (mwT 339 (by decide +kernel) rfl)
theorem mlX7_134 : Cond.methodLink RX7 134 yX6_has ∈ mw := (mwT 356 (by decide +kernel) rfl)
theorem mlX7_137 : Cond.methodLink RX7 137 yX0_addExample ∈ mw := (mwT 360 (by decide +kernel) rfl)
theorem mlX7_140 : Cond.methodLink RX7 140 yX0_hasPage ∈ mw := (mwT 368 (by decide +kernel) rfl)
theorem mlX7_143 : Cond.methodLink RX7 143 yX0_toldWord ∈ mw := (mwT 372 (by decide +kernel) rfl)
theorem mlX7_146 : Cond.methodLink RX7 146 yX0_isExample ∈ mw := (mwT 377 (by decide +kernel) rfl)
theorem mlX7_149 : Cond.methodLink RX7 149 yX0_due ∈ mw := (mwT 381 (by decide +kernel) rfl)
theorem mlX7_152 : Cond.methodLink RX7 152 yX0_named ∈ mw := (mwT 385 (by decide +kernel) rfl)
theorem mlX7_155 : Cond.methodLink RX7 155 yX0_example ∈ mw := (mwT 389 (by decide +kernel) rfl)
theorem mlX7_159 : Cond.methodLink RX7 159 yX2_learn ∈ mw := (mwT 397 (by decide +kernel) rfl)
theorem mlX7_163 : Cond.methodLink RX7 163 yX2_of ∈ mw := (mwT 410 (by decide +kernel) rfl)
theorem mlX7_167 : Cond.methodLink RX7 167 yX2_holds ∈ mw := (mwT 414 (by decide +kernel) rfl)
theorem mlX7_171 : Cond.methodLink RX7 171 yX2_used ∈ mw := (mwT 419 (by decide +kernel) rfl)
theorem mlX7_174 : Cond.methodLink RX7 174 yX0_changed ∈ mw := (mwT 431 (by decide +kernel) rfl)
theorem mlX7_177 : Cond.methodLink RX7 177 yJ6_bitCount_0f7a4 ∈ mw := (mwT 439 (by decide +kernel) rfl)
theorem mlX7_182 : Cond.methodLink RX7 182 yX7_holdsTakenBack ∈ mw := (mwT 445 (by decide +kernel) rfl)
theorem mlX7_186 : Cond.methodLink RX7 186 yX7_earlyAsTheyStand ∈ mw := (mwT 457 (by decide +kernel) rfl)
theorem mlX7_189 : Cond.methodLink RX7 189 yX7_leastEarly ∈ mw := (mwT 461 (by decide +kernel) rfl)
theorem mlX7_192 : Cond.methodLink RX7 192 yX7_placedAt ∈ mw := (mwT 470 (by decide +kernel) rfl)
theorem mlX7_195 : Cond.methodLink RX7 195 yX2_learnAll ∈ mw := (mwT 482 (by decide +kernel) rfl)
theorem mlX7_198 : Cond.methodLink RX7 198 yX1_clear ∈ mw := (mwT 488 (by decide +kernel) rfl)
theorem mlX7_199 : Cond.methodLink RX7 199 yX2_users ∈ mw := (mwT 492 (by decide +kernel) rfl)
theorem mlX7_202 : Cond.methodLink RX7 202 yX1_add ∈ mw := (mwT 497 (by decide +kernel) rfl)
theorem mlX7_203 : Cond.methodLink RX7 203 yX1_fewest ∈ mw := (mwT 501 (by decide +kernel) rfl)
theorem mlX7_206 : Cond.methodLink RX7 206 yX2_holding ∈ mw := (mwT 514 (by decide +kernel) rfl)
theorem mlX7_209 : Cond.methodLink RX7 209 yX5_list ∈ mw := (mwT 523 (by decide +kernel) rfl)
theorem mlX7_212 : Cond.methodLink RX7 212 yX5_code ∈ mw := (mwT 534 (by decide +kernel) rfl)
theorem mlX7_215 : Cond.methodLink RX7 215 yX5_learn ∈ mw := (mwT 542 (by decide +kernel) rfl)
theorem mlX7_217 : Cond.methodLink RX7 217 yX5_noticers ∈ mw := (mwT 565 (by decide +kernel) rfl)
theorem mlX7_220 : Cond.methodLink RX7 220 yX0_setDue ∈ mw := (mwT 581 (by decide +kernel) rfl)
theorem mlX7_223 : Cond.methodLink RX7 223 yX4_isWord ∈ mw := (mwT 589 (by decide +kernel) rfl)
theorem mlX7_226 : Cond.methodLink RX7 226 yX7_mendingWord ∈ mw := (mwT 590 (by decide +kernel) rfl)
theorem mlX7_230 : Cond.methodLink RX7 230 yX7_isImage ∈ mw := (mwT 600 (by decide +kernel) rfl)
theorem mlX7_233 : Cond.methodLink RX7 233 yX0_become ∈ mw := (mwT 603 (by decide +kernel) rfl)
theorem mlX7_237 : Cond.methodLink RX7 237 yX2_forgetAll ∈ mw := (mwT 611 (by decide +kernel) rfl)
theorem mlX7_240 : Cond.methodLink RX7 240 yX0_examples ∈ mw := (mwT 620 (by decide +kernel) rfl)
theorem mlX7_243 : Cond.methodLink RX7 243 yX3_replace ∈ mw := (mwT 449 (by decide +kernel) rfl)
theorem mlX7_246 : Cond.methodLink RX7 246 yX0_toldWords ∈ mw := (mwT 465 (by decide +kernel) rfl)
theorem mlX7_249 : Cond.methodLink RX7 249 yX7_firstFree ∈ mw := (mwT 474 (by decide +kernel) rfl)
theorem mlX7_252 : Cond.methodLink RX7 252 yX6_become ∈ mw := (mwT 594 (by decide +kernel) rfl)
theorem mlX7_254 : Cond.methodLink RX7 254 yX6_put ∈ mw := (mwT 595 (by decide +kernel) rfl)
theorem mlX0_3 : Cond.methodLink RX0 3 objectInit ∈ mw := (mwT 42 (by decide +kernel) rfl)
theorem mlX0_41 : Cond.methodLink RX0 41 yX0_text ∈ mw := (mwT 238 (by decide +kernel) rfl)
theorem mlX0_45 : Cond.methodLink RX0 45 yX0_hasVersion ∈ mw := (mwT 242 (by decide +kernel) rfl)
theorem mlX0_52 : Cond.methodLink RX0 52 yX6_isLike ∈ mw := (mwT 435 (by decide +kernel) rfl)
theorem mlX0_56 : Cond.methodLink RX0 56 yX0_hasPage ∈ mw := (mwT 376 (by decide +kernel) rfl)
theorem mlX0_59 : Cond.methodLink RX0 59 yX0_isExample ∈ mw := (mwT 469 (by decide +kernel) rfl)
theorem mlX0_62 : Cond.methodLink RX0 62 yX0_add ∈ mw := (mwT 343 (by decide +kernel) rfl)
theorem mlX0_66 : Cond.methodLink RX0 66 yX6_named ∈ mw := (mwT 347 (by decide +kernel) rfl)
theorem mlX1_3 : Cond.methodLink RX1 3 objectInit ∈ mw := (mwT 151 (by decide +kernel) rfl)
theorem mlX1_19 : Cond.methodLink RX1 19 yJ6_bitCount_0f7a4 ∈ mw := (mwT 505 (by decide +kernel) rfl)
theorem mlX1_25 : Cond.methodLink RX1 25 yX1_isEnough ∈ mw := (mwT 506 (by decide +kernel) rfl)
theorem mlX2_3 : Cond.methodLink RX2 3 objectInit ∈ mw := (mwT 101 (by decide +kernel) rfl)
theorem mlX2_30 : Cond.methodLink RX2 30 yX2_forget ∈ mw := (mwT 615 (by decide +kernel) rfl)
theorem mlX2_34 : Cond.methodLink RX2 34 yX0_isExample ∈ mw := (mwT 401 (by decide +kernel) rfl)
theorem mlX2_40 : Cond.methodLink RX2 40 yX0_hasVersion ∈ mw := (mwT 402 (by decide +kernel) rfl)
theorem mlX2_43 : Cond.methodLink RX2 43 yX3_take ∈ mw := (mwT 403 (by decide +kernel) rfl)
theorem mlX2_49 : Cond.methodLink RX2 49 yX0_example ∈ mw := (mwT 404 (by decide +kernel) rfl)
theorem mlX2_53 : Cond.methodLink RX2 53 yX3_outcome ∈ mw := (mwT 405 (by decide +kernel) rfl)
theorem mlX2_57 : Cond.methodLink RX2 57 yX3_used ∈ mw := (mwT 406 (by decide +kernel) rfl)
theorem mlX2_61 : Cond.methodLink RX2 61 yX0_pages ∈ mw := (mwT 486 (by decide +kernel) rfl)
theorem mlX2_64 : Cond.methodLink RX2 64 yX2_learn ∈ mw := (mwT 487 (by decide +kernel) rfl)
theorem mlX2_68 : Cond.methodLink RX2 68 yX0_due ∈ mw := (mwT 418 (by decide +kernel) rfl)
theorem mlX2_72 : Cond.methodLink RX2 72 yX2_holds ∈ mw := (mwT 518 (by decide +kernel) rfl)
theorem mlX2_76 : Cond.methodLink RX2 76 yX2_used ∈ mw := (mwT 496 (by decide +kernel) rfl)
theorem mlX3_3 : Cond.methodLink RX3 3 objectInit ∈ mw := (mwT 77 (by decide +kernel) rfl)
theorem mlX3_17 : Cond.methodLink RX3 17 yX0_text ∈ mw := (mwT 296 (by decide +kernel) rfl)
theorem mlX3_40 : Cond.methodLink RX3 40 yX3_part ∈ mw := (mwT 301 (by decide +kernel) rfl)
theorem mlX3_44 : Cond.methodLink RX3 44 yX6_sign ∈ mw := (mwT 305 (by decide +kernel) rfl)
theorem mlX3_48 : Cond.methodLink RX3 48 yX4_isDigit ∈ mw := (mwT 306 (by decide +kernel) rfl)
theorem mlX3_53 : Cond.methodLink RX3 53 yX4_isWord ∈ mw := (mwT 309 (by decide +kernel) rfl)
theorem mlX3_54 : Cond.methodLink RX3 54 yX3_give ∈ mw := (mwT 312 (by decide +kernel) rfl)
theorem mlX3_58 : Cond.methodLink RX3 58 yX6_behind ∈ mw := (mwT 318 (by decide +kernel) rfl)
theorem mlX3_61 : Cond.methodLink RX3 61 yX4_joined ∈ mw := (mwT 322 (by decide +kernel) rfl)
theorem mlX3_65 : Cond.methodLink RX3 65 yX6_count ∈ mw := (mwT 317 (by decide +kernel) rfl)
theorem mlX4_9 : Cond.methodLink RX4 9 yX4_isDigit ∈ mw := (mwT 533 (by decide +kernel) rfl)
theorem mlX4_15 : Cond.methodLink RX4 15 yJ9_floorMod_7cf53 ∈ mw := (mwT 325 (by decide +kernel) rfl)
theorem mlX4_21 : Cond.methodLink RX4 21 yJ9_min_7cf53 ∈ mw := (mwT 328 (by decide +kernel) rfl)
theorem mlX5_3 : Cond.methodLink RX5 3 objectInit ∈ mw := (mwT 123 (by decide +kernel) rfl)
theorem mlX5_38 : Cond.methodLink RX5 38 yX0_text ∈ mw := (mwT 527 (by decide +kernel) rfl)
theorem mlX5_44 : Cond.methodLink RX5 44 yX6_count ∈ mw := (mwT 528 (by decide +kernel) rfl)
theorem mlX5_50 : Cond.methodLink RX5 50 yX6_sign ∈ mw := (mwT 529 (by decide +kernel) rfl)
theorem mlX5_54 : Cond.methodLink RX5 54 yX4_slipped ∈ mw := (mwT 530 (by decide +kernel) rfl)
theorem mlX5_59 : Cond.methodLink RX5 59 yX0_hasVersion ∈ mw := (mwT 546 (by decide +kernel) rfl)
theorem mlX5_63 : Cond.methodLink RX5 63 yX5_list ∈ mw := (mwT 547 (by decide +kernel) rfl)
theorem mlX5_66 : Cond.methodLink RX5 66 yX5_reckonNoticers ∈ mw := (mwT 548 (by decide +kernel) rfl)
theorem mlX5_70 : Cond.methodLink RX5 70 yX2_holding ∈ mw := (mwT 552 (by decide +kernel) rfl)
theorem mlX5_75 : Cond.methodLink RX5 75 yX2_users ∈ mw := (mwT 553 (by decide +kernel) rfl)
theorem mlX5_79 : Cond.methodLink RX5 79 yX6_become ∈ mw := (mwT 554 (by decide +kernel) rfl)
theorem mlX5_83 : Cond.methodLink RX5 83 yX6_put ∈ mw := (mwT 555 (by decide +kernel) rfl)
theorem mlX5_87 : Cond.methodLink RX5 87 yX3_take ∈ mw := (mwT 559 (by decide +kernel) rfl)
theorem mlX5_93 : Cond.methodLink RX5 93 yX3_replace ∈ mw := (mwT 560 (by decide +kernel) rfl)
theorem mlX5_97 : Cond.methodLink RX5 97 yX0_pages ∈ mw := (mwT 561 (by decide +kernel) rfl)
theorem mlX5_100 : Cond.methodLink RX5 100 yX0_example ∈ mw := (mwT 562 (by decide +kernel) rfl)
theorem mlX5_104 : Cond.methodLink RX5 104 yX3_outcome ∈ mw := (mwT 563 (by decide +kernel) rfl)
theorem mlX5_108 : Cond.methodLink RX5 108 yX0_due ∈ mw := (mwT 564 (by decide +kernel) rfl)
theorem mlX6_3 : Cond.methodLink RX6 3 objectInit ∈ mw := (mwT 25 (by decide +kernel) rfl)
theorem mlX6_9 : Cond.methodLink RX6 9 yJ9_max_7cf53 ∈ mw := (mwT 26 (by decide +kernel) rfl)
theorem mlX6_25 : Cond.methodLink RX6 25 yX6_clear ∈ mw := (mwT 264 (by decide +kernel) rfl)
theorem mlX6_28 : Cond.methodLink RX6 28 yX6_add ∈ mw := (mwT 265 (by decide +kernel) rfl)
theorem mlX6_32 : Cond.methodLink RX6 32 yX6_init ∈ mw := (mwT 259 (by decide +kernel) rfl)
theorem mlX6_34 : Cond.methodLink RX6 34 yX6_become ∈ mw := (mwT 260 (by decide +kernel) rfl)
theorem mlX6_38 : Cond.methodLink RX6 38 yX4_isWord ∈ mw := (mwT 351 (by decide +kernel) rfl)
theorem mlX6_44 : Cond.methodLink RX6 44 yX6_endOf ∈ mw := (mwT 215 (by decide +kernel) rfl)
theorem mlX6_47 : Cond.methodLink RX6 47 yX6_sign ∈ mw := (mwT 219 (by decide +kernel) rfl)
theorem mlX6_51 : Cond.methodLink RX6 51 yX4_needs ∈ mw := (mwT 223 (by decide +kernel) rfl)
theorem mlL_9 : Cond.methodLink RL 9 yX7_init ∈ mw := (mwT 14 (by decide +kernel) rfl)
theorem mlL_12 : Cond.methodLink RL 12 yX8_init ∈ mw := (mwT 626 (by decide +kernel) rfl)
theorem mlL_13 : Cond.methodLink RL 13 yX7_say ∈ mw := (mwT 187 (by decide +kernel) rfl)
theorem mlL_17 : Cond.methodLink RL 17 yX8_say ∈ mw := (mwT 712 (by decide +kernel) rfl)
theorem mlL_18 : Cond.methodLink RL 18 yX7_wipe ∈ mw := (mwT 199 (by decide +kernel) rfl)
theorem mlL_22 : Cond.methodLink RL 22 yX8_wipe ∈ mw := (mwT 719 (by decide +kernel) rfl)
theorem mlL_23 : Cond.methodLink RL 23 yX7_fault ∈ mw := (mwT 207 (by decide +kernel) rfl)
theorem mlL_26 : Cond.methodLink RL 26 yX8_fault ∈ mw := (mwT 723 (by decide +kernel) rfl)
theorem mlL_27 : Cond.methodLink RL 27 yX7_version ∈ mw := (mwT 226 (by decide +kernel) rfl)
theorem mlL_30 : Cond.methodLink RL 30 yX8_version ∈ mw := (mwT 734 (by decide +kernel) rfl)
theorem mlL_31 : Cond.methodLink RL 31 yX7_word ∈ mw := (mwT 249 (by decide +kernel) rfl)
theorem mlL_34 : Cond.methodLink RL 34 yX8_word ∈ mw := (mwT 746 (by decide +kernel) rfl)
theorem mlL_35 : Cond.methodLink RL 35 yX7_written ∈ mw := (mwT 278 (by decide +kernel) rfl)
theorem mlL_39 : Cond.methodLink RL 39 yX8_written ∈ mw := (mwT 753 (by decide +kernel) rfl)
theorem mlL_40 : Cond.methodLink RL 40 yX7_comes ∈ mw := (mwT 285 (by decide +kernel) rfl)
theorem mlL_44 : Cond.methodLink RL 44 yX8_comes ∈ mw := (mwT 761 (by decide +kernel) rfl)
theorem mlL_45 : Cond.methodLink RL 45 yX7_tells ∈ mw := (mwT 331 (by decide +kernel) rfl)
theorem mlL_48 : Cond.methodLink RL 48 yX8_tells ∈ mw := (mwT 776 (by decide +kernel) rfl)
theorem mlL_49 : Cond.methodLink RL 49 yX7_shows ∈ mw := (mwT 352 (by decide +kernel) rfl)
theorem mlL_52 : Cond.methodLink RL 52 yX8_shows ∈ mw := (mwT 780 (by decide +kernel) rfl)
theorem mlL_53 : Cond.methodLink RL 53 yX7_page ∈ mw := (mwT 364 (by decide +kernel) rfl)
theorem mlL_56 : Cond.methodLink RL 56 yX8_page ∈ mw := (mwT 784 (by decide +kernel) rfl)
theorem mlL_57 : Cond.methodLink RL 57 yX7_held ∈ mw := (mwT 393 (by decide +kernel) rfl)
theorem mlL_60 : Cond.methodLink RL 60 yX8_held ∈ mw := (mwT 796 (by decide +kernel) rfl)
theorem mlL_61 : Cond.methodLink RL 61 yX7_stale ∈ mw := (mwT 423 (by decide +kernel) rfl)
theorem mlL_64 : Cond.methodLink RL 64 yX8_stale ∈ mw := (mwT 804 (by decide +kernel) rfl)
theorem mlL_65 : Cond.methodLink RL 65 yX7_blame ∈ mw := (mwT 427 (by decide +kernel) rfl)
theorem mlL_68 : Cond.methodLink RL 68 yX8_blame ∈ mw := (mwT 816 (by decide +kernel) rfl)
theorem mlL_69 : Cond.methodLink RL 69 yX7_order ∈ mw := (mwT 453 (by decide +kernel) rfl)
theorem mlL_72 : Cond.methodLink RL 72 yX8_order ∈ mw := (mwT 823 (by decide +kernel) rfl)
theorem mlL_73 : Cond.methodLink RL 73 yX7_cover ∈ mw := (mwT 478 (by decide +kernel) rfl)
theorem mlL_76 : Cond.methodLink RL 76 yX8_cover ∈ mw := (mwT 835 (by decide +kernel) rfl)
theorem mlL_77 : Cond.methodLink RL 77 yX7_apart ∈ mw := (mwT 510 (by decide +kernel) rfl)
theorem mlL_80 : Cond.methodLink RL 80 yX8_apart ∈ mw := (mwT 843 (by decide +kernel) rfl)
theorem mlL_81 : Cond.methodLink RL 81 yX7_slip ∈ mw := (mwT 519 (by decide +kernel) rfl)
theorem mlL_84 : Cond.methodLink RL 84 yX8_slip ∈ mw := (mwT 847 (by decide +kernel) rfl)
theorem mlL_85 : Cond.methodLink RL 85 yX7_noticed ∈ mw := (mwT 538 (by decide +kernel) rfl)
theorem mlL_88 : Cond.methodLink RL 88 yX8_noticed ∈ mw := (mwT 858 (by decide +kernel) rfl)
theorem mlL_89 : Cond.methodLink RL 89 yX7_unshown ∈ mw := (mwT 569 (by decide +kernel) rfl)
theorem mlL_92 : Cond.methodLink RL 92 yX8_unshown ∈ mw := (mwT 862 (by decide +kernel) rfl)
theorem mlL_93 : Cond.methodLink RL 93 yX7_notice ∈ mw := (mwT 573 (by decide +kernel) rfl)
theorem mlL_96 : Cond.methodLink RL 96 yX8_notice ∈ mw := (mwT 866 (by decide +kernel) rfl)
theorem mlL_97 : Cond.methodLink RL 97 yX7_mend ∈ mw := (mwT 577 (by decide +kernel) rfl)
theorem mlL_100 : Cond.methodLink RL 100 yX8_mend ∈ mw := (mwT 870 (by decide +kernel) rfl)
theorem mlL_101 : Cond.methodLink RL 101 yX7_instead ∈ mw := (mwT 585 (by decide +kernel) rfl)
theorem mlL_104 : Cond.methodLink RL 104 yX8_instead ∈ mw := (mwT 874 (by decide +kernel) rfl)
theorem mlL_105 : Cond.methodLink RL 105 yX7_image ∈ mw := (mwT 596 (by decide +kernel) rfl)
theorem mlL_108 : Cond.methodLink RL 108 yX8_image ∈ mw := (mwT 878 (by decide +kernel) rfl)
theorem mlL_109 : Cond.methodLink RL 109 yX7_restore ∈ mw := (mwT 607 (by decide +kernel) rfl)
theorem mlL_112 : Cond.methodLink RL 112 yX8_restore ∈ mw := (mwT 882 (by decide +kernel) rfl)
theorem mlL_113 : Cond.methodLink RL 113 yX7_told ∈ mw := (mwT 616 (by decide +kernel) rfl)
theorem mlL_116 : Cond.methodLink RL 116 yX8_told ∈ mw := (mwT 886 (by decide +kernel) rfl)
theorem mlX8_1 : Cond.methodLink RX8 1 objectInit ∈ mw := (mwT 629 (by decide +kernel) rfl)
theorem mlX8_66 : Cond.methodLink RX8 66 yX8_in ∈ mw := (mwT 716 (by decide +kernel) rfl)
theorem mlX8_73 : Cond.methodLink RX8 73 yX8_isPage ∈ mw := (mwT 788 (by decide +kernel) rfl)
theorem mlX8_77 : Cond.methodLink RX8 77 yX8_partsOf ∈ mw := (mwT 731 (by decide +kernel) rfl)
theorem mlX8_81 : Cond.methodLink RX8 81 yX8_faultOf ∈ mw := (mwT 727 (by decide +kernel) rfl)
theorem mlX8_85 : Cond.methodLink RX8 85 yX8_measure ∈ mw := (mwT 742 (by decide +kernel) rfl)
theorem mlX8_89 : Cond.methodLink RX8 89 yX8_copyText ∈ mw := (mwT 738 (by decide +kernel) rfl)
theorem mlX8_97 : Cond.methodLink RX8 97 yX8_isWord ∈ mw := (mwT 750 (by decide +kernel) rfl)
theorem mlX8_100 : Cond.methodLink RX8 100 yX8_isVersion ∈ mw := (mwT 757 (by decide +kernel) rfl)
theorem mlX8_115 : Cond.methodLink RX8 115 yX8_act ∈ mw := (mwT 773 (by decide +kernel) rfl)
theorem mlX8_119 : Cond.methodLink RX8 119 yX8_byVersion ∈ mw := (mwT 765 (by decide +kernel) rfl)
theorem mlX8_122 : Cond.methodLink RX8 122 yX8_comeTo ∈ mw := (mwT 769 (by decide +kernel) rfl)
theorem mlX8_126 : Cond.methodLink RX8 126 yX8_namedIn ∈ mw := (mwT 792 (by decide +kernel) rfl)
theorem mlX8_129 : Cond.methodLink RX8 129 yX8_holds ∈ mw := (mwT 812 (by decide +kernel) rfl)
theorem mlX8_132 : Cond.methodLink RX8 132 yX8_isExample ∈ mw := (mwT 800 (by decide +kernel) rfl)
theorem mlX8_135 : Cond.methodLink RX8 135 yX8_holdsIn ∈ mw := (mwT 808 (by decide +kernel) rfl)
theorem mlX8_139 : Cond.methodLink RX8 139 yX8_bits ∈ mw := (mwT 820 (by decide +kernel) rfl)
theorem mlX8_142 : Cond.methodLink RX8 142 yX8_toldBy ∈ mw := (mwT 827 (by decide +kernel) rfl)
theorem mlX8_145 : Cond.methodLink RX8 145 yX8_layOrders ∈ mw := (mwT 831 (by decide +kernel) rfl)
theorem mlX8_151 : Cond.methodLink RX8 151 yX8_fewest ∈ mw := (mwT 839 (by decide +kernel) rfl)
theorem mlX8_160 : Cond.methodLink RX8 160 yX8_slipped ∈ mw := (mwT 855 (by decide +kernel) rfl)
theorem mlX8_163 : Cond.methodLink RX8 163 yX8_laySlips ∈ mw := (mwT 851 (by decide +kernel) rfl)
theorem oI_i : Cond.instanceMethod objectInit ∈ mw := (mwT 18 (by decide +kernel) rfl)
theorem oI_c : Cond.code objectInit ⟨#[0xb1]⟩ 1 none ∈ mw := (mwT 19 (by decide +kernel) rfl)
theorem flX7_14 : FL RX7 14 7 0 true (.object "BookShows$Text") := ⟨RX7, TX7, 9, tyX7, rfl, by decide, (mwT 159 (by decide +kernel) rfl), rfl, rfl, rfl, iX7, tyX7_ok, nmX7⟩
theorem flX7_18 : FL RX7 18 7 1 true (.object "BookShows$Text") := ⟨RX7, TX7, 9, tyX7, rfl, by decide, (mwT 160 (by decide +kernel) rfl), rfl, rfl, rfl, iX7, tyX7_ok, nmX7⟩
theorem flX7_26 : FL RX7 26 7 2 true (.object "BookShows$Book") := ⟨RX7, TX7, 9, tyX7, rfl, by decide, (mwT 161 (by decide +kernel) rfl), rfl, rfl, rfl, iX7, tyX7_ok, nmX7⟩
theorem flX7_30 : FL RX7 30 7 3 true (.array (.object "BookShows$Book")) := ⟨RX7, TX7, 9, tyX7, rfl, by decide, (mwT 162 (by decide +kernel) rfl), rfl, rfl, rfl, iX7, tyX7_ok, nmX7⟩
theorem flX7_34 : FL RX7 34 7 4 true (.array .boolean) := ⟨RX7, TX7, 9, tyX7, rfl, by decide, (mwT 163 (by decide +kernel) rfl), rfl, rfl, rfl, iX7, tyX7_ok, nmX7⟩
theorem flX7_41 : FL RX7 41 7 5 true (.object "BookShows$Reckoner") := ⟨RX7, TX7, 9, tyX7, rfl, by decide, (mwT 164 (by decide +kernel) rfl), rfl, rfl, rfl, iX7, tyX7_ok, nmX7⟩
theorem flX7_50 : FL RX7 50 7 6 true (.object "BookShows$Outcomes") := ⟨RX7, TX7, 9, tyX7, rfl, by decide, (mwT 165 (by decide +kernel) rfl), rfl, rfl, rfl, iX7, tyX7_ok, nmX7⟩
theorem flX7_59 : FL RX7 59 7 7 true (.object "BookShows$Slips") := ⟨RX7, TX7, 9, tyX7, rfl, by decide, (mwT 166 (by decide +kernel) rfl), rfl, rfl, rfl, iX7, tyX7_ok, nmX7⟩
theorem flX7_66 : FL RX7 66 7 8 true (.object "BookShows$Needs") := ⟨RX7, TX7, 9, tyX7, rfl, by decide, (mwT 167 (by decide +kernel) rfl), rfl, rfl, rfl, iX7, tyX7_ok, nmX7⟩
theorem flX0_9 : FL RX0 9 0 0 true (.object "BookShows$Text") := ⟨RX0, TX0, 8, tyX0, rfl, by decide, (mwT 45 (by decide +kernel) rfl), rfl, rfl, rfl, iX0, tyX0_ok, nmX0⟩
theorem flX0_17 : FL RX0 17 0 1 true (.array (.object "BookShows$Text")) := ⟨RX0, TX0, 8, tyX0, rfl, by decide, (mwT 46 (by decide +kernel) rfl), rfl, rfl, rfl, iX0, tyX0_ok, nmX0⟩
theorem flX0_21 : FL RX0 21 0 2 true (.array .int) := ⟨RX0, TX0, 8, tyX0, rfl, by decide, (mwT 47 (by decide +kernel) rfl), rfl, rfl, rfl, iX0, tyX0_ok, nmX0⟩
theorem flX0_25 : FL RX0 25 0 3 true (.array (.object "BookShows$Text")) := ⟨RX0, TX0, 8, tyX0, rfl, by decide, (mwT 48 (by decide +kernel) rfl), rfl, rfl, rfl, iX0, tyX0_ok, nmX0⟩
theorem flX0_28 : FL RX0 28 0 4 true (.array .int) := ⟨RX0, TX0, 8, tyX0, rfl, by decide, (mwT 49 (by decide +kernel) rfl), rfl, rfl, rfl, iX0, tyX0_ok, nmX0⟩
theorem flX0_31 : FL RX0 31 0 5 true (.array .int) := ⟨RX0, TX0, 8, tyX0, rfl, by decide, (mwT 50 (by decide +kernel) rfl), rfl, rfl, rfl, iX0, tyX0_ok, nmX0⟩
theorem flX0_34 : FL RX0 34 0 6 false .int := ⟨RX0, TX0, 8, tyX0, rfl, by decide, (mwT 51 (by decide +kernel) rfl), rfl, rfl, rfl, iX0, tyX0_ok, nmX0⟩
theorem flX0_38 : FL RX0 38 0 7 false .int := ⟨RX0, TX0, 8, tyX0, rfl, by decide, (mwT 52 (by decide +kernel) rfl), rfl, rfl, rfl, iX0, tyX0_ok, nmX0⟩
theorem flX1_9 : FL RX1 9 1 0 true (.array .int) := ⟨RX1, TX1, 2, tyX1, rfl, by decide, (mwT 152 (by decide +kernel) rfl), rfl, rfl, rfl, iX1, tyX1_ok, nmX1⟩
theorem flX1_15 : FL RX1 15 1 1 false .int := ⟨RX1, TX1, 2, tyX1, rfl, by decide, (mwT 153 (by decide +kernel) rfl), rfl, rfl, rfl, iX1, tyX1_ok, nmX1⟩
theorem flX2_9 : FL RX2 9 2 0 true (.object "BookShows$Book") := ⟨RX2, TX2, 5, tyX2, rfl, by decide, (mwT 102 (by decide +kernel) rfl), rfl, rfl, rfl, iX2, tyX2_ok, nmX2⟩
theorem flX2_15 : FL RX2 15 2 1 true (.object "BookShows$Reckoner") := ⟨RX2, TX2, 5, tyX2, rfl, by decide, (mwT 103 (by decide +kernel) rfl), rfl, rfl, rfl, iX2, tyX2_ok, nmX2⟩
theorem flX2_19 : FL RX2 19 2 2 true (.array .boolean) := ⟨RX2, TX2, 5, tyX2, rfl, by decide, (mwT 104 (by decide +kernel) rfl), rfl, rfl, rfl, iX2, tyX2_ok, nmX2⟩
theorem flX2_23 : FL RX2 23 2 3 true (.array .int) := ⟨RX2, TX2, 5, tyX2, rfl, by decide, (mwT 105 (by decide +kernel) rfl), rfl, rfl, rfl, iX2, tyX2_ok, nmX2⟩
theorem flX2_27 : FL RX2 27 2 4 true (.array .int) := ⟨RX2, TX2, 5, tyX2, rfl, by decide, (mwT 106 (by decide +kernel) rfl), rfl, rfl, rfl, iX2, tyX2_ok, nmX2⟩
theorem flX3_11 : FL RX3 11 3 0 true (.array (.object "BookShows$Text")) := ⟨RX3, TX3, 5, tyX3, rfl, by decide, (mwT 79 (by decide +kernel) rfl), rfl, rfl, rfl, iX3, tyX3_ok, nmX3⟩
theorem flX3_27 : FL RX3 27 3 1 false .int := ⟨RX3, TX3, 5, tyX3, rfl, by decide, (mwT 80 (by decide +kernel) rfl), rfl, rfl, rfl, iX3, tyX3_ok, nmX3⟩
theorem flX3_31 : FL RX3 31 3 2 false .int := ⟨RX3, TX3, 5, tyX3, rfl, by decide, (mwT 81 (by decide +kernel) rfl), rfl, rfl, rfl, iX3, tyX3_ok, nmX3⟩
theorem flX3_34 : FL RX3 34 3 3 false .int := ⟨RX3, TX3, 5, tyX3, rfl, by decide, (mwT 82 (by decide +kernel) rfl), rfl, rfl, rfl, iX3, tyX3_ok, nmX3⟩
theorem flX3_37 : FL RX3 37 3 4 false .int := ⟨RX3, TX3, 5, tyX3, rfl, by decide, (mwT 83 (by decide +kernel) rfl), rfl, rfl, rfl, iX3, tyX3_ok, nmX3⟩
theorem flX5_9 : FL RX5 9 5 0 true (.object "BookShows$Book") := ⟨RX5, TX5, 7, tyX5, rfl, by decide, (mwT 124 (by decide +kernel) rfl), rfl, rfl, rfl, iX5, tyX5_ok, nmX5⟩
theorem flX5_15 : FL RX5 15 5 1 true (.object "BookShows$Outcomes") := ⟨RX5, TX5, 7, tyX5, rfl, by decide, (mwT 125 (by decide +kernel) rfl), rfl, rfl, rfl, iX5, tyX5_ok, nmX5⟩
theorem flX5_19 : FL RX5 19 5 2 true (.object "BookShows$Reckoner") := ⟨RX5, TX5, 7, tyX5, rfl, by decide, (mwT 126 (by decide +kernel) rfl), rfl, rfl, rfl, iX5, tyX5_ok, nmX5⟩
theorem flX5_23 : FL RX5 23 5 3 true (.object "BookShows$Text") := ⟨RX5, TX5, 7, tyX5, rfl, by decide, (mwT 127 (by decide +kernel) rfl), rfl, rfl, rfl, iX5, tyX5_ok, nmX5⟩
theorem flX5_27 : FL RX5 27 5 4 true (.array .int) := ⟨RX5, TX5, 7, tyX5, rfl, by decide, (mwT 128 (by decide +kernel) rfl), rfl, rfl, rfl, iX5, tyX5_ok, nmX5⟩
theorem flX5_31 : FL RX5 31 5 5 true (.array .boolean) := ⟨RX5, TX5, 7, tyX5, rfl, by decide, (mwT 129 (by decide +kernel) rfl), rfl, rfl, rfl, iX5, tyX5_ok, nmX5⟩
theorem flX5_35 : FL RX5 35 5 6 true (.array .int) := ⟨RX5, TX5, 7, tyX5, rfl, by decide, (mwT 130 (by decide +kernel) rfl), rfl, rfl, rfl, iX5, tyX5_ok, nmX5⟩
theorem flX6_15 : FL RX6 15 6 0 true (.array .char) := ⟨RX6, TX6, 2, tyX6, rfl, by decide, (mwT 29 (by decide +kernel) rfl), rfl, rfl, rfl, iX6, tyX6_ok, nmX6⟩
theorem flX6_21 : FL RX6 21 6 1 false .int := ⟨RX6, TX6, 2, tyX6, rfl, by decide, (mwT 30 (by decide +kernel) rfl), rfl, rfl, rfl, iX6, tyX6_ok, nmX6⟩
theorem flX8_7 : FL RX8 7 8 0 true (.array .int) := ⟨RX8, TX8, 27, tyX8, rfl, by decide, (mwT 630 (by decide +kernel) rfl), rfl, rfl, rfl, iX8, tyX8_ok, nmX8⟩
theorem flX8_13 : FL RX8 13 8 1 true (.array .int) := ⟨RX8, TX8, 27, tyX8, rfl, by decide, (mwT 631 (by decide +kernel) rfl), rfl, rfl, rfl, iX8, tyX8_ok, nmX8⟩
theorem flX8_16 : FL RX8 16 8 2 true (.array .int) := ⟨RX8, TX8, 27, tyX8, rfl, by decide, (mwT 632 (by decide +kernel) rfl), rfl, rfl, rfl, iX8, tyX8_ok, nmX8⟩
theorem flX8_19 : FL RX8 19 8 5 true (.array .int) := ⟨RX8, TX8, 27, tyX8, rfl, by decide, (mwT 635 (by decide +kernel) rfl), rfl, rfl, rfl, iX8, tyX8_ok, nmX8⟩
theorem flX8_22 : FL RX8 22 8 6 true (.array .int) := ⟨RX8, TX8, 27, tyX8, rfl, by decide, (mwT 636 (by decide +kernel) rfl), rfl, rfl, rfl, iX8, tyX8_ok, nmX8⟩
theorem flX8_25 : FL RX8 25 8 7 true (.array .int) := ⟨RX8, TX8, 27, tyX8, rfl, by decide, (mwT 637 (by decide +kernel) rfl), rfl, rfl, rfl, iX8, tyX8_ok, nmX8⟩
theorem flX8_28 : FL RX8 28 8 9 true (.array .int) := ⟨RX8, TX8, 27, tyX8, rfl, by decide, (mwT 639 (by decide +kernel) rfl), rfl, rfl, rfl, iX8, tyX8_ok, nmX8⟩
theorem flX8_31 : FL RX8 31 8 10 true (.array .int) := ⟨RX8, TX8, 27, tyX8, rfl, by decide, (mwT 640 (by decide +kernel) rfl), rfl, rfl, rfl, iX8, tyX8_ok, nmX8⟩
theorem flX8_34 : FL RX8 34 8 11 true (.array .int) := ⟨RX8, TX8, 27, tyX8, rfl, by decide, (mwT 641 (by decide +kernel) rfl), rfl, rfl, rfl, iX8, tyX8_ok, nmX8⟩
theorem flX8_37 : FL RX8 37 8 15 true (.array .int) := ⟨RX8, TX8, 27, tyX8, rfl, by decide, (mwT 645 (by decide +kernel) rfl), rfl, rfl, rfl, iX8, tyX8_ok, nmX8⟩
theorem flX8_40 : FL RX8 40 8 16 true (.array .int) := ⟨RX8, TX8, 27, tyX8, rfl, by decide, (mwT 646 (by decide +kernel) rfl), rfl, rfl, rfl, iX8, tyX8_ok, nmX8⟩
theorem flX8_43 : FL RX8 43 8 18 true (.array .int) := ⟨RX8, TX8, 27, tyX8, rfl, by decide, (mwT 648 (by decide +kernel) rfl), rfl, rfl, rfl, iX8, tyX8_ok, nmX8⟩
theorem flX8_46 : FL RX8 46 8 19 true (.array .int) := ⟨RX8, TX8, 27, tyX8, rfl, by decide, (mwT 649 (by decide +kernel) rfl), rfl, rfl, rfl, iX8, tyX8_ok, nmX8⟩
theorem flX8_49 : FL RX8 49 8 23 true (.array .int) := ⟨RX8, TX8, 27, tyX8, rfl, by decide, (mwT 653 (by decide +kernel) rfl), rfl, rfl, rfl, iX8, tyX8_ok, nmX8⟩
theorem flX8_52 : FL RX8 52 8 24 true (.array .int) := ⟨RX8, TX8, 27, tyX8, rfl, by decide, (mwT 654 (by decide +kernel) rfl), rfl, rfl, rfl, iX8, tyX8_ok, nmX8⟩
theorem flX8_55 : FL RX8 55 8 25 true (.array .int) := ⟨RX8, TX8, 27, tyX8, rfl, by decide, (mwT 655 (by decide +kernel) rfl), rfl, rfl, rfl, iX8, tyX8_ok, nmX8⟩
theorem flX8_58 : FL RX8 58 8 26 true (.array .boolean) := ⟨RX8, TX8, 27, tyX8, rfl, by decide, (mwT 656 (by decide +kernel) rfl), rfl, rfl, rfl, iX8, tyX8_ok, nmX8⟩
theorem flX8_62 : FL RX8 62 8 3 false .int := ⟨RX8, TX8, 27, tyX8, rfl, by decide, (mwT 633 (by decide +kernel) rfl), rfl, rfl, rfl, iX8, tyX8_ok, nmX8⟩
theorem flX8_70 : FL RX8 70 8 4 false .int := ⟨RX8, TX8, 27, tyX8, rfl, by decide, (mwT 634 (by decide +kernel) rfl), rfl, rfl, rfl, iX8, tyX8_ok, nmX8⟩
theorem flX8_93 : FL RX8 93 8 20 false .boolean := ⟨RX8, TX8, 27, tyX8, rfl, by decide, (mwT 650 (by decide +kernel) rfl), rfl, rfl, rfl, iX8, tyX8_ok, nmX8⟩
theorem flX8_103 : FL RX8 103 8 8 false .int := ⟨RX8, TX8, 27, tyX8, rfl, by decide, (mwT 638 (by decide +kernel) rfl), rfl, rfl, rfl, iX8, tyX8_ok, nmX8⟩
theorem flX8_106 : FL RX8 106 8 12 false .int := ⟨RX8, TX8, 27, tyX8, rfl, by decide, (mwT 642 (by decide +kernel) rfl), rfl, rfl, rfl, iX8, tyX8_ok, nmX8⟩
theorem flX8_109 : FL RX8 109 8 13 false .int := ⟨RX8, TX8, 27, tyX8, rfl, by decide, (mwT 643 (by decide +kernel) rfl), rfl, rfl, rfl, iX8, tyX8_ok, nmX8⟩
theorem flX8_112 : FL RX8 112 8 14 false .int := ⟨RX8, TX8, 27, tyX8, rfl, by decide, (mwT 644 (by decide +kernel) rfl), rfl, rfl, rfl, iX8, tyX8_ok, nmX8⟩
theorem flX8_148 : FL RX8 148 8 17 false .int := ⟨RX8, TX8, 27, tyX8, rfl, by decide, (mwT 647 (by decide +kernel) rfl), rfl, rfl, rfl, iX8, tyX8_ok, nmX8⟩
theorem flX8_154 : FL RX8 154 8 21 false .int := ⟨RX8, TX8, 27, tyX8, rfl, by decide, (mwT 651 (by decide +kernel) rfl), rfl, rfl, rfl, iX8, tyX8_ok, nmX8⟩
theorem flX8_157 : FL RX8 157 8 22 false .int := ⟨RX8, TX8, 27, tyX8, rfl, by decide, (mwT 652 (by decide +kernel) rfl), rfl, rfl, rfl, iX8, tyX8_ok, nmX8⟩
theorem clX7_9 : Cond.classLink RX7 9 RX6 ∈ mw := (mwT 20 (by decide +kernel) rfl)
theorem clX7_21 : Cond.classLink RX7 21 RX0 ∈ mw := (mwT 37 (by decide +kernel) rfl)
theorem clX7_38 : Cond.classLink RX7 38 RX3 ∈ mw := (mwT 72 (by decide +kernel) rfl)
theorem clX7_45 : Cond.classLink RX7 45 RX2 ∈ mw := (mwT 96 (by decide +kernel) rfl)
theorem clX7_54 : Cond.classLink RX7 54 RX5 ∈ mw := (mwT 118 (by decide +kernel) rfl)
theorem clX7_63 : Cond.classLink RX7 63 RX1 ∈ mw := (mwT 146 (by decide +kernel) rfl)
theorem clX0_15 : Cond.classLink RX0 15 RX6 ∈ mw := (mwT 43 (by decide +kernel) rfl)
theorem clX3_9 : Cond.classLink RX3 9 RX6 ∈ mw := (mwT 78 (by decide +kernel) rfl)
theorem clX6_16 : Cond.classLink RX6 16 RX6 ∈ mw := (mwT 258 (by decide +kernel) rfl)
theorem clL_7 : Cond.classLink RL 7 RX7 ∈ mw := (mwT 12 (by decide +kernel) rfl)
theorem clL_10 : Cond.classLink RL 10 RX8 ∈ mw := (mwT 624 (by decide +kernel) rfl)
theorem inX7 : Cond.instantiable RX7 9 ∈ mw := (mwT 13 (by decide +kernel) rfl)
theorem itX7 : Cond.initialized RX7 ∈ mw := (mwT 1 (by decide +kernel) rfl)
theorem inX0 : Cond.instantiable RX0 8 ∈ mw := (mwT 38 (by decide +kernel) rfl)
theorem itX0 : Cond.initialized RX0 ∈ mw := (mwT 4 (by decide +kernel) rfl)
theorem inX1 : Cond.instantiable RX1 2 ∈ mw := (mwT 147 (by decide +kernel) rfl)
theorem itX1 : Cond.initialized RX1 ∈ mw := (mwT 8 (by decide +kernel) rfl)
theorem inX2 : Cond.instantiable RX2 5 ∈ mw := (mwT 97 (by decide +kernel) rfl)
theorem itX2 : Cond.initialized RX2 ∈ mw := (mwT 6 (by decide +kernel) rfl)
theorem inX3 : Cond.instantiable RX3 5 ∈ mw := (mwT 73 (by decide +kernel) rfl)
theorem itX3 : Cond.initialized RX3 ∈ mw := (mwT 5 (by decide +kernel) rfl)
theorem inX5 : Cond.instantiable RX5 7 ∈ mw := (mwT 119 (by decide +kernel) rfl)
theorem itX5 : Cond.initialized RX5 ∈ mw := (mwT 7 (by decide +kernel) rfl)
theorem inX6 : Cond.instantiable RX6 2 ∈ mw := (mwT 21 (by decide +kernel) rfl)
theorem itX6 : Cond.initialized RX6 ∈ mw := (mwT 2 (by decide +kernel) rfl)
theorem inX8 : Cond.instantiable RX8 27 ∈ mw := (mwT 625 (by decide +kernel) rfl)
theorem itX8 : Cond.initialized RX8 ∈ mw := (mwT 9 (by decide +kernel) rfl)
theorem ac_boolean : Cond.arrayClass .boolean ∈ mw := (mwT 95 (by decide +kernel) rfl)
theorem ac_char : Cond.arrayClass .char ∈ mw := (mwT 36 (by decide +kernel) rfl)
theorem ac_int : Cond.arrayClass .int ∈ mw := (mwT 70 (by decide +kernel) rfl)
theorem cnJ6_265 : Cond.constant RJ6 265 (1431655765) ∈ mw := (mwT 442 (by decide +kernel) rfl)
theorem cnJ6_266 : Cond.constant RJ6 266 (858993459) ∈ mw := (mwT 443 (by decide +kernel) rfl)
theorem cnJ6_267 : Cond.constant RJ6 267 (252645135) ∈ mw := (mwT 444 (by decide +kernel) rfl)
end
section
/-! a layer over the kit: whole numbers as Int, the heap as a picture (address to what lies there, with a ghost mark) -/
abbrev Va : Type := Int ⊕ Option Nat
abbrev vI (z : Int) : Va := Sum.inl z
abbrev vR (a : Nat) : Va := Sum.inr (some a)
def cv : Va → Value
  | .inl z => .int (Int32.ofInt z)
  | .inr r => va_rf r
abbrev Rg (z : Int) : Prop := -2147483648 ≤ z ∧ z ≤ 2147483647
def Rv : Va → Prop
  | .inl z => Rg z
  | .inr _ => True
abbrev Bd : Type := (Nat × List Va) ⊕ (Nat × Int × (Int → Int)) ⊕ (Nat × Int × (Int → Option Nat))
abbrev Ob : Type := Nat × Bd
abbrev Pic : Type := Nat → Option Ob
abbrev ob (t ci : Nat) (fs : List Va) : Ob := (t, .inl (ci, fs))
abbrev ia (t k : Nat) (n : Int) (f : Int → Int) : Ob := (t, .inr (.inl (k, n, f)))
abbrev ra (t k : Nat) (n : Int) (f : Int → Option Nat) : Ob := (t, .inr (.inr (k, n, f)))
def pu (h : Pic) (a : Nat) (o : Ob) : Pic := fun q => if q = a then some o else h q
def fu {α : Type} (f : Int → α) (i : Int) (v : α) : Int → α := fun j => if j = i then v else f j
theorem pu_s {h : Pic} {a : Nat} {o : Ob} : pu h a o a = some o := if_pos rfl
theorem pu_n {h : Pic} {a q : Nat} {o : Ob} (e : q ≠ a) : pu h a o q = h q := if_neg e
theorem fu_s {α : Type} {f : Int → α} {i : Int} {v : α} : fu f i v i = v := if_pos rfl
theorem fu_n {α : Type} {f : Int → α} {i j : Int} {v : α} (e : j ≠ i) : fu f i v j = f j := if_neg e
theorem cv_cat (v : Va) : (cv v).category = 1 := by
  rcases v with z | (_ | a) <;> rfl
theorem o_toInt {z : Int} (h : Rg z) : (Int32.ofInt z).toInt = z := Int32.toInt_ofInt_of_le (by have := h.1; omega) (by have := h.2; omega)
theorem o_le {x y : Int} (hx : Rg x) (hy : Rg y) : Int32.ofInt x ≤ Int32.ofInt y ↔ x ≤ y := by rw [Int32.le_iff_toInt_le, o_toInt hx, o_toInt hy]
theorem o_lt {x y : Int} (hx : Rg x) (hy : Rg y) : Int32.ofInt x < Int32.ofInt y ↔ x < y := by rw [Int32.lt_iff_toInt_lt, o_toInt hx, o_toInt hy]
theorem o_eq {x y : Int} (hx : Rg x) (hy : Rg y) : Int32.ofInt x = Int32.ofInt y ↔ x = y := by
  refine ⟨fun h => ?_, fun h => by rw [h]⟩
  have := congrArg Int32.toInt h
  rwa [o_toInt hx, o_toInt hy] at this
theorem o_clamp {x : Int} (h : Rg x) : (Int32.ofInt x).toNatClampNeg = x.toNat := Int32.toNatClampNeg_ofInt_of_le (by have := h.1; omega) (by have := h.2; omega)
theorem o_in {x n : Int} (h0 : 0 ≤ x) (h1 : x < n) (h : Rg x) : vp_in (Int32.ofInt x) n.toNat := by
  rw [vp_in_iff, o_toInt h]
  omega
theorem o_ns {x n : Int} (h0 : 0 ≤ x) (h1 : x < n) (h : Rg x) : ¬ (Int32.ofInt x < 0 ∨ n.toNat ≤ (Int32.ofInt x).toNatClampNeg) := o_in h0 h1 h
theorem o_8 {z : Int} (h : -128 ≤ z ∧ z ≤ 127) : (Int8.ofInt z).toInt32 = Int32.ofInt z := by
  rw [← Int32.toInt_inj, Int8.toInt_toInt32, Int8.toInt_ofInt_of_le (by omega) (by omega), o_toInt (by omega)]
theorem o_16 {z : Int} (h : -32768 ≤ z ∧ z ≤ 32767) : (Int16.ofInt z).toInt32 = Int32.ofInt z := by
  rw [← Int32.toInt_inj, Int16.toInt_toInt32, Int16.toInt_ofInt_of_le (by omega) (by omega), o_toInt (by omega)]
theorem o_nb {z : Int} (h : z = 0 ∨ z = 1) : narrow .boolean (.int (Int32.ofInt z)) = .int (Int32.ofInt z) := by
  rcases h with rfl | rfl <;> rfl
theorem o_nc {z : Int} (h : 0 ≤ z ∧ z ≤ 65535) : narrow .char (.int (Int32.ofInt z)) = .int (Int32.ofInt z) := by
  obtain ⟨k, rfl⟩ := Int.eq_ofNat_of_zero_le h.1
  rw [Int32.ofInt_eq_ofNat]
  exact (pk_charN (by omega)).1
def tyI (k : Nat) : FieldType := match k with
  | 0 => .int
  | 1 => .char
  | _ => .boolean
def tyR (k : Nat) : Nat × String := match k with
  | 0 => (6, "BookShows$Text")
  | _ => (0, "BookShows$Book")
/-- what lies at an address is there -/
def OkAt (D : va_G) (U : State) (H : Heap) (a : Nat) (b : Bd) : Prop := match b with
  | .inl (ci, fs) => (∀ v ∈ fs, Rv v) ∧ ∃ r : vw_C, classes[ci]? = some r ∧ fs.length = r.2.2 ∧ t_OB a (D.1 ci) r.2.2 (D.2 ci) H (vp_V (fs.map cv))
  | .inr (.inl (k, n, f)) => (0 ≤ n ∧ n ≤ 2147483647) ∧ (∀ j, Rg (f j)) ∧ ∃ cA : ClassId, ArrOfT U cA (tyI k) ∧ H[a]? = some (arrV cA n.toNat (fun j => .int (Int32.ofInt (f j))))
  | .inr (.inr (k, n, f)) => (0 ≤ n ∧ n ≤ 2147483647) ∧ ∃ cA : ClassId, ArrOfT U cA (.object (tyR k).2) ∧ va_RA U cA (.object (tyR k).2) ∧ H[a]? = some (arrV cA n.toNat (fun j => va_rf (f j)))
def PicOk (D : va_G) (base : Nat) (h : Pic) (U : State) (H : Heap) : Prop := ∀ (a t : Nat) (b : Bd), h a = some (t, b) → base ≤ a ∧ OkAt D U H a b
theorem OkAt.moved {D : va_G} {u U : State} {H : Heap} {a : Nat} {b : Bd} (hvm : u.vm.Alike U.vm) (h : OkAt D u H a b) : OkAt D U H a b := by
  rcases b with ⟨ci, fs⟩ | ⟨k, n, f⟩ | ⟨k, n, f⟩
  · exact h
  · obtain ⟨h1, h2, cA, h3, h4⟩ := h
    exact ⟨h1, h2, cA, arrOfT_moved hvm h3, h4⟩
  · obtain ⟨h1, cA, h2, h3, h4⟩ := h
    exact ⟨h1, cA, arrOfT_moved hvm h2, h3.moved hvm, h4⟩
theorem OkAt.kept {D : va_G} {U : State} {H H1 : Heap} {a : Nat} {b : Bd} (h : OkAt D U H a b) (e : H1[a]? = H[a]?) : OkAt D U H1 a b := by
  rcases b with ⟨ci, fs⟩ | ⟨k, n, f⟩ | ⟨k, n, f⟩
  · obtain ⟨h0, r, h1, h2, h3⟩ := h
    exact ⟨h0, r, h1, h2, h3.kept e⟩
  · obtain ⟨h1, h2, cA, h3, h4⟩ := h
    exact ⟨h1, h2, cA, h3, e.trans h4⟩
  · obtain ⟨h1, cA, h2, h3, h4⟩ := h
    exact ⟨h1, cA, h2, h3, e.trans h4⟩
theorem OkAt.lt {D : va_G} {U : State} {H : Heap} {a : Nat} {b : Bd} (h : OkAt D U H a b) : a < H.size := by
  rcases b with ⟨ci, fs⟩ | ⟨k, n, f⟩ | ⟨k, n, f⟩
  · obtain ⟨h0, r, h1, h2, cell, h3, -⟩ := h
    exact (Array.getElem?_eq_some_iff.mp h3).1
  · obtain ⟨h1, h2, cA, h3, h4⟩ := h
    exact (Array.getElem?_eq_some_iff.mp h4).1
  · obtain ⟨h1, cA, h2, h3, h4⟩ := h
    exact (Array.getElem?_eq_some_iff.mp h4).1
theorem PicOk.moved {D : va_G} {base : Nat} {h : Pic} {u U : State} {H : Heap} (hp : PicOk D base h u H) (hvm : u.vm.Alike U.vm) : PicOk D base h U H := fun a t b e => ⟨(hp a t b e).1, (hp a t b e).2.moved hvm⟩
theorem PicOk.set {D : va_G} {base : Nat} {h : Pic} {U : State} {H H1 : Heap} {a t : Nat} {b b' : Bd} (hp : PicOk D base h U H) (ha : h a = some (t, b)) (hb : OkAt D U H1 a b') (e : ∀ q : Nat, q ≠ a → H1[q]? = H[q]?) : PicOk D base (pu h a (t, b')) U H1 := by
  intro q t' b'' hq
  by_cases hqa : q = a
  · subst hqa
    rw [pu_s] at hq
    cases hq
    exact ⟨(hp _ _ _ ha).1, hb⟩
  · rw [pu_n hqa] at hq
    exact ⟨(hp _ _ _ hq).1, (hp _ _ _ hq).2.kept (e q hqa)⟩
theorem PicOk.fresh {D : va_G} {base : Nat} {h : Pic} {U : State} {H : Heap} (hp : PicOk D base h U H) : h H.size = none := by
  cases e : h H.size with
  | none => rfl
  | some o => exact absurd (hp _ o.1 o.2 e).2.lt (Nat.lt_irrefl _)
theorem PicOk.push {D : va_G} {base : Nat} {h : Pic} {U : State} {H H1 : Heap} {t : Nat} {b : Bd} (hp : PicOk D base h U H) (hs : base ≤ H.size) (hb : OkAt D U H1 H.size b) (e : ∀ q : Nat, q < H.size → H1[q]? = H[q]?) : PicOk D base (pu h H.size (t, b)) U H1 := by
  intro q t' b'' hq
  by_cases hqa : q = H.size
  · subst hqa
    rw [pu_s] at hq
    cases hq
    exact ⟨hs, hb⟩
  · rw [pu_n hqa] at hq
    exact ⟨(hp _ _ _ hq).1, (hp _ _ _ hq).2.kept (e q (hp _ _ _ hq).2.lt)⟩
/-- what the tables say of the classes -/
def KK (D : va_G) (U : State) : Prop := (∀ (c : Nat) (q : vw_C), classes[c]? = some q → u_Kn U q.1 q.2.1 q.2.2 (D.1 c) (D.2 c)) ∧ va_AO "BookShows$Text" U ∧ va_AO "BookShows$Book" U ∧ va_Nw (.methodLinkNest RX0 49 yX7_isWord "BookShows") U ∧ va_Nw (.methodLinkNest RX3 23 yX7_isWord "BookShows") U
theorem KK.warm {D : va_G} {s U : State} (h : KK D s) (hW : s.WarmedH U.vm) : KK D U :=
  ⟨fun c q e => u_Kn_moved hW.alike (h.1 c q e), h.2.1.moved hW.alike, h.2.2.1.moved hW.alike, va_Nw.warmM hW h.2.2.2.1, va_Nw.warmM hW h.2.2.2.2⟩
theorem KK.same {D : va_G} {s U : State} (h : KK D s) (e : s.vm = U.vm) : KK D U := by
  have ha : s.vm.Alike U.vm := by rw [e]; exact Vm.Alike.refl _
  exact ⟨fun c q e => u_Kn_moved ha (h.1 c q e), h.2.1.moved ha, h.2.2.1.moved ha, va_Nw.same rfl e h.2.2.2.1, va_Nw.same rfl e h.2.2.2.2⟩
theorem KK.K {D : va_G} {U : State} (h : KK D U) : va_K D classes [] U := ⟨h.1, fun k q e => by simp at e⟩
/-- the locals hold what is listed -/
def LsOk (ls : Array Slot) (nL : Nat) (L : List (Option Va)) : Prop := ls.size = nL ∧ lv_wf ls ∧ ∀ (i : Nat) (v : Va), L[i]? = some (some v) → Rv v ∧ ls[i]? = some (.val (cv v))
def lvL (L : List (Option Va)) : List (Nat × Value) := L.zipIdx.filterMap (fun q => q.1.map (fun v => (q.2, cv v)))
theorem lvL_mem {L : List (Option Va)} {q : Nat × Value} (h : q ∈ lvL L) : ∃ v : Va, L[q.1]? = some (some v) ∧ q.2 = cv v := by
  obtain ⟨⟨o, i⟩, h1, h2⟩ := List.mem_filterMap.mp h
  rw [List.mk_mem_zipIdx_iff_getElem?] at h1
  cases o with
  | none => cases h2
  | some v =>
    cases h2
    exact ⟨v, h1, rfl⟩
theorem mem_lvL {L : List (Option Va)} {i : Nat} {v : Va} (h : L[i]? = some (some v)) : (i, cv v) ∈ lvL L :=
  List.mem_filterMap.mpr ⟨(some v, i), List.mk_mem_zipIdx_iff_getElem?.mpr h, rfl⟩
theorem LsOk.has {ls : Array Slot} {nL : Nat} {L : List (Option Va)} (h : LsOk ls nL L) : lv_has ls nL (lvL L) := by
  refine ⟨h.1, h.2.1, fun q hq => ?_⟩
  obtain ⟨v, h1, h2⟩ := lvL_mem hq
  rw [h2]
  exact (h.2.2 _ _ h1).2
theorem LsOk.put {ls ls' : Array Slot} {nL i : Nat} {L : List (Option Va)} {v : Va} {lv : List (Nat × Value)} (h : LsOk ls nL L) (hv : Rv v) (hsub : ∀ q ∈ lvL L, q ∈ lv) (h' : lv_has ls' nL ((i, cv v) :: lv.filter (fun q => !(q.1 == i) && !(q.1 + 1 == i && q.2.category == 2)))) : LsOk ls' nL (L.set i (some v)) := by
  refine ⟨h'.1, h'.2.1, fun j w hj => ?_⟩
  by_cases e : i = j
  · subst e
    by_cases hl : i < L.length
    · rw [List.getElem?_set_self hl] at hj
      cases hj
      exact ⟨hv, h'.2.2 (i, cv v) List.mem_cons_self⟩
    · rw [List.getElem?_eq_none (by simpa using hl)] at hj
      cases hj
  · rw [List.getElem?_set_ne e] at hj
    refine ⟨(h.2.2 _ _ hj).1, h'.2.2 (j, cv w) (List.mem_cons_of_mem _ (List.mem_filter.mpr ⟨hsub _ (mem_lvL hj), ?_⟩))⟩
    have e2 : (j == i) = false := by simpa using fun q => e q.symm
    simp [e2, cv_cat]
abbrev Ctx : Type := (Program × Launch × Env × Room) × (State × MethodId × Array Value × List Frame) × (Method × Code) × (va_G × Nat)
/-- the machine, at a place of a method, with a picture, locals and stack, comes to Q -/
def Go (X : Ctx) (Q : State → Prop) (k n : Nat) (h : Pic) (pc : Nat) (L : List (Option Va)) (st : List Va) : Prop :=
  ∀ (H : Heap) (locs : List Loc) (ls : Array Slot), PicOk X.2.2.2.1 X.2.2.2.2 h X.2.1.1 H → va_S (fun q => X.2.2.2.2 ≤ q) X.2.1.1.heap H locs → LsOk ls X.2.2.1.2.maxLocals L → (∀ v ∈ st, Rv v) →
    W X.1.1 X.1.2.1 X.1.2.2.1 X.1.2.2.2 X.2.1.1 X.2.1.2.1 X.2.1.2.2.1 X.2.1.2.2.2 X.2.2.1.1 X.2.2.1.2 H locs k n Q (F0 X.2.1.2.1 pc ls (st.map cv))
/-- what holds of a method's run -/
def Cx (X : Ctx) (cc : ByteArray) (nL : Nat) (own : String) (ret : Option FieldType) : Prop :=
  X.1.1.tables.exec = Jvm.exec ∧ X.2.2.1.2.code = cc ∧ X.2.2.1.2.maxLocals = nL ∧ X.2.1.1.vm.findClass own = some X.2.1.2.1.cls ∧ (∀ w ∈ mw, w.before X.2.1.2.2.1 X.2.1.1 = true) ∧ X.2.2.1.1.locks = false ∧ X.2.2.1.1.sig.returnType = ret ∧ KK X.2.2.2.1 X.2.1.1 ∧ X.2.2.2.2 ≤ X.2.1.1.heap.size
theorem Rc {v : Va} {st : List Va} (h : Rv v) (hs : ∀ w ∈ st, Rv w) : ∀ w ∈ v :: st, Rv w := List.forall_mem_cons.mpr ⟨h, hs⟩
theorem Rt {v : Va} {st : List Va} (hs : ∀ w ∈ v :: st, Rv w) : ∀ w ∈ st, Rv w := (List.forall_mem_cons.mp hs).2
theorem Rh {v : Va} {st : List Va} (hs : ∀ w ∈ v :: st, Rv w) : Rv v := (List.forall_mem_cons.mp hs).1
section GoRules
variable {X : Ctx} {Q : State → Prop} {k n : Nat} {h : Pic} {pc : Nat} {L : List (Option Va)} {st : List Va} {cc : ByteArray} {nL : Nat} {own : String} {ret : Option FieldType}
theorem r_iload_n {i : Fin 4} {z : Int} (C : Cx X cc nL own ret) (hd : decode cc pc = .ok (.iload_n i, 1)) (hi : L[i.val]? = some (some (vI z))) (kk : Go X Q k n h (pc + 1) L (vI z :: st)) : Go X Q k n h pc L st := fun H locs ls hP hS hL hR =>
  lv_iload_n C.1 C.2.1 hd rfl (hL.2.2 _ _ hi).2 (kk H locs ls hP hS hL (Rc (hL.2.2 _ _ hi).1 hR))
theorem r_iload {i : Nat} {z : Int} (C : Cx X cc nL own ret) (hd : decode cc pc = .ok (.iload i, 2)) (hi : L[i]? = some (some (vI z))) (kk : Go X Q k n h (pc + 2) L (vI z :: st)) : Go X Q k n h pc L st := fun H locs ls hP hS hL hR =>
  lv_iload C.1 C.2.1 hd (hL.2.2 _ _ hi).2 (kk H locs ls hP hS hL (Rc (hL.2.2 _ _ hi).1 hR))
theorem r_aload_n {i : Fin 4} {a : Nat} (C : Cx X cc nL own ret) (hd : decode cc pc = .ok (.aload_n i, 1)) (hi : L[i.val]? = some (some (vR a))) (kk : Go X Q k n h (pc + 1) L (vR a :: st)) : Go X Q k n h pc L st := fun H locs ls hP hS hL hR =>
  lv_aload_n C.1 C.2.1 hd rfl (hL.2.2 _ _ hi).2 (kk H locs ls hP hS hL (Rc (hL.2.2 _ _ hi).1 hR))
theorem r_aload {i a : Nat} (C : Cx X cc nL own ret) (hd : decode cc pc = .ok (.aload i, 2)) (hi : L[i]? = some (some (vR a))) (kk : Go X Q k n h (pc + 2) L (vR a :: st)) : Go X Q k n h pc L st := fun H locs ls hP hS hL hR =>
  lv_aload C.1 C.2.1 hd (hL.2.2 _ _ hi).2 (kk H locs ls hP hS hL (Rc (hL.2.2 _ _ hi).1 hR))
theorem r_istore_n {i : Fin 4} {z : Int} (C : Cx X cc nL own ret) (hd : decode cc pc = .ok (.istore_n i, 1)) (hi : i.val < nL) (kk : Go X Q k n h (pc + 1) (L.set i.val (some (vI z))) st) : Go X Q k n h pc L (vI z :: st) := fun H locs ls hP hS hL hR =>
  lv_istore_n C.1 C.2.1 hd rfl hL.has (by rw [C.2.2.1]; exact hi) rfl (fun ls' h' => kk H locs ls' hP hS (hL.put (v := vI z) (Rh hR) (fun _ q => q) h') (Rt hR))
theorem r_istore {i : Nat} {z : Int} (C : Cx X cc nL own ret) (hd : decode cc pc = .ok (.istore i, 2)) (hi : i < nL) (kk : Go X Q k n h (pc + 2) (L.set i (some (vI z))) st) : Go X Q k n h pc L (vI z :: st) := fun H locs ls hP hS hL hR =>
  lv_istore C.1 C.2.1 hd hL.has (by rw [C.2.2.1]; exact hi) rfl (fun ls' h' => kk H locs ls' hP hS (hL.put (v := vI z) (Rh hR) (fun _ q => q) h') (Rt hR))
theorem r_astore_n {i : Fin 4} {a : Nat} (C : Cx X cc nL own ret) (hd : decode cc pc = .ok (.astore_n i, 1)) (hi : i.val < nL) (kk : Go X Q k n h (pc + 1) (L.set i.val (some (vR a))) st) : Go X Q k n h pc L (vR a :: st) := fun H locs ls hP hS hL hR =>
  lv_astore_n C.1 C.2.1 hd rfl hL.has (by rw [C.2.2.1]; exact hi) rfl (fun ls' h' => kk H locs ls' hP hS (hL.put (v := vR a) (Rh hR) (fun _ q => q) h') (Rt hR))
theorem r_astore {i : Nat} {a : Nat} (C : Cx X cc nL own ret) (hd : decode cc pc = .ok (.astore i, 2)) (hi : i < nL) (kk : Go X Q k n h (pc + 2) (L.set i (some (vR a))) st) : Go X Q k n h pc L (vR a :: st) := fun H locs ls hP hS hL hR =>
  lv_astore C.1 C.2.1 hd hL.has (by rw [C.2.2.1]; exact hi) rfl (fun ls' h' => kk H locs ls' hP hS (hL.put (v := vR a) (Rh hR) (fun _ q => q) h') (Rt hR))
theorem r_iinc {i : Nat} {z c : Int} (C : Cx X cc nL own ret) (hd : decode cc pc = .ok (.iinc i c, 3)) (hi : L[i]? = some (some (vI z))) (hn : i < nL) (hr : Rg (z + c)) (kk : Go X Q k n h (pc + 3) (L.set i (some (vI (z + c)))) st) : Go X Q k n h pc L st := fun H locs ls hP hS hL hR =>
  lv_iinc (lv := (i, cv (vI z)) :: lvL L) (k := 0) (v := Int32.ofInt (z + c)) C.1 C.2.1 hd ⟨hL.1, hL.2.1, List.forall_mem_cons.mpr ⟨(hL.2.2 _ _ hi).2, hL.has.2.2⟩⟩ rfl (Int32.ofInt_add z c).symm (by rw [C.2.2.1]; exact hn) rfl (fun ls' h' => kk H locs ls' hP hS (hL.put (v := vI (z + c)) hr (fun _ q => List.mem_cons_of_mem _ q) h') hR)
theorem r_iconst {z : Int} (C : Cx X cc nL own ret) (hd : decode cc pc = .ok (.iconst z, 1)) (hr : Rg z) (kk : Go X Q k n h (pc + 1) L (vI z :: st)) : Go X Q k n h pc L st := fun H locs ls hP hS hL hR =>
  lv_iconst C.1 C.2.1 hd rfl (kk H locs ls hP hS hL (Rc hr hR))
theorem r_bipush {z : Int} (C : Cx X cc nL own ret) (hd : decode cc pc = .ok (.bipush z, 2)) (hr : -128 ≤ z ∧ z ≤ 127) (kk : Go X Q k n h (pc + 2) L (vI z :: st)) : Go X Q k n h pc L st := fun H locs ls hP hS hL hR =>
  lv_bipush C.1 C.2.1 hd (o_8 hr) (kk H locs ls hP hS hL (Rc (v := vI z) (by show Rg z; omega) hR))
theorem r_sipush {z : Int} (C : Cx X cc nL own ret) (hd : decode cc pc = .ok (.sipush z, 3)) (hr : -32768 ≤ z ∧ z ≤ 32767) (kk : Go X Q k n h (pc + 3) L (vI z :: st)) : Go X Q k n h pc L st := fun H locs ls hP hS hL hR =>
  lv_sipush C.1 C.2.1 hd (o_16 hr) (kk H locs ls hP hS hL (Rc (v := vI z) (by show Rg z; omega) hR))
theorem r_ldcw {i : Nat} {v : Int32} {z : Int} (C : Cx X cc nL own ret) (hd : decode cc pc = .ok (.ldc_w i, 3)) (hc : Cond.constant own i v ∈ mw) (hz : v = Int32.ofInt z) (hr : Rg z) (kk : Go X Q k n h (pc + 3) L (vI z :: st)) : Go X Q k n h pc L st := fun H locs ls hP hS hL hR => by
  subst hz
  exact lv_ldcw C.1 C.2.1 C.2.2.2.1 (C.2.2.2.2.1 _ hc) hd (kk H locs ls hP hS hL (Rc (v := vI z) hr hR))
theorem r_iadd {x y : Int} (C : Cx X cc nL own ret) (hd : decode cc pc = .ok (.iadd, 1)) (hr : Rg (x + y)) (kk : Go X Q k n h (pc + 1) L (vI (x + y) :: st)) : Go X Q k n h pc L (vI y :: vI x :: st) := fun H locs ls hP hS hL hR =>
  lv_iadd C.1 C.2.1 hd (by rw [← Int32.ofInt_add]; exact kk H locs ls hP hS hL (Rc (v := vI (x + y)) hr (Rt (Rt hR))))
theorem r_isub {x y : Int} (C : Cx X cc nL own ret) (hd : decode cc pc = .ok (.isub, 1)) (hr : Rg (x - y)) (kk : Go X Q k n h (pc + 1) L (vI (x - y) :: st)) : Go X Q k n h pc L (vI y :: vI x :: st) := fun H locs ls hP hS hL hR =>
  lv_isub C.1 C.2.1 hd (by rw [← Int32.ofInt_sub]; exact kk H locs ls hP hS hL (Rc (v := vI (x - y)) hr (Rt (Rt hR))))
theorem r_imul {x y : Int} (C : Cx X cc nL own ret) (hd : decode cc pc = .ok (.imul, 1)) (hr : Rg (x * y)) (kk : Go X Q k n h (pc + 1) L (vI (x * y) :: st)) : Go X Q k n h pc L (vI y :: vI x :: st) := fun H locs ls hP hS hL hR =>
  lv_imul C.1 C.2.1 hd (by rw [← Int32.ofInt_mul]; exact kk H locs ls hP hS hL (Rc (v := vI (x * y)) hr (Rt (Rt hR))))
theorem r_goto {off : Int} {tgt : Nat} (C : Cx X cc nL own ret) (hd : decode cc pc = .ok (.goto off, 3)) (ht : (pc : Int) + off = (tgt : Int)) (kk : Go X Q k n h tgt L st) : Go X Q k n h pc L st := fun H locs ls hP hS hL hR =>
  lv_goto C.1 C.2.1 hd ht (kk H locs ls hP hS hL hR)
theorem r_dup {v : Va} (C : Cx X cc nL own ret) (hd : decode cc pc = .ok (.dup, 1)) (kk : Go X Q k n h (pc + 1) L (v :: v :: st)) : Go X Q k n h pc L (v :: st) := fun H locs ls hP hS hL hR =>
  lv_dup C.1 C.2.1 hd (cv_cat v) (kk H locs ls hP hS hL (Rc (Rh hR) hR))
theorem r_dup2 {v w : Va} (C : Cx X cc nL own ret) (hd : decode cc pc = .ok (.dup2, 1)) (kk : Go X Q k n h (pc + 1) L (v :: w :: v :: w :: st)) : Go X Q k n h pc L (v :: w :: st) := fun H locs ls hP hS hL hR =>
  lv_dup2_11 C.1 C.2.1 hd (cv_cat v) (cv_cat w) (kk H locs ls hP hS hL (Rc (Rh hR) (Rc (Rh (Rt hR)) hR)))
theorem r_pop {v : Va} (C : Cx X cc nL own ret) (hd : decode cc pc = .ok (.pop, 1)) (kk : Go X Q k n h (pc + 1) L st) : Go X Q k n h pc L (v :: st) := fun H locs ls hP hS hL hR =>
  lv_pop C.1 C.2.1 hd (cv_cat v) (kk H locs ls hP hS hL (Rt hR))
-- BRANCHES
theorem z_eq {x : Int} (hx : Rg x) : Int32.ofInt x = 0 ↔ x = 0 := o_eq hx (y := 0) (by omega)
theorem z_lt {x : Int} (hx : Rg x) : Int32.ofInt x < 0 ↔ x < 0 := o_lt hx (y := 0) (by omega)
theorem z_le {x : Int} (hx : Rg x) : Int32.ofInt x ≤ 0 ↔ x ≤ 0 := o_le hx (y := 0) (by omega)
theorem z_gt {x : Int} (hx : Rg x) : 0 < Int32.ofInt x ↔ 0 < x := o_lt (x := 0) (by omega) hx
theorem z_ge {x : Int} (hx : Rg x) : 0 ≤ Int32.ofInt x ↔ 0 ≤ x := o_le (x := 0) (by omega) hx
theorem r_icmp_eq {x y off : Int} {tgt : Nat} (C : Cx X cc nL own ret) (hd : decode cc pc = .ok (.if_icmp .eq off, 3)) (ht : (pc : Int) + off = (tgt : Int)) (kt : x = y → Go X Q k n h tgt L st) (kf : ¬ x = y → Go X Q k n h (pc + 3) L st) : Go X Q k n h pc L (vI y :: vI x :: st) := fun H locs ls hP hS hL hR => by
  have hy : Rg y := Rh hR
  have hx : Rg x := Rh (Rt hR)
  have hr := Rt (Rt hR)
  exact lv_icmp_eq C.1 C.2.1 hd ht (fun q => kt ((o_eq hx hy).mp q) H locs ls hP hS hL hr) (fun q => kf (fun z => q ((o_eq hx hy).mpr z)) H locs ls hP hS hL hr)
theorem r_if_eq {x off : Int} {tgt : Nat} (C : Cx X cc nL own ret) (hd : decode cc pc = .ok (.ifCond .eq off, 3)) (ht : (pc : Int) + off = (tgt : Int)) (kt : x = 0 → Go X Q k n h tgt L st) (kf : ¬ x = 0 → Go X Q k n h (pc + 3) L st) : Go X Q k n h pc L (vI x :: st) := fun H locs ls hP hS hL hR => by
  have hx : Rg x := Rh hR
  have hr := Rt hR
  exact lv_if_eq C.1 C.2.1 hd ht (fun q => kt ((z_eq hx).mp q) H locs ls hP hS hL hr) (fun q => kf (fun z => q ((z_eq hx).mpr z)) H locs ls hP hS hL hr)
theorem r_icmp_ne {x y off : Int} {tgt : Nat} (C : Cx X cc nL own ret) (hd : decode cc pc = .ok (.if_icmp .ne off, 3)) (ht : (pc : Int) + off = (tgt : Int)) (kt : ¬ x = y → Go X Q k n h tgt L st) (kf : x = y → Go X Q k n h (pc + 3) L st) : Go X Q k n h pc L (vI y :: vI x :: st) := fun H locs ls hP hS hL hR => by
  have hy : Rg y := Rh hR
  have hx : Rg x := Rh (Rt hR)
  have hr := Rt (Rt hR)
  exact lv_icmp_ne C.1 C.2.1 hd ht (fun q => kt (fun z => q ((o_eq hx hy).mpr z)) H locs ls hP hS hL hr) (fun q => kf ((o_eq hx hy).mp q) H locs ls hP hS hL hr)
theorem r_if_ne {x off : Int} {tgt : Nat} (C : Cx X cc nL own ret) (hd : decode cc pc = .ok (.ifCond .ne off, 3)) (ht : (pc : Int) + off = (tgt : Int)) (kt : ¬ x = 0 → Go X Q k n h tgt L st) (kf : x = 0 → Go X Q k n h (pc + 3) L st) : Go X Q k n h pc L (vI x :: st) := fun H locs ls hP hS hL hR => by
  have hx : Rg x := Rh hR
  have hr := Rt hR
  exact lv_if_ne C.1 C.2.1 hd ht (fun q => kt (fun z => q ((z_eq hx).mpr z)) H locs ls hP hS hL hr) (fun q => kf ((z_eq hx).mp q) H locs ls hP hS hL hr)
theorem r_icmp_lt {x y off : Int} {tgt : Nat} (C : Cx X cc nL own ret) (hd : decode cc pc = .ok (.if_icmp .lt off, 3)) (ht : (pc : Int) + off = (tgt : Int)) (kt : x < y → Go X Q k n h tgt L st) (kf : y ≤ x → Go X Q k n h (pc + 3) L st) : Go X Q k n h pc L (vI y :: vI x :: st) := fun H locs ls hP hS hL hR => by
  have hy : Rg y := Rh hR
  have hx : Rg x := Rh (Rt hR)
  have hr := Rt (Rt hR)
  exact lv_icmp_lt C.1 C.2.1 hd ht (fun q => kt ((o_lt hx hy).mp q) H locs ls hP hS hL hr) (fun q => kf (Int.not_lt.mp (fun z => q ((o_lt hx hy).mpr z))) H locs ls hP hS hL hr)
theorem r_if_lt {x off : Int} {tgt : Nat} (C : Cx X cc nL own ret) (hd : decode cc pc = .ok (.ifCond .lt off, 3)) (ht : (pc : Int) + off = (tgt : Int)) (kt : x < 0 → Go X Q k n h tgt L st) (kf : 0 ≤ x → Go X Q k n h (pc + 3) L st) : Go X Q k n h pc L (vI x :: st) := fun H locs ls hP hS hL hR => by
  have hx : Rg x := Rh hR
  have hr := Rt hR
  exact lv_if_lt C.1 C.2.1 hd ht (fun q => kt ((z_lt hx).mp q) H locs ls hP hS hL hr) (fun q => kf (Int.not_lt.mp (fun z => q ((z_lt hx).mpr z))) H locs ls hP hS hL hr)
theorem r_icmp_ge {x y off : Int} {tgt : Nat} (C : Cx X cc nL own ret) (hd : decode cc pc = .ok (.if_icmp .ge off, 3)) (ht : (pc : Int) + off = (tgt : Int)) (kt : y ≤ x → Go X Q k n h tgt L st) (kf : x < y → Go X Q k n h (pc + 3) L st) : Go X Q k n h pc L (vI y :: vI x :: st) := fun H locs ls hP hS hL hR => by
  have hy : Rg y := Rh hR
  have hx : Rg x := Rh (Rt hR)
  have hr := Rt (Rt hR)
  exact lv_icmp_ge C.1 C.2.1 hd ht (fun q => kt ((o_le hy hx).mp q) H locs ls hP hS hL hr) (fun q => kf (Int.not_le.mp (fun z => q ((o_le hy hx).mpr z))) H locs ls hP hS hL hr)
theorem r_if_ge {x off : Int} {tgt : Nat} (C : Cx X cc nL own ret) (hd : decode cc pc = .ok (.ifCond .ge off, 3)) (ht : (pc : Int) + off = (tgt : Int)) (kt : 0 ≤ x → Go X Q k n h tgt L st) (kf : x < 0 → Go X Q k n h (pc + 3) L st) : Go X Q k n h pc L (vI x :: st) := fun H locs ls hP hS hL hR => by
  have hx : Rg x := Rh hR
  have hr := Rt hR
  exact lv_if_ge C.1 C.2.1 hd ht (fun q => kt ((z_ge hx).mp q) H locs ls hP hS hL hr) (fun q => kf (Int.not_le.mp (fun z => q ((z_ge hx).mpr z))) H locs ls hP hS hL hr)
theorem r_icmp_gt {x y off : Int} {tgt : Nat} (C : Cx X cc nL own ret) (hd : decode cc pc = .ok (.if_icmp .gt off, 3)) (ht : (pc : Int) + off = (tgt : Int)) (kt : y < x → Go X Q k n h tgt L st) (kf : x ≤ y → Go X Q k n h (pc + 3) L st) : Go X Q k n h pc L (vI y :: vI x :: st) := fun H locs ls hP hS hL hR => by
  have hy : Rg y := Rh hR
  have hx : Rg x := Rh (Rt hR)
  have hr := Rt (Rt hR)
  exact lv_icmp_gt C.1 C.2.1 hd ht (fun q => kt ((o_lt hy hx).mp q) H locs ls hP hS hL hr) (fun q => kf (Int.not_lt.mp (fun z => q ((o_lt hy hx).mpr z))) H locs ls hP hS hL hr)
theorem r_if_gt {x off : Int} {tgt : Nat} (C : Cx X cc nL own ret) (hd : decode cc pc = .ok (.ifCond .gt off, 3)) (ht : (pc : Int) + off = (tgt : Int)) (kt : 0 < x → Go X Q k n h tgt L st) (kf : x ≤ 0 → Go X Q k n h (pc + 3) L st) : Go X Q k n h pc L (vI x :: st) := fun H locs ls hP hS hL hR => by
  have hx : Rg x := Rh hR
  have hr := Rt hR
  exact lv_if_gt C.1 C.2.1 hd ht (fun q => kt ((z_gt hx).mp q) H locs ls hP hS hL hr) (fun q => kf (Int.not_lt.mp (fun z => q ((z_gt hx).mpr z))) H locs ls hP hS hL hr)
theorem r_icmp_le {x y off : Int} {tgt : Nat} (C : Cx X cc nL own ret) (hd : decode cc pc = .ok (.if_icmp .le off, 3)) (ht : (pc : Int) + off = (tgt : Int)) (kt : x ≤ y → Go X Q k n h tgt L st) (kf : y < x → Go X Q k n h (pc + 3) L st) : Go X Q k n h pc L (vI y :: vI x :: st) := fun H locs ls hP hS hL hR => by
  have hy : Rg y := Rh hR
  have hx : Rg x := Rh (Rt hR)
  have hr := Rt (Rt hR)
  exact lv_icmp_le C.1 C.2.1 hd ht (fun q => kt ((o_le hx hy).mp q) H locs ls hP hS hL hr) (fun q => kf (Int.not_le.mp (fun z => q ((o_le hx hy).mpr z))) H locs ls hP hS hL hr)
theorem r_if_le {x off : Int} {tgt : Nat} (C : Cx X cc nL own ret) (hd : decode cc pc = .ok (.ifCond .le off, 3)) (ht : (pc : Int) + off = (tgt : Int)) (kt : x ≤ 0 → Go X Q k n h tgt L st) (kf : 0 < x → Go X Q k n h (pc + 3) L st) : Go X Q k n h pc L (vI x :: st) := fun H locs ls hP hS hL hR => by
  have hx : Rg x := Rh hR
  have hr := Rt hR
  exact lv_if_le C.1 C.2.1 hd ht (fun q => kt ((z_le hx).mp q) H locs ls hP hS hL hr) (fun q => kf (Int.not_le.mp (fun z => q ((z_le hx).mpr z))) H locs ls hP hS hL hr)
-- BITS, DIVISION: the answer as the machine has it, a number again
def bAnd (x y : Int) : Int := (Int32.ofInt x &&& Int32.ofInt y).toInt
def bOr (x y : Int) : Int := (Int32.ofInt x ||| Int32.ofInt y).toInt
def bXor (x y : Int) : Int := (Int32.ofInt x ^^^ Int32.ofInt y).toInt
def bShl (x y : Int) : Int := (Int32.ofInt x <<< (Int32.ofInt y &&& 31)).toInt
def bShr (x y : Int) : Int := (Int32.ofInt x >>> (Int32.ofInt y &&& 31)).toInt
def bUshr (x y : Int) : Int := ((Int32.ofInt x).toUInt32 >>> ((Int32.ofInt y).toUInt32 &&& Int32.toUInt32 31)).toInt32.toInt
def bDiv (x y : Int) : Int := (Int32.ofInt x / Int32.ofInt y).toInt
def bRem (x y : Int) : Int := (Int32.ofInt x - Int32.ofInt x / Int32.ofInt y * Int32.ofInt y).toInt
theorem b_rg (a : Int32) : Rg a.toInt := ⟨by have := a.le_toInt; omega, by have := a.toInt_lt; omega⟩
theorem r_iand {x y : Int} (C : Cx X cc nL own ret) (hd : decode cc pc = .ok (.iand, 1)) (kk : Go X Q k n h (pc + 1) L (vI (bAnd x y) :: st)) : Go X Q k n h pc L (vI y :: vI x :: st) := fun H locs ls hP hS hL hR =>
  lv_iand C.1 C.2.1 hd (by
    have q := kk H locs ls hP hS hL (Rc (v := vI (bAnd x y)) (b_rg _) (Rt (Rt hR)))
    simp only [List.map_cons, cv, bAnd, Int32.ofInt_toInt] at q
    exact q)
theorem r_ior {x y : Int} (C : Cx X cc nL own ret) (hd : decode cc pc = .ok (.ior, 1)) (kk : Go X Q k n h (pc + 1) L (vI (bOr x y) :: st)) : Go X Q k n h pc L (vI y :: vI x :: st) := fun H locs ls hP hS hL hR =>
  lv_ior C.1 C.2.1 hd (by
    have q := kk H locs ls hP hS hL (Rc (v := vI (bOr x y)) (b_rg _) (Rt (Rt hR)))
    simp only [List.map_cons, cv, bOr, Int32.ofInt_toInt] at q
    exact q)
theorem r_ixor {x y : Int} (C : Cx X cc nL own ret) (hd : decode cc pc = .ok (.ixor, 1)) (kk : Go X Q k n h (pc + 1) L (vI (bXor x y) :: st)) : Go X Q k n h pc L (vI y :: vI x :: st) := fun H locs ls hP hS hL hR =>
  lv_ixor C.1 C.2.1 hd (by
    have q := kk H locs ls hP hS hL (Rc (v := vI (bXor x y)) (b_rg _) (Rt (Rt hR)))
    simp only [List.map_cons, cv, bXor, Int32.ofInt_toInt] at q
    exact q)
theorem r_ishl {x y : Int} (C : Cx X cc nL own ret) (hd : decode cc pc = .ok (.ishl, 1)) (kk : Go X Q k n h (pc + 1) L (vI (bShl x y) :: st)) : Go X Q k n h pc L (vI y :: vI x :: st) := fun H locs ls hP hS hL hR =>
  lv_ishl C.1 C.2.1 hd (by
    have q := kk H locs ls hP hS hL (Rc (v := vI (bShl x y)) (b_rg _) (Rt (Rt hR)))
    simp only [List.map_cons, cv, bShl, Int32.ofInt_toInt] at q
    exact q)
theorem r_ishr {x y : Int} (C : Cx X cc nL own ret) (hd : decode cc pc = .ok (.ishr, 1)) (kk : Go X Q k n h (pc + 1) L (vI (bShr x y) :: st)) : Go X Q k n h pc L (vI y :: vI x :: st) := fun H locs ls hP hS hL hR =>
  lv_ishr C.1 C.2.1 hd (by
    have q := kk H locs ls hP hS hL (Rc (v := vI (bShr x y)) (b_rg _) (Rt (Rt hR)))
    simp only [List.map_cons, cv, bShr, Int32.ofInt_toInt] at q
    exact q)
theorem r_iushr {x y : Int} (C : Cx X cc nL own ret) (hd : decode cc pc = .ok (.iushr, 1)) (kk : Go X Q k n h (pc + 1) L (vI (bUshr x y) :: st)) : Go X Q k n h pc L (vI y :: vI x :: st) := fun H locs ls hP hS hL hR =>
  lv_iushr C.1 C.2.1 hd rfl (by
    have q := kk H locs ls hP hS hL (Rc (v := vI (bUshr x y)) (b_rg _) (Rt (Rt hR)))
    simp only [List.map_cons, cv, bUshr, Int32.ofInt_toInt] at q
    exact q)
theorem r_idiv {x y : Int} (C : Cx X cc nL own ret) (hd : decode cc pc = .ok (.idiv, 1)) (hy : ¬ y = 0) (kk : Go X Q k n h (pc + 1) L (vI (bDiv x y) :: st)) : Go X Q k n h pc L (vI y :: vI x :: st) := fun H locs ls hP hS hL hR =>
  lv_idiv C.1 C.2.1 hd (fun q => hy ((z_eq (Rh hR)).mp q)) (by
    have q := kk H locs ls hP hS hL (Rc (v := vI (bDiv x y)) (b_rg _) (Rt (Rt hR)))
    simp only [List.map_cons, cv, bDiv, Int32.ofInt_toInt] at q
    exact q)
theorem r_irem {x y : Int} (C : Cx X cc nL own ret) (hd : decode cc pc = .ok (.irem, 1)) (hy : ¬ y = 0) (kk : Go X Q k n h (pc + 1) L (vI (bRem x y) :: st)) : Go X Q k n h pc L (vI y :: vI x :: st) := fun H locs ls hP hS hL hR =>
  lv_irem C.1 C.2.1 hd (fun q => hy ((z_eq (Rh hR)).mp q)) (by
    have q := kk H locs ls hP hS hL (Rc (v := vI (bRem x y)) (b_rg _) (Rt (Rt hR)))
    simp only [List.map_cons, cv, bRem, Int32.ofInt_toInt] at q
    exact q)
theorem r_i2c {x : Int} (C : Cx X cc nL own ret) (hd : decode cc pc = .ok (.i2c, 1)) (hx : 0 ≤ x ∧ x ≤ 65535) (kk : Go X Q k n h (pc + 1) L (vI x :: st)) : Go X Q k n h pc L (vI x :: st) := fun H locs ls hP hS hL hR =>
  lv_i2c C.1 C.2.1 hd (by
    obtain ⟨j, rfl⟩ := Int.eq_ofNat_of_zero_le hx.1
    rw [Int32.ofInt_eq_ofNat, pk_char, show (Int32.ofNat j).toBitVec.toNat = j from pk_tn (by omega), Nat.mod_eq_of_lt (by omega)]
    rfl) (kk H locs ls hP hS hL hR)
theorem r_tableIn {x dflt lo hi : Int} {offs : Array Int} {len tgt : Nat} {off : Int} (C : Cx X cc nL own ret) (hd : decode cc pc = .ok (.tableswitch dflt lo hi offs, len)) (h1 : lo ≤ x) (h2 : x ≤ hi) (ho : offs[(x - lo).toNat]? = some off) (ht : (pc : Int) + off = (tgt : Int)) (kk : Go X Q k n h tgt L st) : Go X Q k n h pc L (vI x :: st) := fun H locs ls hP hS hL hR =>
  lv_tableIn C.1 C.2.1 hd (by rw [o_toInt (Rh hR)]; omega) (by rw [o_toInt (Rh hR)]; omega) (by rw [o_toInt (Rh hR)]; exact ho) ht (kk H locs ls hP hS hL (Rt hR))
theorem r_tableOut {x dflt lo hi : Int} {offs : Array Int} {len tgt : Nat} (C : Cx X cc nL own ret) (hd : decode cc pc = .ok (.tableswitch dflt lo hi offs, len)) (h1 : x < lo ∨ hi < x) (ht : (pc : Int) + dflt = (tgt : Int)) (kk : Go X Q k n h tgt L st) : Go X Q k n h pc L (vI x :: st) := fun H locs ls hP hS hL hR =>
  lv_tableOut C.1 C.2.1 hd (by rw [o_toInt (Rh hR)]; exact h1) ht (kk H locs ls hP hS hL (Rt hR))
theorem r_lookup {x dflt : Int} {ps : Array (Int × Int)} {len tgt : Nat} {off : Int} (C : Cx X cc nL own ret) (hd : decode cc pc = .ok (.lookupswitch dflt ps, len)) (hp : (ps.toList.zip (ps.toList.drop 1)).all (fun (a, next) => a.1 < next.1) = true) (ho : Op.lookupswitch.offset ps.toList dflt x = off) (ht : (pc : Int) + off = (tgt : Int)) (kk : Go X Q k n h tgt L st) : Go X Q k n h pc L (vI x :: st) := fun H locs ls hP hS hL hR =>
  lv_lookup C.1 C.2.1 hd hp (by rw [o_toInt (Rh hR)]; exact ho) ht (kk H locs ls hP hS hL (Rt hR))
end GoRules
end
section
/-! the layer, second part: fields, arrays, new cells, returns, calls -/
section GoHeap
variable {X : Ctx} {Q : State → Prop} {k n : Nat} {h : Pic} {pc : Nat} {L : List (Option Va)} {st : List Va} {cc : ByteArray} {nL : Nat} {own : String} {ret : Option FieldType}
theorem Cx.K (C : Cx X cc nL own ret) : KK X.2.2.2.1 X.2.1.1 := C.2.2.2.2.2.2.2.1
theorem Cx.hts (C : Cx X cc nL own ret) : ∀ w ∈ mw, w.before X.2.1.2.2.1 X.2.1.1 = true := C.2.2.2.2.1
theorem r_get {i ci kf a t : Nat} {fin : Bool} {tf : FieldType} {fs : List Va} {v : Va} (C : Cx X cc nL own ret) (hd : decode cc pc = .ok (.getfield i, 3)) (hf : FL own i ci kf fin tf) (ha : h a = some (t, .inl (ci, fs))) (hv : fs[kf]? = some v) (kk : Go X Q k n h (pc + 3) L (v :: st)) : Go X Q k n h pc L (vR a :: st) := by
  intro H locs ls hP hS hL hR
  obtain ⟨C', T, N, ty, hc, hk, hl, hC, hfin, htf, hin, hty, hnm⟩ := hf
  obtain ⟨-, hrv, r, hr, hlen, hob⟩ := hP _ _ _ ha
  have hP' : va_P X.2.2.2.1 classes [(a, .inr (ci, fs.map cv))] H := by
    intro j q hj
    cases j with
    | zero => cases hj; exact ⟨r, hr, hob⟩
    | succ j => simp at hj
  exact va_get (ci := ci) (C := C') (T := T) (N := N) (v := cv v) C.1 C.2.1 C.hts hin C.2.2.2.1 C.K.K hP' 0 rfl hc kf hk (C.hts _ hl) (fun x hx => by rw [hC] at hx; exact hx) (by rw [List.getElem?_map, hv]; rfl) hd (kk H locs ls hP hS hL (Rc (hrv v (List.mem_of_getElem? hv)) (Rt hR)))
theorem pic_put {D : va_G} {base : Nat} {U : State} {H H1 : Heap} {a t ci kf : Nat} {fs : List Va} {v : Va} {r : vw_C} {cell : Cell} (hP : PicOk D base h U H) (ha : h a = some (t, .inl (ci, fs))) (hc : classes[ci]? = some r) (hk : kf < r.2.2) (hap : ∀ x y, x < r.2.2 → y < r.2.2 → x ≠ y → (D.2 ci) x ≠ (D.2 ci) y) (hcell : H[a]? = some cell) (hv : Rv v) (e1 : H1[a]? = some (cell.setSlot (D.2 ci kf) (cv v))) (e3 : ∀ q : Nat, q ≠ a → H1[q]? = H[q]?) : PicOk D base (pu h a (t, .inl (ci, fs.set kf v))) U H1 := by
  obtain ⟨-, hrv, r', hr, hlen, cell', q1, q2, q3, q4⟩ := hP _ _ _ ha
  cases hr.symm.trans hc
  cases q1.symm.trans hcell
  refine hP.set ha ⟨fun w hw => ?_, r, hc, by rw [List.length_set]; exact hlen, ?_⟩ e3
  · rcases List.mem_or_eq_of_mem_set hw with hw | rfl
    · exact hrv w hw
    · exact hv
  · rw [List.map_set]
    exact t_OB.to (V := updV (vp_V (fs.map cv)) kf (cv v)) ⟨_, e1, q2, q3, t_set q4 hap hk (cv v)⟩ (fun j _ => vp_updV_set (by rw [List.length_map, hlen]; exact hk) (cv v) j)
theorem r_put {i ci kf a t : Nat} {tf : FieldType} {fs : List Va} {v : Va} (C : Cx X cc nL own ret) (hd : decode cc pc = .ok (.putfield i, 3)) (hf : FL own i ci kf false tf) (ha : h a = some (t, .inl (ci, fs))) (hn : narrow tf (cv v) = cv v) (hfit : fits tf (cv v) = true) (kk : Go X Q k n (pu h a (t, .inl (ci, fs.set kf v))) (pc + 3) L st) : Go X Q k n h pc L (v :: vR a :: st) := by
  intro H locs ls hP hS hL hR
  obtain ⟨C', T, N, ty, hc, hk, hl, hC, hfin, htf, hin, hty, hnm⟩ := hf
  obtain ⟨hbase, hrv, r, hr, hlen, hob⟩ := hP _ _ _ ha
  cases hr.symm.trans hc
  have hap := va_apart (own := own) C.hts hin ty hty hnm C.K.K hc
  obtain ⟨cell, q1, q2, q3, q4⟩ := id hob
  obtain ⟨hSl, hfc, kC, hkC, hkind⟩ := C.K.1 ci _ hc
  obtain ⟨cf, kf', fi, f, hi, hsl⟩ := hSl kf hk
  have hlay := C.hts _ (hin _ (u_in_lay hk))
  unfold u_lay at hlay
  rw [if_neg (by rw [hfin]; decide)] at hlay
  have hst := (u_facts hfc hkC (u_lays C.hts hin hk) hi).1
  have h6 := u_store (ty := tf) hfc hkC hkind hlay hi (by rw [← htf]; exact hty kf hk) hn hfit
  refine W.putK C.1 C.2.1 (f := f) ⟨C.2.2.2.1, C.hts _ hl, ⟨cf, kf', fi, by rw [hC] at hi; exact hi⟩, hst⟩ (by rw [q2]; exact h6) q1 q3 (by rw [hsl]; exact k2_hasslot (q4 kf hk)) rfl rfl hd fun H' e1 e2 e3 => ?_
  rw [hsl] at e1 ⊢
  exact kk H' _ ls (pic_put hP ha hc hk hap q1 (Rh hR) e1 e3) (hS.put e2 e3 hbase) hL (Rt (Rt hR))
theorem r_putF {i ci kf a t : Nat} {tf : FieldType} {fs : List Va} {v : Va} (C : Cx X cc nL own ret) (hin2 : X.2.2.1.1.name = "<init>") (hd : decode cc pc = .ok (.putfield i, 3)) (hf : FL own i ci kf true tf) (how : classes[ci]?.map (fun r => r.1) = some own) (ha : h a = some (t, .inl (ci, fs))) (hn : narrow tf (cv v) = cv v) (hfit : fits tf (cv v) = true) (kk : Go X Q k n (pu h a (t, .inl (ci, fs.set kf v))) (pc + 3) L st) : Go X Q k n h pc L (v :: vR a :: st) := by
  intro H locs ls hP hS hL hR
  obtain ⟨C', T, N, ty, hc, hk, hl, hC, hfin, htf, hin, hty, hnm⟩ := hf
  have hdecl : (T kf).1 = own := by
    rw [hc] at how
    rw [hC]
    exact Option.some.inj how
  obtain ⟨hbase, hrv, r, hr, hlen, hob⟩ := hP _ _ _ ha
  cases hr.symm.trans hc
  have hap := va_apart (own := own) C.hts hin ty hty hnm C.K.K hc
  obtain ⟨cell, q1, q2, q3, q4⟩ := id hob
  obtain ⟨hSl, hfc, kC, hkC, hkind⟩ := C.K.1 ci _ hc
  obtain ⟨cf, kf', fi, f, hi, hsl⟩ := hSl kf hk
  have hlay := C.hts _ (hin _ (u_in_lay hk))
  unfold u_lay at hlay
  rw [if_pos hfin] at hlay
  have hst := (u_facts hfc hkC (u_lays C.hts hin hk) hi).1
  have hcf : X.2.1.2.1.cls = cf := by
    obtain ⟨_, _, c', _, _, _, -, -, hf', -, -, -, hown2, -⟩ := Cond.laysFinal_spec hlay
    have e1 : c' = cf := by have := hi.symm.trans hf'; simp at this; exact this.1.symm
    rw [hdecl] at hown2
    rw [← e1]; exact Option.some.inj (C.2.2.2.1.symm.trans hown2)
  have h6 := u_fits (ty := tf) hfc hkC hkind (Or.inr hlay) hi (by rw [← htf]; exact hty kf hk) hn hfit
  refine W.putFinK C.1 C.2.1 C.2.2.2.1 (C.hts _ hl) (by rw [hC] at hi; exact hi) hst hcf hin2 (by rw [q2]; exact h6) q1 q3 (by rw [hsl]; exact k2_hasslot (q4 kf hk)) rfl rfl hd fun H' e1 e2 e3 => ?_
  rw [hsl] at e1 ⊢
  exact kk H' _ ls (pic_put hP ha hc hk hap q1 (Rh hR) e1 e3) (hS.put e2 e3 hbase) hL (Rt (Rt hR))
-- arrays
theorem r_iald {a t : Nat} {m i : Int} {f : Int → Int} (C : Cx X cc nL own ret) (hd : decode cc pc = .ok (.iaload, 1)) (ha : h a = some (ia t 0 m f)) (h0 : 0 ≤ i) (h1 : i < m) (kk : Go X Q k n h (pc + 1) L (vI (f i) :: st)) : Go X Q k n h pc L (vI i :: vR a :: st) := by
  intro H locs ls hP hS hL hR
  obtain ⟨-, hm, hf, cA, hA, hc⟩ := hP _ _ _ ha
  have hi : Rg i := Rh hR
  refine W.iald (v := .int (Int32.ofInt (f i))) C.1 C.2.1 hc (hA m.toNat (fun j => .int (Int32.ofInt (f j)))) (fun q => by cases q) (by rw [arrV_size]; exact o_ns h0 h1 hi) (by rw [o_clamp hi, arrV_read _ _ (by omega), Int.toNat_of_nonneg h0]) rfl rfl hd (kk H locs ls hP hS hL (Rc (v := vI (f i)) (hf i) (Rt (Rt hR))))
theorem r_cald {a t : Nat} {m i : Int} {f : Int → Int} (C : Cx X cc nL own ret) (hd : decode cc pc = .ok (.caload, 1)) (ha : h a = some (ia t 1 m f)) (h0 : 0 ≤ i) (h1 : i < m) (kk : Go X Q k n h (pc + 1) L (vI (f i) :: st)) : Go X Q k n h pc L (vI i :: vR a :: st) := by
  intro H locs ls hP hS hL hR
  obtain ⟨-, hm, hf, cA, hA, hc⟩ := hP _ _ _ ha
  have hi : Rg i := Rh hR
  refine W.cald (v := .int (Int32.ofInt (f i))) C.1 C.2.1 hc (hA m.toNat (fun j => .int (Int32.ofInt (f j)))) (fun q => by cases q) (by rw [arrV_size]; exact o_ns h0 h1 hi) (by rw [o_clamp hi, arrV_read _ _ (by omega), Int.toNat_of_nonneg h0]) rfl rfl hd (kk H locs ls hP hS hL (Rc (v := vI (f i)) (hf i) (Rt (Rt hR))))
theorem r_zald {a t : Nat} {m i : Int} {f : Int → Int} (C : Cx X cc nL own ret) (hd : decode cc pc = .ok (.baload, 1)) (ha : h a = some (ia t 2 m f)) (h0 : 0 ≤ i) (h1 : i < m) (kk : Go X Q k n h (pc + 1) L (vI (f i) :: st)) : Go X Q k n h pc L (vI i :: vR a :: st) := by
  intro H locs ls hP hS hL hR
  obtain ⟨-, hm, hf, cA, hA, hc⟩ := hP _ _ _ ha
  have hi : Rg i := Rh hR
  refine W.zald (v := .int (Int32.ofInt (f i))) C.1 C.2.1 hc (hA m.toNat (fun j => .int (Int32.ofInt (f j)))) (fun q => by cases q) (by rw [arrV_size]; exact o_ns h0 h1 hi) (by rw [o_clamp hi, arrV_read _ _ (by omega), Int.toNat_of_nonneg h0]) rfl rfl hd (kk H locs ls hP hS hL (Rc (v := vI (f i)) (hf i) (Rt (Rt hR))))
theorem r_aald {a t b kr : Nat} {m i : Int} {f : Int → Option Nat} (C : Cx X cc nL own ret) (hd : decode cc pc = .ok (.aaload, 1)) (ha : h a = some (ra t kr m f)) (h0 : 0 ≤ i) (h1 : i < m) (hb : f i = some b) (kk : Go X Q k n h (pc + 1) L (vR b :: st)) : Go X Q k n h pc L (vI i :: vR a :: st) := by
  intro H locs ls hP hS hL hR
  obtain ⟨-, hm, cA, hA, hRA, hc⟩ := hP _ _ _ ha
  have hi : Rg i := Rh hR
  refine W.aald (v := .ref b) (ty := .object (tyR kr).2) C.1 C.2.1 hc (hA m.toNat (fun j => va_rf (f j))) rfl (fun q => by cases q) (by rw [arrV_size]; exact o_ns h0 h1 hi) (by rw [o_clamp hi, arrV_read _ _ (by omega), Int.toNat_of_nonneg h0, hb]; rfl) rfl rfl hd (kk H locs ls hP hS hL (Rc (v := vR b) trivial (Rt (Rt hR))))
theorem arr_fu {D : va_G} {U : State} {H1 : Heap} {a kA : Nat} {m i v : Int} {f : Int → Int} {cA : ClassId} (hm : 0 ≤ m ∧ m ≤ 2147483647) (hf : ∀ j, Rg (f j)) (hA : ArrOfT U cA (tyI kA)) (h0 : 0 ≤ i) (hv : Rg v) (e : H1[a]? = some ((arrV cA m.toNat (fun j => .int (Int32.ofInt (f j)))).setSlot i.toNat (.int (Int32.ofInt v)))) : OkAt D U H1 a (.inr (.inl (kA, m, fu f i v))) := by
  refine ⟨hm, fun j => ?_, cA, hA, ?_⟩
  · unfold fu
    split
    · exact hv
    · exact hf j
  · rw [e, arrV_store]
    congr 2
    funext q
    by_cases hq : q = i.toNat
    · have h2 : (q : Int) = i := by omega
      show (if q = i.toNat then _ else _) = Value.int (Int32.ofInt (if (q : Int) = i then v else f q))
      rw [if_pos hq, if_pos h2]
    · have h2 : ¬ (q : Int) = i := by omega
      show (if q = i.toNat then _ else _) = Value.int (Int32.ofInt (if (q : Int) = i then v else f q))
      rw [if_neg hq, if_neg h2]
theorem r_iast {a t : Nat} {m i v : Int} {f : Int → Int} (C : Cx X cc nL own ret) (hd : decode cc pc = .ok (.iastore, 1)) (ha : h a = some (ia t 0 m f)) (h0 : 0 ≤ i) (h1 : i < m) (kk : Go X Q k n (pu h a (ia t 0 m (fu f i v))) (pc + 1) L st) : Go X Q k n h pc L (vI v :: vI i :: vR a :: st) := by
  intro H locs ls hP hS hL hR
  obtain ⟨hbase, hm, hf, cA, hA, hc⟩ := hP _ _ _ ha
  have hv : Rg v := Rh hR
  have hi : Rg i := Rh (Rt hR)
  refine W.iast C.1 C.2.1 hc (hA m.toNat (fun j => .int (Int32.ofInt (f j)))) (fun q => by cases q) (by rw [arrV_size]; exact o_ns h0 h1 hi) rfl rfl hd fun H1 e z oq => ?_
  rw [o_clamp hi] at e ⊢
  exact kk H1 _ ls (hP.set ha (arr_fu hm hf hA h0 hv e) oq) (hS.put z oq hbase) hL (Rt (Rt (Rt hR)))
theorem r_cast {a t : Nat} {m i v : Int} {f : Int → Int} (C : Cx X cc nL own ret) (hd : decode cc pc = .ok (.castore, 1)) (ha : h a = some (ia t 1 m f)) (h0 : 0 ≤ i) (h1 : i < m) (h2 : 0 ≤ v ∧ v ≤ 65535) (kk : Go X Q k n (pu h a (ia t 1 m (fu f i v))) (pc + 1) L st) : Go X Q k n h pc L (vI v :: vI i :: vR a :: st) := by
  intro H locs ls hP hS hL hR
  obtain ⟨hbase, hm, hf, cA, hA, hc⟩ := hP _ _ _ ha
  have hv : Rg v := Rh hR
  have hi : Rg i := Rh (Rt hR)
  refine W.cast C.1 C.2.1 hc (hA m.toNat (fun j => .int (Int32.ofInt (f j)))) (fun q => by cases q) (by rw [arrV_size]; exact o_ns h0 h1 hi) rfl rfl hd fun H1 e z oq => ?_
  rw [o_clamp hi] at e ⊢
  rw [o_nc h2] at e
  exact kk H1 _ ls (hP.set ha (arr_fu hm hf hA h0 hv e) oq) (hS.put z oq hbase) hL (Rt (Rt (Rt hR)))
theorem r_zast {a t : Nat} {m i v : Int} {f : Int → Int} (C : Cx X cc nL own ret) (hd : decode cc pc = .ok (.bastore, 1)) (ha : h a = some (ia t 2 m f)) (h0 : 0 ≤ i) (h1 : i < m) (h2 : v = 0 ∨ v = 1) (kk : Go X Q k n (pu h a (ia t 2 m (fu f i v))) (pc + 1) L st) : Go X Q k n h pc L (vI v :: vI i :: vR a :: st) := by
  intro H locs ls hP hS hL hR
  obtain ⟨hbase, hm, hf, cA, hA, hc⟩ := hP _ _ _ ha
  have hv : Rg v := Rh hR
  have hi : Rg i := Rh (Rt hR)
  refine W.zast C.1 C.2.1 hc (hA m.toNat (fun j => .int (Int32.ofInt (f j)))) (fun q => by cases q) (by rw [arrV_size]; exact o_ns h0 h1 hi) rfl rfl hd fun H1 e z oq => ?_
  rw [o_clamp hi] at e ⊢
  rw [o_nb h2] at e
  exact kk H1 _ ls (hP.set ha (arr_fu hm hf hA h0 hv e) oq) (hS.put z oq hbase) hL (Rt (Rt (Rt hR)))
theorem r_aast {a t b tb kr : Nat} {m i : Int} {f : Int → Option Nat} {vs : List Va} (C : Cx X cc nL own ret) (hd : decode cc pc = .ok (.aastore, 1)) (ha : h a = some (ra t kr m f)) (hb : h b = some (tb, .inl ((tyR kr).1, vs))) (h0 : 0 ≤ i) (h1 : i < m) (kk : Go X Q k n (pu h a (ra t kr m (fu f i (some b)))) (pc + 1) L st) : Go X Q k n h pc L (vR b :: vI i :: vR a :: st) := by
  intro H locs ls hP hS hL hR
  obtain ⟨hbase, hm, cA, hA, hRA, hc⟩ := hP _ _ _ ha
  obtain ⟨-, -, r, hr, -, cellV, g1, g2, g3, -⟩ := hP _ _ _ hb
  have hi : Rg i := Rh (Rt hR)
  have hname : r.1 = (tyR kr).2 := by
    match kr with
    | 0 => cases hr; rfl
    | _ + 1 => cases hr; rfl
  have hcls := (C.K.1 _ r hr).2
  rw [hname] at hcls
  obtain ⟨kA, comp, k1, k2, k3, -⟩ := id hRA
  have hcomp : comp = X.2.2.2.1.1 (tyR kr).1 := Option.some.inj (k3.symm.trans hcls.1)
  subst hcomp
  obtain ⟨kC, hkC, -⟩ := hcls.2
  refine W.aast C.1 C.2.1 hc (fun q h => by cases h) (fun h => by cases h) k1 k2 rfl hkC ⟨fun q => by rw [z_lt hi] at q; omega, by show _ < (arrV _ _ _).slots.size; rw [arrV_size, o_clamp hi]; omega⟩ g1 (fun q h => by rw [g3] at h; cases h) (by rw [g2]; exact hkC) (by rw [g2]; exact va_assign hcls) rfl rfl hd fun H1 e z oq => ?_
  rw [o_clamp hi] at e ⊢
  refine kk H1 _ ls (hP.set ha ⟨hm, cA, hA, hRA, ?_⟩ oq) (hS.put z oq hbase) hL (Rt (Rt (Rt hR)))
  rw [e, arrV_store]
  congr 2
  funext q
  by_cases hq : q = i.toNat
  · have h2 : (q : Int) = i := by omega
    show (if q = i.toNat then _ else _) = va_rf (if (q : Int) = i then some b else f q)
    rw [if_pos hq, if_pos h2]
    rfl
  · have h2 : ¬ (q : Int) = i := by omega
    show (if q = i.toNat then _ else _) = va_rf (if (q : Int) = i then some b else f q)
    rw [if_neg hq, if_neg h2]
theorem r_alen {a t kA : Nat} {m : Int} {f : Int → Int} (C : Cx X cc nL own ret) (hd : decode cc pc = .ok (.arraylength, 1)) (ha : h a = some (ia t kA m f)) (kk : Go X Q k n h (pc + 1) L (vI m :: st)) : Go X Q k n h pc L (vR a :: st) := by
  intro H locs ls hP hS hL hR
  obtain ⟨-, hm, hf, cA, hA, hc⟩ := hP _ _ _ ha
  refine W.alen (n := Int32.ofInt m) C.1 C.2.1 hc (hA m.toNat (fun j => .int (Int32.ofInt (f j)))) ?_ rfl rfl hd (kk H locs ls hP hS hL (Rc (v := vI m) (by show Rg m; omega) (Rt hR)))
  rw [arrV_size]
  show Int32.ofNat m.toNat = _
  rw [← Int32.ofInt_eq_ofNat, Int.toNat_of_nonneg hm.1]
-- new cells
theorem r_newa {at' : ArrayType} {kA : Nat} {m : Int} (C : Cx X cc nL own ret) (tag : Nat) (hd : decode cc pc = .ok (.newarray at', 2)) (hty : newarray.typeOf at' = tyI kA) (hac : Cond.arrayClass (tyI kA) ∈ mw) (hdv : defaultValue (tyI kA) = .int 0) (h0 : 0 ≤ m) (hb : m ≤ 100000) (hc : k + 1 ≤ X.1.2.2.2.cells) (hs : n + m.toNat ≤ X.1.2.2.2.slots) (kk : ∀ q : Nat, h q = none → Go X Q (k + 1) (n + m.toNat) (pu h q (ia tag kA m (fun _ => 0))) (pc + 2) L (vR q :: st)) : Go X Q k n h pc L (vI m :: st) := by
  intro H locs ls hP hS hL hR
  have hm : Rg m := Rh hR
  refine va_newaK (N := m.toNat) (h := H.size) C.1 C.2.1 (by rw [hty]; exact C.hts _ hac) rfl hd rfl (fun q => by rw [z_lt hm] at q; omega) (o_clamp hm) ?_ hc hs rfl fun H1 cA e1 z1 o1 hAr hNm => ?_
  · rw [hty]
    have h8 : componentBytes (tyI kA) ≤ 8 := by
      match kA with
      | 0 => decide
      | 1 => decide
      | _ + 2 => show componentBytes .boolean ≤ 8; decide
    have : m.toNat * componentBytes (tyI kA) ≤ m.toNat * 8 := Nat.mul_le_mul_left _ h8
    omega
  · rw [hty] at e1 hAr
    refine kk H.size hP.fresh H1 locs ls (hP.push (Nat.le_trans C.2.2.2.2.2.2.2.2 hS.1) ⟨by omega, fun _ => (by show Rg 0; omega), cA, hAr, ?_⟩ o1) ⟨Nat.le_trans hS.1 (by omega), fun x q1 q2 => (o1 x (Nat.lt_of_lt_of_le q1 hS.1)).trans (hS.2.1 x q1 q2), hS.2.2⟩ hL (Rc (v := vR H.size) trivial (Rt hR))
    rw [e1, hdv]
    rfl
theorem r_newq {i kr : Nat} {m : Int} (C : Cx X cc nL own ret) (tag : Nat) (hd : decode cc pc = .ok (.anewarray i, 3)) (hcl : Cond.classLink own i (tyR kr).2 ∈ mw) (h0 : 0 ≤ m) (hb : m ≤ 100000) (hc : k + 1 ≤ X.1.2.2.2.cells) (hs : n + m.toNat ≤ X.1.2.2.2.slots) (kk : ∀ q : Nat, h q = none → Go X Q (k + 1) (n + m.toNat) (pu h q (ra tag kr m (fun _ => none))) (pc + 3) L (vR q :: st)) : Go X Q k n h pc L (vI m :: st) := by
  intro H locs ls hP hS hL hR
  have hm : Rg m := Rh hR
  have hover : va_AO (tyR kr).2 X.2.1.1 := by
    match kr with
    | 0 => exact C.K.2.1
    | _ + 1 => exact C.K.2.2.1
  refine W.anew C.1 C.2.1 C.2.2.2.1 (C.hts _ hcl) (va_AO.use hover) rfl hd rfl (fun q => by rw [z_lt hm] at q; omega) (by rw [o_clamp hm]; omega) hc (by rw [o_clamp hm]; exact hs) fun cA kA comp f1 f2 f3 f4 => ?_
  rw [o_clamp hm]
  generalize hH1 : H.push ({ cls := cA, slots := Array.replicate m.toNat .null, vm := .none } : Cell) = H1
  have z1 : H1.size = H.size + 1 := by rw [← hH1, Array.size_push]
  have e1 : H1[H.size]? = some (arrV cA m.toNat (fun _ => .null)) := by rw [← hH1, Array.getElem?_push_size, ← arrV_new]
  have o1 : ∀ q : Nat, q < H.size → H1[q]? = H[q]? := fun q hq => by rw [← hH1, Array.getElem?_push, if_neg (Nat.ne_of_lt hq)]
  have hAr : ArrOfT X.2.1.1 cA (.object (tyR kr).2) := fun N z => ⟨(fun k h => by cases h), kA, f2, comp, f3⟩
  exact kk H.size hP.fresh H1 locs ls (hP.push (Nat.le_trans C.2.2.2.2.2.2.2.2 hS.1) ⟨by omega, cA, hAr, ⟨kA, comp, f2, f3, f4, f1⟩, e1⟩ o1) ⟨Nat.le_trans hS.1 (by omega), fun x q1 q2 => (o1 x (Nat.lt_of_lt_of_le q1 hS.1)).trans (hS.2.1 x q1 q2), hS.2.2⟩ hL (Rc (v := vR H.size) trivial (Rt hR))
theorem r_new {i ci N : Nat} {Cn : String} {T : u_T} {fs : List Va} (C : Cx X cc nL own ret) (tag : Nat) (hd : decode cc pc = .ok (.new i, 3)) (hcl : Cond.classLink own i Cn ∈ mw) (hins : Cond.instantiable Cn N ∈ mw) (hini : Cond.initialized Cn ∈ mw) (hin : ∀ w ∈ u_ws Cn T N, w ∈ mw) (ty : Nat → FieldType) (hty : ∀ k, k < N → parseFieldDescriptor (T k).2.2.1 = some (ty k)) (hcc : classes[ci]? = some (Cn, T, N)) (hlen : fs.length = N) (hfs : ∀ j, j < N → defaultValue (ty j) = vp_V (fs.map cv) j) (hrv : ∀ v ∈ fs, Rv v) (hc : k + 1 ≤ X.1.2.2.2.cells) (hs : n + N ≤ X.1.2.2.2.slots) (kk : ∀ q : Nat, h q = none → Go X Q (k + 1) (n + N) (pu h q (tag, .inl (ci, fs))) (pc + 3) L (vR q :: st)) : Go X Q k n h pc L st := by
  intro H locs ls hP hS hL hR
  have hKn := C.K.1 ci _ hcc
  refine W.newcK C.1 C.2.1 C.2.2.2.1 (C.hts _ hcl) (C.hts _ hins) (C.hts _ hini) rfl hd hc hs hKn.2.1 rfl fun H1 kC hkC e1 z1 o1 => ?_
  exact kk H.size hP.fresh H1 locs ls (hP.push (Nat.le_trans C.2.2.2.2.2.2.2.2 hS.1) ⟨hrv, _, hcc, hlen, (u_born ty C.hts hin hKn hkC e1 hty).to hfs⟩ o1) ⟨Nat.le_trans hS.1 (by omega), fun x q1 q2 => (o1 x (Nat.lt_of_lt_of_le q1 hS.1)).trans (hS.2.1 x q1 q2), hS.2.2⟩ hL (Rc (v := vR H.size) trivial hR)
theorem cv_sum (st : List Va) : ((st.map cv).map fun v => v.category).sum = st.length := by
  induction st with
  | nil => rfl
  | cons v st ih => simp only [List.map_cons, List.sum_cons, List.length_cons, ih, cv_cat]; omega
theorem r_obj {i a : Nat} (C : Cx X cc nL own ret) (hd : decode cc pc = .ok (.invokespecial i, 3)) (hl : Cond.methodLink own i objectInit ∈ mw) (hf : 1 ≤ X.1.2.2.2.frames) (hlo : st.length + 12 ≤ X.1.2.2.2.locals) (kk : Go X Q k n h (pc + 3) L st) : Go X Q k n h pc L (vR a :: st) := by
  intro H locs ls hP hS hL hR
  refine W.objInit C.1 C.2.1 C.2.2.2.1 (C.hts _ hl) (C.hts _ oI_i) (C.hts _ oI_c) rfl hL.1 rfl hd hf ?_ (kk H locs ls hP hS hL (Rt hR))
  rw [cv_sum]
  show 2 * 0 + _ + _ ≤ _
  omega
-- returns
def Qp (D : va_G) (base : Nat) (P : Option Va → Pic → Prop) : Array Value → State → Outcome → State → Prop := fun _ s o t => ∃ (r : Option Va) (h' : Pic), o = .returned (r.map cv) ∧ P r h' ∧ (∀ v, r = some v → Rv v) ∧ PicOk D base h' t t.heap ∧ va_F (fun q => base ≤ q) s t
def Qm (X : Ctx) (P : Option Va → Pic → Prop) (mc ms : Nat) : State → Prop := MQ X.2.1.2.2.2 (Qp X.2.2.2.1 X.2.2.2.2 P) X.2.1.2.2.1 X.2.1.1 mc ms (fun q => X.2.2.2.2 ≤ q)
theorem r_iret {z : Int} {mc ms : Nat} {P : Option Va → Pic → Prop} (C : Cx X cc nL own (some .int)) (hd : decode cc pc = .ok (.ireturn, 1)) (hk : k ≤ mc) (hn : n ≤ ms) (hp : P (some (vI z)) h) : Go X (Qm X P mc ms) k n h pc L [vI z] := fun H locs ls hP hS hL hR =>
  W.widen hk hn (W.iret (v := Int32.ofInt z) C.1 C.2.1 C.2.2.2.2.2.2.1 (fun t ht hW => ⟨some (vI z), h, rfl, hp, fun v hv => (by cases hv; exact Rh hR), by rw [ht]; exact hP.moved hW.alike, hS.F ht⟩) hS.2.2 hd C.2.2.2.2.2.1)
theorem r_zret {z : Int} {mc ms : Nat} {P : Option Va → Pic → Prop} (C : Cx X cc nL own (some .boolean)) (hd : decode cc pc = .ok (.ireturn, 1)) (hz : z = 0 ∨ z = 1) (hk : k ≤ mc) (hn : n ≤ ms) (hp : P (some (vI z)) h) : Go X (Qm X P mc ms) k n h pc L [vI z] := fun H locs ls hP hS hL hR =>
  W.widen hk hn (W.zret (v := Int32.ofInt z) C.1 C.2.1 C.2.2.2.2.2.2.1 (o_nb hz) (fun t ht hW => ⟨some (vI z), h, rfl, hp, fun v hv => (by cases hv; exact Rh hR), by rw [ht]; exact hP.moved hW.alike, hS.F ht⟩) hS.2.2 hd C.2.2.2.2.2.1)
theorem r_vret {mc ms : Nat} {P : Option Va → Pic → Prop} (C : Cx X cc nL own none) (hd : decode cc pc = .ok (.return_, 1)) (hk : k ≤ mc) (hn : n ≤ ms) (hp : P none h) : Go X (Qm X P mc ms) k n h pc L [] := fun H locs ls hP hS hL hR =>
  W.widen hk hn (W.vret C.1 C.2.1 C.2.2.2.2.2.2.1 (fun t ht hW => ⟨none, h, rfl, hp, fun v hv => (by cases hv), by rw [ht]; exact hP.moved hW.alike, hS.F ht⟩) hS.2.2 hd C.2.2.2.2.2.1)
theorem r_aret {a mc ms : Nat} {rn : String} {P : Option Va → Pic → Prop} (C : Cx X cc nL own (some (.object rn))) (hd : decode cc pc = .ok (.areturn, 1)) (hk : k ≤ mc) (hn : n ≤ ms) (hp : P (some (vR a)) h) : Go X (Qm X P mc ms) k n h pc L [vR a] := fun H locs ls hP hS hL hR =>
  W.widen hk hn (W.aret (v := .ref a) C.1 C.2.1 C.2.2.2.2.2.2.1 (Or.inl ⟨rn, rfl⟩) (Or.inr ⟨a, rfl⟩) (fun t ht hW => ⟨some (vR a), h, rfl, hp, fun v hv => (by cases hv; trivial), by rw [ht]; exact hP.moved hW.alike, hS.F ht⟩) hS.2.2 hd C.2.2.2.2.2.1)
end GoHeap
end
section
/-! the layer, third part: contracts and calls -/
def rmD (d mc ms : Nat) : Room := { frames := d, cells := mc, slots := ms, locals := 40 * d }
def Meets (y : MethodName) (cc : ByteArray) (nL : Nat) (ret : Option FieldType) (d mc ms : Nat) (as : List Va) (h : Pic) (P : Option Va → Pic → Prop) : Prop :=
  ∀ (l : Launch) (D : va_G) (base : Nat), Met l y (Cond.code y cc nL ret :: mw) (rmD d mc ms) (va_Pc (as.map cv) (fun U => (∀ v ∈ as, Rv v) ∧ KK D U ∧ base ≤ U.heap.size ∧ PicOk D base h U U.heap)) (Qp D base P) mc ms (fun q => base ≤ q)
abbrev pI (z : Int) (h : Pic) : Option Va → Pic → Prop := fun r h' => r = some (vI z) ∧ h' = h
abbrev pR (a : Nat) (h : Pic) : Option Va → Pic → Prop := fun r h' => r = some (vR a) ∧ h' = h
abbrev pV (P : Pic → Prop) : Option Va → Pic → Prop := fun r h' => r = none ∧ P h'
abbrev pX (P : Int → Pic → Prop) : Option Va → Pic → Prop := fun r h' => ∃ z, r = some (vI z) ∧ P z h'
abbrev pY (P : Nat → Pic → Prop) : Option Va → Pic → Prop := fun r h' => ∃ a, r = some (vR a) ∧ P a h'
theorem sl_cv (as : List Va) : lg_sl (as.map cv) = (as.map cv).map Slot.val := by
  induction as with
  | nil => rfl
  | cons v as ih =>
    show (if (cv v).category = 2 then _ else _) ++ lg_sl (as.map cv) = _
    rw [if_neg (by rw [cv_cat]; decide), ih]
    rfl
theorem args_mem (as : List Va) : ∀ (j i : Nat) (v : Va), as[i]? = some v → (j + i, cv v) ∈ lv_args j (as.map cv) := by
  induction as with
  | nil => intro j i v h; simp at h
  | cons w as ih =>
    intro j i v h
    show (j + i, cv v) ∈ (j, cv w) :: lv_args (if (cv w).category = 2 then j + 2 else j + 1) (as.map cv)
    rw [if_neg (by rw [cv_cat]; decide)]
    cases i with
    | zero =>
      cases h
      exact List.mem_cons_self
    | succ i =>
      have := ih (j + 1) i v h
      rw [show j + (i + 1) = j + 1 + i by omega]
      exact List.mem_cons_of_mem _ this
theorem Meets.of {y : MethodName} {cc : ByteArray} {nL : Nat} {ret : Option FieldType} {d mc ms : Nat} {as : List Va} {h : Pic} {P : Option Va → Pic → Prop} (hy : plainFor y = true) (hlen : as.length ≤ nL)
    (body : ∀ X : Ctx, Cx X cc nL y.cls ret → X.1.2.2.2 = rmD d mc ms → X.2.2.1.1.name = y.name → (∀ v ∈ as, Rv v) → Go X (Qm X P mc ms) 0 0 h 0 (as.map some ++ List.replicate (nL - as.length) none) []) : Meets y cc nL ret d mc ms as h P := by
  intro l D base
  refine va_MetF (cc := cc) (maxL := nL) (ret := ret) hy rfl ?_
  intro p e s m args below meth c s₁ B hml hv
  obtain ⟨rfl, hRv, hKK, hbase, hP⟩ := hv
  have hts := atoms_spec (ws := Cond.code y cc nL ret :: mw) B.pre
  have hown : s.vm.findClass y.cls = some m.cls := findClass_of_methodNamed B.named
  have hsl : (lg_sl (as.map cv)).length = as.length := by rw [sl_cv, List.length_map, List.length_map]
  have hl := lv_entry (as.map cv) (n := nL) (by rw [hsl]; exact hlen)
  rw [lg_entry_eq]
  refine body ((p, l, e, rmD d mc ms), (s, m, (as.map cv).toArray, below), (meth, c), (D, base)) ⟨B.exec, B.bytes, hml, hown, fun w hw => hts w (List.mem_cons_of_mem _ hw), B.notSynchronized, B.returns, hKK, hbase⟩ rfl (name_of_methodNamed B.named B.method).1 hRv s.heap [] _ hP va_S.rf ⟨?_, hl.2.1, fun i v hi => ?_⟩ (fun v hv => by simp at hv)
  · show _ = c.maxLocals
    rw [hml]
    exact hl.1
  · by_cases hi2 : i < as.length
    · rw [List.getElem?_append_left (by rw [List.length_map]; exact hi2), List.getElem?_map] at hi
      cases e2 : as[i]? with
      | none => rw [e2] at hi; cases hi
      | some w =>
        rw [e2] at hi
        cases hi
        refine ⟨hRv _ (List.mem_of_getElem? e2), ?_⟩
        have := hl.2.2 _ (args_mem as 0 i _ e2)
        simpa using this
    · rw [List.getElem?_append_right (by rw [List.length_map]; omega), List.getElem?_replicate] at hi
      split at hi
      · cases hi
      · cases hi
theorem Meets.mono {y : MethodName} {cc : ByteArray} {nL : Nat} {ret : Option FieldType} {d mc ms : Nat} {as : List Va} {h : Pic} {P P' : Option Va → Pic → Prop} (hM : Meets y cc nL ret d mc ms as h P) (hp : ∀ r h', P r h' → P' r h') : Meets y cc nL ret d mc ms as h P' := by
  intro l D base
  have := hM l D base
  unfold Met at this ⊢
  refine MetFree.mono this (fun _ _ q => q) (fun _ _ _ _ _ q => q) (fun a s o t _ q => ?_)
  obtain ⟨⟨r, h', q1, q2, q3⟩, q4⟩ := q
  exact ⟨⟨r, h', q1, hp _ _ q2, q3⟩, q4⟩
def Fits (X : Ctx) (d bL mc ms k n : Nat) : Prop := d + 1 ≤ X.1.2.2.2.frames ∧ 8 + (bL + 11) + 40 * d ≤ X.1.2.2.2.locals ∧ k + mc ≤ X.1.2.2.2.cells ∧ n + ms ≤ X.1.2.2.2.slots
theorem fit {X : Ctx} {D MC MS d bL mc ms k n : Nat} (hX : X.1.2.2.2 = rmD D MC MS) (q : d + 1 ≤ D ∧ bL ≤ 21 ∧ k + mc ≤ MC ∧ n + ms ≤ MS) : Fits X d bL mc ms k n := by
  unfold Fits
  rw [hX]
  show d + 1 ≤ D ∧ 8 + (bL + 11) + 40 * d ≤ 40 * D ∧ k + mc ≤ MC ∧ n + ms ≤ MS
  omega
section GoCalls
variable {X : Ctx} {Q : State → Prop} {k n : Nat} {h : Pic} {pc : Nat} {L : List (Option Va)} {st : List Va} {cc : ByteArray} {nL : Nat} {own : String} {ret : Option FieldType}
variable {i b tb ci d mc ms nA bL : Nat} {y : MethodName} {bc : ByteArray} {bret : Option FieldType} {fs as rest : List Va} {P : Option Va → Pic → Prop}
theorem blind {D : va_G} {base : Nat} (as : List Va) (h : Pic) : FrameBlind (va_Pc (as.map cv) (fun U => (∀ v ∈ as, Rv v) ∧ KK D U ∧ base ≤ U.heap.size ∧ PicOk D base h U U.heap)) := by
  intro a U g mk q
  obtain ⟨q1, q2, q3, q4, q5⟩ := q
  exact ⟨q1, q2, q3.same rfl, q4, q5.moved (Vm.Alike.refl U.vm)⟩
theorem go_run {H : Heap} {locs : List Loc} {ls : Array Slot} {a : Array Value} (hL : LsOk ls X.2.2.1.2.maxLocals L) (hS : va_S (fun q => X.2.2.2.2 ≤ q) X.2.1.1.heap H locs) (hR : ∀ v ∈ rest, Rv v)
    (hr : va_Run X.1.1 X.1.2.1 X.1.2.2.1 X.1.2.2.2 X.2.1.1 X.2.1.2.1 X.2.1.2.2.1 X.2.1.2.2.2 X.2.2.1.1 X.2.2.1.2 H locs k n mc ms (F0 X.2.1.2.1 pc ls (st.map cv)) (rest.map cv) (Qp X.2.2.2.1 X.2.2.2.2 P a) (fun q => X.2.2.2.2 ≤ q))
    (kk : ∀ r h', P r h' → Go X Q (k + mc) (n + ms) h' (pc + 3) L (r.toList ++ rest)) : W X.1.1 X.1.2.1 X.1.2.2.1 X.1.2.2.2 X.2.1.1 X.2.1.2.1 X.2.1.2.2.1 X.2.1.2.2.2 X.2.2.1.1 X.2.2.1.2 H locs k n Q (F0 X.2.1.2.1 pc ls (st.map cv)) := by
  intro T hT X1
  obtain ⟨v, st₀, t, T', L', h0, X2, hL', e1, e2, ⟨r, h', hv, hp, hrv, hpic, hz, hk⟩, stp⟩ := hr T hT X1
  cases hv
  rw [h0] at hz hk
  have hal : X.2.1.1.vm.Alike t.vm := by rw [← e2]; exact X2.warmed.alike
  have hst : (r.map cv).toList ++ rest.map cv = (r.toList ++ rest).map cv := by cases r <;> simp
  have K := kk r h' hp T'.heap (locs ++ L') ls (by rw [e1]; exact hpic.moved hal.symm) ⟨Nat.le_trans hS.1 (by rw [e1]; exact hz), fun q h1 h2 => by rw [e1, hk q (Nat.lt_of_lt_of_le h1 hS.1) h2]; exact hS.2.1 q h1 h2, fun q hq => by
      rcases List.mem_append.mp hq with h | h
      · exact hS.2.2 q h
      · exact hL' q h⟩ hL (fun v hv => by
      rcases List.mem_append.mp hv with h | h
      · exact hrv v (by cases r <;> simp at h; rw [h])
      · exact hR v h)
  rw [← hst] at K
  obtain ⟨t2, a1, b1⟩ := K T' rfl X2
  exact ⟨t2, stp t2 a1, b1⟩
theorem r_callV (C : Cx X cc nL own ret) (hd : decode cc pc = .ok (.invokevirtual i, 3)) (hl : Cond.methodLink own i y ∈ mw) (hk : CalV y bc bL bret nA) (hM : Meets y bc bL bret d mc ms (vR b :: as) h P) (hb : h b = some (tb, .inl (ci, fs))) (hci : classes[ci]?.map (fun r => r.1) = some y.cls) (hst : st = as.reverse ++ vR b :: rest) (hn : as.length = nA) (hrest : rest.length ≤ 8) (hf : Fits X d bL mc ms k n) (kk : ∀ r h', P r h' → Go X Q (k + mc) (n + ms) h' (pc + 3) L (r.toList ++ rest)) : Go X Q k n h pc L st := by
  intro H locs ls hP hS hL hR
  obtain ⟨⟨w1, w2, w3⟩, w4, w5⟩ := hk
  subst hst
  obtain ⟨-, -, r, hr, -, cell, g1, g2, g3, -⟩ := hP _ _ _ hb
  rw [hr] at hci
  have hcn : r.1 = y.cls := Option.some.inj hci
  refine go_run hL hS (fun v hv => hR v (List.mem_append_right _ (List.mem_cons_of_mem _ hv))) (va_runV (C := y.cls) (b := b) (As := as.map cv) (rest := rest.map cv) ⟨C.1, C.2.1, C.2.2.1, C.2.2.2.1, C.hts⟩ (hM X.1.2.1 X.2.2.2.1 X.2.2.2.2) ⟨callB_of nA C.hts (mw_good w1) rfl rfl rfl (C.hts _ w2) (C.hts _ hl) w3 ⟨hf.1, hf.2.1⟩, C.hts _ w4, C.hts _ w5⟩ ⟨blind (vR b :: as) h, ⟨cell, g1, by rw [g3]; rfl, by rw [g2, ← hcn]; exact (C.K.1 ci r hr).2.1⟩, fun U hU hW => ⟨rfl, fun v hv => ?_, C.K.warm hW, ?_, ?_⟩⟩ rfl (by rw [List.length_map]; exact hn) (by show ls.size = _; rw [hL.1, C.2.2.1]) ?_ ?_ hd ⟨hf.2.2.1, hf.2.2.2⟩) kk
  · rcases List.mem_cons.mp hv with rfl | hv
    · trivial
    · exact hR v (List.mem_append_left _ (List.mem_reverse.mpr hv))
  · rw [hU]; exact Nat.le_trans C.2.2.2.2.2.2.2.2 hS.1
  · rw [hU]; exact hP.moved hW.alike
  · show List.map cv _ = _
    rw [List.map_append, List.map_reverse]
    rfl
  · rw [cv_sum]
    show 2 * 0 + _ ≤ _
    omega
theorem r_callS (C : Cx X cc nL own ret) (hd : decode cc pc = .ok (.invokestatic i, 3)) (hl : Cond.methodLink own i y ∈ mw) (hk : CalS y bc bL bret nA) (hM : Meets y bc bL bret d mc ms as h P) (hst : st = as.reverse ++ rest) (hn : as.length = nA) (hrest : rest.length ≤ 8) (hf : Fits X d bL mc ms k n) (kk : ∀ r h', P r h' → Go X Q (k + mc) (n + ms) h' (pc + 3) L (r.toList ++ rest)) : Go X Q k n h pc L st := by
  intro H locs ls hP hS hL hR
  obtain ⟨⟨w1, w2, w3⟩, w4⟩ := hk
  subst hst
  refine go_run hL hS (fun v hv => hR v (List.mem_append_right _ hv)) (va_runS (As := as.map cv) (rest := rest.map cv) ⟨C.1, C.2.1, C.2.2.1, C.2.2.2.1, C.hts⟩ (hM X.1.2.1 X.2.2.2.1 X.2.2.2.2) ⟨callB_of nA C.hts (mw_good w1) rfl rfl rfl (C.hts _ w2) (C.hts _ hl) w3 ⟨hf.1, hf.2.1⟩, C.hts _ w4⟩ ⟨blind as h, fun U hU hW => ⟨rfl, fun v hv => hR v (List.mem_append_left _ (List.mem_reverse.mpr hv)), C.K.warm hW, ?_, ?_⟩⟩ rfl (by rw [List.length_map]; exact hn) (by show ls.size = _; rw [hL.1, C.2.2.1]) ?_ ?_ hd ⟨hf.2.2.1, hf.2.2.2⟩) kk
  · rw [hU]; exact Nat.le_trans C.2.2.2.2.2.2.2.2 hS.1
  · rw [hU]; exact hP.moved hW.alike
  · show List.map cv _ = _
    rw [List.map_append, List.map_reverse]
  · rw [cv_sum]
    show 2 * 0 + _ ≤ _
    omega
theorem r_callN {host : String} (C : Cx X cc nL own ret) (hd : decode cc pc = .ok (.invokestatic i, 3)) (hl : va_Nw (.methodLinkNest own i y host) X.2.1.1) (hk : CalS y bc bL bret nA) (hM : Meets y bc bL bret d mc ms as h P) (hst : st = as.reverse ++ rest) (hn : as.length = nA) (hrest : rest.length ≤ 8) (hf : Fits X d bL mc ms k n) (kk : ∀ r h', P r h' → Go X Q (k + mc) (n + ms) h' (pc + 3) L (r.toList ++ rest)) : Go X Q k n h pc L st := by
  intro H locs ls hP hS hL hR
  obtain ⟨⟨w1, w2, w3⟩, w4⟩ := hk
  subst hst
  refine go_run hL hS (fun v hv => hR v (List.mem_append_right _ hv)) (va_runSN (As := as.map cv) (rest := rest.map cv) ⟨C.1, C.2.1, C.2.2.1, C.2.2.2.1, C.hts⟩ (hM X.1.2.1 X.2.2.2.1 X.2.2.2.2) ⟨va_cnB nA C.hts (mw_good w1) rfl rfl rfl hl (C.hts _ w2) w3 ⟨hf.1, hf.2.1⟩, C.hts _ w4, trivial⟩ ⟨blind as h, fun U hU hW => ⟨rfl, fun v hv => hR v (List.mem_append_left _ (List.mem_reverse.mpr hv)), C.K.warm hW, ?_, ?_⟩⟩ rfl (by rw [List.length_map]; exact hn) (by show ls.size = _; rw [hL.1, C.2.2.1]) ?_ ?_ hd ⟨hf.2.2.1, hf.2.2.2⟩) kk
  · rw [hU]; exact Nat.le_trans C.2.2.2.2.2.2.2.2 hS.1
  · rw [hU]; exact hP.moved hW.alike
  · show List.map cv _ = _
    rw [List.map_append, List.map_reverse]
  · rw [cv_sum]
    show 2 * 0 + _ ≤ _
    omega
theorem r_callI (C : Cx X cc nL own ret) (hd : decode cc pc = .ok (.invokespecial i, 3)) (hl : Cond.methodLink own i y ∈ mw) (hk : CalI y bc bL nA) (hM : Meets y bc bL none d mc ms (vR b :: as) h P) (hst : st = as.reverse ++ vR b :: rest) (hn : as.length = nA) (hrest : rest.length ≤ 8) (hf : Fits X d bL mc ms k n) (kk : ∀ r h', P r h' → Go X Q (k + mc) (n + ms) h' (pc + 3) L (r.toList ++ rest)) : Go X Q k n h pc L st := by
  intro H locs ls hP hS hL hR
  obtain ⟨⟨w1, w2, w3⟩, w4, w5⟩ := hk
  subst hst
  refine go_run hL hS (fun v hv => hR v (List.mem_append_right _ (List.mem_cons_of_mem _ hv))) (va_runI (b := b) (As := as.map cv) (rest := rest.map cv) ⟨C.1, C.2.1, C.2.2.1, C.2.2.2.1, C.hts⟩ (hM X.1.2.1 X.2.2.2.1 X.2.2.2.2) ⟨callB_of nA C.hts (mw_good w1) rfl rfl rfl (C.hts _ w2) (C.hts _ hl) w3 ⟨hf.1, hf.2.1⟩, w5, C.hts _ w4⟩ ⟨blind (vR b :: as) h, fun U hU hW => ⟨rfl, fun v hv => ?_, C.K.warm hW, ?_, ?_⟩⟩ rfl (by rw [List.length_map]; exact hn) (by show ls.size = _; rw [hL.1, C.2.2.1]) ?_ ?_ hd ⟨hf.2.2.1, hf.2.2.2⟩) kk
  · rcases List.mem_cons.mp hv with rfl | hv
    · trivial
    · exact hR v (List.mem_append_left _ (List.mem_reverse.mpr hv))
  · rw [hU]; exact Nat.le_trans C.2.2.2.2.2.2.2.2 hS.1
  · rw [hU]; exact hP.moved hW.alike
  · show List.map cv _ = _
    rw [List.map_append, List.map_reverse]
    rfl
  · rw [cv_sum]
    show 2 * 0 + _ ≤ _
    omega
-- by what comes back: i, r: nothing changes; v: nothing comes back; x: a number and a change; y: an address and a change
theorem r_cVi {z : Int} (C : Cx X cc nL own ret) (hd : decode cc pc = .ok (.invokevirtual i, 3)) (hl : Cond.methodLink own i y ∈ mw) (hk : CalV y bc bL bret nA) (hM : Meets y bc bL bret d 0 0 (vR b :: as) h (pI z h)) (hb : h b = some (tb, .inl (ci, fs))) (hci : classes[ci]?.map (fun r => r.1) = some y.cls) (hst : st = as.reverse ++ vR b :: rest) (hn : as.length = nA) (hrest : rest.length ≤ 8) (hf : Fits X d bL 0 0 k n) (kk : Go X Q k n h (pc + 3) L (vI z :: rest)) : Go X Q k n h pc L st :=
  r_callV C hd hl hk hM hb hci hst hn hrest hf (fun r h' q => by obtain ⟨rfl, rfl⟩ := q; exact kk)
theorem r_cVr {a : Nat} (C : Cx X cc nL own ret) (hd : decode cc pc = .ok (.invokevirtual i, 3)) (hl : Cond.methodLink own i y ∈ mw) (hk : CalV y bc bL bret nA) (hM : Meets y bc bL bret d 0 0 (vR b :: as) h (pR a h)) (hb : h b = some (tb, .inl (ci, fs))) (hci : classes[ci]?.map (fun r => r.1) = some y.cls) (hst : st = as.reverse ++ vR b :: rest) (hn : as.length = nA) (hrest : rest.length ≤ 8) (hf : Fits X d bL 0 0 k n) (kk : Go X Q k n h (pc + 3) L (vR a :: rest)) : Go X Q k n h pc L st :=
  r_callV C hd hl hk hM hb hci hst hn hrest hf (fun r h' q => by obtain ⟨rfl, rfl⟩ := q; exact kk)
theorem r_cVv {P : Pic → Prop} (C : Cx X cc nL own ret) (hd : decode cc pc = .ok (.invokevirtual i, 3)) (hl : Cond.methodLink own i y ∈ mw) (hk : CalV y bc bL bret nA) (hM : Meets y bc bL bret d mc ms (vR b :: as) h (pV P)) (hb : h b = some (tb, .inl (ci, fs))) (hci : classes[ci]?.map (fun r => r.1) = some y.cls) (hst : st = as.reverse ++ vR b :: rest) (hn : as.length = nA) (hrest : rest.length ≤ 8) (hf : Fits X d bL mc ms k n) (kk : ∀ h', P h' → Go X Q (k + mc) (n + ms) h' (pc + 3) L rest) : Go X Q k n h pc L st :=
  r_callV C hd hl hk hM hb hci hst hn hrest hf (fun r h' q => by obtain ⟨rfl, q⟩ := q; exact kk h' q)
theorem r_cVx {P : Int → Pic → Prop} (C : Cx X cc nL own ret) (hd : decode cc pc = .ok (.invokevirtual i, 3)) (hl : Cond.methodLink own i y ∈ mw) (hk : CalV y bc bL bret nA) (hM : Meets y bc bL bret d mc ms (vR b :: as) h (pX P)) (hb : h b = some (tb, .inl (ci, fs))) (hci : classes[ci]?.map (fun r => r.1) = some y.cls) (hst : st = as.reverse ++ vR b :: rest) (hn : as.length = nA) (hrest : rest.length ≤ 8) (hf : Fits X d bL mc ms k n) (kk : ∀ z h', P z h' → Go X Q (k + mc) (n + ms) h' (pc + 3) L (vI z :: rest)) : Go X Q k n h pc L st :=
  r_callV C hd hl hk hM hb hci hst hn hrest hf (fun r h' q => by obtain ⟨z, rfl, q⟩ := q; exact kk z h' q)
theorem r_cVy {P : Nat → Pic → Prop} (C : Cx X cc nL own ret) (hd : decode cc pc = .ok (.invokevirtual i, 3)) (hl : Cond.methodLink own i y ∈ mw) (hk : CalV y bc bL bret nA) (hM : Meets y bc bL bret d mc ms (vR b :: as) h (pY P)) (hb : h b = some (tb, .inl (ci, fs))) (hci : classes[ci]?.map (fun r => r.1) = some y.cls) (hst : st = as.reverse ++ vR b :: rest) (hn : as.length = nA) (hrest : rest.length ≤ 8) (hf : Fits X d bL mc ms k n) (kk : ∀ a h', P a h' → Go X Q (k + mc) (n + ms) h' (pc + 3) L (vR a :: rest)) : Go X Q k n h pc L st :=
  r_callV C hd hl hk hM hb hci hst hn hrest hf (fun r h' q => by obtain ⟨a, rfl, q⟩ := q; exact kk a h' q)
theorem r_cSi {z : Int} (C : Cx X cc nL own ret) (hd : decode cc pc = .ok (.invokestatic i, 3)) (hl : Cond.methodLink own i y ∈ mw) (hk : CalS y bc bL bret nA) (hM : Meets y bc bL bret d 0 0 as h (pI z h)) (hst : st = as.reverse ++ rest) (hn : as.length = nA) (hrest : rest.length ≤ 8) (hf : Fits X d bL 0 0 k n) (kk : Go X Q k n h (pc + 3) L (vI z :: rest)) : Go X Q k n h pc L st :=
  r_callS C hd hl hk hM hst hn hrest hf (fun r h' q => by obtain ⟨rfl, rfl⟩ := q; exact kk)
theorem r_cNi {z : Int} {host : String} (C : Cx X cc nL own ret) (hd : decode cc pc = .ok (.invokestatic i, 3)) (hl : va_Nw (.methodLinkNest own i y host) X.2.1.1) (hk : CalS y bc bL bret nA) (hM : Meets y bc bL bret d 0 0 as h (pI z h)) (hst : st = as.reverse ++ rest) (hn : as.length = nA) (hrest : rest.length ≤ 8) (hf : Fits X d bL 0 0 k n) (kk : Go X Q k n h (pc + 3) L (vI z :: rest)) : Go X Q k n h pc L st :=
  r_callN C hd hl hk hM hst hn hrest hf (fun r h' q => by obtain ⟨rfl, rfl⟩ := q; exact kk)
theorem r_cI {P : Pic → Prop} (C : Cx X cc nL own ret) (hd : decode cc pc = .ok (.invokespecial i, 3)) (hl : Cond.methodLink own i y ∈ mw) (hk : CalI y bc bL nA) (hM : Meets y bc bL none d mc ms (vR b :: as) h (pV P)) (hst : st = as.reverse ++ vR b :: rest) (hn : as.length = nA) (hrest : rest.length ≤ 8) (hf : Fits X d bL mc ms k n) (kk : ∀ h', P h' → Go X Q (k + mc) (n + ms) h' (pc + 3) L rest) : Go X Q k n h pc L st :=
  r_callI C hd hl hk hM hst hn hrest hf (fun r h' q => by obtain ⟨rfl, q⟩ := q; exact kk h' q)
-- what the picture tells of ranges
theorem r_rngI {a t kA : Nat} {m : Int} {f : Int → Int} (ha : h a = some (ia t kA m f)) (kk : (0 ≤ m ∧ m ≤ 2147483647) → (∀ j, Rg (f j)) → Go X Q k n h pc L st) : Go X Q k n h pc L st := fun H locs ls hP hS hL hR => by
  obtain ⟨-, hm, hf, -⟩ := hP _ _ _ ha
  exact kk hm hf H locs ls hP hS hL hR
theorem r_rngF {a t c : Nat} {fs : List Va} (ha : h a = some (t, .inl (c, fs))) (kk : (∀ v ∈ fs, Rv v) → Go X Q k n h pc L st) : Go X Q k n h pc L st := fun H locs ls hP hS hL hR => by
  obtain ⟨-, hf, -⟩ := hP _ _ _ ha
  exact kk hf H locs ls hP hS hL hR
theorem r_loc {L' : List (Option Va)} (hs : ∀ (i : Nat) (v : Va), L'[i]? = some (some v) → L[i]? = some (some v)) (kk : Go X Q k n h pc L' st) : Go X Q k n h pc L st := fun H locs ls hP hS hL hR =>
  kk H locs ls hP hS ⟨hL.1, hL.2.1, fun i v q => hL.2.2 i v (hs i v q)⟩ hR
end GoCalls
end
section
/-! leaves: signs, the JDK's own -/
section
variable {X : Ctx} {Q : State → Prop} {k n : Nat} {h : Pic} {pc : Nat} {L : List (Option Va)} {st : List Va} {cc : ByteArray} {nL : Nat} {own : String} {ret : Option FieldType}
def bAdd (x y : Int) : Int := (Int32.ofInt x + Int32.ofInt y).toInt
def bSub (x y : Int) : Int := (Int32.ofInt x - Int32.ofInt y).toInt
theorem r_iaddW {x y : Int} (C : Cx X cc nL own ret) (hd : decode cc pc = .ok (.iadd, 1)) (kk : Go X Q k n h (pc + 1) L (vI (bAdd x y) :: st)) : Go X Q k n h pc L (vI y :: vI x :: st) := fun H locs ls hP hS hL hR =>
  lv_iadd C.1 C.2.1 hd (by
    have q := kk H locs ls hP hS hL (Rc (v := vI (bAdd x y)) (b_rg _) (Rt (Rt hR)))
    simp only [List.map_cons, cv, bAdd, Int32.ofInt_toInt] at q
    exact q)
theorem r_isubW {x y : Int} (C : Cx X cc nL own ret) (hd : decode cc pc = .ok (.isub, 1)) (kk : Go X Q k n h (pc + 1) L (vI (bSub x y) :: st)) : Go X Q k n h pc L (vI y :: vI x :: st) := fun H locs ls hP hS hL hR =>
  lv_isub C.1 C.2.1 hd (by
    have q := kk H locs ls hP hS hL (Rc (v := vI (bSub x y)) (b_rg _) (Rt (Rt hR)))
    simp only [List.map_cons, cv, bSub, Int32.ofInt_toInt] at q
    exact q)
end
theorem bRem_eq {x y : Int} (hx : Rg x) (hy : 0 < y) (hy2 : Rg y) : bRem x y = x.tmod y := by
  unfold bRem
  rw [← Int32.ofInt_tdiv (by show (-2147483648 : Int) ≤ x; omega) (by show x ≤ (2147483647 : Int); omega) (by show (-2147483648 : Int) ≤ y; omega) (by show y ≤ (2147483647 : Int); omega), ← Int32.ofInt_mul, ← Int32.ofInt_sub]
  have e : x - x.tdiv y * y = x.tmod y := by
    have := Int.tdiv_mul_add_tmod x y
    omega
  rw [e]
  have b := tmod_bounds (a := x) hy
  exact o_toInt (by omega)
theorem bDiv_eq {x y : Int} (h0 : 0 ≤ x) (hx : Rg x) (hy : 0 < y) (hy2 : Rg y) : bDiv x y = x / y := by
  unfold bDiv
  rw [← Int32.ofInt_tdiv (by show (-2147483648 : Int) ≤ x; omega) (by show x ≤ (2147483647 : Int); omega) (by show (-2147483648 : Int) ≤ y; omega) (by show y ≤ (2147483647 : Int); omega), Int.tdiv_eq_ediv_of_nonneg h0]
  have b1 : 0 ≤ x / y := Int.ediv_nonneg h0 (by omega)
  have b2 : x / y ≤ x := Int.ediv_le_self _ h0
  exact o_toInt (by omega)
theorem bRem_nn {x y : Int} (h0 : 0 ≤ x) (hx : Rg x) (hy : 0 < y) (hy2 : Rg y) : bRem x y = x % y := by
  rw [bRem_eq hx hy hy2, Int.tmod_eq_emod_of_nonneg h0]
theorem bXor_sign (x y : Int) (hx : Rg x) (hy : Rg y) : bXor x y < 0 ↔ ¬ (x < 0 ↔ y < 0) := by
  have e : ∀ b : BitVec 32, b.toInt < 0 ↔ b.msb = true := fun b => by rw [BitVec.msb_eq_toInt, decide_eq_true_iff]
  have ex := o_toInt hx
  have ey := o_toInt hy
  unfold bXor
  show (Int32.ofInt x ^^^ Int32.ofInt y).toBitVec.toInt < 0 ↔ _
  rw [e, Int32.toBitVec_xor, BitVec.msb_xor]
  have e1 : x < 0 ↔ (Int32.ofInt x).toBitVec.msb = true := by rw [← e]; show _ ↔ (Int32.ofInt x).toInt < 0; rw [ex]
  have e2 : y < 0 ↔ (Int32.ofInt y).toBitVec.msb = true := by rw [← e]; show _ ↔ (Int32.ofInt y).toInt < 0; rw [ey]
  rw [e1, e2]
  cases (Int32.ofInt x).toBitVec.msb <;> cases (Int32.ofInt y).toBitVec.msb <;> simp
/-- a truth as a number -/
noncomputable def zb (p : Prop) : Int := by
  classical exact if p then 1 else 0
theorem zb_t {p : Prop} (q : p) : zb p = 1 := by unfold zb; exact if_pos q
theorem zb_f {p : Prop} (q : ¬ p) : zb p = 0 := by unfold zb; exact if_neg q
theorem zb_01 (p : Prop) : zb p = 0 ∨ zb p = 1 := by
  by_cases q : p
  · exact Or.inr (zb_t q)
  · exact Or.inl (zb_f q)
theorem zb_1 {p : Prop} : zb p = 1 ↔ p := by
  by_cases q : p
  · exact ⟨fun _ => q, fun _ => zb_t q⟩
  · exact ⟨fun e => absurd ((zb_f q).symm.trans e) (by decide), fun e => absurd e q⟩
theorem zb_0 {p : Prop} : zb p = 0 ↔ ¬ p := by
  by_cases q : p
  · exact ⟨fun e => absurd ((zb_t q).symm.trans e) (by decide), fun e => absurd q e⟩
  · exact ⟨fun _ => q, fun _ => zb_f q⟩
theorem some_I {a b : Int} (e : a = b) : some (vI a) = some (vI b) := by rw [e]
abbrev isW (c : Int) : Prop := 97 ≤ c ∧ c < 105
abbrev isD (c : Int) : Prop := 48 ≤ c ∧ c ≤ 57
/-- how many texts a sign has; -6: none can stand there -/
def nd (c : Int) : Int := if 48 ≤ c ∧ c ≤ 57 then 0 else if c = 120 then 0 else if c = 43 ∨ c = 45 ∨ c = 42 ∨ c = 109 then 2 else if c = 63 then 3 else if 97 ≤ c ∧ c < 105 then 1 else -6
/-- what a sign becomes by a slip; -6: it has none -/
def slp (c : Int) : Int := if c = 43 then 45 else if c = 45 ∨ c = 42 ∨ c = 109 then 43 else if c = 120 ∨ c = 57 then 48 else if 48 ≤ c ∧ c ≤ 57 then c + 1 else -6
def jn (c a b : Int) : Int := if c = 43 then (a + b) % 1000 else if c = 45 then (a - b) % 1000 else if c = 42 then (a * b) % 1000 else if b < a then b else a
theorem m_max {h : Pic} {x y : Int} : Meets yJ9_max_7cf53 cJ9_max_7cf53 2 (some .int) 0 0 0 [vI x, vI y] h (pI (if x < y then y else x) h) := by
  refine Meets.of (by decide +kernel) (Nat.le_of_ble_eq_true rfl) (fun X C hX hN hA => ?_)
  refine r_iload_n C dJ9_max_7cf53_0 rfl ?_
  refine r_iload_n C dJ9_max_7cf53_1 rfl ?_
  refine r_icmp_lt (tgt := 9) C dJ9_max_7cf53_2 (by decide) (fun hc2 => ?_) (fun hc2 => ?_)
  · refine r_iload_n C dJ9_max_7cf53_9 rfl ?_
    exact r_iret C dJ9_max_7cf53_10 (by decide) (by decide) (⟨some_I (by split <;> omega), rfl⟩)
  · refine r_iload_n C dJ9_max_7cf53_5 rfl ?_
    refine r_goto (tgt := 10) C dJ9_max_7cf53_6 (by decide) ?_
    exact r_iret C dJ9_max_7cf53_10 (by decide) (by decide) (⟨some_I (by split <;> omega), rfl⟩)
theorem m_min {h : Pic} {x y : Int} : Meets yJ9_min_7cf53 cJ9_min_7cf53 2 (some .int) 0 0 0 [vI x, vI y] h (pI (if y < x then y else x) h) := by
  refine Meets.of (by decide +kernel) (Nat.le_of_ble_eq_true rfl) (fun X C hX hN hA => ?_)
  refine r_iload_n C dJ9_min_7cf53_0 rfl ?_
  refine r_iload_n C dJ9_min_7cf53_1 rfl ?_
  refine r_icmp_gt (tgt := 9) C dJ9_min_7cf53_2 (by decide) (fun hc2 => ?_) (fun hc2 => ?_)
  · refine r_iload_n C dJ9_min_7cf53_9 rfl ?_
    exact r_iret C dJ9_min_7cf53_10 (by decide) (by decide) (⟨some_I (by split <;> omega), rfl⟩)
  · refine r_iload_n C dJ9_min_7cf53_5 rfl ?_
    refine r_goto (tgt := 10) C dJ9_min_7cf53_6 (by decide) ?_
    exact r_iret C dJ9_min_7cf53_10 (by decide) (by decide) (⟨some_I (by split <;> omega), rfl⟩)
theorem m_floorMod {h : Pic} {x : Int} : Meets yJ9_floorMod_7cf53 cJ9_floorMod_7cf53 3 (some .int) 0 0 0 [vI x, vI 1000] h (pI (x % 1000) h) := by
  refine Meets.of (by decide +kernel) (Nat.le_of_ble_eq_true rfl) (fun X C hX hN hA => ?_)
  have hx : Rg x := hA (vI x) (by simp)
  have e1 := bRem_eq (x := x) (y := 1000) hx (by omega) (by omega)
  have e2 := bXor_sign x 1000 hx (by omega)
  have e4 := tmod_bounds (a := x) (M := 1000) (by omega)
  have e5 : 0 ≤ x → x.tmod 1000 = x % 1000 := Int.tmod_eq_emod_of_nonneg
  have e6 : x < 0 → x.tmod 1000 = -((-x) % 1000) := fun q => by rw [show x = -(-x) by omega, Int.neg_tmod, Int.tmod_eq_emod_of_nonneg (by omega), show - -(-x) = -x by omega]
  rw [e1.symm] at e4 e5 e6
  have e7 : x < 0 → bXor x 1000 < 0 := fun q => e2.mpr (by omega)
  have e8 : 0 ≤ x → ¬ bXor x 1000 < 0 := fun q w => e2.mp w (by omega)
  clear e1 e2
  refine r_iload_n C dJ9_floorMod_7cf53_0 rfl ?_
  refine r_iload_n C dJ9_floorMod_7cf53_1 rfl ?_
  refine r_irem C dJ9_floorMod_7cf53_2 (by omega) ?_
  refine r_istore_n C dJ9_floorMod_7cf53_3 (by decide) ?_
  refine r_iload_n C dJ9_floorMod_7cf53_4 rfl ?_
  refine r_iload_n C dJ9_floorMod_7cf53_5 rfl ?_
  refine r_ixor C dJ9_floorMod_7cf53_6 ?_
  refine r_if_ge (tgt := 18) C dJ9_floorMod_7cf53_7 (by decide) (fun hc7 => ?_) (fun hc7 => ?_)
  · refine r_iload_n C dJ9_floorMod_7cf53_18 rfl ?_
    exact r_iret C dJ9_floorMod_7cf53_19 (by decide) (by decide) (⟨some_I (by omega), rfl⟩)
  · refine r_iload_n C dJ9_floorMod_7cf53_10 rfl ?_
    refine r_if_eq (tgt := 18) C dJ9_floorMod_7cf53_11 (by decide) (fun hc11 => ?_) (fun hc11 => ?_)
    · refine r_iload_n C dJ9_floorMod_7cf53_18 rfl ?_
      exact r_iret C dJ9_floorMod_7cf53_19 (by decide) (by decide) (⟨some_I (by omega), rfl⟩)
    · refine r_iload_n C dJ9_floorMod_7cf53_14 rfl ?_
      refine r_iload_n C dJ9_floorMod_7cf53_15 rfl ?_
      refine r_iadd C dJ9_floorMod_7cf53_16 (by omega) ?_
      exact r_iret C dJ9_floorMod_7cf53_17 (by decide) (by decide) (⟨some_I (by omega), rfl⟩)
theorem m_SW {h : Pic} {c : Int} : Meets yX4_isWord cX4_isWord 1 (some .boolean) 0 0 0 [vI c] h (pI (zb (isW c)) h) := by
  refine Meets.of (plainFor_of_name (by decide)) (Nat.le_of_ble_eq_true rfl) (fun X C hX hN hA => ?_)
  refine r_iload_n C dX4_isWord_0 rfl ?_
  refine r_bipush C dX4_isWord_1 (by decide) ?_
  refine r_icmp_lt (tgt := 16) C dX4_isWord_3 (by decide) (fun hc3 => ?_) (fun hc3 => ?_)
  · refine r_iconst C dX4_isWord_16 (by decide) ?_
    exact r_zret C dX4_isWord_17 (by omega) (by decide) (by decide) (⟨some_I (by first | (rw [zb_t (by omega)]; done) | (rw [zb_f (by omega)]; done)), rfl⟩)
  · refine r_iload_n C dX4_isWord_6 rfl ?_
    refine r_bipush C dX4_isWord_7 (by decide) ?_
    refine r_icmp_ge (tgt := 16) C dX4_isWord_9 (by decide) (fun hc9 => ?_) (fun hc9 => ?_)
    · refine r_iconst C dX4_isWord_16 (by decide) ?_
      exact r_zret C dX4_isWord_17 (by omega) (by decide) (by decide) (⟨some_I (by first | (rw [zb_t (by omega)]; done) | (rw [zb_f (by omega)]; done)), rfl⟩)
    · refine r_iconst C dX4_isWord_12 (by decide) ?_
      refine r_goto (tgt := 17) C dX4_isWord_13 (by decide) ?_
      exact r_zret C dX4_isWord_17 (by omega) (by decide) (by decide) (⟨some_I (by first | (rw [zb_t (by omega)]; done) | (rw [zb_f (by omega)]; done)), rfl⟩)
theorem m_SD {h : Pic} {c : Int} : Meets yX4_isDigit cX4_isDigit 1 (some .boolean) 0 0 0 [vI c] h (pI (zb (isD c)) h) := by
  refine Meets.of (plainFor_of_name (by decide)) (Nat.le_of_ble_eq_true rfl) (fun X C hX hN hA => ?_)
  refine r_iload_n C dX4_isDigit_0 rfl ?_
  refine r_bipush C dX4_isDigit_1 (by decide) ?_
  refine r_icmp_lt (tgt := 16) C dX4_isDigit_3 (by decide) (fun hc3 => ?_) (fun hc3 => ?_)
  · refine r_iconst C dX4_isDigit_16 (by decide) ?_
    exact r_zret C dX4_isDigit_17 (by omega) (by decide) (by decide) (⟨some_I (by first | (rw [zb_t (by omega)]; done) | (rw [zb_f (by omega)]; done)), rfl⟩)
  · refine r_iload_n C dX4_isDigit_6 rfl ?_
    refine r_bipush C dX4_isDigit_7 (by decide) ?_
    refine r_icmp_gt (tgt := 16) C dX4_isDigit_9 (by decide) (fun hc9 => ?_) (fun hc9 => ?_)
    · refine r_iconst C dX4_isDigit_16 (by decide) ?_
      exact r_zret C dX4_isDigit_17 (by omega) (by decide) (by decide) (⟨some_I (by first | (rw [zb_t (by omega)]; done) | (rw [zb_f (by omega)]; done)), rfl⟩)
    · refine r_iconst C dX4_isDigit_12 (by decide) ?_
      refine r_goto (tgt := 17) C dX4_isDigit_13 (by decide) ?_
      exact r_zret C dX4_isDigit_17 (by omega) (by decide) (by decide) (⟨some_I (by first | (rw [zb_t (by omega)]; done) | (rw [zb_f (by omega)]; done)), rfl⟩)
theorem m_isWord {h : Pic} {c : Int} : Meets yX7_isWord cX7_isWord 1 (some .boolean) 0 0 0 [vI c] h (pI (zb (0 ≤ c ∧ c < 8)) h) := by
  refine Meets.of (plainFor_of_name (by decide)) (Nat.le_of_ble_eq_true rfl) (fun X C hX hN hA => ?_)
  refine r_iload_n C dX7_isWord_0 rfl ?_
  refine r_if_lt (tgt := 14) C dX7_isWord_1 (by decide) (fun hc1 => ?_) (fun hc1 => ?_)
  · refine r_iconst C dX7_isWord_14 (by decide) ?_
    exact r_zret C dX7_isWord_15 (by omega) (by decide) (by decide) (⟨some_I (by first | (rw [zb_t (by omega)]; done) | (rw [zb_f (by omega)]; done)), rfl⟩)
  · refine r_iload_n C dX7_isWord_4 rfl ?_
    refine r_bipush C dX7_isWord_5 (by decide) ?_
    refine r_icmp_ge (tgt := 14) C dX7_isWord_7 (by decide) (fun hc7 => ?_) (fun hc7 => ?_)
    · refine r_iconst C dX7_isWord_14 (by decide) ?_
      exact r_zret C dX7_isWord_15 (by omega) (by decide) (by decide) (⟨some_I (by first | (rw [zb_t (by omega)]; done) | (rw [zb_f (by omega)]; done)), rfl⟩)
    · refine r_iconst C dX7_isWord_10 (by decide) ?_
      refine r_goto (tgt := 15) C dX7_isWord_11 (by decide) ?_
      exact r_zret C dX7_isWord_15 (by omega) (by decide) (by decide) (⟨some_I (by first | (rw [zb_t (by omega)]; done) | (rw [zb_f (by omega)]; done)), rfl⟩)
theorem m_isNumber {h : Pic} {c : Int} : Meets yX7_isNumber cX7_isNumber 1 (some .boolean) 0 0 0 [vI c] h (pI (zb (0 ≤ c ∧ c < 1000)) h) := by
  refine Meets.of (plainFor_of_name (by decide)) (Nat.le_of_ble_eq_true rfl) (fun X C hX hN hA => ?_)
  refine r_iload_n C dX7_isNumber_0 rfl ?_
  refine r_if_lt (tgt := 15) C dX7_isNumber_1 (by decide) (fun hc1 => ?_) (fun hc1 => ?_)
  · refine r_iconst C dX7_isNumber_15 (by decide) ?_
    exact r_zret C dX7_isNumber_16 (by omega) (by decide) (by decide) (⟨some_I (by first | (rw [zb_t (by omega)]; done) | (rw [zb_f (by omega)]; done)), rfl⟩)
  · refine r_iload_n C dX7_isNumber_4 rfl ?_
    refine r_sipush C dX7_isNumber_5 (by decide) ?_
    refine r_icmp_ge (tgt := 15) C dX7_isNumber_8 (by decide) (fun hc8 => ?_) (fun hc8 => ?_)
    · refine r_iconst C dX7_isNumber_15 (by decide) ?_
      exact r_zret C dX7_isNumber_16 (by omega) (by decide) (by decide) (⟨some_I (by first | (rw [zb_t (by omega)]; done) | (rw [zb_f (by omega)]; done)), rfl⟩)
    · refine r_iconst C dX7_isNumber_11 (by decide) ?_
      refine r_goto (tgt := 16) C dX7_isNumber_12 (by decide) ?_
      exact r_zret C dX7_isNumber_16 (by omega) (by decide) (by decide) (⟨some_I (by first | (rw [zb_t (by omega)]; done) | (rw [zb_f (by omega)]; done)), rfl⟩)
theorem m_isImage {h : Pic} {c : Int} : Meets yX7_isImage cX7_isImage 1 (some .boolean) 0 0 0 [vI c] h (pI (zb (0 ≤ c ∧ c < 2)) h) := by
  refine Meets.of (plainFor_of_name (by decide)) (Nat.le_of_ble_eq_true rfl) (fun X C hX hN hA => ?_)
  refine r_iload_n C dX7_isImage_0 rfl ?_
  refine r_if_lt (tgt := 13) C dX7_isImage_1 (by decide) (fun hc1 => ?_) (fun hc1 => ?_)
  · refine r_iconst C dX7_isImage_13 (by decide) ?_
    exact r_zret C dX7_isImage_14 (by omega) (by decide) (by decide) (⟨some_I (by first | (rw [zb_t (by omega)]; done) | (rw [zb_f (by omega)]; done)), rfl⟩)
  · refine r_iload_n C dX7_isImage_4 rfl ?_
    refine r_iconst C dX7_isImage_5 (by decide) ?_
    refine r_icmp_ge (tgt := 13) C dX7_isImage_6 (by decide) (fun hc6 => ?_) (fun hc6 => ?_)
    · refine r_iconst C dX7_isImage_13 (by decide) ?_
      exact r_zret C dX7_isImage_14 (by omega) (by decide) (by decide) (⟨some_I (by first | (rw [zb_t (by omega)]; done) | (rw [zb_f (by omega)]; done)), rfl⟩)
    · refine r_iconst C dX7_isImage_9 (by decide) ?_
      refine r_goto (tgt := 14) C dX7_isImage_10 (by decide) ?_
      exact r_zret C dX7_isImage_14 (by omega) (by decide) (by decide) (⟨some_I (by first | (rw [zb_t (by omega)]; done) | (rw [zb_f (by omega)]; done)), rfl⟩)
theorem m_needs {h : Pic} {c : Int} : Meets yX4_needs cX4_needs 1 (some .int) 0 0 0 [vI c] h (pI (nd c) h) := by
  refine Meets.of (plainFor_of_name (by decide)) (Nat.le_of_ble_eq_true rfl) (fun X C hX hN hA => ?_)
  have hsw : ¬ (48 ≤ c ∧ c ≤ 57) → Go X (Qm X (pI (nd c) h) 0 0) 0 0 h 14 (List.map some [vI c] ++ List.replicate (1 - [vI c].length) none) [] := by
    intro hnd
    refine r_iload_n C dX4_needs_14 rfl ?_
    rcases (show c = 42 ∨ c = 43 ∨ c = 45 ∨ c = 63 ∨ c = 109 ∨ c = 120 ∨ (¬ c = 42 ∧ ¬ c = 43 ∧ ¬ c = 45 ∧ ¬ c = 63 ∧ ¬ c = 109 ∧ ¬ c = 120) by omega) with rfl | rfl | rfl | rfl | rfl | rfl | hz
    · refine r_lookup (off := 59) (tgt := 74) C dX4_needs_15 (by decide) (by decide) (by decide) ?_
      refine r_iconst C dX4_needs_74 (by decide) ?_
      exact r_iret C dX4_needs_75 (by decide) (by decide) (⟨some_I (by decide), rfl⟩)
    · refine r_lookup (off := 59) (tgt := 74) C dX4_needs_15 (by decide) (by decide) (by decide) ?_
      refine r_iconst C dX4_needs_74 (by decide) ?_
      exact r_iret C dX4_needs_75 (by decide) (by decide) (⟨some_I (by decide), rfl⟩)
    · refine r_lookup (off := 59) (tgt := 74) C dX4_needs_15 (by decide) (by decide) (by decide) ?_
      refine r_iconst C dX4_needs_74 (by decide) ?_
      exact r_iret C dX4_needs_75 (by decide) (by decide) (⟨some_I (by decide), rfl⟩)
    · refine r_lookup (off := 61) (tgt := 76) C dX4_needs_15 (by decide) (by decide) (by decide) ?_
      refine r_iconst C dX4_needs_76 (by decide) ?_
      exact r_iret C dX4_needs_77 (by decide) (by decide) (⟨some_I (by decide), rfl⟩)
    · refine r_lookup (off := 59) (tgt := 74) C dX4_needs_15 (by decide) (by decide) (by decide) ?_
      refine r_iconst C dX4_needs_74 (by decide) ?_
      exact r_iret C dX4_needs_75 (by decide) (by decide) (⟨some_I (by decide), rfl⟩)
    · refine r_lookup (off := 57) (tgt := 72) C dX4_needs_15 (by decide) (by decide) (by decide) ?_
      refine r_iconst C dX4_needs_72 (by decide) ?_
      exact r_iret C dX4_needs_73 (by decide) (by decide) (⟨some_I (by decide), rfl⟩)
    · refine r_lookup (off := 63) (tgt := 78) C dX4_needs_15 (by decide) (by show (if (42 : Int) = c then (59 : Int) else if (43 : Int) = c then (59 : Int) else if (45 : Int) = c then (59 : Int) else if (63 : Int) = c then (61 : Int) else if (109 : Int) = c then (59 : Int) else if (120 : Int) = c then (57 : Int) else 63) = 63; rw [if_neg (by omega), if_neg (by omega), if_neg (by omega), if_neg (by omega), if_neg (by omega), if_neg (by omega)]) (by decide) ?_
      refine r_iload_n C dX4_needs_78 rfl ?_
      refine r_bipush C dX4_needs_79 (by decide) ?_
      refine r_icmp_lt (tgt := 94) C dX4_needs_81 (by decide) (fun hc81 => ?_) (fun hc81 => ?_)
      · refine r_bipush C dX4_needs_94 (by decide) ?_
        exact r_iret C dX4_needs_96 (by decide) (by decide) (⟨some_I (by unfold nd; (repeat' split) <;> omega), rfl⟩)
      · refine r_iload_n C dX4_needs_84 rfl ?_
        refine r_bipush C dX4_needs_85 (by decide) ?_
        refine r_icmp_ge (tgt := 94) C dX4_needs_87 (by decide) (fun hc87 => ?_) (fun hc87 => ?_)
        · refine r_bipush C dX4_needs_94 (by decide) ?_
          exact r_iret C dX4_needs_96 (by decide) (by decide) (⟨some_I (by unfold nd; (repeat' split) <;> omega), rfl⟩)
        · refine r_iconst C dX4_needs_90 (by decide) ?_
          refine r_goto (tgt := 96) C dX4_needs_91 (by decide) ?_
          exact r_iret C dX4_needs_96 (by decide) (by decide) (⟨some_I (by unfold nd; (repeat' split) <;> omega), rfl⟩)
  refine r_iload_n C dX4_needs_0 rfl ?_
  refine r_bipush C dX4_needs_1 (by decide) ?_
  refine r_icmp_lt (tgt := 14) C dX4_needs_3 (by decide) (fun hc3 => ?_) (fun hc3 => ?_)
  · exact hsw (by omega)
  · refine r_iload_n C dX4_needs_6 rfl ?_
    refine r_bipush C dX4_needs_7 (by decide) ?_
    refine r_icmp_gt (tgt := 14) C dX4_needs_9 (by decide) (fun hc9 => ?_) (fun hc9 => ?_)
    · exact hsw (by omega)
    · refine r_iconst C dX4_needs_12 (by decide) ?_
      exact r_iret C dX4_needs_13 (by decide) (by decide) (⟨some_I (by unfold nd; rw [if_pos (by omega)]), rfl⟩)
theorem m_slipped {h : Pic} {c : Int} : Meets yX4_slipped cX4_slipped 1 (some .int) 1 0 0 [vI c] h (pI (slp c) h) := by
  refine Meets.of (plainFor_of_name (by decide)) (Nat.le_of_ble_eq_true rfl) (fun X C hX hN hA => ?_)
  have hA1 : Rg c := hA (vI c) (by simp)
  have hsw : Go X (Qm X (pI (slp c) h) 0 0) 0 0 h 0 (List.map some [vI c] ++ List.replicate (1 - [vI c].length) none) [] := by
    refine r_iload_n C dX4_slipped_0 rfl ?_
    rcases (show c = 42 ∨ c = 43 ∨ c = 45 ∨ c = 57 ∨ c = 109 ∨ c = 120 ∨ (¬ c = 42 ∧ ¬ c = 43 ∧ ¬ c = 45 ∧ ¬ c = 57 ∧ ¬ c = 109 ∧ ¬ c = 120) by omega) with rfl | rfl | rfl | rfl | rfl | rfl | hz
    · refine r_lookup (off := 62) (tgt := 63) C dX4_slipped_1 (by decide) (by decide) (by decide) ?_
      refine r_bipush C dX4_slipped_63 (by decide) ?_
      exact r_iret C dX4_slipped_65 (by decide) (by decide) (⟨some_I (by decide), rfl⟩)
    · refine r_lookup (off := 59) (tgt := 60) C dX4_slipped_1 (by decide) (by decide) (by decide) ?_
      refine r_bipush C dX4_slipped_60 (by decide) ?_
      exact r_iret C dX4_slipped_62 (by decide) (by decide) (⟨some_I (by decide), rfl⟩)
    · refine r_lookup (off := 62) (tgt := 63) C dX4_slipped_1 (by decide) (by decide) (by decide) ?_
      refine r_bipush C dX4_slipped_63 (by decide) ?_
      exact r_iret C dX4_slipped_65 (by decide) (by decide) (⟨some_I (by decide), rfl⟩)
    · refine r_lookup (off := 65) (tgt := 66) C dX4_slipped_1 (by decide) (by decide) (by decide) ?_
      refine r_bipush C dX4_slipped_66 (by decide) ?_
      exact r_iret C dX4_slipped_68 (by decide) (by decide) (⟨some_I (by decide), rfl⟩)
    · refine r_lookup (off := 62) (tgt := 63) C dX4_slipped_1 (by decide) (by decide) (by decide) ?_
      refine r_bipush C dX4_slipped_63 (by decide) ?_
      exact r_iret C dX4_slipped_65 (by decide) (by decide) (⟨some_I (by decide), rfl⟩)
    · refine r_lookup (off := 65) (tgt := 66) C dX4_slipped_1 (by decide) (by decide) (by decide) ?_
      refine r_bipush C dX4_slipped_66 (by decide) ?_
      exact r_iret C dX4_slipped_68 (by decide) (by decide) (⟨some_I (by decide), rfl⟩)
    · refine r_lookup (off := 68) (tgt := 69) C dX4_slipped_1 (by decide) (by show (if (42 : Int) = c then (62 : Int) else if (43 : Int) = c then (59 : Int) else if (45 : Int) = c then (62 : Int) else if (57 : Int) = c then (65 : Int) else if (109 : Int) = c then (62 : Int) else if (120 : Int) = c then (65 : Int) else 68) = 68; rw [if_neg (by omega), if_neg (by omega), if_neg (by omega), if_neg (by omega), if_neg (by omega), if_neg (by omega)]) (by decide) ?_
      refine r_iload_n C dX4_slipped_69 rfl ?_
      refine r_cSi C dX4_slipped_70 mlX4_9 kX4_isDigit (m_SD (c := c)) rfl rfl (Nat.le_of_ble_eq_true rfl) (fit hX (by decide)) ?_
      rcases zb_01 (isD c) with hzz | hzz <;> rw [hzz] <;> (first | rw [zb_0] at hzz | rw [zb_1] at hzz)
      all_goals skip
      · refine r_if_eq (tgt := 82) C dX4_slipped_73 (by decide) (fun _ => ?_) (fun q => absurd rfl q)
        refine r_bipush C dX4_slipped_82 (by decide) ?_
        exact r_iret C dX4_slipped_84 (by decide) (by decide) (⟨some_I (by unfold slp; (repeat' split) <;> omega), rfl⟩)
      · refine r_if_eq (tgt := 82) C dX4_slipped_73 (by decide) (fun q => absurd q (by decide)) (fun _ => ?_)
        refine r_iload_n C dX4_slipped_76 rfl ?_
        refine r_iconst C dX4_slipped_77 (by decide) ?_
        refine r_iadd C dX4_slipped_78 (by omega) ?_
        refine r_goto (tgt := 84) C dX4_slipped_79 (by decide) ?_
        exact r_iret C dX4_slipped_84 (by decide) (by decide) (⟨some_I (by unfold slp; (repeat' split) <;> omega), rfl⟩)
  exact hsw
theorem mul_rg {a b : Int} (ha : 0 ≤ a ∧ a ≤ 999) (hb : 0 ≤ b ∧ b ≤ 999) : 0 ≤ a * b ∧ a * b ≤ 998001 := by
  refine ⟨Int.mul_nonneg ha.1 hb.1, ?_⟩
  have h1 : a * b ≤ 999 * b := Int.mul_le_mul_of_nonneg_right ha.2 hb.1
  omega
theorem m_joined {h : Pic} {c a b : Int} (ha : 0 ≤ a ∧ a ≤ 999) (hb : 0 ≤ b ∧ b ≤ 999) : Meets yX4_joined cX4_joined 3 (some .int) 1 0 0 [vI c, vI a, vI b] h (pI (jn c a b) h) := by
  refine Meets.of (plainFor_of_name (by decide)) (Nat.le_of_ble_eq_true rfl) (fun X C hX hN hA => ?_)
  have hA1 : Rg c := hA (vI c) (by simp)
  have hm := mul_rg ha hb
  refine r_iload_n C dX4_joined_0 rfl ?_
  rcases (show c = 43 ∨ c = 45 ∨ c = 42 ∨ (¬ c = 43 ∧ ¬ c = 45 ∧ ¬ c = 42) by omega) with rfl | rfl | rfl | hz
  · refine r_tableIn (off := 31) (tgt := 32) C dX4_joined_1 (by decide) (by decide) rfl (by decide) ?_
    refine r_iload_n C dX4_joined_32 rfl ?_
    refine r_iload_n C dX4_joined_33 rfl ?_
    refine r_iadd C dX4_joined_34 (by omega) ?_
    refine r_sipush C dX4_joined_35 (by decide) ?_
    refine r_cSi C dX4_joined_38 mlX4_15 kJ9_floorMod_7cf53 (m_floorMod (x := a + b)) rfl rfl (Nat.le_of_ble_eq_true rfl) (fit hX (by decide)) ?_
    exact r_iret C dX4_joined_41 (by decide) (by decide) (⟨some_I (by unfold jn; rw [if_pos rfl]), rfl⟩)
  · refine r_tableIn (off := 41) (tgt := 42) C dX4_joined_1 (by decide) (by decide) rfl (by decide) ?_
    refine r_iload_n C dX4_joined_42 rfl ?_
    refine r_iload_n C dX4_joined_43 rfl ?_
    refine r_isub C dX4_joined_44 (by omega) ?_
    refine r_sipush C dX4_joined_45 (by decide) ?_
    refine r_cSi C dX4_joined_48 mlX4_15 kJ9_floorMod_7cf53 (m_floorMod (x := a - b)) rfl rfl (Nat.le_of_ble_eq_true rfl) (fit hX (by decide)) ?_
    exact r_iret C dX4_joined_51 (by decide) (by decide) (⟨some_I (by unfold jn; rw [if_neg (by decide), if_pos rfl]), rfl⟩)
  · refine r_tableIn (off := 51) (tgt := 52) C dX4_joined_1 (by decide) (by decide) rfl (by decide) ?_
    refine r_iload_n C dX4_joined_52 rfl ?_
    refine r_iload_n C dX4_joined_53 rfl ?_
    refine r_imul C dX4_joined_54 (by omega) ?_
    refine r_sipush C dX4_joined_55 (by decide) ?_
    refine r_cSi C dX4_joined_58 mlX4_15 kJ9_floorMod_7cf53 (m_floorMod (x := a * b)) rfl rfl (Nat.le_of_ble_eq_true rfl) (fit hX (by decide)) ?_
    exact r_iret C dX4_joined_61 (by decide) (by decide) (⟨some_I (by unfold jn; rw [if_neg (by decide), if_neg (by decide), if_pos rfl]), rfl⟩)
  · have hk : Go X (Qm X (pI (jn c a b) h) 0 0) 0 0 h 62 (List.map some [vI c, vI a, vI b] ++ List.replicate (3 - [vI c, vI a, vI b].length) none) [] := by
      refine r_iload_n C dX4_joined_62 rfl ?_
      refine r_iload_n C dX4_joined_63 rfl ?_
      refine r_cSi C dX4_joined_64 mlX4_21 kJ9_min_7cf53 (m_min (x := a) (y := b)) rfl rfl (Nat.le_of_ble_eq_true rfl) (fit hX (by decide)) ?_
      exact r_iret C dX4_joined_67 (by decide) (by decide) (⟨some_I (by unfold jn; rw [if_neg hz.1, if_neg hz.2.1, if_neg hz.2.2]), rfl⟩)
    by_cases h44 : c = 44
    · subst h44
      exact r_tableIn (off := 61) (tgt := 62) C dX4_joined_1 (by decide) (by decide) rfl (by decide) hk
    · exact r_tableOut (tgt := 62) C dX4_joined_1 (by omega) (by decide) hk
/-- how many bits of twelve -/
def cntN : Nat → Int → Int
  | 0, _ => 0
  | j + 1, x => cntN j x + bAnd (bShr x j) 1
def cnt (x : Int) : Int := cntN 12 x
def bc1 (x : Int) : Int := bSub x (bAnd (bUshr x 1) 1431655765)
def bc2 (y : Int) : Int := bAdd (bAnd y 858993459) (bAnd (bUshr y 2) 858993459)
def bc3 (y : Int) : Int := bAnd (bAdd y (bUshr y 4)) 252645135
def bc4 (y : Int) : Int := bAdd y (bUshr y 8)
def bc5 (y : Int) : Int := bAdd y (bUshr y 16)
def bcF (x : Int) : Int := bAnd (bc5 (bc4 (bc3 (bc2 (bc1 x))))) 63
set_option maxRecDepth 100000 in
theorem bcF_all : (List.range 4096).all (fun j => decide (bcF (j : Int) = cnt (j : Int))) = true := by decide +kernel
theorem bcF_cnt {x : Int} (h0 : 0 ≤ x) (h1 : x < 4096) : bcF x = cnt x := by
  obtain ⟨j, rfl⟩ := Int.eq_ofNat_of_zero_le h0
  have := List.all_eq_true.mp bcF_all j (List.mem_range.mpr (by omega))
  exact of_decide_eq_true this
theorem m_bitCount {h : Pic} {x : Int} (h0 : 0 ≤ x) (h1 : x < 4096) : Meets yJ6_bitCount_0f7a4 cJ6_bitCount_0f7a4 1 (some .int) 0 0 0 [vI x] h (pI (cnt x) h) := by
  refine Meets.of (by decide +kernel) (Nat.le_of_ble_eq_true rfl) (fun X C hX hN hA => ?_)
  rw [← bcF_cnt h0 h1]
  refine r_iload_n C dJ6_bitCount_0f7a4_0 rfl ?_
  refine r_iload_n C dJ6_bitCount_0f7a4_1 rfl ?_
  refine r_iconst C dJ6_bitCount_0f7a4_2 (by decide) ?_
  refine r_iushr C dJ6_bitCount_0f7a4_3 ?_
  refine r_ldcw C dJ6_bitCount_0f7a4_4 cnJ6_265 (z := 1431655765) rfl (by decide) ?_
  refine r_iand C dJ6_bitCount_0f7a4_7 ?_
  refine r_isubW C dJ6_bitCount_0f7a4_8 ?_
  refine r_istore_n C dJ6_bitCount_0f7a4_9 (by decide) ?_
  refine r_iload_n C dJ6_bitCount_0f7a4_10 rfl ?_
  refine r_ldcw C dJ6_bitCount_0f7a4_11 cnJ6_266 (z := 858993459) rfl (by decide) ?_
  refine r_iand C dJ6_bitCount_0f7a4_14 ?_
  refine r_iload_n C dJ6_bitCount_0f7a4_15 rfl ?_
  refine r_iconst C dJ6_bitCount_0f7a4_16 (by decide) ?_
  refine r_iushr C dJ6_bitCount_0f7a4_17 ?_
  refine r_ldcw C dJ6_bitCount_0f7a4_18 cnJ6_266 (z := 858993459) rfl (by decide) ?_
  refine r_iand C dJ6_bitCount_0f7a4_21 ?_
  refine r_iaddW C dJ6_bitCount_0f7a4_22 ?_
  refine r_istore_n C dJ6_bitCount_0f7a4_23 (by decide) ?_
  refine r_iload_n C dJ6_bitCount_0f7a4_24 rfl ?_
  refine r_iload_n C dJ6_bitCount_0f7a4_25 rfl ?_
  refine r_iconst C dJ6_bitCount_0f7a4_26 (by decide) ?_
  refine r_iushr C dJ6_bitCount_0f7a4_27 ?_
  refine r_iaddW C dJ6_bitCount_0f7a4_28 ?_
  refine r_ldcw C dJ6_bitCount_0f7a4_29 cnJ6_267 (z := 252645135) rfl (by decide) ?_
  refine r_iand C dJ6_bitCount_0f7a4_32 ?_
  refine r_istore_n C dJ6_bitCount_0f7a4_33 (by decide) ?_
  refine r_iload_n C dJ6_bitCount_0f7a4_34 rfl ?_
  refine r_iload_n C dJ6_bitCount_0f7a4_35 rfl ?_
  refine r_bipush C dJ6_bitCount_0f7a4_36 (by decide) ?_
  refine r_iushr C dJ6_bitCount_0f7a4_38 ?_
  refine r_iaddW C dJ6_bitCount_0f7a4_39 ?_
  refine r_istore_n C dJ6_bitCount_0f7a4_40 (by decide) ?_
  refine r_iload_n C dJ6_bitCount_0f7a4_41 rfl ?_
  refine r_iload_n C dJ6_bitCount_0f7a4_42 rfl ?_
  refine r_bipush C dJ6_bitCount_0f7a4_43 (by decide) ?_
  refine r_iushr C dJ6_bitCount_0f7a4_45 ?_
  refine r_iaddW C dJ6_bitCount_0f7a4_46 ?_
  refine r_istore_n C dJ6_bitCount_0f7a4_47 (by decide) ?_
  refine r_iload_n C dJ6_bitCount_0f7a4_48 rfl ?_
  refine r_bipush C dJ6_bitCount_0f7a4_49 (by decide) ?_
  refine r_iand C dJ6_bitCount_0f7a4_51 ?_
  exact r_iret C dJ6_bitCount_0f7a4_52 (by decide) (by decide) (⟨rfl, rfl⟩)
end
section
/-! Text: signs in a row -/
theorem ne_of {h : Pic} {a b : Nat} {o o' : Ob} (h1 : h a = some o) (h2 : h b = some o') (e : o = o' → False) : a ≠ b := fun q => e (by rw [q, h2] at h1; exact (Option.some.inj h1).symm)
abbrev Off (l : List Nat) (h h' : Pic) : Prop := ∀ q, q ∉ l → h' q = h q
theorem Off.rf {l : List Nat} {h : Pic} : Off l h h := fun _ _ => rfl
theorem Off.tr {l : List Nat} {h h' h'' : Pic} (x : Off l h h') (y : Off l h' h'') : Off l h h'' := fun q hq => (y q hq).trans (x q hq)
theorem Off.put {l : List Nat} {h h' : Pic} {a : Nat} {o : Ob} (x : Off l h h') (ha : a ∈ l) : Off l h (pu h' a o) := fun q hq => (pu_n (fun e : q = a => hq (by rw [e]; exact ha))).trans (x q hq)
theorem Off.sub {l l' : List Nat} {h h' : Pic} (x : Off l h h') (hs : ∀ q ∈ l, q ∈ l') : Off l' h h' := fun q hq => x q (fun z => hq (hs q z))
/-- a text that is read: n signs, as f has them -/
def TxR (h : Pic) (a : Nat) (n : Int) (f : Int → Int) : Prop := ∃ (b t t' : Nat) (m : Int) (g : Int → Int), h a = some (ob t 6 [vR b, vI n]) ∧ h b = some (ia t' 1 m g) ∧ 0 ≤ n ∧ n ≤ m ∧ n ≤ 40 ∧ ∀ i, 0 ≤ i → i < n → g i = f i ∧ 0 ≤ f i ∧ f i ≤ 126
def sgn (n : Int) (f : Int → Int) (p : Int) : Int := if 0 ≤ p ∧ p < n then f p else 0
theorem m_count {h : Pic} {a : Nat} {n : Int} {f : Int → Int} (ht : TxR h a n f) : Meets yX6_count cX6_count 1 (some .int) 0 0 0 [vR a] h (pI n h) := by
  obtain ⟨b, t, t', m, g, hs, ha, h0, h1, h40, hg⟩ := ht
  refine Meets.of (plainFor_of_name (by decide)) (Nat.le_of_ble_eq_true rfl) (fun X C hX hN hA => ?_)
  refine r_aload_n C dX6_count_0 rfl ?_
  refine r_get C dX6_count_1 flX6_21 hs rfl ?_
  exact r_iret C dX6_count_4 (by decide) (by decide) (⟨rfl, rfl⟩)
theorem m_sign {h : Pic} {a : Nat} {n p : Int} {f : Int → Int} (ht : TxR h a n f) : Meets yX6_sign cX6_sign 2 (some .int) 0 0 0 [vR a, vI p] h (pI (sgn n f p) h) := by
  obtain ⟨b, t, t', m, g, hs, ha, h0, h1, h40, hg⟩ := ht
  refine Meets.of (plainFor_of_name (by decide)) (Nat.le_of_ble_eq_true rfl) (fun X C hX hN hA => ?_)
  refine r_iload_n C dX6_sign_0 rfl ?_
  refine r_if_lt (tgt := 21) C dX6_sign_1 (by decide) (fun hc1 => ?_) (fun hc1 => ?_)
  · refine r_iconst C dX6_sign_21 (by decide) ?_
    exact r_iret C dX6_sign_22 (by decide) (by decide) (⟨some_I (by unfold sgn; first | (rw [if_neg (by omega)]; done) | (rw [if_pos (by omega)]; exact (hg _ (by omega) (by omega)).1)), rfl⟩)
  · refine r_iload_n C dX6_sign_4 rfl ?_
    refine r_aload_n C dX6_sign_5 rfl ?_
    refine r_get C dX6_sign_6 flX6_21 hs rfl ?_
    refine r_icmp_ge (tgt := 21) C dX6_sign_9 (by decide) (fun hc9 => ?_) (fun hc9 => ?_)
    · refine r_iconst C dX6_sign_21 (by decide) ?_
      exact r_iret C dX6_sign_22 (by decide) (by decide) (⟨some_I (by unfold sgn; first | (rw [if_neg (by omega)]; done) | (rw [if_pos (by omega)]; exact (hg _ (by omega) (by omega)).1)), rfl⟩)
    · refine r_aload_n C dX6_sign_12 rfl ?_
      refine r_get C dX6_sign_13 flX6_15 hs rfl ?_
      refine r_iload_n C dX6_sign_16 rfl ?_
      refine r_cald C dX6_sign_17 ha (by omega) (by omega) ?_
      refine r_goto (tgt := 22) C dX6_sign_18 (by decide) ?_
      exact r_iret C dX6_sign_22 (by decide) (by decide) (⟨some_I (by unfold sgn; first | (rw [if_neg (by omega)]; done) | (rw [if_pos (by omega)]; exact (hg _ (by omega) (by omega)).1)), rfl⟩)
theorem m_clear {h : Pic} {a b t : Nat} {n : Int} (hs : h a = some (ob t 6 [vR b, vI n])) : Meets yX6_clear cX6_clear 1 none 0 0 0 [vR a] h (pV (fun h' => h' = pu h a (ob t 6 [vR b, vI 0]))) := by
  refine Meets.of (plainFor_of_name (by decide)) (Nat.le_of_ble_eq_true rfl) (fun X C hX hN hA => ?_)
  refine r_aload_n C dX6_clear_0 rfl ?_
  refine r_iconst C dX6_clear_1 (by decide) ?_
  refine r_put C dX6_clear_2 flX6_21 hs rfl rfl ?_
  exact r_vret C dX6_clear_5 (by decide) (by decide) (⟨rfl, rfl⟩)
theorem m_add {h : Pic} {a b t t' : Nat} {n m c : Int} {g : Int → Int} (hs : h a = some (ob t 6 [vR b, vI n])) (ha : h b = some (ia t' 1 m g)) (h0 : 0 ≤ n) (h1 : n < m) (h2 : m ≤ 40) (hc : 0 ≤ c ∧ c ≤ 65535) : Meets yX6_add cX6_add 2 none 0 0 0 [vR a, vI c] h (pV (fun h' => h' = pu (pu h b (ia t' 1 m (fu g n c))) a (ob t 6 [vR b, vI (n + 1)]))) := by
  have hab := ne_of hs ha (fun q => by cases q)
  have hs2 : pu h b (ia t' 1 m (fu g n c)) a = some (ob t 6 [vR b, vI n]) := (pu_n hab).trans hs
  refine Meets.of (plainFor_of_name (by decide)) (Nat.le_of_ble_eq_true rfl) (fun X C hX hN hA => ?_)
  refine r_aload_n C dX6_add_0 rfl ?_
  refine r_get C dX6_add_1 flX6_21 hs rfl ?_
  refine r_aload_n C dX6_add_4 rfl ?_
  refine r_get C dX6_add_5 flX6_15 hs rfl ?_
  refine r_alen C dX6_add_8 ha ?_
  refine r_icmp_ge (tgt := 33) C dX6_add_9 (by decide) (fun hc9 => ?_) (fun hc9 => ?_)
  · first | exact absurd hc9 (by omega) | exact r_vret C dX6_add_33 (by decide) (by decide) ⟨rfl, rfl⟩
  · refine r_aload_n C dX6_add_12 rfl ?_
    refine r_get C dX6_add_13 flX6_15 hs rfl ?_
    refine r_aload_n C dX6_add_16 rfl ?_
    refine r_get C dX6_add_17 flX6_21 hs rfl ?_
    refine r_iload_n C dX6_add_20 rfl ?_
    refine r_i2c C dX6_add_21 (by omega) ?_
    refine r_cast C dX6_add_22 ha (by omega) (by omega) (by omega) ?_
    refine r_aload_n C dX6_add_23 rfl ?_
    refine r_dup C dX6_add_24 ?_
    refine r_get C dX6_add_25 flX6_21 hs2 rfl ?_
    refine r_iconst C dX6_add_28 (by decide) ?_
    refine r_iadd C dX6_add_29 (by omega) ?_
    refine r_put C dX6_add_30 flX6_21 hs2 rfl rfl ?_
    first | exact absurd hc9 (by omega) | exact r_vret C dX6_add_33 (by decide) (by decide) ⟨rfl, rfl⟩
theorem m_put {h : Pic} {a b t t' : Nat} {n m p c : Int} {g : Int → Int} (hs : h a = some (ob t 6 [vR b, vI n])) (ha : h b = some (ia t' 1 m g)) (h0 : 0 ≤ p) (hp : p < n) (h1 : n ≤ m) (hc : 0 ≤ c ∧ c ≤ 65535) : Meets yX6_put cX6_put 3 none 0 0 0 [vR a, vI p, vI c] h (pV (fun h' => h' = pu h b (ia t' 1 m (fu g p c)))) := by
  refine Meets.of (plainFor_of_name (by decide)) (Nat.le_of_ble_eq_true rfl) (fun X C hX hN hA => ?_)
  refine r_iload_n C dX6_put_0 rfl ?_
  refine r_if_lt (tgt := 20) C dX6_put_1 (by decide) (fun hc1 => ?_) (fun hc1 => ?_)
  · first | exact absurd hc1 (by omega) | exact absurd hc9 (by omega) | exact r_vret C dX6_put_20 (by decide) (by decide) ⟨rfl, rfl⟩
  · refine r_iload_n C dX6_put_4 rfl ?_
    refine r_aload_n C dX6_put_5 rfl ?_
    refine r_get C dX6_put_6 flX6_21 hs rfl ?_
    refine r_icmp_ge (tgt := 20) C dX6_put_9 (by decide) (fun hc9 => ?_) (fun hc9 => ?_)
    · first | exact absurd hc1 (by omega) | exact absurd hc9 (by omega) | exact r_vret C dX6_put_20 (by decide) (by decide) ⟨rfl, rfl⟩
    · refine r_aload_n C dX6_put_12 rfl ?_
      refine r_get C dX6_put_13 flX6_15 hs rfl ?_
      refine r_iload_n C dX6_put_16 rfl ?_
      refine r_iload_n C dX6_put_17 rfl ?_
      refine r_i2c C dX6_put_18 (by omega) ?_
      refine r_cast C dX6_put_19 ha (by omega) (by omega) (by omega) ?_
      first | exact absurd hc1 (by omega) | exact absurd hc9 (by omega) | exact r_vret C dX6_put_20 (by decide) (by decide) ⟨rfl, rfl⟩
theorem m_has {h : Pic} {a : Nat} {n c : Int} {f : Int → Int} (ht : TxR h a n f) : Meets yX6_has cX6_has 3 (some .boolean) 0 0 0 [vR a, vI c] h (pI (zb (∃ i, 0 ≤ i ∧ i < n ∧ f i = c)) h) := by
  obtain ⟨b, t, t', m, g, hs, ha, h0, h1, h40, hg⟩ := ht
  refine Meets.of (plainFor_of_name (by decide)) (Nat.le_of_ble_eq_true rfl) (fun X C hX hN hA => ?_)
  have loop : ∀ (j : Nat) (i : Int), 0 ≤ i → i ≤ n → n - i < j → (∀ q, 0 ≤ q → q < i → ¬ f q = c) → Go X (Qm X (pI (zb (∃ i, 0 ≤ i ∧ i < n ∧ f i = c)) h) 0 0) 0 0 h 2 [some (vR a), some (vI c), some (vI i)] [] := by
    intro j
    induction j with
    | zero => intro i h3 h4 h5; exact absurd h5 (by omega)
    | succ j ih =>
      intro i h3 h4 h5 h6
      refine r_iload_n C dX6_has_2 rfl ?_
      refine r_aload_n C dX6_has_3 rfl ?_
      refine r_get C dX6_has_4 flX6_21 hs rfl ?_
      refine r_icmp_ge (tgt := 28) C dX6_has_7 (by decide) (fun hc7 => ?_) (fun hc7 => ?_)
      · refine r_iconst C dX6_has_28 (by decide) ?_
        exact r_zret C dX6_has_29 (by omega) (by decide) (by decide) (⟨some_I (zb_f (fun ⟨q, q1, q2, q3⟩ => h6 q q1 (by omega) q3)).symm, rfl⟩)
      · refine r_aload_n C dX6_has_10 rfl ?_
        refine r_get C dX6_has_11 flX6_15 hs rfl ?_
        refine r_iload_n C dX6_has_14 rfl ?_
        refine r_cald C dX6_has_15 ha (by omega) (by omega) ?_
        have hgi := (hg i (by omega) (by omega)).1
        refine r_iload_n C dX6_has_16 rfl ?_
        refine r_icmp_ne (tgt := 22) C dX6_has_17 (by decide) (fun hc17 => ?_) (fun hc17 => ?_)
        · refine r_iinc C dX6_has_22 rfl (by decide) (by omega) ?_
          refine r_goto (tgt := 2) C dX6_has_25 (by decide) ?_
          exact ih (i + 1) (by omega) (by omega) (by omega) (fun q q1 q2 => by rcases (show q < i ∨ q = i by omega) with q3 | rfl; exact h6 q q1 q3; omega)
        · refine r_iconst C dX6_has_20 (by decide) ?_
          exact r_zret C dX6_has_21 (by omega) (by decide) (by decide) (⟨some_I (zb_t ⟨i, by omega, by omega, by omega⟩).symm, rfl⟩)
  refine r_iconst C dX6_has_0 (by decide) ?_
  refine r_istore_n C dX6_has_1 (by decide) ?_
  exact loop (n.toNat + 1) 0 (by omega) (by omega) (by omega) (fun q q1 q2 => by omega)
/-- the words in a text, as bits -/
def nmN (f : Int → Int) : Nat → Int
  | 0 => 0
  | j + 1 => if isW (f j) then bOr (nmN f j) (bShl 1 (f j - 97)) else nmN f j
def nmd (n : Int) (f : Int → Int) : Int := nmN f n.toNat
theorem nmN_s (f : Int → Int) {i : Int} (h : 0 ≤ i) : nmN f (i + 1).toNat = if isW (f i) then bOr (nmN f i.toNat) (bShl 1 (f i - 97)) else nmN f i.toNat := by
  have e : (i + 1).toNat = i.toNat + 1 := by omega
  have e2 : ((i.toNat : Nat) : Int) = i := by omega
  rw [e]
  show (if isW (f (i.toNat : Nat)) then _ else _) = _
  rw [e2]
theorem m_named {h : Pic} {a : Nat} {n : Int} {f : Int → Int} (ht : TxR h a n f) : Meets yX6_named cX6_named 3 (some .int) 1 0 0 [vR a] h (pI (nmd n f) h) := by
  obtain ⟨b, t, t', m, g, hs, ha, h0, h1, h40, hg⟩ := ht
  refine Meets.of (plainFor_of_name (by decide)) (Nat.le_of_ble_eq_true rfl) (fun X C hX hN hA => ?_)
  have loop : ∀ (j : Nat) (i : Int), 0 ≤ i → i ≤ n → n - i < j → Go X (Qm X (pI (nmd n f) h) 0 0) 0 0 h 4 [some (vR a), some (vI (nmN f i.toNat)), some (vI i)] [] := by
    intro j
    induction j with
    | zero => intro i h3 h4 h5; exact absurd h5 (by omega)
    | succ j ih =>
      intro i h3 h4 h5
      have hst := nmN_s f h3
      refine r_iload_n C dX6_named_4 rfl ?_
      refine r_aload_n C dX6_named_5 rfl ?_
      refine r_get C dX6_named_6 flX6_21 hs rfl ?_
      refine r_icmp_ge (tgt := 44) C dX6_named_9 (by decide) (fun hc9 => ?_) (fun hc9 => ?_)
      · refine r_iload_n C dX6_named_44 rfl ?_
        exact r_iret C dX6_named_45 (by decide) (by decide) ⟨some_I (by unfold nmd; rw [show i = n by omega]), rfl⟩
      · refine r_aload_n C dX6_named_12 rfl ?_
        refine r_get C dX6_named_13 flX6_15 hs rfl ?_
        refine r_iload_n C dX6_named_16 rfl ?_
        refine r_cald C dX6_named_17 ha (by omega) (by omega) ?_
        have hgi := hg i (by omega) (by omega)
        refine r_cSi C dX6_named_18 mlX6_38 kX4_isWord (m_SW (c := g i)) rfl rfl (Nat.le_of_ble_eq_true rfl) (fit hX (by decide)) ?_
        refine r_if_eq (tgt := 38) C dX6_named_21 (by decide) (fun hc21 => ?_) (fun hc21 => ?_)
        · refine r_iinc C dX6_named_38 rfl (by decide) (by omega) ?_
          refine r_goto (tgt := 4) C dX6_named_41 (by decide) ?_
          have hz := ih (i + 1) (by omega) (by omega) (by omega)
          rw [hst] at hz
          rw [hgi.1] at hc21
          first | (rw [zb_0] at hc21; rw [if_neg hc21] at hz; exact hz) | (rw [zb_0, Classical.not_not] at hc21; rw [if_pos hc21, ← hgi.1] at hz; exact hz)
        · refine r_iload_n C dX6_named_24 rfl ?_
          refine r_iconst C dX6_named_25 (by decide) ?_
          refine r_aload_n C dX6_named_26 rfl ?_
          refine r_get C dX6_named_27 flX6_15 hs rfl ?_
          refine r_iload_n C dX6_named_30 rfl ?_
          refine r_cald C dX6_named_31 ha (by omega) (by omega) ?_
          refine r_bipush C dX6_named_32 (by decide) ?_
          refine r_isub C dX6_named_34 (by omega) ?_
          refine r_ishl C dX6_named_35 ?_
          refine r_ior C dX6_named_36 ?_
          refine r_istore_n C dX6_named_37 (by decide) ?_
          refine r_iinc C dX6_named_38 rfl (by decide) (by omega) ?_
          refine r_goto (tgt := 4) C dX6_named_41 (by decide) ?_
          have hz := ih (i + 1) (by omega) (by omega) (by omega)
          rw [hst] at hz
          rw [hgi.1] at hc21
          first | (rw [zb_0] at hc21; rw [if_neg hc21] at hz; exact hz) | (rw [zb_0, Classical.not_not] at hc21; rw [if_pos hc21, ← hgi.1] at hz; exact hz)
  refine r_iconst C dX6_named_0 (by decide) ?_
  refine r_istore_n C dX6_named_1 (by decide) ?_
  refine r_iconst C dX6_named_2 (by decide) ?_
  refine r_istore_n C dX6_named_3 (by decide) ?_
  exact loop (n.toNat + 1) 0 (by omega) (by omega) (by omega)
end
section
/-! where a text ends: the pure part -/
def pit (g : Int → Int) : Nat → Int → Int
  | 0, e => e
  | k + 1, e => if e < 0 then e else pit g k (g e)
/-- the place behind the text at p, d levels left; -1 less the place of a fault -/
def pe (n : Int) (f : Int → Int) : Nat → Int → Int
  | 0, p => if nd (sgn n f p) < 0 ∨ 0 < nd (sgn n f p) then -1 - p else p + 1
  | d + 1, p => if nd (sgn n f p) < 0 then -1 - p else pit (pe n f d) (nd (sgn n f p)).toNat (p + 1)
theorem nd_rng (c : Int) : nd c = -6 ∨ nd c = 0 ∨ nd c = 1 ∨ nd c = 2 ∨ nd c = 3 := by
  unfold nd
  (repeat' split) <;> omega
theorem nd_0 : nd 0 = -6 := by decide
theorem sgn_in {n p : Int} {f : Int → Int} (h0 : 0 ≤ p) (h1 : p < n) : sgn n f p = f p := if_pos ⟨h0, h1⟩
theorem sgn_out {n p : Int} {f : Int → Int} (h1 : n ≤ p) : sgn n f p = 0 := if_neg (by omega)
theorem nd_sgn {n p : Int} {f : Int → Int} (h : 0 ≤ nd (sgn n f p)) : p < n := by
  rcases Int.lt_or_le p n with q | q
  · exact q
  · rw [sgn_out q, nd_0] at h
    omega
theorem pit_neg (g : Int → Int) (k : Nat) {e : Int} (h : e < 0) : pit g k e = e := by
  cases k with
  | zero => rfl
  | succ k => exact if_pos h
theorem pit_rng {g : Int → Int} {n : Int} (hg : ∀ p, 0 ≤ p → p ≤ n → (-1 - n ≤ g p ∧ g p ≤ n ∧ (0 ≤ g p → p < g p))) : ∀ (k : Nat) (e : Int), -1 - n ≤ e → e ≤ n → (-1 - n ≤ pit g k e ∧ pit g k e ≤ n ∧ (0 ≤ pit g k e → e ≤ pit g k e)) := by
  intro k
  induction k with
  | zero => intro e h1 h2; exact ⟨h1, h2, fun _ => Int.le_refl _⟩
  | succ k ih =>
    intro e h1 h2
    by_cases he : e < 0
    · rw [pit_neg g _ he]
      exact ⟨h1, h2, fun _ => Int.le_refl _⟩
    · have hs : pit g (k + 1) e = pit g k (g e) := if_neg he
      rw [hs]
      obtain ⟨a1, a2, a3⟩ := hg e (by omega) h2
      obtain ⟨b1, b2, b3⟩ := ih (g e) a1 a2
      refine ⟨b1, b2, fun h => ?_⟩
      by_cases hn : g e < 0
      · rw [pit_neg g _ hn] at h
        omega
      · have := a3 (by omega)
        have := b3 h
        omega
theorem pe_rng (n : Int) (f : Int → Int) : ∀ (d : Nat) (p : Int), 0 ≤ p → p ≤ n → (-1 - n ≤ pe n f d p ∧ pe n f d p ≤ n ∧ (0 ≤ pe n f d p → p < pe n f d p)) := by
  intro d
  induction d with
  | zero =>
    intro p h0 h1
    have e1 : pe n f 0 p = if nd (sgn n f p) < 0 ∨ 0 < nd (sgn n f p) then -1 - p else p + 1 := rfl
    rw [e1]
    by_cases hc : nd (sgn n f p) < 0 ∨ 0 < nd (sgn n f p)
    · rw [if_pos hc]; omega
    · rw [if_neg hc]
      have := nd_sgn (n := n) (f := f) (p := p) (by omega)
      omega
  | succ d ih =>
    intro p h0 h1
    have e1 : pe n f (d + 1) p = if nd (sgn n f p) < 0 then -1 - p else pit (pe n f d) (nd (sgn n f p)).toNat (p + 1) := rfl
    rw [e1]
    by_cases hc : nd (sgn n f p) < 0
    · rw [if_pos hc]; omega
    · rw [if_neg hc]
      have := nd_sgn (n := n) (f := f) (p := p) (by omega)
      obtain ⟨a1, a2, a3⟩ := pit_rng ih (nd (sgn n f p)).toNat (p + 1) (by omega) (by omega)
      exact ⟨a1, a2, fun h => by have := a3 h; omega⟩
/-- THE FAULT: -6, if there is none -/
def flt (n : Int) (f : Int → Int) : Int := if pe n f 6 0 < 0 then -1 - pe n f 6 0 else if pe n f 6 0 < n then pe n f 6 0 else -6
/-- the scan behind a text: by the count of texts that are missing -/
def bhN (n : Int) (f : Int → Int) : Nat → Int → Int → Int
  | 0, _, _ => n
  | j + 1, m, p => if n ≤ p then n else if m + nd (f p) - 1 ≤ 0 then p + 1 else bhN n f j (m + nd (f p) - 1) (p + 1)
theorem bhN_pit {n : Int} {f : Int → Int} {d : Nat} (hd : ∀ (p e m : Int) (j : Nat), 0 ≤ p → pe n f d p = e → 0 ≤ e → 1 ≤ m → n - p < j → bhN n f j m p = if m ≤ 1 then e else bhN n f (j - (e - p).toNat) (m - 1) e) :
    ∀ (k : Nat) (p e m : Int) (j : Nat), 0 ≤ p → p ≤ n → pit (pe n f d) k p = e → 0 ≤ e → (k : Int) ≤ m → 1 ≤ m → n - p < j → bhN n f j m p = if m ≤ k then (if k = 0 then bhN n f j m p else e) else bhN n f (j - (e - p).toNat) (m - k) e := by
  intro k
  induction k with
  | zero =>
    intro p e m j h0 hpn he h1 h2 h3 h4
    have : p = e := he
    subst this
    rw [if_neg (by omega)]
    simp
  | succ k ih =>
    intro p e m j h0 hpn he h1 h2 h3 h4
    have hs : pit (pe n f d) (k + 1) p = pit (pe n f d) k (pe n f d p) := if_neg (by omega)
    rw [hs] at he
    obtain ⟨r1, r2, r3⟩ := pe_rng n f d p h0 hpn
    have hnn : 0 ≤ pe n f d p := by
      rcases Int.lt_or_le (pe n f d p) 0 with q | q
      · rw [pit_neg _ _ q] at he; omega
      · exact q
    have r4 := r3 hnn
    rw [hd p (pe n f d p) m j h0 rfl hnn h3 h4]
    by_cases hm : m ≤ 1
    · have hk : k = 0 := by omega
      subst hk
      rw [if_pos hm, if_pos (by omega), if_neg (by omega)]
      exact he
    · rw [if_neg hm]
      have hb := pit_rng (fun p h0 h1 => pe_rng n f d p h0 h1) k (pe n f d p) r1 r2
      rw [he] at hb
      have hb3 := hb.2.2 h1
      rw [ih (pe n f d p) e (m - 1) (j - (pe n f d p - p).toNat) hnn r2 he h1 (by omega) (by omega) (by omega)]
      by_cases hk : m - 1 ≤ k
      · rw [if_pos hk, if_neg (by omega), if_pos (by omega), if_neg (by omega)]
      · rw [if_neg hk, if_neg (by omega)]
        congr 1
        · omega
        · omega
theorem bhN_pe (n : Int) (f : Int → Int) : ∀ (d : Nat) (p e m : Int) (j : Nat), 0 ≤ p → pe n f d p = e → 0 ≤ e → 1 ≤ m → n - p < j → bhN n f j m p = if m ≤ 1 then e else bhN n f (j - (e - p).toNat) (m - 1) e := by
  intro d
  induction d with
  | zero =>
    intro p e m j h0 he h1 h2 h3
    have he' : (if nd (sgn n f p) < 0 ∨ 0 < nd (sgn n f p) then -1 - p else p + 1) = e := he
    by_cases hc : nd (sgn n f p) < 0 ∨ 0 < nd (sgn n f p)
    · rw [if_pos hc] at he'; omega
    · rw [if_neg hc] at he'
      have hp := nd_sgn (n := n) (f := f) (p := p) (by omega)
      rw [sgn_in h0 hp] at hc
      match j, h3 with
      | 0, h3 => omega
      | j + 1, h3 =>
        show (if n ≤ p then n else if m + nd (f p) - 1 ≤ 0 then p + 1 else bhN n f j (m + nd (f p) - 1) (p + 1)) = _
        rw [if_neg (by omega)]
        by_cases hm : m ≤ 1
        · rw [if_pos (by omega), if_pos hm]; omega
        · rw [if_neg (by omega), if_neg hm]
          congr 1
          · omega
          · omega
  | succ d ih =>
    intro p e m j h0 he h1 h2 h3
    have he' : (if nd (sgn n f p) < 0 then -1 - p else pit (pe n f d) (nd (sgn n f p)).toNat (p + 1)) = e := he
    by_cases hc : nd (sgn n f p) < 0
    · rw [if_pos hc] at he'; omega
    · rw [if_neg hc] at he'
      have hp := nd_sgn (n := n) (f := f) (p := p) (by omega)
      rw [sgn_in h0 hp] at hc he'
      have hr := pit_rng (fun p h0 h1 => pe_rng n f d p h0 h1) (nd (f p)).toNat (p + 1) (by omega) (by omega)
      rw [he'] at hr
      have hr3 := hr.2.2 h1
      match j, h3 with
      | 0, h3 => omega
      | j + 1, h3 =>
        show (if n ≤ p then n else if m + nd (f p) - 1 ≤ 0 then p + 1 else bhN n f j (m + nd (f p) - 1) (p + 1)) = _
        rw [if_neg (by omega)]
        by_cases hz : nd (f p) = 0
        · rw [hz] at he'
          have he2 : p + 1 = e := he'
          by_cases hm : m ≤ 1
          · rw [if_pos (by omega), if_pos hm]; omega
          · rw [if_neg (by omega), if_neg hm]
            congr 1
            · omega
            · omega
        · rw [if_neg (by omega)]
          rw [bhN_pit ih (nd (f p)).toNat (p + 1) e (m + nd (f p) - 1) j (by omega) (by omega) he' h1 (by omega) (by omega) (by omega)]
          by_cases hm : m ≤ 1
          · rw [if_pos (by omega), if_neg (by omega), if_pos hm]
          · rw [if_neg (by omega), if_neg hm]
            congr 1
            · omega
            · omega
/-- of a text without a fault: the place behind it -/
theorem bhN_end {n : Int} {f : Int → Int} {d : Nat} {p e : Int} {j : Nat} (h0 : 0 ≤ p) (he : pe n f d p = e) (h1 : 0 ≤ e) (hj : n - p < j) : bhN n f j 1 p = e := by
  rw [bhN_pe n f d p e 1 j h0 he h1 (by omega) hj, if_pos (by omega)]
end
section
/-! Text, second part -/
theorem m_endOf {h : Pic} {a : Nat} {n : Int} {f : Int → Int} (ht : TxR h a n f) : ∀ (d : Nat) (p : Int), d ≤ 6 → 0 ≤ p → p ≤ n → Meets yX6_endOf cX6_endOf 6 (some .int) (d + 1) 0 0 [vR a, vI p, vI (6 - d)] h (pI (pe n f d p) h) := by
  obtain ⟨b, t, t', m, g, hs, ha, h0, h1, h40, hg⟩ := id ht
  intro d
  induction d with
  | zero =>
    intro p h2 h3 h4
    refine Meets.of (plainFor_of_name (by decide)) (Nat.le_of_ble_eq_true rfl) (fun X C hX hN hA => ?_)
    have hnd := nd_rng (sgn n f p)
    refine r_aload_n C dX6_endOf_0 rfl ?_
    refine r_iload_n C dX6_endOf_1 rfl ?_
    refine r_cVi C dX6_endOf_2 mlX6_47 kX6_sign (m_sign ht (p := p)) hs rfl rfl rfl (Nat.le_of_ble_eq_true rfl) (fit hX (by omega)) ?_
    refine r_cSi C dX6_endOf_5 mlX6_51 kX4_needs (m_needs (c := sgn n f p)) rfl rfl (Nat.le_of_ble_eq_true rfl) (fit hX (by omega)) ?_
    refine r_istore_n C dX6_endOf_8 (by decide) ?_
    refine r_iload_n C dX6_endOf_9 rfl ?_
    refine r_if_lt (tgt := 23) C dX6_endOf_10 (by decide) (fun hc10 => ?_) (fun hc10 => ?_)
    · refine r_iconst C dX6_endOf_23 (by decide) ?_
      refine r_iload_n C dX6_endOf_24 rfl ?_
      refine r_isub C dX6_endOf_25 (by omega) ?_
      exact r_iret C dX6_endOf_26 (by decide) (by decide) ⟨some_I (if_pos (by omega)).symm, rfl⟩
    · refine r_iload_n C dX6_endOf_13 rfl ?_
      refine r_if_le (tgt := 27) C dX6_endOf_14 (by decide) (fun hc14 => ?_) (fun hc14 => ?_)
      · refine r_iload_n C dX6_endOf_27 rfl ?_
        refine r_iconst C dX6_endOf_28 (by decide) ?_
        refine r_iadd C dX6_endOf_29 (by omega) ?_
        refine r_istore C dX6_endOf_30 (by decide) ?_
        refine r_iconst C dX6_endOf_32 (by decide) ?_
        refine r_istore C dX6_endOf_33 (by decide) ?_
        refine r_iload C dX6_endOf_35 rfl ?_
        refine r_iload_n C dX6_endOf_37 rfl ?_
        refine r_icmp_ge (tgt := 63) C dX6_endOf_38 (by decide) (fun hq => ?_) (fun hq => absurd hq (by omega))
        refine r_iload C dX6_endOf_63 rfl ?_
        exact r_iret C dX6_endOf_65 (by decide) (by decide) ⟨some_I (if_neg (by omega)).symm, rfl⟩
      · refine r_iload_n C dX6_endOf_17 rfl ?_
        refine r_bipush C dX6_endOf_18 (by decide) ?_
        refine r_icmp_lt (tgt := 27) C dX6_endOf_20 (by decide) (fun hc20 => ?_) (fun hc20 => ?_)
        · exact absurd hc20 (by omega)
        · refine r_iconst C dX6_endOf_23 (by decide) ?_
          refine r_iload_n C dX6_endOf_24 rfl ?_
          refine r_isub C dX6_endOf_25 (by omega) ?_
          exact r_iret C dX6_endOf_26 (by decide) (by decide) ⟨some_I (if_pos (by omega)).symm, rfl⟩
  | succ d ih =>
    intro p h2 h3 h4
    have hsum : (6 : Int) - ((d + 1 : Nat) : Int) + 1 = 6 - (d : Int) := by omega
    refine Meets.of (plainFor_of_name (by decide)) (Nat.le_of_ble_eq_true rfl) (fun X C hX hN hA => ?_)
    have hnd := nd_rng (sgn n f p)
    have loop : ∀ (r : Nat) (i e : Int), i + r = nd (sgn n f p) → 0 ≤ i → i ≤ 3 → -1 - n ≤ e → e ≤ n → Go X (Qm X (pI (pit (pe n f d) r e) h) 0 0) 0 0 h 35 [some (vR a), some (vI p), some (vI (6 - ((d + 1 : Nat) : Int))), some (vI (nd (sgn n f p))), some (vI e), some (vI i)] [] := by
      intro r
      induction r with
      | zero =>
        intro i e q1 q2 q3 q4 q5
        refine r_iload C dX6_endOf_35 rfl ?_
        refine r_iload_n C dX6_endOf_37 rfl ?_
        refine r_icmp_ge (tgt := 63) C dX6_endOf_38 (by decide) (fun hc38 => ?_) (fun hc38 => ?_)
        · refine r_iload C dX6_endOf_63 rfl ?_
          exact r_iret C dX6_endOf_65 (by decide) (by decide) (⟨rfl, rfl⟩)
        · exact absurd hc38 (by omega)
      | succ r ihr =>
        intro i e q1 q2 q3 q4 q5
        refine r_iload C dX6_endOf_35 rfl ?_
        refine r_iload_n C dX6_endOf_37 rfl ?_
        refine r_icmp_ge (tgt := 63) C dX6_endOf_38 (by decide) (fun hc38 => ?_) (fun hc38 => ?_)
        · exact absurd hc38 (by omega)
        · refine r_iload C dX6_endOf_41 rfl ?_
          refine r_if_lt (tgt := 63) C dX6_endOf_43 (by decide) (fun hc43 => ?_) (fun hc43 => ?_)
          · refine r_iload C dX6_endOf_63 rfl ?_
            exact r_iret C dX6_endOf_65 (by decide) (by decide) (⟨some_I (pit_neg _ _ (by omega)).symm, rfl⟩)
          · refine r_aload_n C dX6_endOf_46 rfl ?_
            refine r_iload C dX6_endOf_47 rfl ?_
            refine r_iload_n C dX6_endOf_49 rfl ?_
            refine r_iconst C dX6_endOf_50 (by decide) ?_
            refine r_iadd C dX6_endOf_51 (by omega) ?_
            rw [hsum]
            refine r_cVi C dX6_endOf_52 mlX6_44 kX6_endOf (ih e (by omega) (by omega) (by omega)) hs rfl rfl rfl (Nat.le_of_ble_eq_true rfl) (fit hX (by omega)) ?_
            have hr := pe_rng n f d e (by omega) (by omega)
            refine r_istore C dX6_endOf_55 (by decide) ?_
            refine r_iinc C dX6_endOf_57 rfl (by decide) (by omega) ?_
            refine r_goto (tgt := 35) C dX6_endOf_60 (by decide) ?_
            have hst : pit (pe n f d) (r + 1) e = pit (pe n f d) r (pe n f d e) := if_neg (by omega)
            rw [hst]
            exact ihr (i + 1) (pe n f d e) (by omega) (by omega) (by omega) (by omega) (by omega)
    refine r_aload_n C dX6_endOf_0 rfl ?_
    refine r_iload_n C dX6_endOf_1 rfl ?_
    refine r_cVi C dX6_endOf_2 mlX6_47 kX6_sign (m_sign ht (p := p)) hs rfl rfl rfl (Nat.le_of_ble_eq_true rfl) (fit hX (by omega)) ?_
    refine r_cSi C dX6_endOf_5 mlX6_51 kX4_needs (m_needs (c := sgn n f p)) rfl rfl (Nat.le_of_ble_eq_true rfl) (fit hX (by omega)) ?_
    refine r_istore_n C dX6_endOf_8 (by decide) ?_
    refine r_iload_n C dX6_endOf_9 rfl ?_
    refine r_if_lt (tgt := 23) C dX6_endOf_10 (by decide) (fun hc10 => ?_) (fun hc10 => ?_)
    · refine r_iconst C dX6_endOf_23 (by decide) ?_
      refine r_iload_n C dX6_endOf_24 rfl ?_
      refine r_isub C dX6_endOf_25 (by omega) ?_
      exact r_iret C dX6_endOf_26 (by decide) (by decide) ⟨some_I (if_pos (by omega)).symm, rfl⟩
    · refine r_iload_n C dX6_endOf_13 rfl ?_
      refine r_if_le (tgt := 27) C dX6_endOf_14 (by decide) (fun hc14 => ?_) (fun hc14 => ?_)
      · have hlt := nd_sgn (n := n) (f := f) (p := p) (by omega)
        refine r_iload_n C dX6_endOf_27 rfl ?_
        refine r_iconst C dX6_endOf_28 (by decide) ?_
        refine r_iadd C dX6_endOf_29 (by omega) ?_
        refine r_istore C dX6_endOf_30 (by decide) ?_
        refine r_iconst C dX6_endOf_32 (by decide) ?_
        refine r_istore C dX6_endOf_33 (by decide) ?_
        have hst : pe n f (d + 1) p = pit (pe n f d) (nd (sgn n f p)).toNat (p + 1) := if_neg (by omega)
        rw [hst]
        exact loop (nd (sgn n f p)).toNat 0 (p + 1) (by omega) (by omega) (by omega) (by omega) (by omega)
      · refine r_iload_n C dX6_endOf_17 rfl ?_
        refine r_bipush C dX6_endOf_18 (by decide) ?_
        refine r_icmp_lt (tgt := 27) C dX6_endOf_20 (by decide) (fun hc20 => ?_) (fun hc20 => ?_)
        · have hlt := nd_sgn (n := n) (f := f) (p := p) (by omega)
          refine r_iload_n C dX6_endOf_27 rfl ?_
          refine r_iconst C dX6_endOf_28 (by decide) ?_
          refine r_iadd C dX6_endOf_29 (by omega) ?_
          refine r_istore C dX6_endOf_30 (by decide) ?_
          refine r_iconst C dX6_endOf_32 (by decide) ?_
          refine r_istore C dX6_endOf_33 (by decide) ?_
          have hst : pe n f (d + 1) p = pit (pe n f d) (nd (sgn n f p)).toNat (p + 1) := if_neg (by omega)
          rw [hst]
          exact loop (nd (sgn n f p)).toNat 0 (p + 1) (by omega) (by omega) (by omega) (by omega) (by omega)
        · exact absurd hc20 (by omega)
theorem m_firstFault {h : Pic} {a : Nat} {n : Int} {f : Int → Int} (ht : TxR h a n f) : Meets yX6_firstFault cX6_firstFault 2 (some .int) 8 0 0 [vR a] h (pI (flt n f) h) := by
  obtain ⟨b, t, t', m, g, hs, ha, h0, h1, h40, hg⟩ := id ht
  refine Meets.of (plainFor_of_name (by decide)) (Nat.le_of_ble_eq_true rfl) (fun X C hX hN hA => ?_)
  have hr := pe_rng n f 6 0 (by omega) (by omega)
  refine r_aload_n C dX6_firstFault_0 rfl ?_
  refine r_iconst C dX6_firstFault_1 (by decide) ?_
  refine r_iconst C dX6_firstFault_2 (by decide) ?_
  refine r_cVi C dX6_firstFault_3 mlX6_44 kX6_endOf (m_endOf ht 6 0 (by decide) (by omega) (by omega)) hs rfl rfl rfl (Nat.le_of_ble_eq_true rfl) (fit hX (by decide)) ?_
  refine r_istore_n C dX6_firstFault_6 (by decide) ?_
  refine r_iload_n C dX6_firstFault_7 rfl ?_
  refine r_if_ge (tgt := 15) C dX6_firstFault_8 (by decide) (fun hc8 => ?_) (fun hc8 => ?_)
  · refine r_iload_n C dX6_firstFault_15 rfl ?_
    refine r_aload_n C dX6_firstFault_16 rfl ?_
    refine r_get C dX6_firstFault_17 flX6_21 hs rfl ?_
    refine r_icmp_ge (tgt := 27) C dX6_firstFault_20 (by decide) (fun hc20 => ?_) (fun hc20 => ?_)
    · refine r_bipush C dX6_firstFault_27 (by decide) ?_
      exact r_iret C dX6_firstFault_29 (by decide) (by decide) (⟨some_I (by unfold flt; (repeat' split) <;> omega), rfl⟩)
    · refine r_iload_n C dX6_firstFault_23 rfl ?_
      refine r_goto (tgt := 29) C dX6_firstFault_24 (by decide) ?_
      exact r_iret C dX6_firstFault_29 (by decide) (by decide) (⟨some_I (by unfold flt; (repeat' split) <;> omega), rfl⟩)
  · refine r_iconst C dX6_firstFault_11 (by decide) ?_
    refine r_iload_n C dX6_firstFault_12 rfl ?_
    refine r_isub C dX6_firstFault_13 (by omega) ?_
    exact r_iret C dX6_firstFault_14 (by decide) (by decide) (⟨some_I (by unfold flt; (repeat' split) <;> omega), rfl⟩)
theorem m_behind {h : Pic} {a : Nat} {n : Int} {f : Int → Int} (ht : TxR h a n f) {d : Nat} {p e : Int} (hp : 0 ≤ p) (hpn : p ≤ n) (he : pe n f d p = e) (h1 : 0 ≤ e) : Meets yX6_behind cX6_behind 4 (some .int) 1 0 0 [vR a, vI p] h (pI e h) := by
  have hbe := bhN_end (j := (n - p).toNat + 1) hp he h1 (by omega)
  obtain ⟨b, t, t', m, g, hs, ha, h0, h2, h40, hg⟩ := id ht
  refine Meets.of (plainFor_of_name (by decide)) (Nat.le_of_ble_eq_true rfl) (fun X C hX hN hA => ?_)
  have loop : ∀ (j : Nat) (q mm : Int), 0 ≤ q → q ≤ n → n - q < j → -200 + q ≤ mm → mm ≤ 200 + 3 * q → Go X (Qm X (pI (bhN n f j mm q) h) 0 0) 0 0 h 8 [some (vR a), some (vI p), some (vI mm), some (vI q)] [] := by
    intro j
    induction j with
    | zero => intro q mm h3 h4 h5; exact absurd h5 (by omega)
    | succ j ih =>
      intro q mm h3 h4 h5 h6 h7
      refine r_iload_n C dX6_behind_8 rfl ?_
      refine r_aload_n C dX6_behind_9 rfl ?_
      refine r_get C dX6_behind_10 flX6_21 hs rfl ?_
      refine r_icmp_ge (tgt := 44) C dX6_behind_13 (by decide) (fun hc13 => ?_) (fun hc13 => ?_)
      · refine r_aload_n C dX6_behind_44 rfl ?_
        refine r_get C dX6_behind_45 flX6_21 hs rfl ?_
        exact r_iret C dX6_behind_48 (by decide) (by decide) (⟨some_I (show n = (if n ≤ q then n else _) from (if_pos (by omega)).symm), rfl⟩)
      · refine r_iload_n C dX6_behind_16 rfl ?_
        refine r_aload_n C dX6_behind_17 rfl ?_
        refine r_get C dX6_behind_18 flX6_15 hs rfl ?_
        refine r_iload_n C dX6_behind_21 rfl ?_
        refine r_cald C dX6_behind_22 ha (by omega) (by omega) ?_
        have hgi := (hg q (by omega) (by omega)).1
        rw [hgi]
        have hnd := nd_rng (f q)
        refine r_cSi C dX6_behind_23 mlX6_51 kX4_needs (m_needs (c := f q)) rfl rfl (Nat.le_of_ble_eq_true rfl) (fit hX (by decide)) ?_
        refine r_iconst C dX6_behind_26 (by decide) ?_
        refine r_isub C dX6_behind_27 (by omega) ?_
        refine r_iadd C dX6_behind_28 (by omega) ?_
        refine r_istore_n C dX6_behind_29 (by decide) ?_
        refine r_iload_n C dX6_behind_30 rfl ?_
        refine r_if_gt (tgt := 38) C dX6_behind_31 (by decide) (fun hc31 => ?_) (fun hc31 => ?_)
        · have hst : bhN n f (j + 1) mm q = bhN n f j (mm + (nd (f q) - 1)) (q + 1) := (by show (if n ≤ q then n else if mm + nd (f q) - 1 ≤ 0 then q + 1 else bhN n f j (mm + nd (f q) - 1) (q + 1)) = _; rw [if_neg (by omega), if_neg (by omega), show mm + nd (f q) - 1 = mm + (nd (f q) - 1) by omega])
          rw [hst]
          refine r_iinc C dX6_behind_38 rfl (by decide) (by omega) ?_
          refine r_goto (tgt := 8) C dX6_behind_41 (by decide) ?_
          exact ih (q + 1) (mm + (nd (f q) - 1)) (by omega) (by omega) (by omega) (by omega) (by omega)
        · refine r_iload_n C dX6_behind_34 rfl ?_
          refine r_iconst C dX6_behind_35 (by decide) ?_
          refine r_iadd C dX6_behind_36 (by omega) ?_
          exact r_iret C dX6_behind_37 (by decide) (by decide) (⟨some_I (show q + 1 = (if n ≤ q then n else if mm + nd (f q) - 1 ≤ 0 then q + 1 else _) by rw [if_neg (by omega), if_pos (by omega)]), rfl⟩)
  refine r_iconst C dX6_behind_0 (by decide) ?_
  refine r_istore_n C dX6_behind_1 (by decide) ?_
  refine r_iconst C dX6_behind_2 (by decide) ?_
  refine r_iload_n C dX6_behind_3 rfl ?_
  refine r_cSi C dX6_behind_4 mlX6_9 kJ9_max_7cf53 (m_max (x := 0) (y := p)) rfl rfl (Nat.le_of_ble_eq_true rfl) (fit hX (by decide)) ?_
  rw [show (if (0 : Int) < p then p else 0) = p by split <;> omega]
  refine r_istore_n C dX6_behind_7 (by decide) ?_
  rw [← hbe]
  exact loop ((n - p).toNat + 1) p 1 (by omega) (by omega) (by omega) (by omega) (by omega)
theorem m_isLike {h : Pic} {a o : Nat} {n n2 : Int} {f f2 : Int → Int} (ht : TxR h a n f) (ho : TxR h o n2 f2) : Meets yX6_isLike cX6_isLike 3 (some .boolean) 0 0 0 [vR a, vR o] h (pI (zb (n = n2 ∧ ∀ i, 0 ≤ i → i < n → f i = f2 i)) h) := by
  obtain ⟨b, t, t', m, g, hs, ha, h0, h1, h40, hg⟩ := ht
  obtain ⟨b2, t2, t2', m2, g2, hs2, ha2, h02, h12, h42, hg2⟩ := ho
  refine Meets.of (plainFor_of_name (by decide)) (Nat.le_of_ble_eq_true rfl) (fun X C hX hN hA => ?_)
  have loop : n = n2 → ∀ (j : Nat) (i : Int), 0 ≤ i → i ≤ n → n - i < j → (∀ q, 0 ≤ q → q < i → f q = f2 q) → Go X (Qm X (pI (zb (n = n2 ∧ ∀ i, 0 ≤ i → i < n → f i = f2 i)) h) 0 0) 0 0 h 15 [some (vR a), some (vR o), some (vI i)] [] := by
    intro hnn j
    induction j with
    | zero => intro i h3 h4 h5; exact absurd h5 (by omega)
    | succ j ih =>
      intro i h3 h4 h5 h6
      refine r_iload_n C dX6_isLike_15 rfl ?_
      refine r_aload_n C dX6_isLike_16 rfl ?_
      refine r_get C dX6_isLike_17 flX6_21 hs rfl ?_
      refine r_icmp_ge (tgt := 46) C dX6_isLike_20 (by decide) (fun hc20 => ?_) (fun hc20 => ?_)
      · refine r_iconst C dX6_isLike_46 (by decide) ?_
        exact r_zret C dX6_isLike_47 (by omega) (by decide) (by decide) (⟨some_I (zb_t ⟨hnn, fun q q1 q2 => h6 q q1 (by omega)⟩).symm, rfl⟩)
      · refine r_aload_n C dX6_isLike_23 rfl ?_
        refine r_get C dX6_isLike_24 flX6_15 hs rfl ?_
        refine r_iload_n C dX6_isLike_27 rfl ?_
        refine r_cald C dX6_isLike_28 ha (by omega) (by omega) ?_
        refine r_aload_n C dX6_isLike_29 rfl ?_
        refine r_get C dX6_isLike_30 flX6_15 hs2 rfl ?_
        refine r_iload_n C dX6_isLike_33 rfl ?_
        refine r_cald C dX6_isLike_34 ha2 (by omega) (by omega) ?_
        have e1 := (hg i (by omega) (by omega)).1
        have e2 := (hg2 i (by omega) (by omega)).1
        refine r_icmp_eq (tgt := 40) C dX6_isLike_35 (by decide) (fun hc35 => ?_) (fun hc35 => ?_)
        · refine r_iinc C dX6_isLike_40 rfl (by decide) (by omega) ?_
          refine r_goto (tgt := 15) C dX6_isLike_43 (by decide) ?_
          exact ih (i + 1) (by omega) (by omega) (by omega) (fun q q1 q2 => by rcases (show q < i ∨ q = i by omega) with q3 | rfl; exact h6 q q1 q3; omega)
        · refine r_iconst C dX6_isLike_38 (by decide) ?_
          exact r_zret C dX6_isLike_39 (by omega) (by decide) (by decide) (⟨some_I (zb_f (fun ⟨_, q⟩ => hc35 (by rw [e1, e2]; exact q i (by omega) (by omega)))).symm, rfl⟩)
  refine r_aload_n C dX6_isLike_0 rfl ?_
  refine r_get C dX6_isLike_1 flX6_21 hs rfl ?_
  refine r_aload_n C dX6_isLike_4 rfl ?_
  refine r_get C dX6_isLike_5 flX6_21 hs2 rfl ?_
  refine r_icmp_eq (tgt := 13) C dX6_isLike_8 (by decide) (fun hc8 => ?_) (fun hc8 => ?_)
  · refine r_iconst C dX6_isLike_13 (by decide) ?_
    refine r_istore_n C dX6_isLike_14 (by decide) ?_
    exact loop hc8 (n.toNat + 1) 0 (by omega) (by omega) (by omega) (fun q q1 q2 => by omega)
  · refine r_iconst C dX6_isLike_11 (by decide) ?_
    exact r_zret C dX6_isLike_12 (by omega) (by decide) (by decide) (⟨some_I (zb_f (fun q => hc8 q.1)).symm, rfl⟩)
/-- a text becomes as another one is -/
theorem m_become {h : Pic} {a b t t' o bo to to' : Nat} {n0 m n mo : Int} {g0 go f : Int → Int} (hs : h a = some (ob t 6 [vR b, vI n0])) (ha : h b = some (ia t' 1 m g0)) (hs2 : h o = some (ob to 6 [vR bo, vI n])) (ha2 : h bo = some (ia to' 1 mo go)) (ht1 : to ≠ t) (ht2 : to' ≠ t') (h0 : 0 ≤ n) (h1 : n ≤ m) (h2 : m ≤ 40) (h3 : n ≤ mo) (hg : ∀ i, 0 ≤ i → i < n → go i = f i ∧ 0 ≤ f i ∧ f i ≤ 126) :
    Meets yX6_become cX6_become 3 none 1 0 0 [vR a, vR o] h (pV (fun h' => ∃ g, h' a = some (ob t 6 [vR b, vI n]) ∧ h' b = some (ia t' 1 m g) ∧ Off [a, b] h h' ∧ (∀ i, 0 ≤ i → i < n → g i = f i) ∧ ∀ i, n ≤ i → g i = g0 i)) := by
  have hab := ne_of hs ha (fun q => by cases q)
  have hoa : o ≠ a := ne_of hs2 hs (fun q => ht1 (by cases q; rfl))
  have hob : o ≠ b := ne_of hs2 ha (fun q => by cases q)
  have hboa : bo ≠ a := ne_of ha2 hs (fun q => by cases q)
  have hbob : bo ≠ b := ne_of ha2 ha (fun q => ht2 (by cases q; rfl))
  refine Meets.of (plainFor_of_name (by decide)) (Nat.le_of_ble_eq_true rfl) (fun X C hX hN hA => ?_)
  have loop : ∀ (j : Nat) (i : Int) (h' : Pic) (g : Int → Int), 0 ≤ i → i ≤ n → n - i < j → h' a = some (ob t 6 [vR b, vI i]) → h' b = some (ia t' 1 m g) → Off [a, b] h h' → (∀ q, 0 ≤ q → q < i → g q = f q) → (∀ q, i ≤ q → g q = g0 q) → Go X (Qm X (pV (fun h' => ∃ g, h' a = some (ob t 6 [vR b, vI n]) ∧ h' b = some (ia t' 1 m g) ∧ Off [a, b] h h' ∧ (∀ i, 0 ≤ i → i < n → g i = f i) ∧ ∀ i, n ≤ i → g i = g0 i)) 0 0) 0 0 h' 6 [some (vR a), some (vR o), some (vI i)] [] := by
    intro j
    induction j with
    | zero => intro i h' g h3 h4 h5; exact absurd h5 (by omega)
    | succ j ih =>
      intro i h' g q1 q2 q3 q4 q5 q6 q7 q8
      have e1 : h' o = some (ob to 6 [vR bo, vI n]) := (q6 o (by simp [hoa, hob])).trans hs2
      have e2 : h' bo = some (ia to' 1 mo go) := (q6 bo (by simp [hboa, hbob])).trans ha2
      refine r_iload_n C dX6_become_6 rfl ?_
      refine r_aload_n C dX6_become_7 rfl ?_
      refine r_get C dX6_become_8 flX6_21 e1 rfl ?_
      refine r_icmp_ge (tgt := 30) C dX6_become_11 (by decide) (fun hc11 => ?_) (fun hc11 => ?_)
      · exact r_vret C dX6_become_30 (by decide) (by decide) ⟨rfl, g, by rw [q4, show i = n by omega], q5, q6, fun q r1 r2 => q7 q r1 (by omega), fun q r1 => q8 q (by omega)⟩
      · refine r_aload_n C dX6_become_14 rfl ?_
        refine r_aload_n C dX6_become_15 rfl ?_
        refine r_get C dX6_become_16 flX6_15 e1 rfl ?_
        refine r_iload_n C dX6_become_19 rfl ?_
        refine r_cald C dX6_become_20 e2 (by omega) (by omega) ?_
        have hgi := hg i (by omega) (by omega)
        rw [hgi.1]
        refine r_cVv C dX6_become_21 mlX6_28 kX6_add (m_add q4 q5 (by omega) (by omega) (by omega) (by omega)) q4 rfl rfl rfl (Nat.le_of_ble_eq_true rfl) (fit hX (by decide)) ?_
        rintro h'' rfl
        refine r_iinc C dX6_become_24 rfl (by decide) (by omega) ?_
        refine r_goto (tgt := 6) C dX6_become_27 (by decide) ?_
        refine ih (i + 1) _ (fu g i (f i)) (by omega) (by omega) (by omega) pu_s ((pu_n hab.symm).trans pu_s) ((q6.put (by simp)).put (by simp)) (fun q r1 r2 => ?_) (fun q r1 => ?_)
        · by_cases hq : q = i
          · rw [hq, fu_s]
          · rw [fu_n hq]; exact q7 q r1 (by omega)
        · rw [fu_n (by omega)]; exact q8 q (by omega)
  refine r_aload_n C dX6_become_0 rfl ?_
  refine r_cVv C dX6_become_1 mlX6_25 kX6_clear (m_clear hs) hs rfl rfl rfl (Nat.le_of_ble_eq_true rfl) (fit hX (by decide)) ?_
  rintro h'' rfl
  refine r_iconst C dX6_become_4 (by decide) ?_
  refine r_istore_n C dX6_become_5 (by decide) ?_
  exact loop (n.toNat + 1) 0 _ g0 (by omega) (by omega) (by omega) pu_s ((pu_n hab.symm).trans ha) (Off.rf.put (by simp)) (fun q r1 r2 => by omega) (fun q r1 => rfl)
end
section
/-! Text, third part: new ones -/
abbrev vN : Va := Sum.inr none
theorem Rg0 : Rg 0 := by omega
theorem R1 {v : Va} (hv : Rv v) : ∀ w ∈ [v], Rv w := Rc hv (fun _ q => by cases q)
theorem m_Tinit {h : Pic} {a t : Nat} {m : Int} (t' : Nat) (hs : h a = some (ob t 6 [vN, vI 0])) (h0 : 0 ≤ m) (h1 : m ≤ 40) : Meets yX6_init cX6_init 2 none 1 1 m.toNat [vR a, vI m] h (pV (fun h' => ∃ b, h b = none ∧ h' a = some (ob t 6 [vR b, vI 0]) ∧ h' b = some (ia t' 1 m (fun _ => 0)) ∧ Off [a, b] h h')) := by
  refine Meets.of (plainFor_of_name (by decide)) (Nat.le_of_ble_eq_true rfl) (fun X C hX hN hA => ?_)
  refine r_aload_n C dX6_init_0 rfl ?_
  refine r_obj C dX6_init_1 mlX6_3 (by rw [hX]; exact Nat.le_of_ble_eq_true rfl) (by rw [hX]; exact Nat.le_of_ble_eq_true rfl) ?_
  refine r_aload_n C dX6_init_4 rfl ?_
  refine r_iconst C dX6_init_5 (by decide) ?_
  refine r_iload_n C dX6_init_6 rfl ?_
  refine r_cSi C dX6_init_7 mlX6_9 kJ9_max_7cf53 (m_max (x := 0) (y := m)) rfl rfl (Nat.le_of_ble_eq_true rfl) (fit hX (by omega)) ?_
  rw [show (if (0 : Int) < m then m else 0) = m by split <;> omega]
  refine r_newa (kA := 1) C t' dX6_init_10 rfl ac_char rfl (by omega) (by omega) (by rw [hX]; exact Nat.le_of_ble_eq_true rfl) (by rw [hX]; show 0 + m.toNat ≤ m.toNat; omega) (fun b hb => ?_)
  have hab : a ≠ b := fun q => by rw [q, hb] at hs; cases hs
  have hs2 : pu h b (ia t' 1 m (fun _ => 0)) a = some (ob t 6 [vN, vI 0]) := (pu_n hab).trans hs
  refine r_putF C hN dX6_init_12 flX6_15 rfl hs2 rfl rfl ?_
  refine r_aload_n C dX6_init_15 rfl ?_
  refine r_iconst C dX6_init_16 (by decide) ?_
  refine r_put C dX6_init_17 flX6_21 pu_s rfl rfl ?_
  refine r_vret C dX6_init_20 (by decide) (by omega) ⟨rfl, b, hb, pu_s, ?_, ((Off.rf.put (by simp)).put (by simp)).put (by simp)⟩
  rw [pu_n hab.symm, pu_n hab.symm, pu_s]
theorem m_copy {h : Pic} {a b t t' : Nat} {n m : Int} {g f : Int → Int} (hs : h a = some (ob t 6 [vR b, vI n])) (ha : h b = some (ia t' 1 m g)) (ht1 : t ≠ 5) (ht2 : t' ≠ 6) (h0 : 0 ≤ n) (h1 : n ≤ m) (h2 : n ≤ 40) (hg : ∀ i, 0 ≤ i → i < n → g i = f i ∧ 0 ≤ f i ∧ f i ≤ 126) :
    Meets yX6_copy cX6_copy 2 (some (.object "BookShows$Text")) 2 2 (2 + n.toNat) [vR a] h (pY (fun q h' => ∃ qb g', h q = none ∧ h qb = none ∧ q ≠ qb ∧ h' q = some (ob 5 6 [vR qb, vI n]) ∧ h' qb = some (ia 6 1 n g') ∧ Off [q, qb] h h' ∧ ∀ i, 0 ≤ i → i < n → g' i = f i)) := by
  refine Meets.of (plainFor_of_name (by decide)) (Nat.le_of_ble_eq_true rfl) (fun X C hX hN hA => ?_)
  refine r_new (ci := 6) (fs := [vN, vI 0]) C 5 dX6_copy_0 clX6_16 inX6 itX6 iX6 tyX6 tyX6_ok rfl rfl (fun j hj => by rcases (show j = 0 ∨ j = 1 by omega) with rfl | rfl <;> rfl) (Rc trivial (R1 Rg0)) (by rw [hX]; exact Nat.le_of_ble_eq_true rfl) (by rw [hX]; show 0 + 2 ≤ 2 + n.toNat; omega) (fun q hq => ?_)
  have haq : a ≠ q := fun e => by rw [e, hq] at hs; cases hs
  have hbq : b ≠ q := fun e => by rw [e, hq] at ha; cases ha
  have hs1 : pu h q (5, .inl (6, [vN, vI 0])) a = some (ob t 6 [vR b, vI n]) := (pu_n haq).trans hs
  have ha1 : pu h q (5, .inl (6, [vN, vI 0])) b = some (ia t' 1 m g) := (pu_n hbq).trans ha
  refine r_dup C dX6_copy_3 ?_
  refine r_aload_n C dX6_copy_4 rfl ?_
  refine r_get C dX6_copy_5 flX6_21 hs1 rfl ?_
  refine r_cI C dX6_copy_8 mlX6_32 kX6_init (m_Tinit 6 pu_s h0 h2) rfl rfl (Nat.le_of_ble_eq_true rfl) (fit hX (by omega)) ?_
  rintro h2' ⟨qb, hqb, e1, e2, e3⟩
  have hqqb : q ≠ qb := fun e => by rw [← e, pu_s] at hqb; cases hqb
  have hqb2 : h qb = none := (pu_n (fun e => hqqb e.symm)).symm.trans hqb
  have haqb : a ≠ qb := fun e => by rw [e, hqb2] at hs; cases hs
  have hbqb : b ≠ qb := fun e => by rw [e, hqb2] at ha; cases ha
  have hs3 : h2' a = some (ob t 6 [vR b, vI n]) := (e3 a (by simp [haq, haqb])).trans hs1
  have ha3 : h2' b = some (ia t' 1 m g) := (e3 b (by simp [hbq, hbqb])).trans ha1
  refine r_astore_n C dX6_copy_11 (by decide) ?_
  refine r_aload_n C dX6_copy_12 rfl ?_
  refine r_aload_n C dX6_copy_13 rfl ?_
  refine r_cVv C dX6_copy_14 mlX6_34 kX6_become (m_become e1 e2 hs3 ha3 ht1 ht2 h0 (Int.le_refl n) h2 h1 hg) e1 rfl rfl rfl (Nat.le_of_ble_eq_true rfl) (fit hX (by omega)) ?_
  rintro h3' ⟨g', f1, f2, f3, f4, f5⟩
  refine r_aload_n C dX6_copy_17 rfl ?_
  refine r_aret C dX6_copy_18 (by decide) (by omega) ⟨q, rfl, qb, g', hq, hqb2, hqqb, f1, f2, fun z hz => ?_, f4⟩
  rw [f3 z hz, e3 z hz, pu_n (fun e => hz (by simp [e]))]
end
section
/-! Needs: sets of which one each is needed -/
theorem zb_n0 {p : Prop} : ¬ zb p = 0 ↔ p := by
  rw [zb_0, Classical.not_not]
def NeR (h : Pic) (a b : Nat) (c : Int) (f : Int → Int) : Prop := h a = some (ob 40 1 [vR b, vI c]) ∧ h b = some (ia 41 0 320 f) ∧ 0 ≤ c ∧ c ≤ 320
theorem m_Nclear {h : Pic} {a b : Nat} {c : Int} {f : Int → Int} (hn : NeR h a b c f) : Meets yX1_clear cX1_clear 1 none 0 0 0 [vR a] h (pV (fun h' => NeR h' a b 0 f ∧ Off [a, b] h h')) := by
  obtain ⟨hs, ha, h0, h1⟩ := hn
  have hab := ne_of hs ha (fun q => by cases q)
  refine Meets.of (plainFor_of_name (by decide)) (Nat.le_of_ble_eq_true rfl) (fun X C hX hN hA => ?_)
  refine r_aload_n C dX1_clear_0 rfl ?_
  refine r_iconst C dX1_clear_1 (by decide) ?_
  refine r_put C dX1_clear_2 flX1_15 hs rfl rfl ?_
  exact r_vret C dX1_clear_5 (by decide) (by decide) ⟨rfl, ⟨pu_s, (pu_n hab.symm).trans ha, by omega, by omega⟩, Off.rf.put (by simp)⟩
/-- one of the first c sets lies within the set -/
def hasIn (c : Int) (f : Int → Int) (s : Int) : Prop := ∃ i, 0 ≤ i ∧ i < c ∧ bAnd (f i) (bXor s (-1)) = 0
theorem m_Nadd {h : Pic} {a b : Nat} {c s : Int} {f : Int → Int} (hn : NeR h a b c f) (hc : c < 320) : Meets yX1_add cX1_add 3 none 0 0 0 [vR a, vI s] h (pV (fun h' => ∃ c' f', NeR h' a b c' f' ∧ Off [a, b] h h' ∧ ((s = 0 ∨ hasIn c f s) → c' = c ∧ f' = f) ∧ (¬ s = 0 → ¬ hasIn c f s → c' = c + 1 ∧ f' = fu f c s))) := by
  obtain ⟨hs, ha, h0, h1⟩ := id hn
  have hab := ne_of hs ha (fun q => by cases q)
  have hs2 : pu h b (ia 41 0 320 (fu f c s)) a = some (ob 40 1 [vR b, vI c]) := (pu_n hab).trans hs
  refine Meets.of (plainFor_of_name (by decide)) (Nat.le_of_ble_eq_true rfl) (fun X C hX hN hA => ?_)
  have loop : ¬ s = 0 → ∀ (j : Nat) (i : Int), 0 ≤ i → i ≤ c → c - i < j → (∀ q, 0 ≤ q → q < i → ¬ bAnd (f q) (bXor s (-1)) = 0) → Go X (Qm X (pV (fun h' => ∃ c' f', NeR h' a b c' f' ∧ Off [a, b] h h' ∧ ((s = 0 ∨ hasIn c f s) → c' = c ∧ f' = f) ∧ (¬ s = 0 → ¬ hasIn c f s → c' = c + 1 ∧ f' = fu f c s))) 0 0) 0 0 h 7 [some (vR a), some (vI s), some (vI i)] [] := by
    intro hz j
    induction j with
    | zero => intro i h3 h4 h5; exact absurd h5 (by omega)
    | succ j ih =>
      intro i h3 h4 h5 h6
      refine r_iload_n C dX1_add_7 rfl ?_
      refine r_aload_n C dX1_add_8 rfl ?_
      refine r_get C dX1_add_9 flX1_15 hs rfl ?_
      refine r_icmp_ge (tgt := 35) C dX1_add_12 (by decide) (fun hc12 => ?_) (fun hc12 => ?_)
      · refine r_aload_n C dX1_add_35 rfl ?_
        refine r_get C dX1_add_36 flX1_15 hs rfl ?_
        refine r_aload_n C dX1_add_39 rfl ?_
        refine r_get C dX1_add_40 flX1_9 hs rfl ?_
        refine r_alen C dX1_add_43 ha ?_
        refine r_icmp_ge (tgt := 67) C dX1_add_44 (by decide) (fun hc44 => ?_) (fun hc44 => ?_)
        · exact absurd hc44 (by omega)
        · refine r_aload_n C dX1_add_47 rfl ?_
          refine r_get C dX1_add_48 flX1_9 hs rfl ?_
          refine r_aload_n C dX1_add_51 rfl ?_
          refine r_get C dX1_add_52 flX1_15 hs rfl ?_
          refine r_iload_n C dX1_add_55 rfl ?_
          refine r_iast C dX1_add_56 ha (by omega) (by omega) ?_
          refine r_aload_n C dX1_add_57 rfl ?_
          refine r_dup C dX1_add_58 ?_
          refine r_get C dX1_add_59 flX1_15 hs2 rfl ?_
          refine r_iconst C dX1_add_62 (by decide) ?_
          refine r_iadd C dX1_add_63 (by omega) ?_
          refine r_put C dX1_add_64 flX1_15 hs2 rfl rfl ?_
          refine r_vret C dX1_add_67 (by decide) (by decide) ⟨rfl, c + 1, fu f c s, ⟨pu_s, (pu_n hab.symm).trans pu_s, by omega, by omega⟩, (Off.rf.put (by simp)).put (by simp), fun q => ?_, fun _ _ => ⟨rfl, rfl⟩⟩
          rcases q with q | ⟨i2, q1, q2, q3⟩
          · exact absurd q hz
          · exact absurd q3 (h6 i2 q1 (by omega))
      · refine r_aload_n C dX1_add_15 rfl ?_
        refine r_get C dX1_add_16 flX1_9 hs rfl ?_
        refine r_iload_n C dX1_add_19 rfl ?_
        refine r_iald C dX1_add_20 ha (by omega) (by omega) ?_
        refine r_iload_n C dX1_add_21 rfl ?_
        refine r_iconst C dX1_add_22 (by decide) ?_
        refine r_ixor C dX1_add_23 ?_
        refine r_iand C dX1_add_24 ?_
        refine r_if_ne (tgt := 29) C dX1_add_25 (by decide) (fun hc25 => ?_) (fun hc25 => ?_)
        · refine r_iinc C dX1_add_29 rfl (by decide) (by omega) ?_
          refine r_goto (tgt := 7) C dX1_add_32 (by decide) ?_
          exact ih (i + 1) (by omega) (by omega) (by omega) (fun q q1 q2 => by rcases (show q < i ∨ q = i by omega) with q3 | rfl; exact h6 q q1 q3; exact hc25)
        · exact r_vret C dX1_add_28 (by decide) (by decide) ⟨rfl, c, f, hn, Off.rf, fun _ => ⟨rfl, rfl⟩, fun _ q => absurd ⟨i, by omega, by omega, hc25⟩ q⟩
  refine r_iload_n C dX1_add_0 rfl ?_
  refine r_if_ne (tgt := 5) C dX1_add_1 (by decide) (fun hc1 => ?_) (fun hc1 => ?_)
  · refine r_iconst C dX1_add_5 (by decide) ?_
    refine r_istore_n C dX1_add_6 (by decide) ?_
    exact loop hc1 (c.toNat + 1) 0 (by omega) (by omega) (by omega) (fun q q1 q2 => by omega)
  · exact r_vret C dX1_add_4 (by decide) (by decide) ⟨rfl, c, f, hn, Off.rf, fun _ => ⟨rfl, rfl⟩, fun q => absurd hc1 q⟩
/-- a set meets each of the first c sets -/
def meetsAll (c : Int) (f : Int → Int) (s : Int) : Prop := ∀ i, 0 ≤ i → i < c → ¬ bAnd (f i) s = 0
theorem m_isEnough {h : Pic} {a b : Nat} {c s : Int} {f : Int → Int} (hn : NeR h a b c f) : Meets yX1_isEnough cX1_isEnough 3 (some .boolean) 0 0 0 [vR a, vI s] h (pI (zb (meetsAll c f s)) h) := by
  obtain ⟨hs, ha, h0, h1⟩ := id hn
  refine Meets.of (plainFor_of_name (by decide)) (Nat.le_of_ble_eq_true rfl) (fun X C hX hN hA => ?_)
  have loop : ∀ (j : Nat) (i : Int), 0 ≤ i → i ≤ c → c - i < j → (∀ q, 0 ≤ q → q < i → ¬ bAnd (f q) s = 0) → Go X (Qm X (pI (zb (meetsAll c f s)) h) 0 0) 0 0 h 2 [some (vR a), some (vI s), some (vI i)] [] := by
    intro j
    induction j with
    | zero => intro i h3 h4 h5; exact absurd h5 (by omega)
    | succ j ih =>
      intro i h3 h4 h5 h6
      refine r_iload_n C dX1_isEnough_2 rfl ?_
      refine r_aload_n C dX1_isEnough_3 rfl ?_
      refine r_get C dX1_isEnough_4 flX1_15 hs rfl ?_
      refine r_icmp_ge (tgt := 29) C dX1_isEnough_7 (by decide) (fun hc7 => ?_) (fun hc7 => ?_)
      · refine r_iconst C dX1_isEnough_29 (by decide) ?_
        exact r_zret C dX1_isEnough_30 (by omega) (by decide) (by decide) (⟨some_I (zb_t (fun q q1 q2 => h6 q q1 (by omega))).symm, rfl⟩)
      · refine r_aload_n C dX1_isEnough_10 rfl ?_
        refine r_get C dX1_isEnough_11 flX1_9 hs rfl ?_
        refine r_iload_n C dX1_isEnough_14 rfl ?_
        refine r_iald C dX1_isEnough_15 ha (by omega) (by omega) ?_
        refine r_iload_n C dX1_isEnough_16 rfl ?_
        refine r_iand C dX1_isEnough_17 ?_
        refine r_if_ne (tgt := 23) C dX1_isEnough_18 (by decide) (fun hc18 => ?_) (fun hc18 => ?_)
        · refine r_iinc C dX1_isEnough_23 rfl (by decide) (by omega) ?_
          refine r_goto (tgt := 2) C dX1_isEnough_26 (by decide) ?_
          exact ih (i + 1) (by omega) (by omega) (by omega) (fun q q1 q2 => by rcases (show q < i ∨ q = i by omega) with q3 | rfl; exact h6 q q1 q3; exact hc18)
        · refine r_iconst C dX1_isEnough_21 (by decide) ?_
          exact r_zret C dX1_isEnough_22 (by omega) (by decide) (by decide) (⟨some_I (zb_f (fun q => q i (by omega) (by omega) hc18)).symm, rfl⟩)
  refine r_iconst C dX1_isEnough_0 (by decide) ?_
  refine r_istore_n C dX1_isEnough_1 (by decide) ?_
  exact loop (c.toNat + 1) 0 (by omega) (by omega) (by omega) (fun q q1 q2 => by omega)
/-- the fewest, of several the least: over the sets 0 to j - 1, with all of them as what is left -/
noncomputable def fwN (P : Int → Prop) (pg : Nat) : Nat → Int × Int
  | 0 => (2 ^ pg - 1, pg)
  | j + 1 => by classical exact if cnt j < (fwN P pg j).2 ∧ P j then ((j : Int), cnt j) else fwN P pg j
noncomputable def fw (P : Int → Prop) (pg : Nat) : Int := (fwN P pg (2 ^ pg)).1
theorem fwN_t {P : Int → Prop} {pg j : Nat} (h : cnt j < (fwN P pg j).2 ∧ P j) : fwN P pg (j + 1) = ((j : Int), cnt j) := by
  unfold fwN
  exact if_pos h
theorem fwN_f {P : Int → Prop} {pg j : Nat} (h : ¬ (cnt j < (fwN P pg j).2 ∧ P j)) : fwN P pg (j + 1) = fwN P pg j := by
  conv => lhs; unfold fwN
  exact if_neg h
theorem shl_all : (List.range 13).all (fun j => decide (bShl 1 (j : Int) = 2 ^ j)) = true := by decide +kernel
theorem shl_pow {j : Nat} (h : j ≤ 12) : bShl 1 (j : Int) = 2 ^ j := of_decide_eq_true (List.all_eq_true.mp shl_all j (List.mem_range.mpr (by omega)))
theorem pow_le {j : Nat} (h : j ≤ 12) : (1 : Int) ≤ 2 ^ j ∧ (2 : Int) ^ j ≤ 4096 := by
  have h1 : (2 : Nat) ^ j ≤ 2 ^ 12 := Nat.pow_le_pow_right (by omega) h
  have h2 : 0 < (2 : Nat) ^ j := Nat.pow_pos (by omega)
  have e : (2 : Int) ^ j = ((2 ^ j : Nat) : Int) := by simp
  rw [e]
  omega
theorem m_Nfewest {h : Pic} {a b pg : Nat} {c : Int} {f : Int → Int} (hn : NeR h a b c f) (hpg : pg ≤ 12) : Meets yX1_fewest cX1_fewest 6 (some .int) 1 0 0 [vR a, vI pg] h (pI (fw (meetsAll c f) pg) h) := by
  obtain ⟨hs, ha, h0, h1⟩ := id hn
  have hp := pow_le hpg
  have hp2 : ((2 ^ pg : Nat) : Int) = 2 ^ pg := by simp
  refine Meets.of (plainFor_of_name (by decide)) (Nat.le_of_ble_eq_true rfl) (fun X C hX hN hA => ?_)
  have loop : ∀ (j : Nat) (i : Nat) (o : Option Va), i ≤ 2 ^ pg → 2 ^ pg - i < j → Go X (Qm X (pI (fw (meetsAll c f) pg) h) 0 0) 0 0 h 11 [some (vR a), some (vI pg), some (vI (fwN (meetsAll c f) pg i).1), some (vI (fwN (meetsAll c f) pg i).2), some (vI i), o] [] := by
    intro j
    induction j with
    | zero => intro i o h3 h4; exact absurd h4 (by omega)
    | succ j ih =>
      intro i o h3 h4
      refine r_iload C dX1_fewest_11 rfl ?_
      refine r_iconst C dX1_fewest_13 (by decide) ?_
      refine r_iload_n C dX1_fewest_14 rfl ?_
      refine r_ishl C dX1_fewest_15 ?_
      rw [shl_pow hpg]
      refine r_icmp_ge (tgt := 53) C dX1_fewest_16 (by decide) (fun hc16 => ?_) (fun hc16 => ?_)
      · refine r_iload_n C dX1_fewest_53 rfl ?_
        exact r_iret C dX1_fewest_54 (by decide) (by decide) ⟨some_I (by unfold fw; rw [show i = 2 ^ pg by omega]), rfl⟩
      · refine r_iload C dX1_fewest_19 rfl ?_
        refine r_cSi C dX1_fewest_21 mlX1_19 kJ6_bitCount_0f7a4 (m_bitCount (x := i) (by omega) (by omega)) rfl rfl (Nat.le_of_ble_eq_true rfl) (fit hX (by decide)) ?_
        refine r_istore C dX1_fewest_24 (by decide) ?_
        refine r_iload C dX1_fewest_26 rfl ?_
        refine r_iload_n C dX1_fewest_28 rfl ?_
        refine r_icmp_ge (tgt := 47) C dX1_fewest_29 (by decide) (fun hc29 => ?_) (fun hc29 => ?_)
        · refine r_iinc C dX1_fewest_47 rfl (by decide) (by omega) ?_
          refine r_goto (tgt := 11) C dX1_fewest_50 (by decide) ?_
          have hz := ih (i + 1) (some (vI (cnt i))) (by omega) (by omega)
          first | (rw [fwN_f (fun q => absurd q.1 (by omega))] at hz; exact hz) | (rw [fwN_f (fun q => (zb_0.mp hc38) q.2)] at hz; exact hz) | (rw [fwN_t ⟨by omega, zb_n0.mp hc38⟩] at hz; exact hz)
        · refine r_aload_n C dX1_fewest_32 rfl ?_
          refine r_iload C dX1_fewest_33 rfl ?_
          refine r_cVi C dX1_fewest_35 mlX1_25 kX1_isEnough (m_isEnough (s := i) hn) hs rfl rfl rfl (Nat.le_of_ble_eq_true rfl) (fit hX (by decide)) ?_
          refine r_if_eq (tgt := 47) C dX1_fewest_38 (by decide) (fun hc38 => ?_) (fun hc38 => ?_)
          · refine r_iinc C dX1_fewest_47 rfl (by decide) (by omega) ?_
            refine r_goto (tgt := 11) C dX1_fewest_50 (by decide) ?_
            have hz := ih (i + 1) (some (vI (cnt i))) (by omega) (by omega)
            first | (rw [fwN_f (fun q => absurd q.1 (by omega))] at hz; exact hz) | (rw [fwN_f (fun q => (zb_0.mp hc38) q.2)] at hz; exact hz) | (rw [fwN_t ⟨by omega, zb_n0.mp hc38⟩] at hz; exact hz)
          · refine r_iload C dX1_fewest_41 rfl ?_
            refine r_istore_n C dX1_fewest_43 (by decide) ?_
            refine r_iload C dX1_fewest_44 rfl ?_
            refine r_istore_n C dX1_fewest_46 (by decide) ?_
            refine r_iinc C dX1_fewest_47 rfl (by decide) (by omega) ?_
            refine r_goto (tgt := 11) C dX1_fewest_50 (by decide) ?_
            have hz := ih (i + 1) (some (vI (cnt i))) (by omega) (by omega)
            first | (rw [fwN_f (fun q => absurd q.1 (by omega))] at hz; exact hz) | (rw [fwN_f (fun q => (zb_0.mp hc38) q.2)] at hz; exact hz) | (rw [fwN_t ⟨by omega, zb_n0.mp hc38⟩] at hz; exact hz)
  refine r_iconst C dX1_fewest_0 (by decide) ?_
  refine r_iload_n C dX1_fewest_1 rfl ?_
  refine r_ishl C dX1_fewest_2 ?_
  rw [shl_pow hpg]
  refine r_iconst C dX1_fewest_3 (by decide) ?_
  refine r_isub C dX1_fewest_4 (by omega) ?_
  refine r_istore_n C dX1_fewest_5 (by decide) ?_
  refine r_iload_n C dX1_fewest_6 rfl ?_
  refine r_istore_n C dX1_fewest_7 (by decide) ?_
  refine r_iconst C dX1_fewest_8 (by decide) ?_
  refine r_istore C dX1_fewest_9 (by decide) ?_
  exact loop (2 ^ pg + 1) 0 none (by omega) (by omega)
end
section
/-! stores with a name for the heap behind them; what a text comes to -/
section
variable {X : Ctx} {Q : State → Prop} {k n : Nat} {h : Pic} {pc : Nat} {L : List (Option Va)} {st : List Va} {cc : ByteArray} {nL : Nat} {own : String} {ret : Option FieldType}
theorem off1 {h : Pic} {a : Nat} {o : Ob} : Off [a] h (pu h a o) := Off.rf.put (by simp)
theorem r_putA {i ci kf a t : Nat} {tf : FieldType} {fs fs2 : List Va} {v : Va} (C : Cx X cc nL own ret) (hd : decode cc pc = .ok (.putfield i, 3)) (hf : FL own i ci kf false tf) (ha : h a = some (t, .inl (ci, fs))) (hn : narrow tf (cv v) = cv v) (hfit : fits tf (cv v) = true) (hfs : fs.set kf v = fs2) (kk : ∀ h', h' a = some (t, .inl (ci, fs2)) → Off [a] h h' → Go X Q k n h' (pc + 3) L st) : Go X Q k n h pc L (v :: vR a :: st) := by
  subst hfs
  exact r_put C hd hf ha hn hfit (kk _ pu_s off1)
theorem r_putFA {i ci kf a t : Nat} {tf : FieldType} {fs fs2 : List Va} {v : Va} (C : Cx X cc nL own ret) (hin2 : X.2.2.1.1.name = "<init>") (hd : decode cc pc = .ok (.putfield i, 3)) (hf : FL own i ci kf true tf) (how : classes[ci]?.map (fun r => r.1) = some own) (ha : h a = some (t, .inl (ci, fs))) (hn : narrow tf (cv v) = cv v) (hfit : fits tf (cv v) = true) (hfs : fs.set kf v = fs2) (kk : ∀ h', h' a = some (t, .inl (ci, fs2)) → Off [a] h h' → Go X Q k n h' (pc + 3) L st) : Go X Q k n h pc L (v :: vR a :: st) := by
  subst hfs
  exact r_putF C hin2 hd hf how ha hn hfit (kk _ pu_s off1)
theorem r_iastA {a t : Nat} {m i v : Int} {f : Int → Int} (C : Cx X cc nL own ret) (hd : decode cc pc = .ok (.iastore, 1)) (ha : h a = some (ia t 0 m f)) (h0 : 0 ≤ i) (h1 : i < m) (kk : ∀ h', h' a = some (ia t 0 m (fu f i v)) → Off [a] h h' → Go X Q k n h' (pc + 1) L st) : Go X Q k n h pc L (vI v :: vI i :: vR a :: st) := r_iast C hd ha h0 h1 (kk _ pu_s off1)
theorem r_castA {a t : Nat} {m i v : Int} {f : Int → Int} (C : Cx X cc nL own ret) (hd : decode cc pc = .ok (.castore, 1)) (ha : h a = some (ia t 1 m f)) (h0 : 0 ≤ i) (h1 : i < m) (h2 : 0 ≤ v ∧ v ≤ 65535) (kk : ∀ h', h' a = some (ia t 1 m (fu f i v)) → Off [a] h h' → Go X Q k n h' (pc + 1) L st) : Go X Q k n h pc L (vI v :: vI i :: vR a :: st) := r_cast C hd ha h0 h1 h2 (kk _ pu_s off1)
theorem r_zastA {a t : Nat} {m i v : Int} {f : Int → Int} (C : Cx X cc nL own ret) (hd : decode cc pc = .ok (.bastore, 1)) (ha : h a = some (ia t 2 m f)) (h0 : 0 ≤ i) (h1 : i < m) (h2 : v = 0 ∨ v = 1) (kk : ∀ h', h' a = some (ia t 2 m (fu f i v)) → Off [a] h h' → Go X Q k n h' (pc + 1) L st) : Go X Q k n h pc L (vI v :: vI i :: vR a :: st) := r_zast C hd ha h0 h1 h2 (kk _ pu_s off1)
theorem r_aastA {a t b tb kr : Nat} {m i : Int} {f : Int → Option Nat} {vs : List Va} (C : Cx X cc nL own ret) (hd : decode cc pc = .ok (.aastore, 1)) (ha : h a = some (ra t kr m f)) (hb : h b = some (tb, .inl ((tyR kr).1, vs))) (h0 : 0 ≤ i) (h1 : i < m) (kk : ∀ h', h' a = some (ra t kr m (fu f i (some b))) → Off [a] h h' → Go X Q k n h' (pc + 1) L st) : Go X Q k n h pc L (vR b :: vI i :: vR a :: st) := r_aast C hd ha hb h0 h1 (kk _ pu_s off1)
end
theorem Off.at {l : List Nat} {h h' : Pic} {q : Nat} {o : Option Ob} (x : Off l h h') (hq : q ∉ l) (e : h q = o) : h' q = o := (x q hq).trans e
theorem Off.a1 {h h' : Pic} {a q : Nat} {o o' : Ob} (x : Off [a] h h') (ha : h a = some o') (e : h q = some o) (hne : o = o' → False) : h' q = some o := (x q (by simp; exact ne_of e ha hne)).trans e
theorem TxR.a1 {h h' : Pic} {a q t c : Nat} {fs : List Va} {n : Int} {f : Int → Int} (ht : TxR h q n f) (x : Off [a] h h') (ha : h a = some (t, .inl (c, fs))) (hc : c ≠ 6) : TxR h' q n f := by
  obtain ⟨b, t1, t2, m, g, hs, hb, r⟩ := ht
  exact ⟨b, t1, t2, m, g, x.a1 ha hs (fun q => by cases q; exact hc rfl), x.a1 ha hb (fun q => by cases q), r⟩
-- what a text comes to
abbrev Sv : Type := Int × (Int × Int)
def ev (gv : Int → Int → (Int × Int) → Sv) (n : Int) (f : Int → Int) : Nat → Int → Int → (Int × Int) → Sv
  | 0, p, x, s => if f p = 120 then (x, s) else (f p - 48, s)
  | d + 1, p, x, s =>
    if f p = 120 then (x, s) else if isD (f p) then (f p - 48, s) else
    if (ev gv n f d (p + 1) x s).1 < 0 then ev gv n f d (p + 1) x s else
    if isW (f p) then gv (f p - 97) (ev gv n f d (p + 1) x s).1 (ev gv n f d (p + 1) x s).2 else
    if f p = 63 then
      (if (ev gv n f d (p + 1) x s).1 = 0 then ev gv n f d (pe n f d (p + 1)) x (ev gv n f d (p + 1) x s).2 else ev gv n f d (pe n f d (pe n f d (p + 1))) x (ev gv n f d (p + 1) x s).2)
    else if (ev gv n f d (pe n f d (p + 1)) x (ev gv n f d (p + 1) x s).2).1 < 0 then ev gv n f d (pe n f d (p + 1)) x (ev gv n f d (p + 1) x s).2
    else (jn (f p) (ev gv n f d (p + 1) x s).1 (ev gv n f d (pe n f d (p + 1)) x (ev gv n f d (p + 1) x s).2).1, (ev gv n f d (pe n f d (p + 1)) x (ev gv n f d (p + 1) x s).2).2)
/-- a word is given something, with o still to be open -/
def gvN (wn : Int → Int) (wt : Int → Int → Int) : Nat → Int → Int → (Int × Int) → Sv
  | 0, w, _, s => if wn w = 0 then (-10, (s.1, bOr s.2 (bShl 1 w))) else (-11, s)
  | o + 1, w, v, s => if wn w = 0 then (-10, (s.1, bOr s.2 (bShl 1 w))) else if 300 ≤ s.1 then (-11, s) else ev (gvN wn wt o) (wn w) (wt w) 6 0 v (s.1 + 1, bOr s.2 (bShl 1 w))
/-- what the whole text comes to, and what it used -/
def evT (wn : Int → Int) (wt : Int → Int → Int) (n : Int) (f : Int → Int) (x : Int) : Sv := ev (gvN wn wt 20) n f 6 0 x (0, 0)
def okS (r : Sv) (s : Int × Int) : Prop := (r.1 = -10 ∨ r.1 = -11 ∨ (0 ≤ r.1 ∧ r.1 ≤ 999)) ∧ s.1 ≤ r.2.1 ∧ r.2.1 ≤ 300
def okG (gv : Int → Int → (Int × Int) → Sv) : Prop := ∀ w v s, 0 ≤ w → w < 8 → 0 ≤ v → v ≤ 999 → 0 ≤ s.1 → s.1 ≤ 300 → okS (gv w v s) s
theorem jn_rng {c a b : Int} (ha : 0 ≤ a ∧ a ≤ 999) (hb : 0 ≤ b ∧ b ≤ 999) : 0 ≤ jn c a b ∧ jn c a b ≤ 999 := by
  unfold jn
  have hm := mul_rg ha hb
  (repeat' split) <;> omega
theorem nd0 {c : Int} (h : nd c = 0) : c = 120 ∨ isD c := by
  unfold nd at h
  (repeat' split at h) <;> omega
theorem nd1 {c : Int} (h : nd c = 1) : isW c := by
  unfold nd at h
  (repeat' split at h) <;> omega
theorem nd2 {c : Int} (h : nd c = 2) : c = 43 ∨ c = 45 ∨ c = 42 ∨ c = 109 := by
  unfold nd at h
  (repeat' split at h) <;> omega
theorem nd3 {c : Int} (h : nd c = 3) : c = 63 := by
  unfold nd at h
  (repeat' split at h) <;> omega
/-- the parts of a text without a fault -/
theorem pe_0 {n : Int} {f : Int → Int} {p e : Int} (h0 : 0 ≤ p) (he : pe n f 0 p = e) (h1 : 0 ≤ e) : p < n ∧ nd (f p) = 0 ∧ e = p + 1 := by
  have he' : (if nd (sgn n f p) < 0 ∨ 0 < nd (sgn n f p) then -1 - p else p + 1) = e := he
  by_cases hc : nd (sgn n f p) < 0 ∨ 0 < nd (sgn n f p)
  · rw [if_pos hc] at he'; omega
  · rw [if_neg hc] at he'
    have hp := nd_sgn (n := n) (f := f) (p := p) (by omega)
    rw [sgn_in h0 hp] at hc
    omega
theorem pe_s {n : Int} {f : Int → Int} {d : Nat} {p e : Int} (h0 : 0 ≤ p) (he : pe n f (d + 1) p = e) (h1 : 0 ≤ e) : p < n ∧ 0 ≤ nd (f p) ∧ pit (pe n f d) (nd (f p)).toNat (p + 1) = e := by
  have he' : (if nd (sgn n f p) < 0 then -1 - p else pit (pe n f d) (nd (sgn n f p)).toNat (p + 1)) = e := he
  by_cases hc : nd (sgn n f p) < 0
  · rw [if_pos hc] at he'; omega
  · rw [if_neg hc] at he'
    have hp := nd_sgn (n := n) (f := f) (p := p) (by omega)
    rw [sgn_in h0 hp] at hc he'
    exact ⟨hp, by omega, he'⟩
theorem pit_1 {g : Int → Int} {k : Nat} {e r : Int} (h0 : 0 ≤ e) (h : pit g (k + 1) e = r) (hr : 0 ≤ r) : 0 ≤ g e ∧ pit g k (g e) = r := by
  have hs : pit g (k + 1) e = pit g k (g e) := if_neg (by omega)
  rw [hs] at h
  rcases Int.lt_or_le (g e) 0 with q | q
  · rw [pit_neg _ _ q] at h; omega
  · exact ⟨q, h⟩
/-- what comes of a text without a fault is a number, GONE or ENDLESS -/
theorem ev_ok {gv : Int → Int → (Int × Int) → Sv} (hg : okG gv) {n : Int} {f : Int → Int} : ∀ (d : Nat) (p x e : Int) (s : Int × Int), 0 ≤ p → pe n f d p = e → 0 ≤ e → 0 ≤ x → x ≤ 999 → 0 ≤ s.1 → s.1 ≤ 300 → okS (ev gv n f d p x s) s := by
  intro d
  induction d with
  | zero =>
    intro p x e s h0 he h1 hx hx2 hs hs2
    obtain ⟨hp, hz, -⟩ := pe_0 h0 he h1
    have hc := nd0 hz
    show okS (if f p = 120 then (x, s) else (f p - 48, s)) s
    by_cases h2 : f p = 120
    · rw [if_pos h2]; exact ⟨by show x = -10 ∨ x = -11 ∨ _; omega, Int.le_refl _, hs2⟩
    · rw [if_neg h2]; exact ⟨by show f p - 48 = -10 ∨ f p - 48 = -11 ∨ (0 ≤ f p - 48 ∧ f p - 48 ≤ 999); omega, Int.le_refl _, hs2⟩
  | succ d ih =>
    intro p x e s h0 he h1 hx hx2 hs hs2
    obtain ⟨hp, hz, hpit⟩ := pe_s h0 he h1
    unfold ev
    by_cases h2 : f p = 120
    · rw [if_pos h2]; exact ⟨by show x = -10 ∨ x = -11 ∨ _; omega, Int.le_refl _, hs2⟩
    rw [if_neg h2]
    by_cases h3 : isD (f p)
    · rw [if_pos h3]; exact ⟨by show f p - 48 = -10 ∨ f p - 48 = -11 ∨ (0 ≤ f p - 48 ∧ f p - 48 ≤ 999); omega, Int.le_refl _, hs2⟩
    rw [if_neg h3]
    have hnd := nd_rng (f p)
    have hnz : nd (f p) ≠ 0 := fun q => by have := nd0 q; omega
    obtain ⟨k, hk⟩ : ∃ k, (nd (f p)).toNat = k + 1 := ⟨(nd (f p)).toNat - 1, by omega⟩
    rw [hk] at hpit
    obtain ⟨q1, q2⟩ := pit_1 (by omega) hpit h1
    have r1 := ih (p + 1) x _ s (by omega) rfl q1 hx hx2 hs hs2
    generalize ev gv n f d (p + 1) x s = a1 at r1 ⊢
    obtain ⟨r11, r12, r13⟩ := r1
    by_cases h4 : a1.1 < 0
    · rw [if_pos h4]; exact ⟨r11, r12, r13⟩
    rw [if_neg h4]
    by_cases h5 : isW (f p)
    · rw [if_pos h5]
      obtain ⟨g1, g2, g3⟩ := hg (f p - 97) a1.1 a1.2 (by omega) (by omega) (by omega) (by omega) (by omega) (by omega)
      exact ⟨g1, by omega, g3⟩
    rw [if_neg h5]
    have hnd1 : nd (f p) ≠ 1 := fun q => h5 (nd1 q)
    obtain ⟨k2, hk2⟩ : ∃ k2, k = k2 + 1 := ⟨k - 1, by omega⟩
    rw [hk2] at q2
    obtain ⟨q3, q4⟩ := pit_1 q1 q2 h1
    have r2 := ih (pe n f d (p + 1)) x _ a1.2 q1 rfl q3 hx hx2 (by omega) r13
    by_cases h6 : f p = 63
    · rw [if_pos h6]
      have hn3 : nd (f p) = 3 := by rw [h6]; decide
      have hk3 : k2 = 1 := by omega
      rw [hk3] at q4
      obtain ⟨q5, -⟩ := pit_1 q3 q4 h1
      have r3 := ih (pe n f d (pe n f d (p + 1))) x _ a1.2 q3 rfl q5 hx hx2 (by omega) r13
      by_cases h7 : a1.1 = 0
      · rw [if_pos h7]; exact ⟨r2.1, by have := r2.2.1; omega, r2.2.2⟩
      · rw [if_neg h7]; exact ⟨r3.1, by have := r3.2.1; omega, r3.2.2⟩
    rw [if_neg h6]
    generalize ev gv n f d (pe n f d (p + 1)) x a1.2 = a2 at r2 ⊢
    obtain ⟨r21, r22, r23⟩ := r2
    by_cases h7 : a2.1 < 0
    · rw [if_pos h7]; exact ⟨r21, by omega, r23⟩
    · rw [if_neg h7]
      have := jn_rng (c := f p) (a := a1.1) (b := a2.1) (by omega) (by omega)
      exact ⟨Or.inr (Or.inr this), by show s.1 ≤ a2.2.1; omega, r23⟩
/-- the words' texts are without a fault, or there are none -/
def okW (wn : Int → Int) (wt : Int → Int → Int) : Prop := ∀ w, 0 ≤ w → w < 8 → wn w = 0 ∨ (0 < wn w ∧ pe (wn w) (wt w) 6 0 = wn w)
theorem gvN_ok {wn : Int → Int} {wt : Int → Int → Int} (hw : okW wn wt) : ∀ (o : Nat), okG (gvN wn wt o) := by
  intro o
  induction o with
  | zero =>
    intro w v s h0 h1 hv hv2 hs hs2
    show okS (if wn w = 0 then (-10, (s.1, bOr s.2 (bShl 1 w))) else (-11, s)) s
    split
    · exact ⟨Or.inl rfl, Int.le_refl _, hs2⟩
    · exact ⟨Or.inr (Or.inl rfl), Int.le_refl _, hs2⟩
  | succ o ih =>
    intro w v s h0 h1 hv hv2 hs hs2
    show okS (if wn w = 0 then (-10, (s.1, bOr s.2 (bShl 1 w))) else if 300 ≤ s.1 then (-11, s) else ev (gvN wn wt o) (wn w) (wt w) 6 0 v (s.1 + 1, bOr s.2 (bShl 1 w))) s
    by_cases h2 : wn w = 0
    · rw [if_pos h2]; exact ⟨Or.inl rfl, Int.le_refl _, hs2⟩
    rw [if_neg h2]
    by_cases h3 : 300 ≤ s.1
    · rw [if_pos h3]; exact ⟨Or.inr (Or.inl rfl), Int.le_refl _, hs2⟩
    rw [if_neg h3]
    rcases hw w h0 h1 with h4 | ⟨h4, h5⟩
    · exact absurd h4 h2
    · have := ev_ok ih 6 0 v _ (s.1 + 1, bOr s.2 (bShl 1 w)) (Int.le_refl 0) h5 (by omega) hv hv2 (by show 0 ≤ s.1 + 1; omega) (by show s.1 + 1 ≤ 300; omega)
      exact ⟨this.1, by have := this.2.1; dsimp only at this; omega, this.2.2⟩
end
section
/-! Reckoner: what a text comes to, by the class -/
def RkR (h : Pic) (a xw : Nat) (fw : Int → Option Nat) (pl gv op us : Int) : Prop := h a = some (ob 42 3 [vR xw, vI pl, vI gv, vI op, vI us]) ∧ h xw = some (ra 43 0 8 fw)
def WdR (h : Pic) (fw : Int → Option Nat) (wn : Int → Int) (wt : Int → Int → Int) : Prop := ∀ w, 0 ≤ w → w < 8 → ∃ q, fw w = some q ∧ TxR h q (wn w) (wt w)
theorem RkR.off {h h' : Pic} {a xw : Nat} {fw : Int → Option Nat} {pl gv op us pl' gv' op' us' : Int} (hr : RkR h a xw fw pl gv op us) (x : Off [a] h h') (e : h' a = some (ob 42 3 [vR xw, vI pl', vI gv', vI op', vI us'])) : RkR h' a xw fw pl' gv' op' us' := ⟨e, x.a1 hr.1 hr.2 (fun q => by cases q)⟩
theorem WdR.off {h h' : Pic} {a t c : Nat} {fs : List Va} {fw : Int → Option Nat} {wn : Int → Int} {wt : Int → Int → Int} (hw : WdR h fw wn wt) (x : Off [a] h h') (ha : h a = some (t, .inl (c, fs))) (hc : c ≠ 6) : WdR h' fw wn wt := fun w h0 h1 => by
  obtain ⟨q, e, ht⟩ := hw w h0 h1
  exact ⟨q, e, ht.a1 x ha hc⟩
/-- what part and give leave behind -/
def evP (r : Sv) (a xw : Nat) (fw : Int → Option Nat) (op e : Int) (h : Pic) : Int → Pic → Prop := fun v h' => v = r.1 ∧ ∃ pl', RkR h' a xw fw pl' r.2.1 op r.2.2 ∧ Off [a] h h' ∧ (0 ≤ v → pl' = e) ∧ 0 ≤ pl' ∧ pl' ≤ 41
def GiveOk (wn : Int → Int) (wt : Int → Int → Int) (o : Nat) : Prop := ∀ (h : Pic) (a xw : Nat) (fw : Int → Option Nat) (pl gv us w v : Int), RkR h a xw fw pl gv (20 - o) us → WdR h fw wn wt → 0 ≤ w → w < 8 → 0 ≤ v → v ≤ 999 → 0 ≤ gv → gv ≤ 300 → 0 ≤ pl → pl ≤ 41 →
  Meets yX3_give cX3_give 6 (some .int) (9 * o + 1) 0 0 [vR a, vI w, vI v] h (pX (evP (gvN wn wt o w v (gv, us)) a xw fw (20 - o) pl h))
def PartOk (wn : Int → Int) (wt : Int → Int → Int) (o d : Nat) : Prop := ∀ (h : Pic) (a xw at' : Nat) (fw : Int → Option Nat) (pl gv us n x e : Int) (f : Int → Int), RkR h a xw fw pl gv (20 - o) us → WdR h fw wn wt → TxR h at' n f → 0 ≤ pl → pe n f d pl = e → 0 ≤ e → 0 ≤ x → x ≤ 999 → 0 ≤ gv → gv ≤ 300 →
  Meets yX3_part cX3_part 7 (some .int) (9 * o + d + 2) 0 0 [vR a, vR at', vI x, vI (6 - d)] h (pX (evP (ev (gvN wn wt o) n f d pl x (gv, us)) a xw fw (20 - o) e h))
theorem m_part0 {wn : Int → Int} {wt : Int → Int → Int} {o : Nat} : PartOk wn wt o 0 := by
  intro h a xw at' fw pl gv us n x e f hr hw ht hp he h1 hx hx2 hg hg2
  obtain ⟨b, t, t', m, g, hts, hta, h0, hnm, h40, hgf⟩ := id ht
  obtain ⟨hpn, hz, he2⟩ := pe_0 hp he h1
  have hc := nd0 hz
  refine Meets.of (plainFor_of_name (by decide)) (Nat.le_of_ble_eq_true rfl) (fun X C hX hN hA => ?_)
  refine r_iload_n C dX3_part_0 rfl ?_
  refine r_bipush C dX3_part_1 (by decide) ?_
  refine r_icmp_le (tgt := 9) C dX3_part_3 (by decide) (fun _ => ?_) (fun q => absurd q (by omega))
  refine r_aload_n C dX3_part_9 rfl ?_
  refine r_aload_n C dX3_part_10 rfl ?_
  refine r_get C dX3_part_11 flX3_27 hr.1 rfl ?_
  refine r_cVi C dX3_part_14 mlX3_44 kX6_sign (m_sign ht (p := pl)) hts rfl rfl rfl (Nat.le_of_ble_eq_true rfl) (fit hX (by omega)) ?_
  rw [sgn_in hp hpn]
  refine r_istore C dX3_part_17 (by decide) ?_
  refine r_aload_n C dX3_part_19 rfl ?_
  refine r_dup C dX3_part_20 ?_
  refine r_get C dX3_part_21 flX3_27 hr.1 rfl ?_
  refine r_iconst C dX3_part_24 (by decide) ?_
  refine r_iadd C dX3_part_25 (by omega) ?_
  refine r_putA C dX3_part_26 flX3_27 hr.1 rfl rfl (fs2 := [vR xw, vI (pl + 1), vI gv, vI (20 - o), vI us]) rfl (fun h1' e1 o1 => ?_)
  have hr1 : RkR h1' a xw fw (pl + 1) gv (20 - o) us := hr.off o1 e1
  refine r_iload C dX3_part_29 rfl ?_
  refine r_bipush C dX3_part_31 (by decide) ?_
  refine r_icmp_ne (tgt := 38) C dX3_part_33 (by decide) (fun hc3 => ?_) (fun hc3 => ?_)
  · have h3 : isD (f pl) := by omega
    refine r_iload C dX3_part_38 rfl ?_
    refine r_cSi C dX3_part_40 mlX3_48 kX4_isDigit (m_SD (c := f pl)) rfl rfl (Nat.le_of_ble_eq_true rfl) (fit hX (by omega)) ?_
    rw [zb_t h3]
    refine r_if_eq (tgt := 52) C dX3_part_43 (by decide) (fun q => absurd q (by decide)) (fun _ => ?_)
    refine r_iload C dX3_part_46 rfl ?_
    refine r_bipush C dX3_part_48 (by decide) ?_
    refine r_isub C dX3_part_50 (by omega) ?_
    exact r_iret C dX3_part_51 (by decide) (by decide) ⟨f pl - 48, rfl, by show f pl - 48 = (if f pl = 120 then (x, (gv, us)) else (f pl - 48, (gv, us))).1; rw [if_neg hc3], pl + 1, by show RkR h1' a xw fw (pl + 1) (if f pl = 120 then (x, (gv, us)) else (f pl - 48, (gv, us))).2.1 _ (if f pl = 120 then (x, (gv, us)) else (f pl - 48, (gv, us))).2.2; rw [if_neg hc3]; exact hr1, o1, fun _ => by omega, by omega, by omega⟩
  · refine r_iload_n C dX3_part_36 rfl ?_
    exact r_iret C dX3_part_37 (by decide) (by decide) ⟨x, rfl, by show x = (if f pl = 120 then (x, (gv, us)) else (f pl - 48, (gv, us))).1; rw [if_pos hc3], pl + 1, by show RkR h1' a xw fw (pl + 1) (if f pl = 120 then (x, (gv, us)) else (f pl - 48, (gv, us))).2.1 _ (if f pl = 120 then (x, (gv, us)) else (f pl - 48, (gv, us))).2.2; rw [if_pos hc3]; exact hr1, o1, fun _ => by omega, by omega, by omega⟩
end
section
/-! Reckoner, second part: part and give -/
section
variable {gv : Int → Int → (Int × Int) → Sv} {n : Int} {f : Int → Int} {d : Nat} {p x : Int} {s : Int × Int}
theorem ev_x (h1 : f p = 120) : ev gv n f (d + 1) p x s = (x, s) := by
  conv => lhs; unfold ev
  rw [if_pos h1]
theorem ev_d (h1 : ¬ f p = 120) (h2 : isD (f p)) : ev gv n f (d + 1) p x s = (f p - 48, s) := by
  conv => lhs; unfold ev
  rw [if_neg h1, if_pos h2]
theorem ev_neg (h1 : ¬ f p = 120) (h2 : ¬ isD (f p)) (h3 : (ev gv n f d (p + 1) x s).1 < 0) : ev gv n f (d + 1) p x s = ev gv n f d (p + 1) x s := by
  conv => lhs; unfold ev
  rw [if_neg h1, if_neg h2, if_pos h3]
theorem ev_w (h1 : ¬ f p = 120) (h2 : ¬ isD (f p)) (h3 : ¬ (ev gv n f d (p + 1) x s).1 < 0) (h4 : isW (f p)) : ev gv n f (d + 1) p x s = gv (f p - 97) (ev gv n f d (p + 1) x s).1 (ev gv n f d (p + 1) x s).2 := by
  conv => lhs; unfold ev
  rw [if_neg h1, if_neg h2, if_neg h3, if_pos h4]
theorem ev_q0 (h3 : ¬ (ev gv n f d (p + 1) x s).1 < 0) (h4 : f p = 63) (h5 : (ev gv n f d (p + 1) x s).1 = 0) : ev gv n f (d + 1) p x s = ev gv n f d (pe n f d (p + 1)) x (ev gv n f d (p + 1) x s).2 := by
  conv => lhs; unfold ev
  rw [if_neg (by omega), if_neg (by omega), if_neg h3, if_neg (by omega), if_pos h4, if_pos h5]
theorem ev_q1 (h3 : ¬ (ev gv n f d (p + 1) x s).1 < 0) (h4 : f p = 63) (h5 : ¬ (ev gv n f d (p + 1) x s).1 = 0) : ev gv n f (d + 1) p x s = ev gv n f d (pe n f d (pe n f d (p + 1))) x (ev gv n f d (p + 1) x s).2 := by
  conv => lhs; unfold ev
  rw [if_neg (by omega), if_neg (by omega), if_neg h3, if_neg (by omega), if_pos h4, if_neg h5]
theorem ev_jn (h1 : ¬ f p = 120) (h2 : ¬ isD (f p)) (h3 : ¬ (ev gv n f d (p + 1) x s).1 < 0) (h4 : ¬ isW (f p)) (h5 : ¬ f p = 63) (h6 : (ev gv n f d (pe n f d (p + 1)) x (ev gv n f d (p + 1) x s).2).1 < 0) : ev gv n f (d + 1) p x s = ev gv n f d (pe n f d (p + 1)) x (ev gv n f d (p + 1) x s).2 := by
  conv => lhs; unfold ev
  rw [if_neg h1, if_neg h2, if_neg h3, if_neg h4, if_neg h5, if_pos h6]
theorem ev_j (h1 : ¬ f p = 120) (h2 : ¬ isD (f p)) (h3 : ¬ (ev gv n f d (p + 1) x s).1 < 0) (h4 : ¬ isW (f p)) (h5 : ¬ f p = 63) (h6 : ¬ (ev gv n f d (pe n f d (p + 1)) x (ev gv n f d (p + 1) x s).2).1 < 0) : ev gv n f (d + 1) p x s = (jn (f p) (ev gv n f d (p + 1) x s).1 (ev gv n f d (pe n f d (p + 1)) x (ev gv n f d (p + 1) x s).2).1, (ev gv n f d (pe n f d (p + 1)) x (ev gv n f d (p + 1) x s).2).2) := by
  conv => lhs; unfold ev
  rw [if_neg h1, if_neg h2, if_neg h3, if_neg h4, if_neg h5, if_neg h6]
end
theorem m_partS {wn : Int → Int} {wt : Int → Int → Int} {o d : Nat} (hd6 : d + 1 ≤ 6) (hW : okW wn wt) (ihP : PartOk wn wt o d) (hG : GiveOk wn wt o) : PartOk wn wt o (d + 1) := by
  intro h a xw at' fw pl gv us n x e f hr hw ht hp he h1 hx hx2 hg hg2
  obtain ⟨b, t, t', m, g, hts, hta, h0, hnm, h40, hgf⟩ := id ht
  obtain ⟨hpn, hz, hpit⟩ := pe_s hp he h1
  have hnd := nd_rng (f pl)
  have hsum : (6 : Int) - ((d + 1 : Nat) : Int) + 1 = 6 - (d : Int) := by omega
  refine Meets.of (plainFor_of_name (by decide)) (Nat.le_of_ble_eq_true rfl) (fun X C hX hN hA => ?_)
  refine r_iload_n C dX3_part_0 rfl ?_
  refine r_bipush C dX3_part_1 (by decide) ?_
  refine r_icmp_le (tgt := 9) C dX3_part_3 (by decide) (fun _ => ?_) (fun q => absurd q (by omega))
  refine r_aload_n C dX3_part_9 rfl ?_
  refine r_aload_n C dX3_part_10 rfl ?_
  refine r_get C dX3_part_11 flX3_27 hr.1 rfl ?_
  refine r_cVi C dX3_part_14 mlX3_44 kX6_sign (m_sign ht (p := pl)) hts rfl rfl rfl (Nat.le_of_ble_eq_true rfl) (fit hX (by omega)) ?_
  rw [sgn_in hp hpn]
  refine r_istore C dX3_part_17 (by decide) ?_
  refine r_aload_n C dX3_part_19 rfl ?_
  refine r_dup C dX3_part_20 ?_
  refine r_get C dX3_part_21 flX3_27 hr.1 rfl ?_
  refine r_iconst C dX3_part_24 (by decide) ?_
  refine r_iadd C dX3_part_25 (by omega) ?_
  refine r_putA C dX3_part_26 flX3_27 hr.1 rfl rfl (fs2 := [vR xw, vI (pl + 1), vI gv, vI (20 - o), vI us]) rfl (fun h1' e1 o1 => ?_)
  have hr1 : RkR h1' a xw fw (pl + 1) gv (20 - o) us := hr.off o1 e1
  have hw1 : WdR h1' fw wn wt := hw.off o1 hr.1 (by decide)
  have ht1 : TxR h1' at' n f := ht.a1 o1 hr.1 (by decide)
  refine r_iload C dX3_part_29 rfl ?_
  refine r_bipush C dX3_part_31 (by decide) ?_
  refine r_icmp_ne (tgt := 38) C dX3_part_33 (by decide) (fun hc1 => ?_) (fun hc1 => ?_)
  rotate_left
  · refine r_iload_n C dX3_part_36 rfl ?_
    rw [ev_x hc1]
    have hez : e = pl + 1 := by
      have : nd (f pl) = 0 := by rw [hc1]; decide
      rw [this] at hpit
      exact hpit.symm
    exact r_iret C dX3_part_37 (by decide) (by decide) ⟨x, rfl, rfl, pl + 1, hr1, o1, fun _ => by omega, by omega, by omega⟩
  refine r_iload C dX3_part_38 rfl ?_
  refine r_cSi C dX3_part_40 mlX3_48 kX4_isDigit (m_SD (c := f pl)) rfl rfl (Nat.le_of_ble_eq_true rfl) (fit hX (by omega)) ?_
  refine r_if_eq (tgt := 52) C dX3_part_43 (by decide) (fun hc2 => ?_) (fun hc2 => ?_)
  rotate_left
  · have hD : isD (f pl) := zb_n0.mp hc2
    refine r_iload C dX3_part_46 rfl ?_
    refine r_bipush C dX3_part_48 (by decide) ?_
    refine r_isub C dX3_part_50 (by omega) ?_
    rw [ev_d hc1 hD]
    have hez : e = pl + 1 := by
      have : nd (f pl) = 0 := by unfold nd; rw [if_pos (by omega)]
      rw [this] at hpit
      exact hpit.symm
    exact r_iret C dX3_part_51 (by decide) (by decide) ⟨f pl - 48, rfl, rfl, pl + 1, hr1, o1, fun _ => by omega, by omega, by omega⟩
  have hD : ¬ isD (f pl) := zb_0.mp hc2
  have hnz : nd (f pl) ≠ 0 := fun q => by have := nd0 q; omega
  obtain ⟨kk, hkk⟩ : ∃ kk, (nd (f pl)).toNat = kk + 1 := ⟨(nd (f pl)).toNat - 1, by omega⟩
  rw [hkk] at hpit
  obtain ⟨q1, q2⟩ := pit_1 (by omega) hpit h1
  have hb1 := pe_rng n f d (pl + 1) (by omega) (by omega)
  have hok1 := ev_ok (gvN_ok hW o) (n := n) (f := f) d (pl + 1) x _ (gv, us) (by omega) rfl q1 hx hx2 hg hg2
  refine r_aload_n C dX3_part_52 rfl ?_
  refine r_aload_n C dX3_part_53 rfl ?_
  refine r_iload_n C dX3_part_54 rfl ?_
  refine r_iload_n C dX3_part_55 rfl ?_
  refine r_iconst C dX3_part_56 (by decide) ?_
  refine r_iadd C dX3_part_57 (by omega) ?_
  rw [hsum]
  refine r_cVx C dX3_part_58 mlX3_40 kX3_part (ihP h1' a xw at' fw (pl + 1) gv us n x _ f hr1 hw1 ht1 (by omega) rfl q1 hx hx2 hg hg2) hr1.1 rfl rfl rfl (Nat.le_of_ble_eq_true rfl) (fit hX (by omega)) ?_
  rintro v1 h2' ⟨hv1, pl1, hr2, o2, hpl1, hplb1⟩
  have hw2 : WdR h2' fw wn wt := hw1.off o2 hr1.1 (by decide)
  have ht2 : TxR h2' at' n f := ht1.a1 o2 hr1.1 (by decide)
  obtain ⟨hk1, hk2, hk3⟩ := hok1
  dsimp only at hk2
  refine r_istore C dX3_part_61 (by decide) ?_
  refine r_iload C dX3_part_63 rfl ?_
  refine r_if_ge (tgt := 71) C dX3_part_65 (by decide) (fun hc3 => ?_) (fun hc3 => ?_)
  rotate_left
  · refine r_iload C dX3_part_68 rfl ?_
    rw [ev_neg hc1 hD (by omega)]
    exact r_iret C dX3_part_70 (by decide) (by decide) ⟨v1, rfl, hv1, pl1, hr2, o1.tr o2, fun q => by omega, hplb1.1, hplb1.2⟩
  have hp1 := hpl1 hc3
  subst hp1
  refine r_iload C dX3_part_71 rfl ?_
  refine r_cSi C dX3_part_73 mlX3_53 kX4_isWord (m_SW (c := f pl)) rfl rfl (Nat.le_of_ble_eq_true rfl) (fit hX (by omega)) ?_
  refine r_if_eq (tgt := 91) C dX3_part_76 (by decide) (fun hc4 => ?_) (fun hc4 => ?_)
  rotate_left
  · have hWd : isW (f pl) := zb_n0.mp hc4
    have hez : pe n f d (pl + 1) = e := by
      have : nd (f pl) = 1 := by unfold nd; (repeat' split) <;> omega
      have hk0 : kk = 0 := by omega
      rw [hk0] at q2
      exact q2
    rw [ev_w hc1 hD (by omega) hWd, ← hv1]
    refine r_aload_n C dX3_part_79 rfl ?_
    refine r_iload C dX3_part_80 rfl ?_
    refine r_bipush C dX3_part_82 (by decide) ?_
    refine r_isub C dX3_part_84 (by omega) ?_
    refine r_iload C dX3_part_85 rfl ?_
    refine r_cVx C dX3_part_87 mlX3_54 kX3_give (hG h2' a xw fw (pe n f d (pl + 1)) _ _ (f pl - 97) v1 hr2 hw2 (by omega) (by omega) (by omega) (by omega) (by omega) (by omega) (by omega) (by omega)) hr2.1 rfl rfl rfl (Nat.le_of_ble_eq_true rfl) (fit hX (by omega)) ?_
    rintro v2 h3' ⟨hv2, pl2, hr3, o3, hpl2, hplb2⟩
    exact r_iret C dX3_part_90 (by decide) (by decide) ⟨v2, rfl, hv2, pl2, hr3, o1.tr (o2.tr o3), fun q => by rw [hpl2 q, hez], hplb2.1, hplb2.2⟩
  have hWd : ¬ isW (f pl) := zb_0.mp hc4
  have hnd1 : nd (f pl) ≠ 1 := fun q => hWd (nd1 q)
  obtain ⟨k2, hkk2⟩ : ∃ k2, kk = k2 + 1 := ⟨kk - 1, by omega⟩
  rw [hkk2] at q2
  obtain ⟨q3, q4⟩ := pit_1 q1 q2 h1
  have hb2 := pe_rng n f d (pe n f d (pl + 1)) q1 hb1.2.1
  refine r_iload C dX3_part_91 rfl ?_
  refine r_bipush C dX3_part_93 (by decide) ?_
  refine r_icmp_ne (tgt := 115) C dX3_part_95 (by decide) (fun hc5 => ?_) (fun hc5 => ?_)
  · -- two texts
    have hk20 : k2 = 0 := by
      have : nd (f pl) ≠ 3 := fun q => hc5 (nd3 q)
      omega
    rw [hk20] at q4
    have hez : pe n f d (pe n f d (pl + 1)) = e := q4
    have hok2 := ev_ok (gvN_ok hW o) (n := n) (f := f) d (pe n f d (pl + 1)) x _ _ q1 rfl q3 hx hx2 (by omega) hk3
    obtain ⟨hj1, hj2, hj3⟩ := hok2
    refine r_aload_n C dX3_part_115 rfl ?_
    refine r_aload_n C dX3_part_116 rfl ?_
    refine r_iload_n C dX3_part_117 rfl ?_
    refine r_iload_n C dX3_part_118 rfl ?_
    refine r_iconst C dX3_part_119 (by decide) ?_
    refine r_iadd C dX3_part_120 (by omega) ?_
    rw [hsum]
    refine r_cVx C dX3_part_121 mlX3_40 kX3_part (ihP h2' a xw at' fw (pe n f d (pl + 1)) _ _ n x _ f hr2 hw2 ht2 q1 rfl q3 hx hx2 (by omega) hk3) hr2.1 rfl rfl rfl (Nat.le_of_ble_eq_true rfl) (fit hX (by omega)) ?_
    rintro v2 h3' ⟨hv2, pl2, hr3, o3, hpl2, hplb2⟩
    refine r_istore C dX3_part_124 (by decide) ?_
    refine r_iload C dX3_part_126 rfl ?_
    refine r_if_ge (tgt := 134) C dX3_part_128 (by decide) (fun hc6 => ?_) (fun hc6 => ?_)
    rotate_left
    · refine r_iload C dX3_part_131 rfl ?_
      rw [ev_jn hc1 hD (by omega) hWd hc5 (by rw [← hv2]; omega)]
      exact r_iret C dX3_part_133 (by decide) (by decide) ⟨v2, rfl, hv2, pl2, hr3, o1.tr (o2.tr o3), fun q => by omega, hplb2.1, hplb2.2⟩
    refine r_iload C dX3_part_134 rfl ?_
    refine r_bipush C dX3_part_136 (by decide) ?_
    refine r_icmp_eq (tgt := 151) C dX3_part_138 (by decide) (fun q => absurd q hc5) (fun _ => ?_)
    rw [ev_j hc1 hD (by omega) hWd hc5 (by rw [← hv2]; omega)]
    refine r_iload C dX3_part_141 rfl ?_
    refine r_iload C dX3_part_143 rfl ?_
    refine r_iload C dX3_part_145 rfl ?_
    refine r_cSi C dX3_part_147 mlX3_61 kX4_joined (m_joined (c := f pl) (a := v1) (b := v2) (by omega) (by have hv2' : v2 = (ev (gvN wn wt o) n f d (pe n f d (pl + 1)) x (ev (gvN wn wt o) n f d (pl + 1) x (gv, us)).2).1 := hv2; omega)) rfl rfl (Nat.le_of_ble_eq_true rfl) (fit hX (by omega)) ?_
    exact r_iret C dX3_part_150 (by decide) (by decide) ⟨_, rfl, by rw [hv1, hv2], pl2, hr3, o1.tr (o2.tr o3), fun q => by rw [hpl2 hc6, hez], hplb2.1, hplb2.2⟩
  · -- three texts
    have hn3 : nd (f pl) = 3 := by rw [hc5]; decide
    have hk21 : k2 = 1 := by omega
    rw [hk21] at q4
    obtain ⟨q5, q6⟩ := pit_1 q3 q4 h1
    have hez : pe n f d (pe n f d (pe n f d (pl + 1))) = e := q6
    have hok2 := ev_ok (gvN_ok hW o) (n := n) (f := f) d (pe n f d (pl + 1)) x _ _ q1 rfl q3 hx hx2 (by omega) hk3
    have hok3 := ev_ok (gvN_ok hW o) (n := n) (f := f) d (pe n f d (pe n f d (pl + 1))) x _ _ q3 rfl q5 hx hx2 (by omega) hk3
    have hb3 := pe_rng n f d (pe n f d (pe n f d (pl + 1))) q3 hb2.2.1
    refine r_iload C dX3_part_98 rfl ?_
    refine r_if_eq (tgt := 115) C dX3_part_100 (by decide) (fun hc6 => ?_) (fun hc6 => ?_)
    · -- the second one
      rw [ev_q0 (by omega) hc5 (by omega)]
      refine r_aload_n C dX3_part_115 rfl ?_
      refine r_aload_n C dX3_part_116 rfl ?_
      refine r_iload_n C dX3_part_117 rfl ?_
      refine r_iload_n C dX3_part_118 rfl ?_
      refine r_iconst C dX3_part_119 (by decide) ?_
      refine r_iadd C dX3_part_120 (by omega) ?_
      rw [hsum]
      refine r_cVx C dX3_part_121 mlX3_40 kX3_part (ihP h2' a xw at' fw (pe n f d (pl + 1)) _ _ n x _ f hr2 hw2 ht2 q1 rfl q3 hx hx2 (by omega) hk3) hr2.1 rfl rfl rfl (Nat.le_of_ble_eq_true rfl) (fit hX (by omega)) ?_
      rintro v2 h3' ⟨hv2, pl2, hr3, o3, hpl2, hplb2⟩
      refine r_istore C dX3_part_124 (by decide) ?_
      refine r_iload C dX3_part_126 rfl ?_
      refine r_if_ge (tgt := 134) C dX3_part_128 (by decide) (fun hc7 => ?_) (fun hc7 => ?_)
      rotate_left
      · refine r_iload C dX3_part_131 rfl ?_
        exact r_iret C dX3_part_133 (by decide) (by decide) ⟨v2, rfl, hv2, pl2, hr3, o1.tr (o2.tr o3), fun q => by omega, hplb2.1, hplb2.2⟩
      have hp2 := hpl2 hc7
      subst hp2
      have ht3 : TxR h3' at' n f := ht2.a1 o3 hr2.1 (by decide)
      obtain ⟨b3, t3, t3', m3, g3, hts3, -⟩ := id ht3
      refine r_iload C dX3_part_134 rfl ?_
      refine r_bipush C dX3_part_136 (by decide) ?_
      refine r_icmp_eq (tgt := 151) C dX3_part_138 (by decide) (fun _ => ?_) (fun q => absurd hc5 q)
      refine r_iload C dX3_part_151 rfl ?_
      refine r_if_ne (tgt := 168) C dX3_part_153 (by decide) (fun q => absurd hc6 q) (fun _ => ?_)
      refine r_aload_n C dX3_part_156 rfl ?_
      refine r_aload_n C dX3_part_157 rfl ?_
      refine r_aload_n C dX3_part_158 rfl ?_
      refine r_get C dX3_part_159 flX3_27 hr3.1 rfl ?_
      refine r_cVi C dX3_part_162 mlX3_58 kX6_behind (m_behind ht3 (d := d) q3 hb2.2.1 hez h1) hts3 rfl rfl rfl (Nat.le_of_ble_eq_true rfl) (fit hX (by omega)) ?_
      refine r_putA C dX3_part_165 flX3_27 hr3.1 rfl rfl (fs2 := [vR xw, vI e, vI (ev (gvN wn wt o) n f d (pe n f d (pl + 1)) x (ev (gvN wn wt o) n f d (pl + 1) x (gv, us)).2).2.1, vI (20 - o), vI (ev (gvN wn wt o) n f d (pe n f d (pl + 1)) x (ev (gvN wn wt o) n f d (pl + 1) x (gv, us)).2).2.2]) rfl (fun h4' e4 o4 => ?_)
      refine r_iload C dX3_part_168 rfl ?_
      exact r_iret C dX3_part_170 (by decide) (by decide) ⟨v2, rfl, hv2, e, hr3.off o4 e4, o1.tr (o2.tr (o3.tr o4)), fun _ => rfl, h1, by omega⟩
    · -- the third one
      rw [ev_q1 (by omega) hc5 (by omega)]
      obtain ⟨b3, t3, t3', m3, g3, hts3, -⟩ := id ht2
      refine r_aload_n C dX3_part_103 rfl ?_
      refine r_aload_n C dX3_part_104 rfl ?_
      refine r_aload_n C dX3_part_105 rfl ?_
      refine r_get C dX3_part_106 flX3_27 hr2.1 rfl ?_
      refine r_cVi C dX3_part_109 mlX3_58 kX6_behind (m_behind ht2 (d := d) q1 hb1.2.1 rfl q3) hts3 rfl rfl rfl (Nat.le_of_ble_eq_true rfl) (fit hX (by omega)) ?_
      refine r_putA C dX3_part_112 flX3_27 hr2.1 rfl rfl (fs2 := [vR xw, vI (pe n f d (pe n f d (pl + 1))), vI (ev (gvN wn wt o) n f d (pl + 1) x (gv, us)).2.1, vI (20 - o), vI (ev (gvN wn wt o) n f d (pl + 1) x (gv, us)).2.2]) rfl (fun h4' e4 o4 => ?_)
      have hr4 : RkR h4' a xw fw (pe n f d (pe n f d (pl + 1))) _ (20 - o) _ := hr2.off o4 e4
      have hw4 : WdR h4' fw wn wt := hw2.off o4 hr2.1 (by decide)
      have ht4 : TxR h4' at' n f := ht2.a1 o4 hr2.1 (by decide)
      refine r_aload_n C dX3_part_115 rfl ?_
      refine r_aload_n C dX3_part_116 rfl ?_
      refine r_iload_n C dX3_part_117 rfl ?_
      refine r_iload_n C dX3_part_118 rfl ?_
      refine r_iconst C dX3_part_119 (by decide) ?_
      refine r_iadd C dX3_part_120 (by omega) ?_
      rw [hsum]
      refine r_cVx C dX3_part_121 mlX3_40 kX3_part (ihP h4' a xw at' fw (pe n f d (pe n f d (pl + 1))) _ _ n x _ f hr4 hw4 ht4 q3 rfl q5 hx hx2 (by omega) hk3) hr4.1 rfl rfl rfl (Nat.le_of_ble_eq_true rfl) (fit hX (by omega)) ?_
      rintro v2 h3' ⟨hv2, pl2, hr3, o3, hpl2, hplb2⟩
      refine r_istore C dX3_part_124 (by decide) ?_
      refine r_iload C dX3_part_126 rfl ?_
      refine r_if_ge (tgt := 134) C dX3_part_128 (by decide) (fun hc7 => ?_) (fun hc7 => ?_)
      rotate_left
      · refine r_iload C dX3_part_131 rfl ?_
        exact r_iret C dX3_part_133 (by decide) (by decide) ⟨v2, rfl, hv2, pl2, hr3, o1.tr (o2.tr (o4.tr o3)), fun q => by omega, hplb2.1, hplb2.2⟩
      refine r_iload C dX3_part_134 rfl ?_
      refine r_bipush C dX3_part_136 (by decide) ?_
      refine r_icmp_eq (tgt := 151) C dX3_part_138 (by decide) (fun _ => ?_) (fun q => absurd hc5 q)
      refine r_iload C dX3_part_151 rfl ?_
      refine r_if_ne (tgt := 168) C dX3_part_153 (by decide) (fun _ => ?_) (fun q => absurd q hc6)
      refine r_iload C dX3_part_168 rfl ?_
      exact r_iret C dX3_part_170 (by decide) (by decide) ⟨v2, rfl, hv2, pl2, hr3, o1.tr (o2.tr (o4.tr o3)), fun q => by rw [hpl2 q, hez], hplb2.1, hplb2.2⟩
theorem m_give0 {wn : Int → Int} {wt : Int → Int → Int} : GiveOk wn wt 0 := by
  intro h a xw fw pl gv us w v hr hw h0 h1 hv hv2 hg hg2 hp hp2
  obtain ⟨q, hq, ht⟩ := hw w h0 h1
  obtain ⟨b, t, t', m, g, hts, hta, -⟩ := id ht
  refine Meets.of (plainFor_of_name (by decide)) (Nat.le_of_ble_eq_true rfl) (fun X C hX hN hA => ?_)
  refine r_iload_n C dX3_give_0 rfl ?_
  refine r_cNi C dX3_give_1 C.K.2.2.2.2 kX7_isWord (m_isWord (c := w)) rfl rfl (Nat.le_of_ble_eq_true rfl) (fit hX (by omega)) ?_
  rw [zb_t ⟨h0, h1⟩]
  refine r_if_ne (tgt := 10) C dX3_give_4 (by decide) (fun _ => ?_) (fun q => absurd q (by decide))
  refine r_aload_n C dX3_give_10 rfl ?_
  refine r_get C dX3_give_11 flX3_11 hr.1 rfl ?_
  refine r_iload_n C dX3_give_14 rfl ?_
  refine r_aald C dX3_give_15 hr.2 (by omega) (by omega) hq ?_
  refine r_cVi C dX3_give_16 mlX3_65 kX6_count (m_count ht) hts rfl rfl rfl (Nat.le_of_ble_eq_true rfl) (fit hX (by omega)) ?_
  refine r_if_ne (tgt := 26) C dX3_give_19 (by decide) (fun hc1 => ?_) (fun hc1 => ?_)
  · -- there is a text: ENDLESS
    refine r_iconst C dX3_give_26 (by decide) ?_
    refine r_istore_n C dX3_give_27 (by decide) ?_
    refine r_iload_n C dX3_give_28 rfl ?_
    refine r_if_ne (tgt := 54) C dX3_give_29 (by decide) (fun q => absurd rfl q) (fun _ => ?_)
    have hend : Go X (Qm X (pX (evP (gvN wn wt 0 w v (gv, us)) a xw fw (20 - (0 : Nat)) pl h)) 0 0) 0 0 h 51 [some (vR a), some (vI w), some (vI v), some (vI 0), none, none] [] := by
      refine r_bipush C dX3_give_51 (by decide) ?_
      exact r_iret C dX3_give_53 (by decide) (by decide) ⟨-11, rfl, by show -11 = (if wn w = 0 then ((-10 : Int), (gv, bOr us (bShl 1 w))) else (-11, (gv, us))).1; rw [if_neg hc1], pl, by show RkR h a xw fw pl (if wn w = 0 then ((-10 : Int), (gv, bOr us (bShl 1 w))) else (-11, (gv, us))).2.1 _ (if wn w = 0 then ((-10 : Int), (gv, bOr us (bShl 1 w))) else (-11, (gv, us))).2.2; rw [if_neg hc1]; exact hr, Off.rf, fun _ => rfl, hp, hp2⟩
    refine r_aload_n C dX3_give_32 rfl ?_
    refine r_get C dX3_give_33 flX3_31 hr.1 rfl ?_
    refine r_sipush C dX3_give_36 (by decide) ?_
    refine r_icmp_ge (tgt := 51) C dX3_give_39 (by decide) (fun hc2 => ?_) (fun hc2 => ?_)
    · exact hend
    · refine r_aload_n C dX3_give_42 rfl ?_
      refine r_get C dX3_give_43 flX3_34 hr.1 rfl ?_
      refine r_bipush C dX3_give_46 (by decide) ?_
      refine r_icmp_lt (tgt := 54) C dX3_give_48 (by decide) (fun q => absurd q (by decide)) (fun _ => ?_)
      exact hend
  · -- GONE
    refine r_iconst C dX3_give_22 (by decide) ?_
    refine r_goto (tgt := 27) C dX3_give_23 (by decide) ?_
    refine r_istore_n C dX3_give_27 (by decide) ?_
    refine r_iload_n C dX3_give_28 rfl ?_
    refine r_if_ne (tgt := 54) C dX3_give_29 (by decide) (fun _ => ?_) (fun q => absurd q (by decide))
    refine r_aload_n C dX3_give_54 rfl ?_
    refine r_dup C dX3_give_55 ?_
    refine r_get C dX3_give_56 flX3_37 hr.1 rfl ?_
    refine r_iconst C dX3_give_59 (by decide) ?_
    refine r_iload_n C dX3_give_60 rfl ?_
    refine r_ishl C dX3_give_61 ?_
    refine r_ior C dX3_give_62 ?_
    refine r_putA C dX3_give_63 flX3_37 hr.1 rfl rfl (fs2 := [vR xw, vI pl, vI gv, vI (20 - (0 : Nat)), vI (bOr us (bShl 1 w))]) rfl (fun h1' e1 o1 => ?_)
    refine r_iload_n C dX3_give_66 rfl ?_
    refine r_if_eq (tgt := 73) C dX3_give_67 (by decide) (fun q => absurd q (by decide)) (fun _ => ?_)
    refine r_bipush C dX3_give_70 (by decide) ?_
    exact r_iret C dX3_give_72 (by decide) (by decide) ⟨-10, rfl, by show -10 = (if wn w = 0 then ((-10 : Int), (gv, bOr us (bShl 1 w))) else (-11, (gv, us))).1; rw [if_pos hc1], pl, by show RkR h1' a xw fw pl (if wn w = 0 then ((-10 : Int), (gv, bOr us (bShl 1 w))) else (-11, (gv, us))).2.1 _ (if wn w = 0 then ((-10 : Int), (gv, bOr us (bShl 1 w))) else (-11, (gv, us))).2.2; rw [if_pos hc1]; exact hr.off o1 e1, o1, fun _ => rfl, hp, hp2⟩
theorem gv_gone {wn : Int → Int} {wt : Int → Int → Int} {o : Nat} {w v : Int} {s : Int × Int} (h : wn w = 0) : gvN wn wt (o + 1) w v s = (-10, (s.1, bOr s.2 (bShl 1 w))) := if_pos h
theorem gv_end {wn : Int → Int} {wt : Int → Int → Int} {o : Nat} {w v : Int} {s : Int × Int} (h : ¬ wn w = 0) (h2 : 300 ≤ s.1) : gvN wn wt (o + 1) w v s = (-11, s) := (if_neg h).trans (if_pos h2)
theorem gv_in {wn : Int → Int} {wt : Int → Int → Int} {o : Nat} {w v : Int} {s : Int × Int} (h : ¬ wn w = 0) (h2 : ¬ 300 ≤ s.1) : gvN wn wt (o + 1) w v s = ev (gvN wn wt o) (wn w) (wt w) 6 0 v (s.1 + 1, bOr s.2 (bShl 1 w)) := (if_neg h).trans (if_neg h2)
theorem m_giveS {wn : Int → Int} {wt : Int → Int → Int} {o : Nat} (ho : o + 1 ≤ 20) (hW : okW wn wt) (hP : PartOk wn wt o 6) : GiveOk wn wt (o + 1) := by
  intro h a xw fw pl gv us w v hr hw h0 h1 hv hv2 hg hg2 hp hp2
  obtain ⟨q, hq, ht⟩ := hw w h0 h1
  obtain ⟨b, t, t', m, g, hts, hta, -⟩ := id ht
  have hop : (20 : Int) - ((o + 1 : Nat) : Int) + 1 = 20 - (o : Int) := by omega
  have hop2 : (20 : Int) - (o : Int) - 1 = 20 - ((o + 1 : Nat) : Int) := by omega
  refine Meets.of (plainFor_of_name (by decide)) (Nat.le_of_ble_eq_true rfl) (fun X C hX hN hA => ?_)
  refine r_iload_n C dX3_give_0 rfl ?_
  refine r_cNi C dX3_give_1 C.K.2.2.2.2 kX7_isWord (m_isWord (c := w)) rfl rfl (Nat.le_of_ble_eq_true rfl) (fit hX (by omega)) ?_
  rw [zb_t ⟨h0, h1⟩]
  refine r_if_ne (tgt := 10) C dX3_give_4 (by decide) (fun _ => ?_) (fun q => absurd q (by decide))
  refine r_aload_n C dX3_give_10 rfl ?_
  refine r_get C dX3_give_11 flX3_11 hr.1 rfl ?_
  refine r_iload_n C dX3_give_14 rfl ?_
  refine r_aald C dX3_give_15 hr.2 (by omega) (by omega) hq ?_
  refine r_cVi C dX3_give_16 mlX3_65 kX6_count (m_count ht) hts rfl rfl rfl (Nat.le_of_ble_eq_true rfl) (fit hX (by omega)) ?_
  refine r_if_ne (tgt := 26) C dX3_give_19 (by decide) (fun hc1 => ?_) (fun hc1 => ?_)
  rotate_left
  · -- GONE
    rw [gv_gone hc1]
    refine r_iconst C dX3_give_22 (by decide) ?_
    refine r_goto (tgt := 27) C dX3_give_23 (by decide) ?_
    refine r_istore_n C dX3_give_27 (by decide) ?_
    refine r_iload_n C dX3_give_28 rfl ?_
    refine r_if_ne (tgt := 54) C dX3_give_29 (by decide) (fun _ => ?_) (fun q => absurd q (by decide))
    refine r_aload_n C dX3_give_54 rfl ?_
    refine r_dup C dX3_give_55 ?_
    refine r_get C dX3_give_56 flX3_37 hr.1 rfl ?_
    refine r_iconst C dX3_give_59 (by decide) ?_
    refine r_iload_n C dX3_give_60 rfl ?_
    refine r_ishl C dX3_give_61 ?_
    refine r_ior C dX3_give_62 ?_
    refine r_putA C dX3_give_63 flX3_37 hr.1 rfl rfl (fs2 := [vR xw, vI pl, vI gv, vI (20 - ((o + 1 : Nat) : Int)), vI (bOr us (bShl 1 w))]) rfl (fun h1' e1 o1 => ?_)
    refine r_iload_n C dX3_give_66 rfl ?_
    refine r_if_eq (tgt := 73) C dX3_give_67 (by decide) (fun q => absurd q (by decide)) (fun _ => ?_)
    refine r_bipush C dX3_give_70 (by decide) ?_
    exact r_iret C dX3_give_72 (by decide) (by decide) ⟨-10, rfl, rfl, pl, hr.off o1 e1, o1, fun _ => rfl, hp, hp2⟩
  refine r_iconst C dX3_give_26 (by decide) ?_
  refine r_istore_n C dX3_give_27 (by decide) ?_
  refine r_iload_n C dX3_give_28 rfl ?_
  refine r_if_ne (tgt := 54) C dX3_give_29 (by decide) (fun q => absurd rfl q) (fun _ => ?_)
  refine r_aload_n C dX3_give_32 rfl ?_
  refine r_get C dX3_give_33 flX3_31 hr.1 rfl ?_
  refine r_sipush C dX3_give_36 (by decide) ?_
  refine r_icmp_ge (tgt := 51) C dX3_give_39 (by decide) (fun hc2 => ?_) (fun hc2 => ?_)
  · -- ENDLESS
    rw [gv_end hc1 hc2]
    refine r_bipush C dX3_give_51 (by decide) ?_
    exact r_iret C dX3_give_53 (by decide) (by decide) ⟨-11, rfl, rfl, pl, hr, Off.rf, fun _ => rfl, hp, hp2⟩
  refine r_aload_n C dX3_give_42 rfl ?_
  refine r_get C dX3_give_43 flX3_34 hr.1 rfl ?_
  refine r_bipush C dX3_give_46 (by decide) ?_
  refine r_icmp_lt (tgt := 54) C dX3_give_48 (by decide) (fun _ => ?_) (fun q => absurd q (by omega))
  rw [gv_in hc1 (by show ¬ 300 ≤ gv; omega)]
  rcases hW w h0 h1 with h4 | ⟨h4, h5⟩
  · exact absurd h4 hc1
  have hok := ev_ok (gvN_ok hW o) 6 0 v _ (gv + 1, bOr us (bShl 1 w)) (Int.le_refl 0) h5 (by omega) hv hv2 (by show 0 ≤ gv + 1; omega) (by show gv + 1 ≤ 300; omega)
  refine r_aload_n C dX3_give_54 rfl ?_
  refine r_dup C dX3_give_55 ?_
  refine r_get C dX3_give_56 flX3_37 hr.1 rfl ?_
  refine r_iconst C dX3_give_59 (by decide) ?_
  refine r_iload_n C dX3_give_60 rfl ?_
  refine r_ishl C dX3_give_61 ?_
  refine r_ior C dX3_give_62 ?_
  refine r_putA C dX3_give_63 flX3_37 hr.1 rfl rfl (fs2 := [vR xw, vI pl, vI gv, vI (20 - ((o + 1 : Nat) : Int)), vI (bOr us (bShl 1 w))]) rfl (fun h1' e1 o1 => ?_)
  have hr1 := hr.off o1 e1
  refine r_iload_n C dX3_give_66 rfl ?_
  refine r_if_eq (tgt := 73) C dX3_give_67 (by decide) (fun _ => ?_) (fun q => absurd rfl q)
  refine r_aload_n C dX3_give_73 rfl ?_
  refine r_dup C dX3_give_74 ?_
  refine r_get C dX3_give_75 flX3_31 hr1.1 rfl ?_
  refine r_iconst C dX3_give_78 (by decide) ?_
  refine r_iadd C dX3_give_79 (by omega) ?_
  refine r_putA C dX3_give_80 flX3_31 hr1.1 rfl rfl (fs2 := [vR xw, vI pl, vI (gv + 1), vI (20 - ((o + 1 : Nat) : Int)), vI (bOr us (bShl 1 w))]) rfl (fun h2' e2 o2 => ?_)
  have hr2 := hr1.off o2 e2
  refine r_aload_n C dX3_give_83 rfl ?_
  refine r_dup C dX3_give_84 ?_
  refine r_get C dX3_give_85 flX3_34 hr2.1 rfl ?_
  refine r_iconst C dX3_give_88 (by decide) ?_
  refine r_iadd C dX3_give_89 (by omega) ?_
  rw [hop]
  refine r_putA C dX3_give_90 flX3_34 hr2.1 rfl rfl (fs2 := [vR xw, vI pl, vI (gv + 1), vI (20 - (o : Int)), vI (bOr us (bShl 1 w))]) rfl (fun h3' e3 o3 => ?_)
  have hr3 := hr2.off o3 e3
  refine r_aload_n C dX3_give_93 rfl ?_
  refine r_get C dX3_give_94 flX3_27 hr3.1 rfl ?_
  refine r_istore C dX3_give_97 (by decide) ?_
  refine r_aload_n C dX3_give_99 rfl ?_
  refine r_iconst C dX3_give_100 (by decide) ?_
  refine r_putA C dX3_give_101 flX3_27 hr3.1 rfl rfl (fs2 := [vR xw, vI 0, vI (gv + 1), vI (20 - (o : Int)), vI (bOr us (bShl 1 w))]) rfl (fun h4' e4 o4 => ?_)
  have hr4 : RkR h4' a xw fw 0 (gv + 1) (20 - o) (bOr us (bShl 1 w)) := hr3.off o4 e4
  have o14 := o1.tr (o2.tr (o3.tr o4))
  have hw4 : WdR h4' fw wn wt := hw.off o14 hr.1 (by decide)
  have ht4 : TxR h4' q (wn w) (wt w) := ht.a1 o14 hr.1 (by decide)
  refine r_aload_n C dX3_give_104 rfl ?_
  refine r_aload_n C dX3_give_105 rfl ?_
  refine r_get C dX3_give_106 flX3_11 hr4.1 rfl ?_
  refine r_iload_n C dX3_give_109 rfl ?_
  refine r_aald C dX3_give_110 hr4.2 (by omega) (by omega) hq ?_
  refine r_iload_n C dX3_give_111 rfl ?_
  refine r_iconst C dX3_give_112 (by decide) ?_
  refine r_cVx C dX3_give_113 mlX3_40 kX3_part (hP h4' a xw q fw 0 (gv + 1) (bOr us (bShl 1 w)) (wn w) v _ (wt w) hr4 hw4 ht4 (Int.le_refl 0) h5 (by omega) hv hv2 (by omega) (by omega)) hr4.1 rfl rfl rfl (Nat.le_of_ble_eq_true rfl) (fit hX (by omega)) ?_
  rintro v1 h5' ⟨hv1, pl1, hr5, o5, hpl1, hplb1⟩
  refine r_istore C dX3_give_116 (by decide) ?_
  refine r_aload_n C dX3_give_118 rfl ?_
  refine r_iload C dX3_give_119 rfl ?_
  refine r_putA C dX3_give_121 flX3_27 hr5.1 rfl rfl (fs2 := [vR xw, vI pl, vI (ev (gvN wn wt o) (wn w) (wt w) 6 0 v (gv + 1, bOr us (bShl 1 w))).2.1, vI (20 - (o : Int)), vI (ev (gvN wn wt o) (wn w) (wt w) 6 0 v (gv + 1, bOr us (bShl 1 w))).2.2]) rfl (fun h6' e6 o6 => ?_)
  have hr6 := hr5.off o6 e6
  refine r_aload_n C dX3_give_124 rfl ?_
  refine r_dup C dX3_give_125 ?_
  refine r_get C dX3_give_126 flX3_34 hr6.1 rfl ?_
  refine r_iconst C dX3_give_129 (by decide) ?_
  refine r_isub C dX3_give_130 (by omega) ?_
  rw [hop2]
  refine r_putA C dX3_give_131 flX3_34 hr6.1 rfl rfl (fs2 := [vR xw, vI pl, vI (ev (gvN wn wt o) (wn w) (wt w) 6 0 v (gv + 1, bOr us (bShl 1 w))).2.1, vI (20 - ((o + 1 : Nat) : Int)), vI (ev (gvN wn wt o) (wn w) (wt w) 6 0 v (gv + 1, bOr us (bShl 1 w))).2.2]) rfl (fun h7' e7 o7 => ?_)
  refine r_iload C dX3_give_134 rfl ?_
  exact r_iret C dX3_give_136 (by decide) (by decide) ⟨v1, rfl, hv1, pl, hr6.off o7 e7, o14.tr (o5.tr (o6.tr o7)), fun _ => rfl, hp, hp2⟩
theorem part_all {wn : Int → Int} {wt : Int → Int → Int} (hW : okW wn wt) : ∀ (o : Nat), o ≤ 20 → (GiveOk wn wt o ∧ ∀ d, d ≤ 6 → PartOk wn wt o d) := by
  intro o
  induction o with
  | zero =>
    intro _
    refine ⟨m_give0, fun d => ?_⟩
    induction d with
    | zero => intro _; exact m_part0
    | succ d ih => intro hd; exact m_partS hd hW (ih (by omega)) m_give0
  | succ o iho =>
    intro ho
    have hG := m_giveS ho hW ((iho (by omega)).2 6 (by omega))
    refine ⟨hG, fun d => ?_⟩
    induction d with
    | zero => intro _; exact m_part0
    | succ d ih => intro hd; exact m_partS hd hW (ih (by omega)) hG
/-- what the text comes to, and what it used -/
theorem m_outcome {wn : Int → Int} {wt : Int → Int → Int} {h : Pic} {a xw at' : Nat} {fw : Int → Option Nat} {pl gv op us n x : Int} {f : Int → Int} (hW : okW wn wt) (hr : RkR h a xw fw pl gv op us) (hw : WdR h fw wn wt) (ht : TxR h at' n f) (he : pe n f 6 0 = n) (hx : 0 ≤ x) (hx2 : x ≤ 999) :
    Meets yX3_outcome cX3_outcome 3 (some .int) 189 0 0 [vR a, vR at', vI x] h (pX (fun v h' => v = (evT wn wt n f x).1 ∧ ∃ pl' gv' op', RkR h' a xw fw pl' gv' op' (evT wn wt n f x).2.2 ∧ Off [a] h h')) := by
  obtain ⟨b, t, t', m, g, hts, hta, h0, -⟩ := id ht
  refine Meets.of (plainFor_of_name (by decide)) (Nat.le_of_ble_eq_true rfl) (fun X C hX hN hA => ?_)
  refine r_aload_n C dX3_outcome_0 rfl ?_
  refine r_iconst C dX3_outcome_1 (by decide) ?_
  refine r_putA C dX3_outcome_2 flX3_27 hr.1 rfl rfl (fs2 := [vR xw, vI 0, vI gv, vI op, vI us]) rfl (fun h1' e1 o1 => ?_)
  have hr1 := hr.off o1 e1
  refine r_aload_n C dX3_outcome_5 rfl ?_
  refine r_iconst C dX3_outcome_6 (by decide) ?_
  refine r_putA C dX3_outcome_7 flX3_31 hr1.1 rfl rfl (fs2 := [vR xw, vI 0, vI 0, vI op, vI us]) rfl (fun h2' e2 o2 => ?_)
  have hr2 := hr1.off o2 e2
  refine r_aload_n C dX3_outcome_10 rfl ?_
  refine r_iconst C dX3_outcome_11 (by decide) ?_
  refine r_putA C dX3_outcome_12 flX3_34 hr2.1 rfl rfl (fs2 := [vR xw, vI 0, vI 0, vI 0, vI us]) rfl (fun h3' e3 o3 => ?_)
  have hr3 := hr2.off o3 e3
  refine r_aload_n C dX3_outcome_15 rfl ?_
  refine r_iconst C dX3_outcome_16 (by decide) ?_
  refine r_putA C dX3_outcome_17 flX3_37 hr3.1 rfl rfl (fs2 := [vR xw, vI 0, vI 0, vI 0, vI 0]) rfl (fun h4' e4 o4 => ?_)
  have hr4 : RkR h4' a xw fw 0 0 (20 - (20 : Nat)) 0 := hr3.off o4 e4
  have o14 := o1.tr (o2.tr (o3.tr o4))
  refine r_aload_n C dX3_outcome_20 rfl ?_
  refine r_aload_n C dX3_outcome_21 rfl ?_
  refine r_iload_n C dX3_outcome_22 rfl ?_
  refine r_iconst C dX3_outcome_23 (by decide) ?_
  refine r_cVx C dX3_outcome_24 mlX3_40 kX3_part (((part_all hW 20 (Nat.le_refl _)).2 6 (Nat.le_refl _)) h4' a xw at' fw 0 0 0 n x _ f hr4 (hw.off o14 hr.1 (by decide)) (ht.a1 o14 hr.1 (by decide)) (Int.le_refl 0) he h0 hx hx2 (by omega) (by omega)) hr4.1 rfl rfl rfl (Nat.le_of_ble_eq_true rfl) (fit hX (by decide)) ?_
  rintro v1 h5' ⟨hv1, pl1, hr5, o5, -⟩
  exact r_iret C dX3_outcome_27 (by decide) (by decide) ⟨v1, rfl, hv1, pl1, _, _, hr5, o14.tr o5⟩
end
section
/-! Book: VERSIONS and PAGES -/
/-- all cells but those with a mark of S are kept -/
def Kp (S : Nat → Prop) (h h' : Pic) : Prop := ∀ a t b, h a = some (t, b) → ¬ S t → h' a = some (t, b)
theorem Kp.rf {S : Nat → Prop} {h : Pic} : Kp S h h := fun _ _ _ e _ => e
theorem Kp.tr {S : Nat → Prop} {h h' h'' : Pic} (x : Kp S h h') (y : Kp S h' h'') : Kp S h h'' := fun a t b e n => y a t b (x a t b e n) n
theorem Kp.mono {S S' : Nat → Prop} {h h' : Pic} (x : Kp S h h') (hs : ∀ t, S t → S' t) : Kp S' h h' := fun a t b e n => x a t b e (fun q => n (hs t q))
theorem Off.kp {h h' : Pic} {a t0 : Nat} {b0 : Bd} {S : Nat → Prop} (x : Off [a] h h') (ha : h a = some (t0, b0)) (hs : S t0) : Kp S h h' := fun q t b e n => (x q (by simp; exact ne_of e ha (fun z => n (by cases z; exact hs)))).trans e
theorem Off.kpN {h h' : Pic} {l : List Nat} {S : Nat → Prop} (x : Off l h h') (hl : ∀ q ∈ l, h q = none) : Kp S h h' := fun q t b e _ => (x q (fun z => by rw [hl q z] at e; cases e)).trans e
/-- bits of the places that have P -/
noncomputable def bitsN (P : Int → Prop) : Nat → Int
  | 0 => 0
  | j + 1 => by classical exact if P j then bOr (bitsN P j) (bShl 1 j) else bitsN P j
noncomputable def bt (P : Int → Prop) (i : Int) : Int := bitsN P i.toNat
theorem bt_0 (P : Int → Prop) : bt P 0 = 0 := rfl
theorem bt_t {P : Int → Prop} {i : Int} (h0 : 0 ≤ i) (hp : P i) : bt P (i + 1) = bOr (bt P i) (bShl 1 i) := by
  unfold bt
  have e : (i + 1).toNat = i.toNat + 1 := by omega
  have e2 : ((i.toNat : Nat) : Int) = i := by omega
  rw [e]
  conv => lhs; unfold bitsN
  rw [if_pos (by rw [e2]; exact hp), e2]
theorem bt_f {P : Int → Prop} {i : Int} (h0 : 0 ≤ i) (hp : ¬ P i) : bt P (i + 1) = bt P i := by
  unfold bt
  have e : (i + 1).toNat = i.toNat + 1 := by omega
  have e2 : ((i.toNat : Nat) : Int) = i := by omega
  rw [e]
  conv => lhs; unfold bitsN
  rw [if_neg (by rw [e2]; exact hp)]
/-- a text of the pool: nobody changes it -/
def TxP (h : Pic) (o : Option Nat) (n : Int) (f : Int → Int) : Prop := ∃ (q b : Nat) (m : Int) (g : Int → Int), o = some q ∧ h q = some (ob 5 6 [vR b, vI n]) ∧ h b = some (ia 6 1 m g) ∧ 0 ≤ n ∧ n ≤ m ∧ n ≤ 40 ∧ ∀ i, 0 ≤ i → i < n → g i = f i ∧ 0 ≤ f i ∧ f i ≤ 126
theorem TxP.R {h : Pic} {q : Nat} {n : Int} {f : Int → Int} (ht : TxP h (some q) n f) : TxR h q n f := by
  obtain ⟨q', b, m, g, e, r⟩ := ht
  cases e
  exact ⟨b, 5, 6, m, g, r⟩
theorem TxP.kp {h h' : Pic} {S : Nat → Prop} {o : Option Nat} {n : Int} {f : Int → Int} (ht : TxP h o n f) (x : Kp S h h') (h5 : ¬ S 5) (h6 : ¬ S 6) : TxP h' o n f := by
  obtain ⟨q, b, m, g, e, h1, h2, r⟩ := ht
  exact ⟨q, b, m, g, e, x _ _ _ h1 h5, x _ _ _ h2 h6, r⟩
def BkR (h : Pic) (a T : Nat) (vs pg : Int) (mn : Int → Int) (tx : Int → Int → Int) (tl du : Int → Int) : Prop := ∃ (nt x1 x2 x3 x4 x5 : Nat) (ft fs : Int → Option Nat) (f2 f4 f5 : Int → Int),
  (h a = some (ob T 0 [vR nt, vR x1, vR x2, vR x3, vR x4, vR x5, vI vs, vI pg]) ∧ h x1 = some (ra (T + 1) 0 48 ft) ∧ h x2 = some (ia (T + 2) 0 12 f2) ∧ h x3 = some (ra (T + 3) 0 12 fs) ∧ h x4 = some (ia (T + 4) 0 12 f4) ∧ h x5 = some (ia (T + 5) 0 12 f5)) ∧
  TxP h (some nt) 0 (fun _ => 0) ∧ (1 ≤ vs ∧ vs ≤ 6) ∧ (0 ≤ pg ∧ pg ≤ 12) ∧ (∀ t, 0 ≤ t → t < 48 → TxP h (ft t) (mn t) (tx t)) ∧ (∀ p, 0 ≤ p → p < 12 → TxP h (fs p) (mn (48 + p)) (tx (48 + p))) ∧ (∀ p, 0 ≤ p → p < 12 → f4 p = nmd (mn (48 + p)) (tx (48 + p)) ∧ f2 p = tl p ∧ f5 p = du p)
theorem BkR.kp {h h' : Pic} {S : Nat → Prop} {a T : Nat} {vs pg : Int} {mn : Int → Int} {tx : Int → Int → Int} {tl du : Int → Int} (hb : BkR h a T vs pg mn tx tl du) (x : Kp S h h') (h5 : ¬ S 5) (h6 : ¬ S 6) (hT : ∀ t, T ≤ t → t ≤ T + 5 → ¬ S t) : BkR h' a T vs pg mn tx tl du := by
  obtain ⟨nt, x1, x2, x3, x4, x5, ft, fs, f2, f4, f5, ⟨e0, e1, e2, e3, e4, e5⟩, hn, hv, hp, h1, h2, h3⟩ := hb
  exact ⟨nt, x1, x2, x3, x4, x5, ft, fs, f2, f4, f5, ⟨x _ _ _ e0 (hT _ (by omega) (by omega)), x _ _ _ e1 (hT _ (by omega) (by omega)), x _ _ _ e2 (hT _ (by omega) (by omega)), x _ _ _ e3 (hT _ (by omega) (by omega)), x _ _ _ e4 (hT _ (by omega) (by omega)), x _ _ _ e5 (hT _ (by omega) (by omega))⟩, hn.kp x h5 h6, hv, hp, fun t q1 q2 => (h1 t q1 q2).kp x h5 h6, fun p q1 q2 => (h2 p q1 q2).kp x h5 h6, h3⟩
section
variable {h : Pic} {a T : Nat} {vs pg : Int} {mn : Int → Int} {tx : Int → Int → Int} {tl du : Int → Int}
theorem m_versions (hb : BkR h a T vs pg mn tx tl du) : Meets yX0_versions cX0_versions 1 (some .int) 0 0 0 [vR a] h (pI vs h) := by
  obtain ⟨nt, x1, x2, x3, x4, x5, ft, fs, f2, f4, f5, ⟨hs, e1, e2, e3, e4, e5⟩, hn, hv, hp, hw1, hw2, hw3⟩ := hb
  refine Meets.of (plainFor_of_name (by decide)) (Nat.le_of_ble_eq_true rfl) (fun X C hX hN hA => ?_)
  refine r_aload_n C dX0_versions_0 rfl ?_
  refine r_get C dX0_versions_1 flX0_34 hs rfl ?_
  exact r_iret C dX0_versions_4 (by decide) (by decide) (⟨rfl, rfl⟩)
theorem m_pages (hb : BkR h a T vs pg mn tx tl du) : Meets yX0_pages cX0_pages 1 (some .int) 0 0 0 [vR a] h (pI pg h) := by
  obtain ⟨nt, x1, x2, x3, x4, x5, ft, fs, f2, f4, f5, ⟨hs, e1, e2, e3, e4, e5⟩, hn, hv, hp, hw1, hw2, hw3⟩ := hb
  refine Meets.of (plainFor_of_name (by decide)) (Nat.le_of_ble_eq_true rfl) (fun X C hX hN hA => ?_)
  refine r_aload_n C dX0_pages_0 rfl ?_
  refine r_get C dX0_pages_1 flX0_38 hs rfl ?_
  exact r_iret C dX0_pages_4 (by decide) (by decide) (⟨rfl, rfl⟩)
theorem m_hasVersion {v : Int} (hb : BkR h a T vs pg mn tx tl du) : Meets yX0_hasVersion cX0_hasVersion 2 (some .boolean) 0 0 0 [vR a, vI v] h (pI (zb (0 ≤ v ∧ v < vs)) h) := by
  obtain ⟨nt, x1, x2, x3, x4, x5, ft, fs, f2, f4, f5, ⟨hs, e1, e2, e3, e4, e5⟩, hn, hv, hp, hw1, hw2, hw3⟩ := hb
  refine Meets.of (plainFor_of_name (by decide)) (Nat.le_of_ble_eq_true rfl) (fun X C hX hN hA => ?_)
  refine r_iload_n C dX0_hasVersion_0 rfl ?_
  refine r_if_lt (tgt := 16) C dX0_hasVersion_1 (by decide) (fun hc1 => ?_) (fun hc1 => ?_)
  · refine r_iconst C dX0_hasVersion_16 (by decide) ?_
    exact r_zret C dX0_hasVersion_17 (by omega) (by decide) (by decide) (⟨some_I (by first | (rw [zb_t (by omega)]; done) | (rw [zb_f (by omega)]; done)), rfl⟩)
  · refine r_iload_n C dX0_hasVersion_4 rfl ?_
    refine r_aload_n C dX0_hasVersion_5 rfl ?_
    refine r_get C dX0_hasVersion_6 flX0_34 hs rfl ?_
    refine r_icmp_ge (tgt := 16) C dX0_hasVersion_9 (by decide) (fun hc9 => ?_) (fun hc9 => ?_)
    · refine r_iconst C dX0_hasVersion_16 (by decide) ?_
      exact r_zret C dX0_hasVersion_17 (by omega) (by decide) (by decide) (⟨some_I (by first | (rw [zb_t (by omega)]; done) | (rw [zb_f (by omega)]; done)), rfl⟩)
    · refine r_iconst C dX0_hasVersion_12 (by decide) ?_
      refine r_goto (tgt := 17) C dX0_hasVersion_13 (by decide) ?_
      exact r_zret C dX0_hasVersion_17 (by omega) (by decide) (by decide) (⟨some_I (by first | (rw [zb_t (by omega)]; done) | (rw [zb_f (by omega)]; done)), rfl⟩)
theorem m_hasPage {p : Int} (hb : BkR h a T vs pg mn tx tl du) : Meets yX0_hasPage cX0_hasPage 2 (some .boolean) 0 0 0 [vR a, vI p] h (pI (zb (0 ≤ p ∧ p < pg)) h) := by
  obtain ⟨nt, x1, x2, x3, x4, x5, ft, fs, f2, f4, f5, ⟨hs, e1, e2, e3, e4, e5⟩, hn, hv, hp, hw1, hw2, hw3⟩ := hb
  refine Meets.of (plainFor_of_name (by decide)) (Nat.le_of_ble_eq_true rfl) (fun X C hX hN hA => ?_)
  refine r_iload_n C dX0_hasPage_0 rfl ?_
  refine r_if_lt (tgt := 16) C dX0_hasPage_1 (by decide) (fun hc1 => ?_) (fun hc1 => ?_)
  · refine r_iconst C dX0_hasPage_16 (by decide) ?_
    exact r_zret C dX0_hasPage_17 (by omega) (by decide) (by decide) (⟨some_I (by first | (rw [zb_t (by omega)]; done) | (rw [zb_f (by omega)]; done)), rfl⟩)
  · refine r_iload_n C dX0_hasPage_4 rfl ?_
    refine r_aload_n C dX0_hasPage_5 rfl ?_
    refine r_get C dX0_hasPage_6 flX0_38 hs rfl ?_
    refine r_icmp_ge (tgt := 16) C dX0_hasPage_9 (by decide) (fun hc9 => ?_) (fun hc9 => ?_)
    · refine r_iconst C dX0_hasPage_16 (by decide) ?_
      exact r_zret C dX0_hasPage_17 (by omega) (by decide) (by decide) (⟨some_I (by first | (rw [zb_t (by omega)]; done) | (rw [zb_f (by omega)]; done)), rfl⟩)
    · refine r_iconst C dX0_hasPage_12 (by decide) ?_
      refine r_goto (tgt := 17) C dX0_hasPage_13 (by decide) ?_
      exact r_zret C dX0_hasPage_17 (by omega) (by decide) (by decide) (⟨some_I (by first | (rw [zb_t (by omega)]; done) | (rw [zb_f (by omega)]; done)), rfl⟩)
theorem m_isExample {p : Int} (hb : BkR h a T vs pg mn tx tl du) : Meets yX0_isExample cX0_isExample 2 (some .boolean) 1 0 0 [vR a, vI p] h (pI (zb (0 ≤ p ∧ p < pg ∧ tl p = -6)) h) := by
  obtain ⟨nt, x1, x2, x3, x4, x5, ft, fs, f2, f4, f5, ⟨hs, e1, e2, e3, e4, e5⟩, hn, hv, hp, hw1, hw2, hw3⟩ := id hb
  refine Meets.of (plainFor_of_name (by decide)) (Nat.le_of_ble_eq_true rfl) (fun X C hX hN hA => ?_)
  refine r_aload_n C dX0_isExample_0 rfl ?_
  refine r_iload_n C dX0_isExample_1 rfl ?_
  refine r_cVi C dX0_isExample_2 mlX0_56 kX0_hasPage (m_hasPage (p := p) hb) hs rfl rfl rfl (Nat.le_of_ble_eq_true rfl) (fit hX (by decide)) ?_
  refine r_if_eq (tgt := 23) C dX0_isExample_5 (by decide) (fun hc5 => ?_) (fun hc5 => ?_)
  · refine r_iconst C dX0_isExample_23 (by decide) ?_
    exact r_zret C dX0_isExample_24 (by omega) (by decide) (by decide) (⟨some_I (by first | (rw [zb_t (by omega)]; done) | (rw [zb_f (by omega)]; done) | (rw [zb_f (fun z => zb_0.mp hc5 ⟨z.1, z.2.1⟩)]; done)), rfl⟩)
  · have hq := zb_n0.mp hc5
    refine r_aload_n C dX0_isExample_8 rfl ?_
    refine r_get C dX0_isExample_9 flX0_21 hs rfl ?_
    refine r_iload_n C dX0_isExample_12 rfl ?_
    refine r_iald C dX0_isExample_13 e2 (by omega) (by omega) ?_
    have hq2 := (hw3 p (by omega) (by omega)).2.1
    refine r_bipush C dX0_isExample_14 (by decide) ?_
    refine r_icmp_ne (tgt := 23) C dX0_isExample_16 (by decide) (fun hc16 => ?_) (fun hc16 => ?_)
    · refine r_iconst C dX0_isExample_23 (by decide) ?_
      exact r_zret C dX0_isExample_24 (by omega) (by decide) (by decide) (⟨some_I (by first | (rw [zb_t (by omega)]; done) | (rw [zb_f (by omega)]; done) | (rw [zb_f (fun z => zb_0.mp hc5 ⟨z.1, z.2.1⟩)]; done)), rfl⟩)
    · refine r_iconst C dX0_isExample_19 (by decide) ?_
      refine r_goto (tgt := 24) C dX0_isExample_20 (by decide) ?_
      exact r_zret C dX0_isExample_24 (by omega) (by decide) (by decide) (⟨some_I (by first | (rw [zb_t (by omega)]; done) | (rw [zb_f (by omega)]; done) | (rw [zb_f (fun z => zb_0.mp hc5 ⟨z.1, z.2.1⟩)]; done)), rfl⟩)
theorem m_toldWord {p : Int} (hb : BkR h a T vs pg mn tx tl du) (h0 : 0 ≤ p) (h9 : p < pg) : Meets yX0_toldWord cX0_toldWord 2 (some .int) 1 0 0 [vR a, vI p] h (pI (tl p) h) := by
  obtain ⟨nt, x1, x2, x3, x4, x5, ft, fs, f2, f4, f5, ⟨hs, e1, e2, e3, e4, e5⟩, hn, hv, hp, hw1, hw2, hw3⟩ := id hb
  refine Meets.of (plainFor_of_name (by decide)) (Nat.le_of_ble_eq_true rfl) (fun X C hX hN hA => ?_)
  refine r_aload_n C dX0_toldWord_0 rfl ?_
  refine r_iload_n C dX0_toldWord_1 rfl ?_
  refine r_cVi C dX0_toldWord_2 mlX0_56 kX0_hasPage (m_hasPage (p := p) hb) hs rfl rfl rfl (Nat.le_of_ble_eq_true rfl) (fit hX (by decide)) ?_
  refine r_if_eq (tgt := 17) C dX0_toldWord_5 (by decide) (fun hc5 => ?_) (fun hc5 => ?_)
  · exact absurd hc5 (by rw [zb_t ⟨h0, h9⟩]; decide)
  · refine r_aload_n C dX0_toldWord_8 rfl ?_
    refine r_get C dX0_toldWord_9 flX0_21 hs rfl ?_
    refine r_iload_n C dX0_toldWord_12 rfl ?_
    refine r_iald C dX0_toldWord_13 e2 (by omega) (by omega) ?_
    refine r_goto (tgt := 19) C dX0_toldWord_14 (by decide) ?_
    exact r_iret C dX0_toldWord_19 (by decide) (by decide) (⟨some_I (hw3 p h0 (by omega)).2.1, rfl⟩)
theorem m_Bnamed {p : Int} (hb : BkR h a T vs pg mn tx tl du) (h0 : 0 ≤ p) (h9 : p < pg) : Meets yX0_named cX0_named 2 (some .int) 1 0 0 [vR a, vI p] h (pI (nmd (mn (48 + p)) (tx (48 + p))) h) := by
  obtain ⟨nt, x1, x2, x3, x4, x5, ft, fs, f2, f4, f5, ⟨hs, e1, e2, e3, e4, e5⟩, hn, hv, hp, hw1, hw2, hw3⟩ := id hb
  refine Meets.of (plainFor_of_name (by decide)) (Nat.le_of_ble_eq_true rfl) (fun X C hX hN hA => ?_)
  refine r_aload_n C dX0_named_0 rfl ?_
  refine r_iload_n C dX0_named_1 rfl ?_
  refine r_cVi C dX0_named_2 mlX0_56 kX0_hasPage (m_hasPage (p := p) hb) hs rfl rfl rfl (Nat.le_of_ble_eq_true rfl) (fit hX (by decide)) ?_
  refine r_if_eq (tgt := 17) C dX0_named_5 (by decide) (fun hc5 => ?_) (fun hc5 => ?_)
  · exact absurd hc5 (by rw [zb_t ⟨h0, h9⟩]; decide)
  · refine r_aload_n C dX0_named_8 rfl ?_
    refine r_get C dX0_named_9 flX0_28 hs rfl ?_
    refine r_iload_n C dX0_named_12 rfl ?_
    refine r_iald C dX0_named_13 e4 (by omega) (by omega) ?_
    refine r_goto (tgt := 18) C dX0_named_14 (by decide) ?_
    exact r_iret C dX0_named_18 (by decide) (by decide) (⟨some_I (hw3 p h0 (by omega)).1, rfl⟩)
theorem m_due {p : Int} (hb : BkR h a T vs pg mn tx tl du) (h0 : 0 ≤ p) (h9 : p < pg) : Meets yX0_due cX0_due 2 (some .int) 1 0 0 [vR a, vI p] h (pI (du p) h) := by
  obtain ⟨nt, x1, x2, x3, x4, x5, ft, fs, f2, f4, f5, ⟨hs, e1, e2, e3, e4, e5⟩, hn, hv, hp, hw1, hw2, hw3⟩ := id hb
  refine Meets.of (plainFor_of_name (by decide)) (Nat.le_of_ble_eq_true rfl) (fun X C hX hN hA => ?_)
  refine r_aload_n C dX0_due_0 rfl ?_
  refine r_iload_n C dX0_due_1 rfl ?_
  refine r_cVi C dX0_due_2 mlX0_56 kX0_hasPage (m_hasPage (p := p) hb) hs rfl rfl rfl (Nat.le_of_ble_eq_true rfl) (fit hX (by decide)) ?_
  refine r_if_eq (tgt := 17) C dX0_due_5 (by decide) (fun hc5 => ?_) (fun hc5 => ?_)
  · exact absurd hc5 (by rw [zb_t ⟨h0, h9⟩]; decide)
  · refine r_aload_n C dX0_due_8 rfl ?_
    refine r_get C dX0_due_9 flX0_31 hs rfl ?_
    refine r_iload_n C dX0_due_12 rfl ?_
    refine r_iald C dX0_due_13 e5 (by omega) (by omega) ?_
    refine r_goto (tgt := 19) C dX0_due_14 (by decide) ?_
    exact r_iret C dX0_due_19 (by decide) (by decide) (⟨some_I (hw3 p h0 (by omega)).2.2, rfl⟩)
theorem m_example {p : Int} (hb : BkR h a T vs pg mn tx tl du) (h0 : 0 ≤ p) (h9 : p < pg) : Meets yX0_example cX0_example 2 (some (.object "BookShows$Text")) 1 0 0 [vR a, vI p] h (pY (fun q h' => h' = h ∧ TxP h (some q) (mn (48 + p)) (tx (48 + p)))) := by
  obtain ⟨nt, x1, x2, x3, x4, x5, ft, fs, f2, f4, f5, ⟨hs, e1, e2, e3, e4, e5⟩, hn, hv, hp, hw1, hw2, hw3⟩ := id hb
  obtain ⟨q, b, m, g, eq, hr⟩ := hw2 p h0 (by omega)
  refine Meets.of (plainFor_of_name (by decide)) (Nat.le_of_ble_eq_true rfl) (fun X C hX hN hA => ?_)
  refine r_aload_n C dX0_example_0 rfl ?_
  refine r_iload_n C dX0_example_1 rfl ?_
  refine r_cVi C dX0_example_2 mlX0_56 kX0_hasPage (m_hasPage (p := p) hb) hs rfl rfl rfl (Nat.le_of_ble_eq_true rfl) (fit hX (by decide)) ?_
  refine r_if_eq (tgt := 17) C dX0_example_5 (by decide) (fun hc5 => ?_) (fun hc5 => ?_)
  · exact absurd hc5 (by rw [zb_t ⟨h0, h9⟩]; decide)
  · refine r_aload_n C dX0_example_8 rfl ?_
    refine r_get C dX0_example_9 flX0_25 hs rfl ?_
    refine r_iload_n C dX0_example_12 rfl ?_
    refine r_aald C dX0_example_13 e3 (by omega) (by omega) eq ?_
    refine r_goto (tgt := 21) C dX0_example_14 (by decide) ?_
    exact r_aret C dX0_example_21 (by decide) (by decide) (⟨q, rfl, rfl, q, b, m, g, rfl, hr⟩)
theorem m_text {v w : Int} (hb : BkR h a T vs pg mn tx tl du) (h0 : 0 ≤ v) (h9 : v < vs) (hw : 0 ≤ w) (hw8 : w < 8) : Meets yX0_text cX0_text 3 (some (.object "BookShows$Text")) 1 0 0 [vR a, vI v, vI w] h (pY (fun q h' => h' = h ∧ TxP h (some q) (mn (8 * v + w)) (tx (8 * v + w)))) := by
  obtain ⟨nt, x1, x2, x3, x4, x5, ft, fs, f2, f4, f5, ⟨hs, e1, e2, e3, e4, e5⟩, hn, hv, hp, hw1, hw2, hw3⟩ := id hb
  obtain ⟨q, b, m, g, eq, hr⟩ := hw1 (8 * v + w) (by omega) (by omega)
  rw [show 8 * v + w = v * 8 + w by omega] at eq
  refine Meets.of (plainFor_of_name (by decide)) (Nat.le_of_ble_eq_true rfl) (fun X C hX hN hA => ?_)
  refine r_aload_n C dX0_text_0 rfl ?_
  refine r_iload_n C dX0_text_1 rfl ?_
  refine r_cVi C dX0_text_2 mlX0_45 kX0_hasVersion (m_hasVersion (v := v) hb) hs rfl rfl rfl (Nat.le_of_ble_eq_true rfl) (fit hX (by decide)) ?_
  refine r_if_eq (tgt := 15) C dX0_text_5 (by decide) (fun hc5 => ?_) (fun hc5 => ?_)
  · exact absurd hc5 (by rw [zb_t ⟨h0, h9⟩]; decide)
  · refine r_iload_n C dX0_text_8 rfl ?_
    refine r_cNi C dX0_text_9 C.K.2.2.2.1 kX7_isWord (m_isWord (c := w)) rfl rfl (Nat.le_of_ble_eq_true rfl) (fit hX (by decide)) ?_
    refine r_if_ne (tgt := 20) C dX0_text_12 (by decide) (fun hc12 => ?_) (fun hc12 => ?_)
    · refine r_aload_n C dX0_text_20 rfl ?_
      refine r_get C dX0_text_21 flX0_17 hs rfl ?_
      refine r_iload_n C dX0_text_24 rfl ?_
      refine r_bipush C dX0_text_25 (by decide) ?_
      refine r_imul C dX0_text_27 (by omega) ?_
      refine r_iload_n C dX0_text_28 rfl ?_
      refine r_iadd C dX0_text_29 (by omega) ?_
      refine r_aald C dX0_text_30 e1 (by omega) (by omega) eq ?_
      exact r_aret C dX0_text_31 (by decide) (by decide) (⟨q, rfl, rfl, q, b, m, g, rfl, hr⟩)
    · exact absurd hc12 (by rw [zb_t ⟨hw, hw8⟩]; decide)
theorem m_examples (hb : BkR h a T vs pg mn tx tl du) : Meets yX0_examples cX0_examples 3 (some .int) 2 0 0 [vR a] h (pI (bt (fun p => tl p = -6) pg) h) := by
  obtain ⟨nt, x1, x2, x3, x4, x5, ft, fs, f2, f4, f5, ⟨hs, e1, e2, e3, e4, e5⟩, hn, hv, hp, hw1, hw2, hw3⟩ := id hb
  refine Meets.of (plainFor_of_name (by decide)) (Nat.le_of_ble_eq_true rfl) (fun X C hX hN hA => ?_)
  have loop : ∀ (j : Nat) (i : Int), 0 ≤ i → i ≤ pg → pg - i < j → Go X (Qm X (pI (bt (fun p => tl p = -6) pg) h) 0 0) 0 0 h 4 [some (vR a), some (vI (bt (fun p => tl p = -6) i)), some (vI i)] [] := by
    intro j
    induction j with
    | zero => intro i h3 h4 h5; exact absurd h5 (by omega)
    | succ j ih =>
      intro i h3 h4 h5
      refine r_iload_n C dX0_examples_4 rfl ?_
      refine r_aload_n C dX0_examples_5 rfl ?_
      refine r_get C dX0_examples_6 flX0_38 hs rfl ?_
      refine r_icmp_ge (tgt := 32) C dX0_examples_9 (by decide) (fun hc9 => ?_) (fun hc9 => ?_)
      · refine r_iload_n C dX0_examples_32 rfl ?_
        exact r_iret C dX0_examples_33 (by decide) (by decide) ⟨some_I (by rw [show i = pg by omega]), rfl⟩
      · refine r_aload_n C dX0_examples_12 rfl ?_
        refine r_iload_n C dX0_examples_13 rfl ?_
        refine r_cVi C dX0_examples_14 mlX0_59 kX0_isExample (m_isExample (p := i) hb) hs rfl rfl rfl (Nat.le_of_ble_eq_true rfl) (fit hX (by decide)) ?_
        refine r_if_eq (tgt := 26) C dX0_examples_17 (by decide) (fun hc17 => ?_) (fun hc17 => ?_)
        · refine r_iinc C dX0_examples_26 rfl (by decide) (by omega) ?_
          refine r_goto (tgt := 4) C dX0_examples_29 (by decide) ?_
          have hz := ih (i + 1) (by omega) (by omega) (by omega)
          first | (rw [bt_f h3 (fun q => zb_0.mp hc17 ⟨h3, by omega, q⟩)] at hz; exact hz) | (rw [bt_t h3 (zb_n0.mp hc17).2.2] at hz; exact hz)
        · refine r_iload_n C dX0_examples_20 rfl ?_
          refine r_iconst C dX0_examples_21 (by decide) ?_
          refine r_iload_n C dX0_examples_22 rfl ?_
          refine r_ishl C dX0_examples_23 ?_
          refine r_ior C dX0_examples_24 ?_
          refine r_istore_n C dX0_examples_25 (by decide) ?_
          refine r_iinc C dX0_examples_26 rfl (by decide) (by omega) ?_
          refine r_goto (tgt := 4) C dX0_examples_29 (by decide) ?_
          have hz := ih (i + 1) (by omega) (by omega) (by omega)
          first | (rw [bt_f h3 (fun q => zb_0.mp hc17 ⟨h3, by omega, q⟩)] at hz; exact hz) | (rw [bt_t h3 (zb_n0.mp hc17).2.2] at hz; exact hz)
  refine r_iconst C dX0_examples_0 (by decide) ?_
  refine r_istore_n C dX0_examples_1 (by decide) ?_
  refine r_iconst C dX0_examples_2 (by decide) ?_
  refine r_istore_n C dX0_examples_3 (by decide) ?_
  exact loop (pg.toNat + 1) 0 (by omega) (by omega) (by omega)
/-- the words that the pages below i tell -/
def tdN (tl : Int → Int) : Nat → Int
  | 0 => 0
  | j + 1 => if tl j = -6 then tdN tl j else bOr (tdN tl j) (bShl 1 (tl j))
def td (tl : Int → Int) (i : Int) : Int := tdN tl i.toNat
theorem td_s {tl : Int → Int} {i : Int} (h0 : 0 ≤ i) : td tl (i + 1) = if tl i = -6 then td tl i else bOr (td tl i) (bShl 1 (tl i)) := by
  unfold td
  have e : (i + 1).toNat = i.toNat + 1 := by omega
  have e2 : ((i.toNat : Nat) : Int) = i := by omega
  rw [e]
  conv => lhs; unfold tdN
  rw [e2]
theorem m_toldWords (hb : BkR h a T vs pg mn tx tl du) : Meets yX0_toldWords cX0_toldWords 3 (some .int) 2 0 0 [vR a] h (pI (td tl pg) h) := by
  obtain ⟨nt, x1, x2, x3, x4, x5, ft, fs, f2, f4, f5, ⟨hs, e1, e2, e3, e4, e5⟩, hn, hv, hp, hw1, hw2, hw3⟩ := id hb
  refine Meets.of (plainFor_of_name (by decide)) (Nat.le_of_ble_eq_true rfl) (fun X C hX hN hA => ?_)
  have loop : ∀ (j : Nat) (i : Int), 0 ≤ i → i ≤ pg → pg - i < j → Go X (Qm X (pI (td tl pg) h) 0 0) 0 0 h 4 [some (vR a), some (vI (td tl i)), some (vI i)] [] := by
    intro j
    induction j with
    | zero => intro i h3 h4 h5; exact absurd h5 (by omega)
    | succ j ih =>
      intro i h3 h4 h5
      have hst := td_s (tl := tl) h3
      refine r_iload_n C dX0_toldWords_4 rfl ?_
      refine r_aload_n C dX0_toldWords_5 rfl ?_
      refine r_get C dX0_toldWords_6 flX0_38 hs rfl ?_
      refine r_icmp_ge (tgt := 37) C dX0_toldWords_9 (by decide) (fun hc9 => ?_) (fun hc9 => ?_)
      · refine r_iload_n C dX0_toldWords_37 rfl ?_
        exact r_iret C dX0_toldWords_38 (by decide) (by decide) ⟨some_I (by rw [show i = pg by omega]), rfl⟩
      · refine r_aload_n C dX0_toldWords_12 rfl ?_
        refine r_iload_n C dX0_toldWords_13 rfl ?_
        refine r_cVi C dX0_toldWords_14 mlX0_59 kX0_isExample (m_isExample (p := i) hb) hs rfl rfl rfl (Nat.le_of_ble_eq_true rfl) (fit hX (by decide)) ?_
        refine r_if_ne (tgt := 31) C dX0_toldWords_17 (by decide) (fun hc17 => ?_) (fun hc17 => ?_)
        · refine r_iinc C dX0_toldWords_31 rfl (by decide) (by omega) ?_
          refine r_goto (tgt := 4) C dX0_toldWords_34 (by decide) ?_
          have hz := ih (i + 1) (by omega) (by omega) (by omega)
          rw [hst] at hz
          first | (rw [if_neg (fun q => zb_0.mp hc17 ⟨h3, by omega, q⟩)] at hz; exact hz) | (rw [if_pos (zb_n0.mp hc17).2.2] at hz; exact hz)
        · refine r_iload_n C dX0_toldWords_20 rfl ?_
          refine r_iconst C dX0_toldWords_21 (by decide) ?_
          refine r_aload_n C dX0_toldWords_22 rfl ?_
          refine r_get C dX0_toldWords_23 flX0_21 hs rfl ?_
          refine r_iload_n C dX0_toldWords_26 rfl ?_
          refine r_iald C dX0_toldWords_27 e2 (by omega) (by omega) ?_
          rw [(hw3 i h3 (by omega)).2.1]
          refine r_ishl C dX0_toldWords_28 ?_
          refine r_ior C dX0_toldWords_29 ?_
          refine r_istore_n C dX0_toldWords_30 (by decide) ?_
          refine r_iinc C dX0_toldWords_31 rfl (by decide) (by omega) ?_
          refine r_goto (tgt := 4) C dX0_toldWords_34 (by decide) ?_
          have hz := ih (i + 1) (by omega) (by omega) (by omega)
          rw [hst] at hz
          first | (rw [if_neg (fun q => zb_0.mp hc17 ⟨h3, by omega, q⟩)] at hz; exact hz) | (rw [if_pos (zb_n0.mp hc17).2.2] at hz; exact hz)
  refine r_iconst C dX0_toldWords_0 (by decide) ?_
  refine r_istore_n C dX0_toldWords_1 (by decide) ?_
  refine r_iconst C dX0_toldWords_2 (by decide) ?_
  refine r_istore_n C dX0_toldWords_3 (by decide) ?_
  exact loop (pg.toNat + 1) 0 (by omega) (by omega) (by omega)
/-- a word is as it was in the version ahead -/
def like (mn : Int → Int) (tx : Int → Int → Int) (s t : Int) : Prop := mn s = mn t ∧ ∀ i, 0 ≤ i → i < mn s → tx s i = tx t i
theorem m_changed {v : Int} (hb : BkR h a T vs pg mn tx tl du) (h0 : 1 ≤ v) (h9 : v < vs) : Meets yX0_changed cX0_changed 4 (some .int) 2 0 0 [vR a, vI v] h (pI (bt (fun w => ¬ like mn tx (8 * v + w) (8 * (v - 1) + w)) 8) h) := by
  obtain ⟨nt, x1, x2, x3, x4, x5, ft, fs, f2, f4, f5, ⟨hs, e1, e2, e3, e4, e5⟩, hn, hv, hp, hw1, hw2, hw3⟩ := id hb
  refine Meets.of (plainFor_of_name (by decide)) (Nat.le_of_ble_eq_true rfl) (fun X C hX hN hA => ?_)
  have loop : ∀ (j : Nat) (i : Int), 0 ≤ i → i ≤ 8 → 8 - i < j → Go X (Qm X (pI (bt (fun w => ¬ like mn tx (8 * v + w) (8 * (v - 1) + w)) 8) h) 0 0) 0 0 h 4 [some (vR a), some (vI v), some (vI (bt (fun w => ¬ like mn tx (8 * v + w) (8 * (v - 1) + w)) i)), some (vI i)] [] := by
    intro j
    induction j with
    | zero => intro i h3 h4 h5; exact absurd h5 (by omega)
    | succ j ih =>
      intro i h3 h4 h5
      refine r_iload_n C dX0_changed_4 rfl ?_
      refine r_bipush C dX0_changed_5 (by decide) ?_
      refine r_icmp_ge (tgt := 42) C dX0_changed_7 (by decide) (fun hc7 => ?_) (fun hc7 => ?_)
      · refine r_iload_n C dX0_changed_42 rfl ?_
        exact r_iret C dX0_changed_43 (by decide) (by decide) ⟨some_I (by rw [show i = 8 by omega]), rfl⟩
      refine r_aload_n C dX0_changed_10 rfl ?_
      refine r_iload_n C dX0_changed_11 rfl ?_
      refine r_iload_n C dX0_changed_12 rfl ?_
      refine r_cVy C dX0_changed_13 mlX0_41 kX0_text (m_text (v := v) (w := i) hb (by omega) (by omega) (by omega) (by omega)) hs rfl rfl rfl (Nat.le_of_ble_eq_true rfl) (fit hX (by decide)) ?_
      rintro q1 h' ⟨rfl, ht1⟩
      refine r_aload_n C dX0_changed_16 rfl ?_
      refine r_iload_n C dX0_changed_17 rfl ?_
      refine r_iconst C dX0_changed_18 (by decide) ?_
      refine r_isub C dX0_changed_19 (by omega) ?_
      refine r_iload_n C dX0_changed_20 rfl ?_
      refine r_cVy C dX0_changed_21 mlX0_41 kX0_text (m_text (v := v - 1) (w := i) hb (by omega) (by omega) (by omega) (by omega)) hs rfl rfl rfl (Nat.le_of_ble_eq_true rfl) (fit hX (by decide)) ?_
      rintro q2 h' ⟨rfl, ht2⟩
      obtain ⟨b1, t1, t1', m1, g1, hts1, -⟩ := id ht1.R
      refine r_cVi C dX0_changed_24 mlX0_52 kX6_isLike (m_isLike ht1.R ht2.R) hts1 rfl rfl rfl (Nat.le_of_ble_eq_true rfl) (fit hX (by decide)) ?_
      refine r_if_ne (tgt := 36) C dX0_changed_27 (by decide) (fun hc27 => ?_) (fun hc27 => ?_)
      · refine r_iinc C dX0_changed_36 rfl (by decide) (by omega) ?_
        refine r_goto (tgt := 4) C dX0_changed_39 (by decide) ?_
        have hz := ih (i + 1) (by omega) (by omega) (by omega)
        first | (rw [bt_f h3 (fun q => q (zb_n0.mp hc27))] at hz; exact hz) | (rw [bt_t h3 (zb_0.mp hc27)] at hz; exact hz)
      · refine r_iload_n C dX0_changed_30 rfl ?_
        refine r_iconst C dX0_changed_31 (by decide) ?_
        refine r_iload_n C dX0_changed_32 rfl ?_
        refine r_ishl C dX0_changed_33 ?_
        refine r_ior C dX0_changed_34 ?_
        refine r_istore_n C dX0_changed_35 (by decide) ?_
        refine r_iinc C dX0_changed_36 rfl (by decide) (by omega) ?_
        refine r_goto (tgt := 4) C dX0_changed_39 (by decide) ?_
        have hz := ih (i + 1) (by omega) (by omega) (by omega)
        first | (rw [bt_f h3 (fun q => q (zb_n0.mp hc27))] at hz; exact hz) | (rw [bt_t h3 (zb_0.mp hc27)] at hz; exact hz)
  refine r_iconst C dX0_changed_0 (by decide) ?_
  refine r_istore_n C dX0_changed_1 (by decide) ?_
  refine r_iconst C dX0_changed_2 (by decide) ?_
  refine r_istore_n C dX0_changed_3 (by decide) ?_
  exact loop 9 0 (by omega) (by omega) (by omega)
end
end
section
/-! Book, second part: what changes it -/
section
variable {h : Pic} {a T : Nat} {vs pg : Int} {mn : Int → Int} {tx : Int → Int → Int} {tl du : Int → Int}
theorem m_setDue {p d : Int} (hb : BkR h a T vs pg mn tx tl du) (hT : 6 < T) (h0 : 0 ≤ p) (h9 : p < pg) : Meets yX0_setDue cX0_setDue 3 none 1 0 0 [vR a, vI p, vI d] h (pV (fun h' => BkR h' a T vs pg mn tx tl (fu du p d) ∧ Kp (fun t => t = T + 5) h h')) := by
  obtain ⟨nt, x1, x2, x3, x4, x5, ft, fs, f2, f4, f5, ⟨hs, e1, e2, e3, e4, e5⟩, hn, hv, hp, hw1, hw2, hw3⟩ := id hb
  refine Meets.of (plainFor_of_name (by decide)) (Nat.le_of_ble_eq_true rfl) (fun X C hX hN hA => ?_)
  refine r_aload_n C dX0_setDue_0 rfl ?_
  refine r_iload_n C dX0_setDue_1 rfl ?_
  refine r_cVi C dX0_setDue_2 mlX0_56 kX0_hasPage (m_hasPage (p := p) hb) hs rfl rfl rfl (Nat.le_of_ble_eq_true rfl) (fit hX (by decide)) ?_
  rw [zb_t ⟨h0, h9⟩]
  refine r_if_eq (tgt := 15) C dX0_setDue_5 (by decide) (fun q => absurd q (by decide)) (fun _ => ?_)
  refine r_aload_n C dX0_setDue_8 rfl ?_
  refine r_get C dX0_setDue_9 flX0_31 hs rfl ?_
  refine r_iload_n C dX0_setDue_12 rfl ?_
  refine r_iload_n C dX0_setDue_13 rfl ?_
  refine r_iastA C dX0_setDue_14 e5 (by omega) (by omega) (fun h1' g5 o5 => ?_)
  have hk : Kp (fun t => t = T + 5) h h1' := o5.kp e5 rfl
  refine r_vret C dX0_setDue_15 (by decide) (by decide) ⟨rfl, ⟨nt, x1, x2, x3, x4, x5, ft, fs, f2, f4, fu f5 p d, ⟨hk _ _ _ hs (by omega), hk _ _ _ e1 (by omega), hk _ _ _ e2 (by omega), hk _ _ _ e3 (by omega), hk _ _ _ e4 (by omega), g5⟩, hn.kp hk (by omega) (by omega), hv, hp, fun t q1 q2 => (hw1 t q1 q2).kp hk (by omega) (by omega), fun t q1 q2 => (hw2 t q1 q2).kp hk (by omega) (by omega), fun t q1 q2 => ⟨(hw3 t q1 q2).1, (hw3 t q1 q2).2.1, ?_⟩⟩, hk⟩
  by_cases ht : t = p
  · rw [ht, fu_s, fu_s]
  · rw [fu_n ht, fu_n ht]; exact (hw3 t q1 q2).2.2
theorem m_rewrite {w n : Int} {q : Nat} {f : Int → Int} (hb : BkR h a T vs pg mn tx tl du) (hT : 6 < T) (hq : TxP h (some q) n f) (h0 : 0 ≤ w) (h9 : w < 8) : Meets yX0_rewrite cX0_rewrite 3 none 1 0 0 [vR a, vI w, vR q] h (pV (fun h' => BkR h' a T vs pg (fu mn (8 * (vs - 1) + w) n) (fu tx (8 * (vs - 1) + w) f) tl du ∧ Kp (fun t => t = T + 1) h h')) := by
  obtain ⟨nt, x1, x2, x3, x4, x5, ft, fs, f2, f4, f5, ⟨hs, e1, e2, e3, e4, e5⟩, hn, hv, hp, hw1, hw2, hw3⟩ := id hb
  obtain ⟨q', b', m', g', hqq, hq1, hq2, hq3⟩ := id hq
  cases hqq
  refine Meets.of (plainFor_of_name (by decide)) (Nat.le_of_ble_eq_true rfl) (fun X C hX hN hA => ?_)
  refine r_iload_n C dX0_rewrite_0 rfl ?_
  refine r_cNi C dX0_rewrite_1 C.K.2.2.2.1 kX7_isWord (m_isWord (c := w)) rfl rfl (Nat.le_of_ble_eq_true rfl) (fit hX (by decide)) ?_
  rw [zb_t ⟨h0, h9⟩]
  refine r_if_eq (tgt := 24) C dX0_rewrite_4 (by decide) (fun q => absurd q (by decide)) (fun _ => ?_)
  refine r_aload_n C dX0_rewrite_7 rfl ?_
  refine r_get C dX0_rewrite_8 flX0_17 hs rfl ?_
  refine r_aload_n C dX0_rewrite_11 rfl ?_
  refine r_get C dX0_rewrite_12 flX0_34 hs rfl ?_
  refine r_iconst C dX0_rewrite_15 (by decide) ?_
  refine r_isub C dX0_rewrite_16 (by omega) ?_
  refine r_bipush C dX0_rewrite_17 (by decide) ?_
  refine r_imul C dX0_rewrite_19 (by omega) ?_
  refine r_iload_n C dX0_rewrite_20 rfl ?_
  refine r_iadd C dX0_rewrite_21 (by omega) ?_
  refine r_aload_n C dX0_rewrite_22 rfl ?_
  refine r_aastA C dX0_rewrite_23 e1 hq1 (by omega) (by omega) (fun h1' g1 o1 => ?_)
  have hk : Kp (fun t => t = T + 1) h h1' := o1.kp e1 rfl
  refine r_vret C dX0_rewrite_24 (by decide) (by decide) ⟨rfl, ⟨nt, x1, x2, x3, x4, x5, fu ft ((vs - 1) * 8 + w) (some q), fs, f2, f4, f5, ⟨hk _ _ _ hs (by omega), g1, hk _ _ _ e2 (by omega), hk _ _ _ e3 (by omega), hk _ _ _ e4 (by omega), hk _ _ _ e5 (by omega)⟩, hn.kp hk (by omega) (by omega), hv, hp, fun t q1 q2 => ?_, fun t q1 q2 => ?_, fun t q1 q2 => ?_⟩, hk⟩
  · by_cases ht : t = 8 * (vs - 1) + w
    · rw [show (vs - 1) * 8 + w = 8 * (vs - 1) + w by omega, ht, fu_s, fu_s, fu_s]
      exact hq.kp hk (by omega) (by omega)
    · rw [show (vs - 1) * 8 + w = 8 * (vs - 1) + w by omega, fu_n ht, fu_n ht, fu_n ht]
      exact (hw1 t q1 q2).kp hk (by omega) (by omega)
  · rw [fu_n (by omega), fu_n (by omega)]
    exact (hw2 t q1 q2).kp hk (by omega) (by omega)
  · rw [fu_n (by omega), fu_n (by omega)]
    exact hw3 t q1 q2
/-- the words of a new version as those of the last one: the first w of them -/
def mnA {α : Type} (vs : Int) (mn : Int → α) (w : Int) : Int → α := fun t => if 8 * vs ≤ t ∧ t < 8 * vs + w then mn (t - 8) else mn t
theorem mnA_0 {α : Type} {vs : Int} {mn : Int → α} : mnA vs mn 0 = mn := by
  funext t
  unfold mnA
  rw [if_neg (by omega)]
theorem mnA_lo {α : Type} {vs : Int} {mn : Int → α} {w t : Int} (ht : t < 8 * vs) : mnA vs mn w t = mn t := if_neg (by omega)
theorem mnA_s {α : Type} {vs : Int} {mn : Int → α} {w : Int} (h0 : 0 ≤ w) : mnA vs mn (w + 1) = fu (mnA vs mn w) (8 * vs + w) (mn (8 * (vs - 1) + w)) := by
  funext t
  unfold mnA fu
  by_cases ht : t = 8 * vs + w
  · rw [if_pos (by omega), if_pos ht, show t - 8 = 8 * (vs - 1) + w by omega]
  · rw [if_neg ht]
    dsimp only
    by_cases ht2 : 8 * vs ≤ t ∧ t < 8 * vs + w
    · rw [if_pos (by omega), if_pos (by omega)]
    · rw [if_neg (by omega), if_neg (by omega)]
theorem m_addVersion (hb : BkR h a T vs pg mn tx tl du) (hT : 6 < T) (h6 : vs < 6) : Meets yX0_addVersion cX0_addVersion 2 (some .int) 2 0 0 [vR a] h (pX (fun z h' => z = vs ∧ BkR h' a T (vs + 1) pg (mnA vs mn 8) (mnA vs tx 8) tl du ∧ Kp (fun t => t = T ∨ t = T + 1) h h')) := by
  refine Meets.of (plainFor_of_name (by decide)) (Nat.le_of_ble_eq_true rfl) (fun X C hX hN hA => ?_)
  have loop : ∀ (j : Nat) (i : Int) (h' : Pic), 0 ≤ i → i ≤ 8 → 8 - i < j → BkR h' a T vs pg (mnA vs mn i) (mnA vs tx i) tl du → Kp (fun t => t = T ∨ t = T + 1) h h' → Go X (Qm X (pX (fun z h' => z = vs ∧ BkR h' a T (vs + 1) pg (mnA vs mn 8) (mnA vs tx 8) tl du ∧ Kp (fun t => t = T ∨ t = T + 1) h h')) 0 0) 0 0 h' 14 [some (vR a), some (vI i)] [] := by
    intro j
    induction j with
    | zero => intro i h' h3 h4 h5; exact absurd h5 (by omega)
    | succ j ih =>
      intro i h' h3 h4 h5 hb' hk'
      obtain ⟨nt, x1, x2, x3, x4, x5, ft, fs, f2, f4, f5, ⟨hs, e1, e2, e3, e4, e5⟩, hn, hv, hp, hw1, hw2, hw3⟩ := id hb'
      refine r_iload_n C dX0_addVersion_14 rfl ?_
      refine r_bipush C dX0_addVersion_15 (by decide) ?_
      refine r_icmp_ge (tgt := 51) C dX0_addVersion_17 (by decide) (fun hc17 => ?_) (fun hc17 => ?_)
      · have hi : i = 8 := by omega
        subst hi
        refine r_aload_n C dX0_addVersion_51 rfl ?_
        refine r_dup C dX0_addVersion_52 ?_
        refine r_get C dX0_addVersion_53 flX0_34 hs rfl ?_
        refine r_iconst C dX0_addVersion_56 (by decide) ?_
        refine r_iadd C dX0_addVersion_57 (by omega) ?_
        refine r_putA C dX0_addVersion_58 flX0_34 hs rfl rfl (fs2 := [vR nt, vR x1, vR x2, vR x3, vR x4, vR x5, vI (vs + 1), vI pg]) rfl (fun h1' g0 o0 => ?_)
        have hk : Kp (fun t => t = T ∨ t = T + 1) h' h1' := o0.kp hs (Or.inl rfl)
        refine r_aload_n C dX0_addVersion_61 rfl ?_
        refine r_get C dX0_addVersion_62 flX0_34 g0 rfl ?_
        refine r_iconst C dX0_addVersion_65 (by decide) ?_
        refine r_isub C dX0_addVersion_66 (by omega) ?_
        rw [show vs + 1 - 1 = vs by omega]
        have hk2 : Kp (fun t => t = T) h' h1' := o0.kp hs rfl
        exact r_iret C dX0_addVersion_67 (by decide) (by decide) ⟨vs, rfl, rfl, ⟨nt, x1, x2, x3, x4, x5, ft, fs, f2, f4, f5, ⟨g0, hk2 _ _ _ e1 (by omega), hk2 _ _ _ e2 (by omega), hk2 _ _ _ e3 (by omega), hk2 _ _ _ e4 (by omega), hk2 _ _ _ e5 (by omega)⟩, hn.kp hk2 (by omega) (by omega), by omega, hp, fun t q1 q2 => (hw1 t q1 q2).kp hk2 (by omega) (by omega), fun t q1 q2 => (hw2 t q1 q2).kp hk2 (by omega) (by omega), hw3⟩, hk'.tr hk⟩
      refine r_aload_n C dX0_addVersion_20 rfl ?_
      refine r_get C dX0_addVersion_21 flX0_17 hs rfl ?_
      refine r_aload_n C dX0_addVersion_24 rfl ?_
      refine r_get C dX0_addVersion_25 flX0_34 hs rfl ?_
      refine r_bipush C dX0_addVersion_28 (by decide) ?_
      refine r_imul C dX0_addVersion_30 (by omega) ?_
      refine r_iload_n C dX0_addVersion_31 rfl ?_
      refine r_iadd C dX0_addVersion_32 (by omega) ?_
      refine r_aload_n C dX0_addVersion_33 rfl ?_
      refine r_aload_n C dX0_addVersion_34 rfl ?_
      refine r_get C dX0_addVersion_35 flX0_34 hs rfl ?_
      refine r_iconst C dX0_addVersion_38 (by decide) ?_
      refine r_isub C dX0_addVersion_39 (by omega) ?_
      refine r_iload_n C dX0_addVersion_40 rfl ?_
      refine r_cVy C dX0_addVersion_41 mlX0_41 kX0_text (m_text (v := vs - 1) (w := i) hb' (by omega) (by omega) (by omega) (by omega)) hs rfl rfl rfl (Nat.le_of_ble_eq_true rfl) (fit hX (by decide)) ?_
      rintro q h'' ⟨rfl, htq⟩
      rw [mnA_lo (by omega), mnA_lo (by omega)] at htq
      obtain ⟨q', b', m', g', hqq, hq1, hq2, hq3⟩ := id htq
      cases hqq
      refine r_aastA C dX0_addVersion_44 e1 hq1 (by omega) (by omega) (fun h1' g1 o1 => ?_)
      have hk : Kp (fun t => t = T + 1) h'' h1' := o1.kp e1 rfl
      refine r_iinc C dX0_addVersion_45 rfl (by decide) (by omega) ?_
      refine r_goto (tgt := 14) C dX0_addVersion_48 (by decide) ?_
      refine ih (i + 1) h1' (by omega) (by omega) (by omega) ?_ (hk'.tr (hk.mono (fun t z => Or.inr z)))
      rw [mnA_s h3, mnA_s h3]
      refine ⟨nt, x1, x2, x3, x4, x5, fu ft (vs * 8 + i) (some q), fs, f2, f4, f5, ⟨hk _ _ _ hs (by omega), g1, hk _ _ _ e2 (by omega), hk _ _ _ e3 (by omega), hk _ _ _ e4 (by omega), hk _ _ _ e5 (by omega)⟩, hn.kp hk (by omega) (by omega), hv, hp, fun t q1 q2 => ?_, fun t q1 q2 => ?_, fun t q1 q2 => ?_⟩
      · by_cases ht : t = 8 * vs + i
        · rw [show vs * 8 + i = 8 * vs + i by omega, ht, fu_s, fu_s, fu_s]
          exact htq.kp hk (by omega) (by omega)
        · rw [show vs * 8 + i = 8 * vs + i by omega, fu_n ht, fu_n ht, fu_n ht]
          exact (hw1 t q1 q2).kp hk (by omega) (by omega)
      · rw [fu_n (by omega), fu_n (by omega)]
        exact (hw2 t q1 q2).kp hk (by omega) (by omega)
      · rw [fu_n (by omega), fu_n (by omega)]
        exact hw3 t q1 q2
  obtain ⟨nt, x1, x2, x3, x4, x5, ft, fs, f2, f4, f5, ⟨hs, e1, e2, e3, e4, e5⟩, hn, hv, hp, hw1, hw2, hw3⟩ := id hb
  refine r_aload_n C dX0_addVersion_0 rfl ?_
  refine r_get C dX0_addVersion_1 flX0_34 hs rfl ?_
  refine r_bipush C dX0_addVersion_4 (by decide) ?_
  refine r_icmp_lt (tgt := 12) C dX0_addVersion_6 (by decide) (fun _ => ?_) (fun q => absurd q (by omega))
  refine r_iconst C dX0_addVersion_12 (by decide) ?_
  refine r_istore_n C dX0_addVersion_13 (by decide) ?_
  exact loop 9 0 h (by omega) (by omega) (by omega) (by rw [mnA_0, mnA_0]; exact hb) Kp.rf
/-- a page more -/
theorem m_Badd {w n d : Int} {q : Nat} {f : Int → Int} (hb : BkR h a T vs pg mn tx tl du) (hT : 6 < T) (hq : TxP h (some q) n f) (h12 : pg < 12) : Meets yX0_add cX0_add 4 (some .int) 2 0 0 [vR a, vI w, vR q, vI d] h (pX (fun z h' => z = pg ∧ BkR h' a T vs (pg + 1) (fu mn (48 + pg) n) (fu tx (48 + pg) f) (fu tl pg w) (fu du pg d) ∧ Kp (fun t => t = T ∨ (T + 2 ≤ t ∧ t ≤ T + 5)) h h')) := by
  obtain ⟨nt, x1, x2, x3, x4, x5, ft, fs, f2, f4, f5, ⟨hs, e1, e2, e3, e4, e5⟩, hn, hv, hp, hw1, hw2, hw3⟩ := id hb
  obtain ⟨q', b', m', g', hqq, hq1, hq2, hq3⟩ := id hq
  cases hqq
  refine Meets.of (plainFor_of_name (by decide)) (Nat.le_of_ble_eq_true rfl) (fun X C hX hN hA => ?_)
  refine r_aload_n C dX0_add_0 rfl ?_
  refine r_get C dX0_add_1 flX0_38 hs rfl ?_
  refine r_bipush C dX0_add_4 (by decide) ?_
  refine r_icmp_lt (tgt := 12) C dX0_add_6 (by decide) (fun _ => ?_) (fun q => absurd q (by omega))
  refine r_aload_n C dX0_add_12 rfl ?_
  refine r_get C dX0_add_13 flX0_21 hs rfl ?_
  refine r_aload_n C dX0_add_16 rfl ?_
  refine r_get C dX0_add_17 flX0_38 hs rfl ?_
  refine r_iload_n C dX0_add_20 rfl ?_
  refine r_iastA C dX0_add_21 e2 (by omega) (by omega) (fun h1 g2 o2 => ?_)
  have k1 : Kp (fun t => t = T + 2) h h1 := o2.kp e2 rfl
  have hs1 := k1 _ _ _ hs (by omega)
  have e31 := k1 _ _ _ e3 (by omega)
  have hq11 := k1 _ _ _ hq1 (by omega)
  refine r_aload_n C dX0_add_22 rfl ?_
  refine r_get C dX0_add_23 flX0_25 hs1 rfl ?_
  refine r_aload_n C dX0_add_26 rfl ?_
  refine r_get C dX0_add_27 flX0_38 hs1 rfl ?_
  refine r_aload_n C dX0_add_30 rfl ?_
  refine r_aastA C dX0_add_31 e31 hq11 (by omega) (by omega) (fun h2 g3 o3 => ?_)
  have k2 : Kp (fun t => t = T + 3) h1 h2 := o3.kp e31 rfl
  have hs2 := k2 _ _ _ hs1 (by omega)
  have e42 := k2 _ _ _ (k1 _ _ _ e4 (by omega)) (by omega)
  have hqt : TxP h2 (some q) n f := (hq.kp k1 (by omega) (by omega)).kp k2 (by omega) (by omega)
  have hq12 := k2 _ _ _ hq11 (by omega)
  refine r_aload_n C dX0_add_32 rfl ?_
  refine r_get C dX0_add_33 flX0_28 hs2 rfl ?_
  refine r_aload_n C dX0_add_36 rfl ?_
  refine r_get C dX0_add_37 flX0_38 hs2 rfl ?_
  refine r_aload_n C dX0_add_40 rfl ?_
  refine r_cVi C dX0_add_41 mlX0_66 kX6_named (m_named hqt.R) hq12 rfl rfl rfl (Nat.le_of_ble_eq_true rfl) (fit hX (by decide)) ?_
  refine r_iastA C dX0_add_44 e42 (by omega) (by omega) (fun h3 g4 o4 => ?_)
  have k3 : Kp (fun t => t = T + 4) h2 h3 := o4.kp e42 rfl
  have hs3 := k3 _ _ _ hs2 (by omega)
  have e53 := k3 _ _ _ (k2 _ _ _ (k1 _ _ _ e5 (by omega)) (by omega)) (by omega)
  refine r_aload_n C dX0_add_45 rfl ?_
  refine r_get C dX0_add_46 flX0_31 hs3 rfl ?_
  refine r_aload_n C dX0_add_49 rfl ?_
  refine r_get C dX0_add_50 flX0_38 hs3 rfl ?_
  refine r_iload_n C dX0_add_53 rfl ?_
  refine r_iastA C dX0_add_54 e53 (by omega) (by omega) (fun h4 g5 o5 => ?_)
  have k4 : Kp (fun t => t = T + 5) h3 h4 := o5.kp e53 rfl
  have hs4 := k4 _ _ _ hs3 (by omega)
  refine r_aload_n C dX0_add_55 rfl ?_
  refine r_dup C dX0_add_56 ?_
  refine r_get C dX0_add_57 flX0_38 hs4 rfl ?_
  refine r_iconst C dX0_add_60 (by decide) ?_
  refine r_iadd C dX0_add_61 (by omega) ?_
  refine r_putA C dX0_add_62 flX0_38 hs4 rfl rfl (fs2 := [vR nt, vR x1, vR x2, vR x3, vR x4, vR x5, vI vs, vI (pg + 1)]) rfl (fun h5 g6 o6 => ?_)
  have k5 : Kp (fun t => t = T) h4 h5 := o6.kp hs4 rfl
  refine r_aload_n C dX0_add_65 rfl ?_
  refine r_get C dX0_add_66 flX0_38 g6 rfl ?_
  refine r_iconst C dX0_add_69 (by decide) ?_
  refine r_isub C dX0_add_70 (by omega) ?_
  rw [show pg + 1 - 1 = pg by omega]
  have kk : Kp (fun t => t = T ∨ (T + 2 ≤ t ∧ t ≤ T + 5)) h h5 := (((k1.mono (fun t z => by omega)).tr (k2.mono (fun t z => by omega))).tr ((k3.mono (fun t z => by omega)).tr (k4.mono (fun t z => by omega)))).tr (k5.mono (fun t z => by omega))
  refine r_iret C dX0_add_71 (by decide) (by decide) ⟨pg, rfl, rfl, ⟨nt, x1, x2, x3, x4, x5, ft, fu fs pg (some q), fu f2 pg w, fu f4 pg (nmd n f), fu f5 pg d, ⟨g6, kk _ _ _ e1 (by omega), k5 _ _ _ (k4 _ _ _ (k3 _ _ _ (k2 _ _ _ g2 (by omega)) (by omega)) (by omega)) (by omega), k5 _ _ _ (k4 _ _ _ (k3 _ _ _ g3 (by omega)) (by omega)) (by omega), k5 _ _ _ (k4 _ _ _ g4 (by omega)) (by omega), k5 _ _ _ g5 (by omega)⟩, hn.kp kk (by omega) (by omega), hv, by omega, fun t q1 q2 => ?_, fun t q1 q2 => ?_, fun t q1 q2 => ?_⟩, kk⟩
  · rw [fu_n (by omega), fu_n (by omega)]
    exact (hw1 t q1 q2).kp kk (by omega) (by omega)
  · by_cases ht : t = pg
    · rw [ht, fu_s, fu_s, fu_s]
      exact hq.kp kk (by omega) (by omega)
    · rw [fu_n ht, fu_n (by omega), fu_n (by omega)]
      exact (hw2 t q1 q2).kp kk (by omega) (by omega)
  · by_cases ht : t = pg
    · rw [ht, fu_s, fu_s, fu_s, fu_s, fu_s, fu_s, fu_s]
      exact ⟨rfl, rfl, rfl⟩
    · rw [fu_n ht, fu_n ht, fu_n ht, fu_n ht, fu_n ht, fu_n (by omega), fu_n (by omega)]
      exact hw3 t q1 q2
theorem m_addTelling {w : Int} (hb : BkR h a T vs pg mn tx tl du) (hT : 6 < T) (h12 : pg < 12) : Meets yX0_addTelling cX0_addTelling 2 (some .int) 3 0 0 [vR a, vI w] h (pX (fun z h' => z = pg ∧ BkR h' a T vs (pg + 1) (fu mn (48 + pg) 0) (fu tx (48 + pg) (fun _ => 0)) (fu tl pg w) (fu du pg 0) ∧ Kp (fun t => t = T ∨ (T + 2 ≤ t ∧ t ≤ T + 5)) h h')) := by
  obtain ⟨nt, x1, x2, x3, x4, x5, ft, fs, f2, f4, f5, ⟨hs, e1, e2, e3, e4, e5⟩, hn, hv, hp, hw1, hw2, hw3⟩ := id hb
  refine Meets.of (plainFor_of_name (by decide)) (Nat.le_of_ble_eq_true rfl) (fun X C hX hN hA => ?_)
  refine r_aload_n C dX0_addTelling_0 rfl ?_
  refine r_iload_n C dX0_addTelling_1 rfl ?_
  refine r_aload_n C dX0_addTelling_2 rfl ?_
  refine r_get C dX0_addTelling_3 flX0_9 hs rfl ?_
  refine r_iconst C dX0_addTelling_6 (by decide) ?_
  refine r_cVx C dX0_addTelling_7 mlX0_62 kX0_add (m_Badd (w := w) (d := 0) hb hT hn h12) hs rfl rfl rfl (Nat.le_of_ble_eq_true rfl) (fit hX (by decide)) ?_
  rintro z h1 ⟨hz, r⟩
  exact r_iret C dX0_addTelling_10 (by decide) (by decide) ⟨z, rfl, hz, r⟩
theorem m_addExample {n d : Int} {q : Nat} {f : Int → Int} (hb : BkR h a T vs pg mn tx tl du) (hT : 6 < T) (hq : TxP h (some q) n f) (h12 : pg < 12) : Meets yX0_addExample cX0_addExample 3 (some .int) 3 0 0 [vR a, vR q, vI d] h (pX (fun z h' => z = pg ∧ BkR h' a T vs (pg + 1) (fu mn (48 + pg) n) (fu tx (48 + pg) f) (fu tl pg (-6)) (fu du pg d) ∧ Kp (fun t => t = T ∨ (T + 2 ≤ t ∧ t ≤ T + 5)) h h')) := by
  obtain ⟨nt, x1, x2, x3, x4, x5, ft, fs, f2, f4, f5, ⟨hs, e1, e2, e3, e4, e5⟩, hn, hv, hp, hw1, hw2, hw3⟩ := id hb
  refine Meets.of (plainFor_of_name (by decide)) (Nat.le_of_ble_eq_true rfl) (fun X C hX hN hA => ?_)
  refine r_aload_n C dX0_addExample_0 rfl ?_
  refine r_bipush C dX0_addExample_1 (by decide) ?_
  refine r_aload_n C dX0_addExample_3 rfl ?_
  refine r_iload_n C dX0_addExample_4 rfl ?_
  refine r_cVx C dX0_addExample_5 mlX0_62 kX0_add (m_Badd (w := -6) (d := d) hb hT hq h12) hs rfl rfl rfl (Nat.le_of_ble_eq_true rfl) (fit hX (by decide)) ?_
  rintro z h1 ⟨hz, r⟩
  exact r_iret C dX0_addExample_8 (by decide) (by decide) ⟨z, rfl, hz, r⟩
end
end
section
/-! Book, third part: as another one; new ones. Reckoner: its words -/
section
variable {h : Pic} {a T : Nat} {vs pg : Int} {mn : Int → Int} {tx : Int → Int → Int} {tl du : Int → Int}
theorem m_Bbecome {a2 T2 : Nat} {vs2 pg2 : Int} {mn2 : Int → Int} {tx2 : Int → Int → Int} {tl2 du2 : Int → Int} (hb : BkR h a T vs pg mn tx tl du) (hb2 : BkR h a2 T2 vs2 pg2 mn2 tx2 tl2 du2) (hT : 6 < T) (hT2 : T + 5 < T2 ∨ T2 + 5 < T) :
    Meets yX0_become cX0_become 3 none 0 0 0 [vR a, vR a2] h (pV (fun h' => BkR h' a T vs2 pg2 mn2 tx2 tl2 du2 ∧ Kp (fun t => T ≤ t ∧ t ≤ T + 5) h h')) := by
  obtain ⟨nt, x1, x2, x3, x4, x5, ft, fs, f2, f4, f5, ⟨hs, e1, e2, e3, e4, e5⟩, hn, hv, hp, hw1, hw2, hw3⟩ := id hb
  obtain ⟨nto, y1, y2, y3, y4, y5, fto, fso, f2o, f4o, f5o, ⟨hso, d1, d2, d3, d4, d5⟩, hno, hvo, hpo, ho1, ho2, ho3⟩ := id hb2
  refine Meets.of (plainFor_of_name (by decide)) (Nat.le_of_ble_eq_true rfl) (fun X C hX hN hA => ?_)
  have loop2 : ∀ (j : Nat) (i : Int) (h' : Pic) (ft' fs' : Int → Option Nat) (f2' f4' f5' : Int → Int), 0 ≤ i → i ≤ 12 → 12 - i < j → Kp (fun t => T ≤ t ∧ t ≤ T + 5) h h' →
      h' a = some (ob T 0 [vR nt, vR x1, vR x2, vR x3, vR x4, vR x5, vI vs, vI pg]) → h' x1 = some (ra (T + 1) 0 48 ft') → h' x2 = some (ia (T + 2) 0 12 f2') → h' x3 = some (ra (T + 3) 0 12 fs') → h' x4 = some (ia (T + 4) 0 12 f4') → h' x5 = some (ia (T + 5) 0 12 f5') →
      (∀ t, 0 ≤ t → t < 48 → ft' t = fto t) → (∀ p, 0 ≤ p → p < i → f2' p = f2o p ∧ fs' p = fso p ∧ f4' p = f4o p ∧ f5' p = f5o p) →
      Go X (Qm X (pV (fun h' => BkR h' a T vs2 pg2 mn2 tx2 tl2 du2 ∧ Kp (fun t => T ≤ t ∧ t ≤ T + 5) h h')) 0 0) 0 0 h' 28 [some (vR a), some (vR a2), some (vI i)] [] := by
    intro j
    induction j with
    | zero => intro i h' ft' fs' f2' f4' f5' h3 h4 h5; exact absurd h5 (by omega)
    | succ j ih =>
      intro i h' ft' fs' f2' f4' f5' h3 h4 h5 hk c0 c1 c2 c3 c4 c5 hft hpp
      have hso' := hk _ _ _ hso (by omega)
      have d2' := hk _ _ _ d2 (by omega)
      have d3' := hk _ _ _ d3 (by omega)
      have d4' := hk _ _ _ d4 (by omega)
      have d5' := hk _ _ _ d5 (by omega)
      refine r_iload_n C dX0_become_28 rfl ?_
      refine r_bipush C dX0_become_29 (by decide) ?_
      refine r_icmp_ge (tgt := 88) C dX0_become_31 (by decide) (fun hc31 => ?_) (fun hc31 => ?_)
      · refine r_aload_n C dX0_become_88 rfl ?_
        refine r_aload_n C dX0_become_89 rfl ?_
        refine r_get C dX0_become_90 flX0_34 hso' rfl ?_
        refine r_putA C dX0_become_93 flX0_34 c0 rfl rfl (fs2 := [vR nt, vR x1, vR x2, vR x3, vR x4, vR x5, vI vs2, vI pg]) rfl (fun h1 g0 o0 => ?_)
        have k1 : Kp (fun t => t = T) h' h1 := o0.kp c0 rfl
        refine r_aload_n C dX0_become_96 rfl ?_
        refine r_aload_n C dX0_become_97 rfl ?_
        refine r_get C dX0_become_98 flX0_38 (k1 _ _ _ hso' (by omega)) rfl ?_
        refine r_putA C dX0_become_101 flX0_38 g0 rfl rfl (fs2 := [vR nt, vR x1, vR x2, vR x3, vR x4, vR x5, vI vs2, vI pg2]) rfl (fun h2 g1 o1 => ?_)
        have k2 : Kp (fun t => t = T) h1 h2 := o1.kp g0 rfl
        have k3 := k1.tr k2
        have kk : Kp (fun t => T ≤ t ∧ t ≤ T + 5) h h2 := hk.tr (k3.mono (fun t z => by omega))
        refine r_vret C dX0_become_104 (by decide) (by decide) ⟨rfl, ⟨nt, x1, x2, x3, x4, x5, ft', fs', f2', f4', f5', ⟨g1, k3 _ _ _ c1 (by omega), k3 _ _ _ c2 (by omega), k3 _ _ _ c3 (by omega), k3 _ _ _ c4 (by omega), k3 _ _ _ c5 (by omega)⟩, hn.kp kk (by omega) (by omega), hvo, hpo, fun t q1 q2 => ?_, fun t q1 q2 => ?_, fun t q1 q2 => ?_⟩, kk⟩
        · rw [hft t q1 q2]; exact (ho1 t q1 q2).kp kk (by omega) (by omega)
        · rw [(hpp t q1 (by omega)).2.1]; exact (ho2 t q1 q2).kp kk (by omega) (by omega)
        · obtain ⟨r1, -, r3, r4⟩ := hpp t q1 (by omega)
          rw [r1, r3, r4]; exact ho3 t q1 q2
      obtain ⟨qo, bo, mo, go, hqo, hqo1, -⟩ := (ho2 i h3 (by omega)).kp hk (by omega) (by omega)
      refine r_aload_n C dX0_become_34 rfl ?_
      refine r_get C dX0_become_35 flX0_21 c0 rfl ?_
      refine r_iload_n C dX0_become_38 rfl ?_
      refine r_aload_n C dX0_become_39 rfl ?_
      refine r_get C dX0_become_40 flX0_21 hso' rfl ?_
      refine r_iload_n C dX0_become_43 rfl ?_
      refine r_iald C dX0_become_44 d2' (by omega) (by omega) ?_
      refine r_iastA C dX0_become_45 c2 (by omega) (by omega) (fun h1 g2 o2 => ?_)
      have k1 : Kp (fun t => t = T + 2) h' h1 := o2.kp c2 rfl
      refine r_aload_n C dX0_become_46 rfl ?_
      refine r_get C dX0_become_47 flX0_25 (k1 _ _ _ c0 (by omega)) rfl ?_
      refine r_iload_n C dX0_become_50 rfl ?_
      refine r_aload_n C dX0_become_51 rfl ?_
      refine r_get C dX0_become_52 flX0_25 (k1 _ _ _ hso' (by omega)) rfl ?_
      refine r_iload_n C dX0_become_55 rfl ?_
      refine r_aald C dX0_become_56 (k1 _ _ _ d3' (by omega)) (by omega) (by omega) hqo ?_
      refine r_aastA C dX0_become_57 (k1 _ _ _ c3 (by omega)) (k1 _ _ _ hqo1 (by omega)) (by omega) (by omega) (fun h2 g3 o3 => ?_)
      have k2 : Kp (fun t => t = T + 3) h1 h2 := o3.kp (k1 _ _ _ c3 (by omega)) rfl
      have k12 : Kp (fun t => t = T + 2 ∨ t = T + 3) h' h2 := (k1.mono (fun t z => Or.inl z)).tr (k2.mono (fun t z => Or.inr z))
      refine r_aload_n C dX0_become_58 rfl ?_
      refine r_get C dX0_become_59 flX0_28 (k12 _ _ _ c0 (by omega)) rfl ?_
      refine r_iload_n C dX0_become_62 rfl ?_
      refine r_aload_n C dX0_become_63 rfl ?_
      refine r_get C dX0_become_64 flX0_28 (k12 _ _ _ hso' (by omega)) rfl ?_
      refine r_iload_n C dX0_become_67 rfl ?_
      refine r_iald C dX0_become_68 (k12 _ _ _ d4' (by omega)) (by omega) (by omega) ?_
      refine r_iastA C dX0_become_69 (k12 _ _ _ c4 (by omega)) (by omega) (by omega) (fun h3' g4 o4 => ?_)
      have k3 : Kp (fun t => t = T + 4) h2 h3' := o4.kp (k12 _ _ _ c4 (by omega)) rfl
      have k13 : Kp (fun t => t = T + 2 ∨ t = T + 3 ∨ t = T + 4) h' h3' := (k12.mono (fun t z => by omega)).tr (k3.mono (fun t z => by omega))
      refine r_aload_n C dX0_become_70 rfl ?_
      refine r_get C dX0_become_71 flX0_31 (k13 _ _ _ c0 (by omega)) rfl ?_
      refine r_iload_n C dX0_become_74 rfl ?_
      refine r_aload_n C dX0_become_75 rfl ?_
      refine r_get C dX0_become_76 flX0_31 (k13 _ _ _ hso' (by omega)) rfl ?_
      refine r_iload_n C dX0_become_79 rfl ?_
      refine r_iald C dX0_become_80 (k13 _ _ _ d5' (by omega)) (by omega) (by omega) ?_
      refine r_iastA C dX0_become_81 (k13 _ _ _ c5 (by omega)) (by omega) (by omega) (fun h4' g5 o5 => ?_)
      have k4 : Kp (fun t => t = T + 5) h3' h4' := o5.kp (k13 _ _ _ c5 (by omega)) rfl
      have k14 : Kp (fun t => t = T + 2 ∨ t = T + 3 ∨ t = T + 4 ∨ t = T + 5) h' h4' := (k13.mono (fun t z => by omega)).tr (k4.mono (fun t z => by omega))
      refine r_iinc C dX0_become_82 rfl (by decide) (by omega) ?_
      refine r_goto (tgt := 28) C dX0_become_85 (by decide) ?_
      refine ih (i + 1) h4' ft' (fu fs' i (some qo)) (fu f2' i (f2o i)) (fu f4' i (f4o i)) (fu f5' i (f5o i)) (by omega) (by omega) (by omega) (hk.tr (k14.mono (fun t z => by omega))) (k14 _ _ _ c0 (by omega)) (k14 _ _ _ c1 (by omega)) (k4 _ _ _ (k3 _ _ _ (k2 _ _ _ g2 (by omega)) (by omega)) (by omega)) (k4 _ _ _ (k3 _ _ _ g3 (by omega)) (by omega)) (k4 _ _ _ g4 (by omega)) g5 hft (fun p q1 q2 => ?_)
      by_cases hpi : p = i
      · rw [hpi, fu_s, fu_s, fu_s, fu_s, hqo]
        exact ⟨rfl, rfl, rfl, rfl⟩
      · rw [fu_n hpi, fu_n hpi, fu_n hpi, fu_n hpi]
        exact hpp p q1 (by omega)
  have loop1 : ∀ (j : Nat) (i : Int) (h' : Pic) (ft' : Int → Option Nat), 0 ≤ i → i ≤ 48 → 48 - i < j → Kp (fun t => t = T + 1) h h' → h' x1 = some (ra (T + 1) 0 48 ft') → (∀ t, 0 ≤ t → t < i → ft' t = fto t) →
      Go X (Qm X (pV (fun h' => BkR h' a T vs2 pg2 mn2 tx2 tl2 du2 ∧ Kp (fun t => T ≤ t ∧ t ≤ T + 5) h h')) 0 0) 0 0 h' 2 [some (vR a), some (vR a2), some (vI i)] [] := by
    intro j
    induction j with
    | zero => intro i h' ft' h3 h4 h5; exact absurd h5 (by omega)
    | succ j ih =>
      intro i h' ft' h3 h4 h5 hk c1 hft
      refine r_iload_n C dX0_become_2 rfl ?_
      refine r_bipush C dX0_become_3 (by decide) ?_
      refine r_icmp_ge (tgt := 26) C dX0_become_5 (by decide) (fun hc5 => ?_) (fun hc5 => ?_)
      · refine r_iconst C dX0_become_26 (by decide) ?_
        refine r_istore_n C dX0_become_27 (by decide) ?_
        exact loop2 13 0 h' ft' fs f2 f4 f5 (by omega) (by omega) (by omega) (hk.mono (fun t z => by omega)) (hk _ _ _ hs (by omega)) c1 (hk _ _ _ e2 (by omega)) (hk _ _ _ e3 (by omega)) (hk _ _ _ e4 (by omega)) (hk _ _ _ e5 (by omega)) (fun t q1 q2 => hft t q1 (by omega)) (fun p q1 q2 => by omega)
      obtain ⟨qo, bo, mo, go, hqo, hqo1, -⟩ := (ho1 i h3 (by omega)).kp hk (by omega) (by omega)
      refine r_aload_n C dX0_become_8 rfl ?_
      refine r_get C dX0_become_9 flX0_17 (hk _ _ _ hs (by omega)) rfl ?_
      refine r_iload_n C dX0_become_12 rfl ?_
      refine r_aload_n C dX0_become_13 rfl ?_
      refine r_get C dX0_become_14 flX0_17 (hk _ _ _ hso (by omega)) rfl ?_
      refine r_iload_n C dX0_become_17 rfl ?_
      refine r_aald C dX0_become_18 (hk _ _ _ d1 (by omega)) (by omega) (by omega) hqo ?_
      refine r_aastA C dX0_become_19 c1 hqo1 (by omega) (by omega) (fun h1 g1 o1 => ?_)
      have k1 : Kp (fun t => t = T + 1) h' h1 := o1.kp c1 rfl
      refine r_iinc C dX0_become_20 rfl (by decide) (by omega) ?_
      refine r_goto (tgt := 2) C dX0_become_23 (by decide) ?_
      refine ih (i + 1) h1 (fu ft' i (some qo)) (by omega) (by omega) (by omega) (hk.tr k1) g1 (fun t q1 q2 => ?_)
      by_cases hti : t = i
      · rw [hti, fu_s, hqo]
      · rw [fu_n hti]; exact hft t q1 (by omega)
  refine r_iconst C dX0_become_0 (by decide) ?_
  refine r_istore_n C dX0_become_1 (by decide) ?_
  exact loop1 49 0 h ft (by omega) (by omega) (by omega) Kp.rf e1 (fun t q1 q2 => by omega)
end
/-- the words of a version -/
theorem m_take {h : Pic} {a a2 xw T : Nat} {fw : Int → Option Nat} {pl gv op us vs pg v : Int} {mn : Int → Int} {tx : Int → Int → Int} {tl du : Int → Int} (hr : RkR h a xw fw pl gv op us) (hb : BkR h a2 T vs pg mn tx tl du) (hT : T + 5 < 42) (hT6 : 6 < T) (h0 : 0 ≤ v) (h9 : v < vs) :
    Meets yX3_take cX3_take 4 none 2 0 0 [vR a, vR a2, vI v] h (pV (fun h' => ∃ fw', RkR h' a xw fw' pl gv op us ∧ Kp (fun t => t = 43) h h' ∧ ∀ w, 0 ≤ w → w < 8 → TxP h' (fw' w) (mn (8 * v + w)) (tx (8 * v + w)))) := by
  refine Meets.of (plainFor_of_name (by decide)) (Nat.le_of_ble_eq_true rfl) (fun X C hX hN hA => ?_)
  have loop : ∀ (j : Nat) (i : Int) (h' : Pic) (fw' : Int → Option Nat), 0 ≤ i → i ≤ 8 → 8 - i < j → RkR h' a xw fw' pl gv op us → Kp (fun t => t = 43) h h' → (∀ w, 0 ≤ w → w < i → TxP h' (fw' w) (mn (8 * v + w)) (tx (8 * v + w))) →
      Go X (Qm X (pV (fun h' => ∃ fw', RkR h' a xw fw' pl gv op us ∧ Kp (fun t => t = 43) h h' ∧ ∀ w, 0 ≤ w → w < 8 → TxP h' (fw' w) (mn (8 * v + w)) (tx (8 * v + w)))) 0 0) 0 0 h' 2 [some (vR a), some (vR a2), some (vI v), some (vI i)] [] := by
    intro j
    induction j with
    | zero => intro i h' fw' h3 h4 h5; exact absurd h5 (by omega)
    | succ j ih =>
      intro i h' fw' h3 h4 h5 hr' hk hww
      have hb' : BkR h' a2 T vs pg mn tx tl du := hb.kp hk (by omega) (by omega) (fun t q1 q2 => by omega)
      obtain ⟨nt, x1, x2, x3, x4, x5, ft, fs, f2, f4, f5, ⟨hs, -⟩, -⟩ := id hb'
      refine r_iload_n C dX3_take_2 rfl ?_
      refine r_bipush C dX3_take_3 (by decide) ?_
      refine r_icmp_ge (tgt := 26) C dX3_take_5 (by decide) (fun hc5 => ?_) (fun hc5 => ?_)
      · exact r_vret C dX3_take_26 (by decide) (by decide) ⟨rfl, fw', hr', hk, fun w q1 q2 => hww w q1 (by omega)⟩
      refine r_aload_n C dX3_take_8 rfl ?_
      refine r_get C dX3_take_9 flX3_11 hr'.1 rfl ?_
      refine r_iload_n C dX3_take_12 rfl ?_
      refine r_aload_n C dX3_take_13 rfl ?_
      refine r_iload_n C dX3_take_14 rfl ?_
      refine r_iload_n C dX3_take_15 rfl ?_
      refine r_cVy C dX3_take_16 mlX3_17 kX0_text (m_text (v := v) (w := i) hb' (by omega) (by omega) (by omega) (by omega)) hs rfl rfl rfl (Nat.le_of_ble_eq_true rfl) (fit hX (by decide)) ?_
      rintro q h'' ⟨rfl, htq⟩
      obtain ⟨q', b', m', g', hqq, hq1, hq2, hq3⟩ := id htq
      cases hqq
      refine r_aastA C dX3_take_19 hr'.2 hq1 (by omega) (by omega) (fun h1 g1 o1 => ?_)
      have k1 : Kp (fun t => t = 43) h'' h1 := o1.kp hr'.2 rfl
      refine r_iinc C dX3_take_20 rfl (by decide) (by omega) ?_
      refine r_goto (tgt := 2) C dX3_take_23 (by decide) ?_
      refine ih (i + 1) h1 (fu fw' i (some q)) (by omega) (by omega) (by omega) ⟨k1 _ _ _ hr'.1 (by omega), g1⟩ (hk.tr k1) (fun w q1 q2 => ?_)
      by_cases hwi : w = i
      · rw [hwi, fu_s]; exact htq.kp k1 (by omega) (by omega)
      · rw [fu_n hwi]; exact (hww w q1 (by omega)).kp k1 (by omega) (by omega)
  refine r_iconst C dX3_take_0 (by decide) ?_
  refine r_istore_n C dX3_take_1 (by decide) ?_
  exact loop 9 0 h fw (by omega) (by omega) (by omega) hr Kp.rf (fun w q1 q2 => by omega)
theorem m_replace {h : Pic} {a xw q t b : Nat} {fw : Int → Option Nat} {pl gv op us w n : Int} (hr : RkR h a xw fw pl gv op us) (hq : h q = some (ob t 6 [vR b, vI n])) (h0 : 0 ≤ w) (h9 : w < 8) :
    Meets yX3_replace cX3_replace 3 none 1 0 0 [vR a, vI w, vR q] h (pV (fun h' => RkR h' a xw (fu fw w (some q)) pl gv op us ∧ Kp (fun t => t = 43) h h')) := by
  refine Meets.of (plainFor_of_name (by decide)) (Nat.le_of_ble_eq_true rfl) (fun X C hX hN hA => ?_)
  refine r_iload_n C dX3_replace_0 rfl ?_
  refine r_cNi C dX3_replace_1 C.K.2.2.2.2 kX7_isWord (m_isWord (c := w)) rfl rfl (Nat.le_of_ble_eq_true rfl) (fit hX (by decide)) ?_
  rw [zb_t ⟨h0, h9⟩]
  refine r_if_eq (tgt := 14) C dX3_replace_4 (by decide) (fun q => absurd q (by decide)) (fun _ => ?_)
  refine r_aload_n C dX3_replace_7 rfl ?_
  refine r_get C dX3_replace_8 flX3_11 hr.1 rfl ?_
  refine r_iload_n C dX3_replace_11 rfl ?_
  refine r_aload_n C dX3_replace_12 rfl ?_
  refine r_aastA C dX3_replace_13 hr.2 hq (by omega) (by omega) (fun h1 g1 o1 => ?_)
  have k1 : Kp (fun t => t = 43) h h1 := o1.kp hr.2 rfl
  exact r_vret C dX3_replace_14 (by decide) (by decide) ⟨rfl, ⟨k1 _ _ _ hr.1 (by omega), g1⟩, k1⟩
theorem m_Rused {h : Pic} {a xw : Nat} {fw : Int → Option Nat} {pl gv op us : Int} (hr : RkR h a xw fw pl gv op us) : Meets yX3_used cX3_used 1 (some .int) 0 0 0 [vR a] h (pI us h) := by
  refine Meets.of (plainFor_of_name (by decide)) (Nat.le_of_ble_eq_true rfl) (fun X C hX hN hA => ?_)
  refine r_aload_n C dX3_used_0 rfl ?_
  refine r_get C dX3_used_1 flX3_37 hr.1 rfl ?_
  exact r_iret C dX3_used_4 (by decide) (by decide) ⟨rfl, rfl⟩
end
section
/-! Outcomes: what EXAMPLES come to, kept -/
/-- what the example on page p comes to in version v, and what it used -/
def evV (mn : Int → Int) (tx : Int → Int → Int) (v p : Int) : Sv := evT (fun w => mn (8 * v + w)) (fun w => tx (8 * v + w)) (mn (48 + p)) (tx (48 + p)) 0
def okB (vs pg : Int) (mn : Int → Int) (tx : Int → Int → Int) (tl : Int → Int) : Prop := (∀ v, 0 ≤ v → v < vs → okW (fun w => mn (8 * v + w)) (fun w => tx (8 * v + w))) ∧ (∀ p, 0 ≤ p → p < pg → tl p = -6 → 0 < mn (48 + p) ∧ pe (mn (48 + p)) (tx (48 + p)) 6 0 = mn (48 + p))
def OtR (h : Pic) (ao bk rk y1 y2 y3 : Nat) (kn ca us : Int → Int) : Prop := h ao = some (ob 44 2 [vR bk, vR rk, vR y1, vR y2, vR y3]) ∧ h y1 = some (ia 45 2 72 kn) ∧ h y2 = some (ia 46 0 72 ca) ∧ h y3 = some (ia 47 0 72 us)
def OkO (vs pg : Int) (mn : Int → Int) (tx : Int → Int → Int) (tl kn ca us : Int → Int) : Prop := ∀ v p, 0 ≤ v → v < 6 → 0 ≤ p → p < 12 → ¬ kn (v * 12 + p) = 0 → (v < vs ∧ p < pg ∧ tl p = -6) ∧ ca (v * 12 + p) = (evV mn tx v p).1 ∧ us (v * 12 + p) = (evV mn tx v p).2.2
def OS (h : Pic) (ao bk rk : Nat) (vs pg : Int) (mn : Int → Int) (tx : Int → Int → Int) (tl kn : Int → Int) : Prop := ∃ (y1 y2 y3 xw : Nat) (ca us : Int → Int) (fw : Int → Option Nat) (pl gv op uu : Int), OtR h ao bk rk y1 y2 y3 kn ca us ∧ RkR h rk xw fw pl gv op uu ∧ OkO vs pg mn tx tl kn ca us
abbrev SO : Nat → Prop := fun t => t = 42 ∨ t = 43 ∨ (45 ≤ t ∧ t ≤ 47)
theorem RkR.kp {h h' : Pic} {S : Nat → Prop} {a xw : Nat} {fw : Int → Option Nat} {pl gv op us : Int} (hr : RkR h a xw fw pl gv op us) (x : Kp S h h') (h1 : ¬ S 42) (h2 : ¬ S 43) : RkR h' a xw fw pl gv op us := ⟨x _ _ _ hr.1 h1, x _ _ _ hr.2 h2⟩
theorem OS.kp {h h' : Pic} {S : Nat → Prop} {ao bk rk : Nat} {vs pg : Int} {mn : Int → Int} {tx : Int → Int → Int} {tl kn : Int → Int} (ho : OS h ao bk rk vs pg mn tx tl kn) (x : Kp S h h') (hs : ∀ t, 42 ≤ t → t ≤ 47 → ¬ S t) : OS h' ao bk rk vs pg mn tx tl kn := by
  obtain ⟨y1, y2, y3, xw, ca, us, fw, pl, gv, op, uu, ⟨e0, e1, e2, e3⟩, hr, hk⟩ := ho
  exact ⟨y1, y2, y3, xw, ca, us, fw, pl, gv, op, uu, ⟨x _ _ _ e0 (hs _ (by omega) (by omega)), x _ _ _ e1 (hs _ (by omega) (by omega)), x _ _ _ e2 (hs _ (by omega) (by omega)), x _ _ _ e3 (hs _ (by omega) (by omega))⟩, hr.kp x (hs _ (by omega) (by omega)) (hs _ (by omega) (by omega)), hk⟩
theorem WdR.of {h : Pic} {fw : Int → Option Nat} {wn : Int → Int} {wt : Int → Int → Int} (hw : ∀ w, 0 ≤ w → w < 8 → TxP h (fw w) (wn w) (wt w)) : WdR h fw wn wt := fun w h0 h1 => by
  obtain ⟨q, b, m, g, e, r⟩ := hw w h0 h1
  exact ⟨q, e, b, 5, 6, m, g, r⟩
section
variable {h : Pic} {ao bk rk : Nat} {vs pg : Int} {mn : Int → Int} {tx : Int → Int → Int} {tl du kn : Int → Int}
theorem m_Olearn {p v : Int} (ho : OS h ao bk rk vs pg mn tx tl kn) (hb : BkR h bk 10 vs pg mn tx tl du) (hok : okB vs pg mn tx tl) (hp : 0 ≤ p) (hp2 : p < pg) (hv : 0 ≤ v) (hv2 : v < vs) :
    Meets yX2_learn cX2_learn 4 none 190 0 0 [vR ao, vI p, vI v] h (pV (fun h' => ∃ kn', OS h' ao bk rk vs pg mn tx tl kn' ∧ Kp SO h h' ∧ (∀ c, ¬ kn c = 0 → ¬ kn' c = 0) ∧ (tl p = -6 → ¬ kn' (v * 12 + p) = 0))) := by
  obtain ⟨y1, y2, y3, xw, ca, us, fw, pl, gv, op, uu, ⟨hs, e1, e2, e3⟩, hr, hk⟩ := id ho
  obtain ⟨nt, x1, x2, x3, x4, x5, ft, fs, f2, f4, f5, ⟨hbs, -⟩, -, hvs, hpg, -⟩ := id hb
  refine Meets.of (plainFor_of_name (by decide)) (Nat.le_of_ble_eq_true rfl) (fun X C hX hN hA => ?_)
  refine r_aload_n C dX2_learn_0 rfl ?_
  refine r_get C dX2_learn_1 flX2_9 hs rfl ?_
  refine r_iload_n C dX2_learn_4 rfl ?_
  refine r_cVi C dX2_learn_5 mlX2_34 kX0_isExample (m_isExample (p := p) hb) hbs rfl rfl rfl (Nat.le_of_ble_eq_true rfl) (fit hX (by decide)) ?_
  refine r_if_eq (tgt := 22) C dX2_learn_8 (by decide) (fun hc8 => ?_) (fun hc8 => ?_)
  · exact r_vret C dX2_learn_22 (by decide) (by decide) ⟨rfl, kn, ho, Kp.rf, fun _ z => z, fun z => absurd ⟨hp, hp2, z⟩ (zb_0.mp hc8)⟩
  have hex := (zb_n0.mp hc8).2.2
  refine r_aload_n C dX2_learn_11 rfl ?_
  refine r_get C dX2_learn_12 flX2_9 hs rfl ?_
  refine r_iload_n C dX2_learn_15 rfl ?_
  refine r_cVi C dX2_learn_16 mlX2_40 kX0_hasVersion (m_hasVersion (v := v) hb) hbs rfl rfl rfl (Nat.le_of_ble_eq_true rfl) (fit hX (by decide)) ?_
  rw [zb_t ⟨hv, hv2⟩]
  refine r_if_ne (tgt := 23) C dX2_learn_19 (by decide) (fun _ => ?_) (fun q => absurd q (by decide))
  refine r_iload_n C dX2_learn_23 rfl ?_
  refine r_bipush C dX2_learn_24 (by decide) ?_
  refine r_imul C dX2_learn_26 (by omega) ?_
  refine r_iload_n C dX2_learn_27 rfl ?_
  refine r_iadd C dX2_learn_28 (by omega) ?_
  refine r_istore_n C dX2_learn_29 (by decide) ?_
  refine r_aload_n C dX2_learn_30 rfl ?_
  refine r_get C dX2_learn_31 flX2_19 hs rfl ?_
  refine r_iload_n C dX2_learn_34 rfl ?_
  refine r_zald C dX2_learn_35 e1 (by omega) (by omega) ?_
  refine r_if_ne (tgt := 93) C dX2_learn_36 (by decide) (fun hc36 => ?_) (fun hc36 => ?_)
  · exact r_vret C dX2_learn_93 (by decide) (by decide) ⟨rfl, kn, ho, Kp.rf, fun _ z => z, fun _ => hc36⟩
  refine r_aload_n C dX2_learn_39 rfl ?_
  refine r_get C dX2_learn_40 flX2_15 hs rfl ?_
  refine r_aload_n C dX2_learn_43 rfl ?_
  refine r_get C dX2_learn_44 flX2_9 hs rfl ?_
  refine r_iload_n C dX2_learn_47 rfl ?_
  refine r_cVv C dX2_learn_48 mlX2_43 kX3_take (m_take hr hb (by decide) (by decide) hv hv2) hr.1 rfl rfl rfl (Nat.le_of_ble_eq_true rfl) (fit hX (by decide)) ?_
  rintro h1 ⟨fw', hr1, k1, hww⟩
  have hb1 : BkR h1 bk 10 vs pg mn tx tl du := hb.kp k1 (by omega) (by omega) (fun t q1 q2 => by omega)
  have hs1 := k1 _ _ _ hs (by omega)
  have hbs1 := k1 _ _ _ hbs (by omega)
  refine r_aload_n C dX2_learn_51 rfl ?_
  refine r_get C dX2_learn_52 flX2_23 hs1 rfl ?_
  refine r_iload_n C dX2_learn_55 rfl ?_
  refine r_aload_n C dX2_learn_56 rfl ?_
  refine r_get C dX2_learn_57 flX2_15 hs1 rfl ?_
  refine r_aload_n C dX2_learn_60 rfl ?_
  refine r_get C dX2_learn_61 flX2_9 hs1 rfl ?_
  refine r_iload_n C dX2_learn_64 rfl ?_
  refine r_cVy C dX2_learn_65 mlX2_49 kX0_example (m_example (p := p) hb1 hp hp2) hbs1 rfl rfl rfl (Nat.le_of_ble_eq_true rfl) (fit hX (by decide)) ?_
  rintro q h' ⟨rfl, htq⟩
  refine r_iconst C dX2_learn_68 (by decide) ?_
  refine r_cVx C dX2_learn_69 mlX2_53 kX3_outcome (m_outcome (hok.1 v hv hv2) hr1 (WdR.of hww) htq.R (hok.2 p hp hp2 hex).2 (Int.le_refl 0) (by omega)) hr1.1 rfl rfl rfl (Nat.le_of_ble_eq_true rfl) (fit hX (by decide)) ?_
  rintro v1 h2 ⟨hv1, pl2, gv2, op2, hr2, o2⟩
  have k2 : Kp (fun t => t = 42) h' h2 := o2.kp hr1.1 rfl
  have e22 := k2 _ _ _ (k1 _ _ _ e2 (by omega)) (by omega)
  refine r_iastA C dX2_learn_72 e22 (by omega) (by omega) (fun h3 g2 o3 => ?_)
  have k3 : Kp (fun t => t = 46) h2 h3 := o3.kp e22 rfl
  have k13 : Kp (fun t => t = 42 ∨ t = 43 ∨ t = 46) h h3 := ((k1.mono (fun t z => by omega)).tr (k2.mono (fun t z => by omega))).tr (k3.mono (fun t z => by omega))
  have hs3 := k13 _ _ _ hs (by omega)
  have hr3 := hr2.kp k3 (by omega) (by omega)
  refine r_aload_n C dX2_learn_73 rfl ?_
  refine r_get C dX2_learn_74 flX2_27 hs3 rfl ?_
  refine r_iload_n C dX2_learn_77 rfl ?_
  refine r_aload_n C dX2_learn_78 rfl ?_
  refine r_get C dX2_learn_79 flX2_15 hs3 rfl ?_
  refine r_cVi C dX2_learn_82 mlX2_57 kX3_used (m_Rused hr3) hr3.1 rfl rfl rfl (Nat.le_of_ble_eq_true rfl) (fit hX (by decide)) ?_
  have e33 := k13 _ _ _ e3 (by omega)
  refine r_iastA C dX2_learn_85 e33 (by omega) (by omega) (fun h4 g3 o4 => ?_)
  have k4 : Kp (fun t => t = 47) h3 h4 := o4.kp e33 rfl
  have k14 : Kp (fun t => t = 42 ∨ t = 43 ∨ t = 46 ∨ t = 47) h h4 := (k13.mono (fun t z => by omega)).tr (k4.mono (fun t z => by omega))
  have hs4 := k14 _ _ _ hs (by omega)
  have e14 := k14 _ _ _ e1 (by omega)
  refine r_aload_n C dX2_learn_86 rfl ?_
  refine r_get C dX2_learn_87 flX2_19 hs4 rfl ?_
  refine r_iload_n C dX2_learn_90 rfl ?_
  refine r_iconst C dX2_learn_91 (by decide) ?_
  refine r_zastA C dX2_learn_92 e14 (by omega) (by omega) (by omega) (fun h5 g1 o5 => ?_)
  have k5 : Kp (fun t => t = 45) h4 h5 := o5.kp e14 rfl
  have kk : Kp SO h h5 := (k14.mono (fun t z => by omega)).tr (k5.mono (fun t z => by omega))
  refine r_vret C dX2_learn_93 (by decide) (by decide) ⟨rfl, fu kn (v * 12 + p) 1, ⟨y1, y2, y3, xw, fu ca (v * 12 + p) v1, fu us (v * 12 + p) (evT (fun w => mn (8 * v + w)) (fun w => tx (8 * v + w)) (mn (48 + p)) (tx (48 + p)) 0).2.2, fw', pl2, gv2, op2, _, ⟨k5 _ _ _ hs4 (by omega), g1, k5 _ _ _ (k4 _ _ _ g2 (by omega)) (by omega), k5 _ _ _ g3 (by omega)⟩, (hr3.kp k4 (by omega) (by omega)).kp k5 (by omega) (by omega), fun v' p' q1 q2 q3 q4 q5 => ?_⟩, kk, fun c z => ?_, fun _ => by rw [fu_s]; decide⟩
  · by_cases hcell : v' * 12 + p' = v * 12 + p
    · have hvv : v' = v := by omega
      have hpp : p' = p := by omega
      subst hvv
      subst hpp
      rw [fu_s, fu_s]
      exact ⟨⟨hv2, hp2, hex⟩, hv1, rfl⟩
    · rw [fu_n hcell] at q5
      rw [fu_n hcell, fu_n hcell]
      exact hk v' p' q1 q2 q3 q4 q5
  · by_cases hcell : c = v * 12 + p
    · rw [hcell, fu_s]; decide
    · rw [fu_n hcell]; exact z
theorem m_OlearnAll {v : Int} (ho : OS h ao bk rk vs pg mn tx tl kn) (hb : BkR h bk 10 vs pg mn tx tl du) (hok : okB vs pg mn tx tl) (hv : 0 ≤ v) (hv2 : v < vs) :
    Meets yX2_learnAll cX2_learnAll 3 none 191 0 0 [vR ao, vI v] h (pV (fun h' => ∃ kn', OS h' ao bk rk vs pg mn tx tl kn' ∧ Kp SO h h' ∧ (∀ c, ¬ kn c = 0 → ¬ kn' c = 0) ∧ (∀ p, 0 ≤ p → p < pg → tl p = -6 → ¬ kn' (v * 12 + p) = 0))) := by
  refine Meets.of (plainFor_of_name (by decide)) (Nat.le_of_ble_eq_true rfl) (fun X C hX hN hA => ?_)
  have loop : ∀ (j : Nat) (i : Int) (h' : Pic) (kn' : Int → Int), 0 ≤ i → i ≤ pg → pg - i < j → OS h' ao bk rk vs pg mn tx tl kn' → Kp SO h h' → (∀ c, ¬ kn c = 0 → ¬ kn' c = 0) → (∀ p, 0 ≤ p → p < i → tl p = -6 → ¬ kn' (v * 12 + p) = 0) →
      Go X (Qm X (pV (fun h' => ∃ kn', OS h' ao bk rk vs pg mn tx tl kn' ∧ Kp SO h h' ∧ (∀ c, ¬ kn c = 0 → ¬ kn' c = 0) ∧ (∀ p, 0 ≤ p → p < pg → tl p = -6 → ¬ kn' (v * 12 + p) = 0))) 0 0) 0 0 h' 2 [some (vR ao), some (vI v), some (vI i)] [] := by
    intro j
    induction j with
    | zero => intro i h' kn' h3 h4 h5; exact absurd h5 (by omega)
    | succ j ih =>
      intro i h' kn' h3 h4 h5 ho' hk hm hd
      have hb' : BkR h' bk 10 vs pg mn tx tl du := hb.kp hk (by omega) (by omega) (fun t q1 q2 => by omega)
      obtain ⟨nt, x1, x2, x3, x4, x5, ft, fs, f2, f4, f5, ⟨hbs, -⟩, -, hvs, hpg, -⟩ := id hb'
      obtain ⟨y1, y2, y3, xw, ca, us, fw, pl, gv, op, uu, ⟨hs, -⟩, -⟩ := id ho'
      refine r_iload_n C dX2_learnAll_2 rfl ?_
      refine r_aload_n C dX2_learnAll_3 rfl ?_
      refine r_get C dX2_learnAll_4 flX2_9 hs rfl ?_
      refine r_cVi C dX2_learnAll_7 mlX2_61 kX0_pages (m_pages hb') hbs rfl rfl rfl (Nat.le_of_ble_eq_true rfl) (fit hX (by decide)) ?_
      refine r_icmp_ge (tgt := 25) C dX2_learnAll_10 (by decide) (fun hc10 => ?_) (fun hc10 => ?_)
      · exact r_vret C dX2_learnAll_25 (by decide) (by decide) ⟨rfl, kn', ho', hk, hm, fun p q1 q2 => hd p q1 (by omega)⟩
      refine r_aload_n C dX2_learnAll_13 rfl ?_
      refine r_iload_n C dX2_learnAll_14 rfl ?_
      refine r_iload_n C dX2_learnAll_15 rfl ?_
      refine r_cVv C dX2_learnAll_16 mlX2_64 kX2_learn (m_Olearn (p := i) (v := v) ho' hb' hok h3 (by omega) hv hv2) hs rfl rfl rfl (Nat.le_of_ble_eq_true rfl) (fit hX (by decide)) ?_
      rintro h1 ⟨kn1, ho1, k1, hm1, hd1⟩
      refine r_iinc C dX2_learnAll_19 rfl (by decide) (by omega) ?_
      refine r_goto (tgt := 2) C dX2_learnAll_22 (by decide) ?_
      refine ih (i + 1) h1 kn1 (by omega) (by omega) (by omega) ho1 (hk.tr k1) (fun c z => hm1 c (hm c z)) (fun p q1 q2 q3 => ?_)
      by_cases hpi : p = i
      · rw [hpi] at q3 ⊢; exact hd1 q3
      · exact hm1 _ (hd p q1 (by omega) q3)
  obtain ⟨nt, x1, x2, x3, x4, x5, ft, fs, f2, f4, f5, ⟨hbs, -⟩, -, hvs, hpg, -⟩ := id hb
  refine r_iconst C dX2_learnAll_0 (by decide) ?_
  refine r_istore_n C dX2_learnAll_1 (by decide) ?_
  exact loop (pg.toNat + 1) 0 h kn (by omega) (by omega) (by omega) ho Kp.rf (fun _ z => z) (fun p q1 q2 => by omega)
theorem m_of {p v : Int} (ho : OS h ao bk rk vs pg mn tx tl kn) (hb : BkR h bk 10 vs pg mn tx tl du) (hp : 0 ≤ p) (hp2 : p < pg) (hex : tl p = -6) (hv : 0 ≤ v) (hv2 : v < vs) (hkn : ¬ kn (v * 12 + p) = 0) :
    Meets yX2_of cX2_of 3 (some .int) 2 0 0 [vR ao, vI p, vI v] h (pI (evV mn tx v p).1 h) := by
  obtain ⟨y1, y2, y3, xw, ca, us, fw, pl, gv, op, uu, ⟨hs, e1, e2, e3⟩, hr, hk⟩ := id ho
  obtain ⟨nt, x1, x2, x3, x4, x5, ft, fs, f2, f4, f5, ⟨hbs, -⟩, -, hvs, hpg, -⟩ := id hb
  refine Meets.of (plainFor_of_name (by decide)) (Nat.le_of_ble_eq_true rfl) (fun X C hX hN hA => ?_)
  refine r_aload_n C dX2_of_0 rfl ?_
  refine r_get C dX2_of_1 flX2_9 hs rfl ?_
  refine r_iload_n C dX2_of_4 rfl ?_
  refine r_cVi C dX2_of_5 mlX2_34 kX0_isExample (m_isExample (p := p) hb) hbs rfl rfl rfl (Nat.le_of_ble_eq_true rfl) (fit hX (by decide)) ?_
  refine r_if_eq (tgt := 36) C dX2_of_8 (by decide) (fun hc8 => ?_) (fun hc8 => ?_)
  · exact absurd hc8 (by rw [zb_t ⟨hp, hp2, hex⟩]; decide)
  · refine r_aload_n C dX2_of_11 rfl ?_
    refine r_get C dX2_of_12 flX2_9 hs rfl ?_
    refine r_iload_n C dX2_of_15 rfl ?_
    refine r_cVi C dX2_of_16 mlX2_40 kX0_hasVersion (m_hasVersion (v := v) hb) hbs rfl rfl rfl (Nat.le_of_ble_eq_true rfl) (fit hX (by decide)) ?_
    refine r_if_eq (tgt := 36) C dX2_of_19 (by decide) (fun hc19 => ?_) (fun hc19 => ?_)
    · exact absurd hc19 (by rw [zb_t ⟨hv, hv2⟩]; decide)
    · refine r_aload_n C dX2_of_22 rfl ?_
      refine r_get C dX2_of_23 flX2_23 hs rfl ?_
      refine r_iload_n C dX2_of_26 rfl ?_
      refine r_bipush C dX2_of_27 (by decide) ?_
      refine r_imul C dX2_of_29 (by omega) ?_
      refine r_iload_n C dX2_of_30 rfl ?_
      refine r_iadd C dX2_of_31 (by omega) ?_
      refine r_iald C dX2_of_32 e2 (by omega) (by omega) ?_
      refine r_goto (tgt := 38) C dX2_of_33 (by decide) ?_
      exact r_iret C dX2_of_38 (by decide) (by decide) (⟨some_I (hk v p hv (by omega) hp (by omega) hkn).2.1, rfl⟩)
theorem m_Oused {p v : Int} (ho : OS h ao bk rk vs pg mn tx tl kn) (hb : BkR h bk 10 vs pg mn tx tl du) (hp : 0 ≤ p) (hp2 : p < pg) (hv : 0 ≤ v) (hv2 : v < vs) (hkn : tl p = -6 → ¬ kn (v * 12 + p) = 0) :
    Meets yX2_used cX2_used 3 (some .int) 2 0 0 [vR ao, vI p, vI v] h (pI (if tl p = -6 then (evV mn tx v p).2.2 else 0) h) := by
  obtain ⟨y1, y2, y3, xw, ca, us, fw, pl, gv, op, uu, ⟨hs, e1, e2, e3⟩, hr, hk⟩ := id ho
  obtain ⟨nt, x1, x2, x3, x4, x5, ft, fs, f2, f4, f5, ⟨hbs, -⟩, -, hvs, hpg, -⟩ := id hb
  refine Meets.of (plainFor_of_name (by decide)) (Nat.le_of_ble_eq_true rfl) (fun X C hX hN hA => ?_)
  refine r_aload_n C dX2_used_0 rfl ?_
  refine r_get C dX2_used_1 flX2_9 hs rfl ?_
  refine r_iload_n C dX2_used_4 rfl ?_
  refine r_cVi C dX2_used_5 mlX2_34 kX0_isExample (m_isExample (p := p) hb) hbs rfl rfl rfl (Nat.le_of_ble_eq_true rfl) (fit hX (by decide)) ?_
  refine r_if_eq (tgt := 36) C dX2_used_8 (by decide) (fun hc8 => ?_) (fun hc8 => ?_)
  · refine r_iconst C dX2_used_36 (by decide) ?_
    exact r_iret C dX2_used_37 (by decide) (by decide) (⟨some_I (by first | (rw [if_pos (zb_n0.mp hc8).2.2]; exact (hk v p hv (by omega) hp (by omega) (hkn (zb_n0.mp hc8).2.2)).2.2) | (rw [if_neg (fun z => zb_0.mp hc8 ⟨hp, hp2, z⟩)])), rfl⟩)
  · refine r_aload_n C dX2_used_11 rfl ?_
    refine r_get C dX2_used_12 flX2_9 hs rfl ?_
    refine r_iload_n C dX2_used_15 rfl ?_
    refine r_cVi C dX2_used_16 mlX2_40 kX0_hasVersion (m_hasVersion (v := v) hb) hbs rfl rfl rfl (Nat.le_of_ble_eq_true rfl) (fit hX (by decide)) ?_
    refine r_if_eq (tgt := 36) C dX2_used_19 (by decide) (fun hc19 => ?_) (fun hc19 => ?_)
    · exact absurd hc19 (by rw [zb_t ⟨hv, hv2⟩]; decide)
    · refine r_aload_n C dX2_used_22 rfl ?_
      refine r_get C dX2_used_23 flX2_27 hs rfl ?_
      refine r_iload_n C dX2_used_26 rfl ?_
      refine r_bipush C dX2_used_27 (by decide) ?_
      refine r_imul C dX2_used_29 (by omega) ?_
      refine r_iload_n C dX2_used_30 rfl ?_
      refine r_iadd C dX2_used_31 (by omega) ?_
      refine r_iald C dX2_used_32 e3 (by omega) (by omega) ?_
      refine r_goto (tgt := 37) C dX2_used_33 (by decide) ?_
      exact r_iret C dX2_used_37 (by decide) (by decide) (⟨some_I (by first | (rw [if_pos (zb_n0.mp hc8).2.2]; exact (hk v p hv (by omega) hp (by omega) (hkn (zb_n0.mp hc8).2.2)).2.2) | (rw [if_neg (fun z => zb_0.mp hc8 ⟨hp, hp2, z⟩)])), rfl⟩)
/-- the example on page p holds in version v -/
def hold (mn : Int → Int) (tx : Int → Int → Int) (tl du : Int → Int) (v p : Int) : Prop := tl p = -6 ∧ (evV mn tx v p).1 = du p
theorem m_holds {p v : Int} (ho : OS h ao bk rk vs pg mn tx tl kn) (hb : BkR h bk 10 vs pg mn tx tl du) (hp : 0 ≤ p) (hp2 : p < pg) (hv : 0 ≤ v) (hv2 : v < vs) (hkn : tl p = -6 → ¬ kn (v * 12 + p) = 0) :
    Meets yX2_holds cX2_holds 3 (some .boolean) 2 0 0 [vR ao, vI p, vI v] h (pI (zb (hold mn tx tl du v p)) h) := by
  obtain ⟨y1, y2, y3, xw, ca, us, fw, pl, gv, op, uu, ⟨hs, e1, e2, e3⟩, hr, hk⟩ := id ho
  obtain ⟨nt, x1, x2, x3, x4, x5, ft, fs, f2, f4, f5, ⟨hbs, -⟩, -, hvs, hpg, -⟩ := id hb
  refine Meets.of (plainFor_of_name (by decide)) (Nat.le_of_ble_eq_true rfl) (fun X C hX hN hA => ?_)
  refine r_aload_n C dX2_holds_0 rfl ?_
  refine r_get C dX2_holds_1 flX2_9 hs rfl ?_
  refine r_iload_n C dX2_holds_4 rfl ?_
  refine r_cVi C dX2_holds_5 mlX2_34 kX0_isExample (m_isExample (p := p) hb) hbs rfl rfl rfl (Nat.le_of_ble_eq_true rfl) (fit hX (by decide)) ?_
  refine r_if_eq (tgt := 48) C dX2_holds_8 (by decide) (fun hc8 => ?_) (fun hc8 => ?_)
  · refine r_iconst C dX2_holds_48 (by decide) ?_
    exact r_zret C dX2_holds_49 (by omega) (by decide) (by decide) (⟨some_I (by first | (rw [zb_f (fun z => zb_0.mp hc8 ⟨hp, hp2, z.1⟩)]; done) | (rw [zb_t ⟨hx2, by omega⟩]; done) | (rw [zb_f (fun z => hc41 (by rw [hx3]; exact z.2))]; done)), rfl⟩)
  · have hx2 := (zb_n0.mp hc8).2.2
    refine r_aload_n C dX2_holds_11 rfl ?_
    refine r_get C dX2_holds_12 flX2_9 hs rfl ?_
    refine r_iload_n C dX2_holds_15 rfl ?_
    refine r_cVi C dX2_holds_16 mlX2_40 kX0_hasVersion (m_hasVersion (v := v) hb) hbs rfl rfl rfl (Nat.le_of_ble_eq_true rfl) (fit hX (by decide)) ?_
    refine r_if_eq (tgt := 48) C dX2_holds_19 (by decide) (fun hc19 => ?_) (fun hc19 => ?_)
    · exact absurd hc19 (by rw [zb_t ⟨hv, hv2⟩]; decide)
    · refine r_aload_n C dX2_holds_22 rfl ?_
      refine r_get C dX2_holds_23 flX2_23 hs rfl ?_
      refine r_iload_n C dX2_holds_26 rfl ?_
      refine r_bipush C dX2_holds_27 (by decide) ?_
      refine r_imul C dX2_holds_29 (by omega) ?_
      refine r_iload_n C dX2_holds_30 rfl ?_
      refine r_iadd C dX2_holds_31 (by omega) ?_
      refine r_iald C dX2_holds_32 e2 (by omega) (by omega) ?_
      have hx3 := (hk v p hv (by omega) hp (by omega) (hkn hx2)).2.1
      refine r_aload_n C dX2_holds_33 rfl ?_
      refine r_get C dX2_holds_34 flX2_9 hs rfl ?_
      refine r_iload_n C dX2_holds_37 rfl ?_
      refine r_cVi C dX2_holds_38 mlX2_68 kX0_due (m_due (p := p) hb hp hp2) hbs rfl rfl rfl (Nat.le_of_ble_eq_true rfl) (fit hX (by decide)) ?_
      refine r_icmp_ne (tgt := 48) C dX2_holds_41 (by decide) (fun hc41 => ?_) (fun hc41 => ?_)
      · refine r_iconst C dX2_holds_48 (by decide) ?_
        exact r_zret C dX2_holds_49 (by omega) (by decide) (by decide) (⟨some_I (by first | (rw [zb_f (fun z => zb_0.mp hc8 ⟨hp, hp2, z.1⟩)]; done) | (rw [zb_t ⟨hx2, by omega⟩]; done) | (rw [zb_f (fun z => hc41 (by rw [hx3]; exact z.2))]; done)), rfl⟩)
      · refine r_iconst C dX2_holds_44 (by decide) ?_
        refine r_goto (tgt := 49) C dX2_holds_45 (by decide) ?_
        exact r_zret C dX2_holds_49 (by omega) (by decide) (by decide) (⟨some_I (by first | (rw [zb_f (fun z => zb_0.mp hc8 ⟨hp, hp2, z.1⟩)]; done) | (rw [zb_t ⟨hx2, by omega⟩]; done) | (rw [zb_f (fun z => hc41 (by rw [hx3]; exact z.2))]; done)), rfl⟩)
theorem m_holding {v : Int} (ho : OS h ao bk rk vs pg mn tx tl kn) (hb : BkR h bk 10 vs pg mn tx tl du) (hv : 0 ≤ v) (hv2 : v < vs) (hkn : ∀ p, 0 ≤ p → p < pg → tl p = -6 → ¬ kn (v * 12 + p) = 0) :
    Meets yX2_holding cX2_holding 4 (some .int) 3 0 0 [vR ao, vI v] h (pI (bt (hold mn tx tl du v) pg) h) := by
  obtain ⟨y1, y2, y3, xw, ca, us, fw, pl, gv, op, uu, ⟨hs, e1, e2, e3⟩, hr, hk⟩ := id ho
  obtain ⟨nt, x1, x2, x3, x4, x5, ft, fs, f2, f4, f5, ⟨hbs, -⟩, -, hvs, hpg, -⟩ := id hb
  refine Meets.of (plainFor_of_name (by decide)) (Nat.le_of_ble_eq_true rfl) (fun X C hX hN hA => ?_)
  have loop : ∀ (j : Nat) (i : Int), 0 ≤ i → i ≤ pg → pg - i < j → Go X (Qm X (pI (bt (hold mn tx tl du v) pg) h) 0 0) 0 0 h 4 [some (vR ao), some (vI v), some (vI (bt (hold mn tx tl du v) i)), some (vI i)] [] := by
    intro j
    induction j with
    | zero => intro i h3 h4 h5; exact absurd h5 (by omega)
    | succ j ih =>
      intro i h3 h4 h5
      refine r_iload_n C dX2_holding_4 rfl ?_
      refine r_aload_n C dX2_holding_5 rfl ?_
      refine r_get C dX2_holding_6 flX2_9 hs rfl ?_
      refine r_cVi C dX2_holding_9 mlX2_61 kX0_pages (m_pages hb) hbs rfl rfl rfl (Nat.le_of_ble_eq_true rfl) (fit hX (by decide)) ?_
      refine r_icmp_ge (tgt := 36) C dX2_holding_12 (by decide) (fun hc12 => ?_) (fun hc12 => ?_)
      · refine r_iload_n C dX2_holding_36 rfl ?_
        exact r_iret C dX2_holding_37 (by decide) (by decide) ⟨some_I (by rw [show i = pg by omega]), rfl⟩
      · refine r_aload_n C dX2_holding_15 rfl ?_
        refine r_iload_n C dX2_holding_16 rfl ?_
        refine r_iload_n C dX2_holding_17 rfl ?_
        refine r_cVi C dX2_holding_18 mlX2_72 kX2_holds (m_holds (p := i) (v := v) ho hb h3 (by omega) hv hv2 (hkn i h3 (by omega))) hs rfl rfl rfl (Nat.le_of_ble_eq_true rfl) (fit hX (by decide)) ?_
        refine r_if_eq (tgt := 30) C dX2_holding_21 (by decide) (fun hc21 => ?_) (fun hc21 => ?_)
        · refine r_iinc C dX2_holding_30 rfl (by decide) (by omega) ?_
          refine r_goto (tgt := 4) C dX2_holding_33 (by decide) ?_
          have hz := ih (i + 1) (by omega) (by omega) (by omega)
          first | (rw [bt_f h3 (zb_0.mp hc21)] at hz; exact hz) | (rw [bt_t h3 (zb_n0.mp hc21)] at hz; exact hz)
        · refine r_iload_n C dX2_holding_24 rfl ?_
          refine r_iconst C dX2_holding_25 (by decide) ?_
          refine r_iload_n C dX2_holding_26 rfl ?_
          refine r_ishl C dX2_holding_27 ?_
          refine r_ior C dX2_holding_28 ?_
          refine r_istore_n C dX2_holding_29 (by decide) ?_
          refine r_iinc C dX2_holding_30 rfl (by decide) (by omega) ?_
          refine r_goto (tgt := 4) C dX2_holding_33 (by decide) ?_
          have hz := ih (i + 1) (by omega) (by omega) (by omega)
          first | (rw [bt_f h3 (zb_0.mp hc21)] at hz; exact hz) | (rw [bt_t h3 (zb_n0.mp hc21)] at hz; exact hz)
  refine r_iconst C dX2_holding_0 (by decide) ?_
  refine r_istore_n C dX2_holding_1 (by decide) ?_
  refine r_iconst C dX2_holding_2 (by decide) ?_
  refine r_istore_n C dX2_holding_3 (by decide) ?_
  exact loop (pg.toNat + 1) 0 (by omega) (by omega) (by omega)
/-- the example on page p has used word w in version v -/
def uses (mn : Int → Int) (tx : Int → Int → Int) (tl : Int → Int) (v w p : Int) : Prop := tl p = -6 ∧ bAnd (bShr (evV mn tx v p).2.2 w) 1 = 1
theorem bz_all : (List.range 8).all (fun j => decide (bAnd (bShr 0 (j : Int)) 1 = 0)) = true := by decide +kernel
theorem bz {w : Int} (h0 : 0 ≤ w) (h8 : w < 8) : bAnd (bShr 0 w) 1 = 0 := by
  obtain ⟨j, rfl⟩ := Int.eq_ofNat_of_zero_le h0
  exact of_decide_eq_true (List.all_eq_true.mp bz_all j (List.mem_range.mpr (by omega)))
theorem m_users {v w : Int} (ho : OS h ao bk rk vs pg mn tx tl kn) (hb : BkR h bk 10 vs pg mn tx tl du) (hv : 0 ≤ v) (hv2 : v < vs) (hw : 0 ≤ w) (hw8 : w < 8) (hkn : ∀ p, 0 ≤ p → p < pg → tl p = -6 → ¬ kn (v * 12 + p) = 0) :
    Meets yX2_users cX2_users 5 (some .int) 3 0 0 [vR ao, vI w, vI v] h (pI (bt (uses mn tx tl v w) pg) h) := by
  obtain ⟨y1, y2, y3, xw, ca, us, fw, pl, gv, op, uu, ⟨hs, e1, e2, e3⟩, hr, hk⟩ := id ho
  obtain ⟨nt, x1, x2, x3, x4, x5, ft, fs, f2, f4, f5, ⟨hbs, -⟩, -, hvs, hpg, -⟩ := id hb
  refine Meets.of (plainFor_of_name (by decide)) (Nat.le_of_ble_eq_true rfl) (fun X C hX hN hA => ?_)
  have loop : ∀ (j : Nat) (i : Int), 0 ≤ i → i ≤ pg → pg - i < j → Go X (Qm X (pI (bt (uses mn tx tl v w) pg) h) 0 0) 0 0 h 5 [some (vR ao), some (vI w), some (vI v), some (vI (bt (uses mn tx tl v w) i)), some (vI i)] [] := by
    intro j
    induction j with
    | zero => intro i h3 h4 h5; exact absurd h5 (by omega)
    | succ j ih =>
      intro i h3 h4 h5
      have key : ∀ z : Int, z = (if tl i = -6 then (evV mn tx v i).2.2 else 0) → (bAnd (bShr z w) 1 = 1 ↔ uses mn tx tl v w i) := by
        intro z hz
        by_cases ht : tl i = -6
        · rw [if_pos ht] at hz
          rw [hz]
          exact ⟨fun q => ⟨ht, q⟩, fun q => q.2⟩
        · rw [if_neg ht] at hz
          rw [hz, bz hw hw8]
          exact ⟨fun q => absurd q (by decide), fun q => absurd q.1 ht⟩
      have key2 := key _ rfl
      refine r_iload C dX2_users_5 rfl ?_
      refine r_aload_n C dX2_users_7 rfl ?_
      refine r_get C dX2_users_8 flX2_9 hs rfl ?_
      refine r_cVi C dX2_users_11 mlX2_61 kX0_pages (m_pages hb) hbs rfl rfl rfl (Nat.le_of_ble_eq_true rfl) (fit hX (by decide)) ?_
      refine r_icmp_ge (tgt := 45) C dX2_users_14 (by decide) (fun hc14 => ?_) (fun hc14 => ?_)
      · refine r_iload_n C dX2_users_45 rfl ?_
        exact r_iret C dX2_users_46 (by decide) (by decide) ⟨some_I (by rw [show i = pg by omega]), rfl⟩
      · refine r_aload_n C dX2_users_17 rfl ?_
        refine r_iload C dX2_users_18 rfl ?_
        refine r_iload_n C dX2_users_20 rfl ?_
        refine r_cVi C dX2_users_21 mlX2_76 kX2_used (m_Oused (p := i) (v := v) ho hb h3 (by omega) hv hv2 (hkn i h3 (by omega))) hs rfl rfl rfl (Nat.le_of_ble_eq_true rfl) (fit hX (by decide)) ?_
        refine r_iload_n C dX2_users_24 rfl ?_
        refine r_ishr C dX2_users_25 ?_
        refine r_iconst C dX2_users_26 (by decide) ?_
        refine r_iand C dX2_users_27 ?_
        refine r_iconst C dX2_users_28 (by decide) ?_
        refine r_icmp_ne (tgt := 39) C dX2_users_29 (by decide) (fun hc29 => ?_) (fun hc29 => ?_)
        · refine r_iinc C dX2_users_39 rfl (by decide) (by omega) ?_
          refine r_goto (tgt := 5) C dX2_users_42 (by decide) ?_
          have hz := ih (i + 1) (by omega) (by omega) (by omega)
          first | (rw [bt_f h3 (fun q => hc29 (key2.mpr q))] at hz; exact hz) | (rw [bt_t h3 (key2.mp hc29)] at hz; exact hz)
        · refine r_iload_n C dX2_users_32 rfl ?_
          refine r_iconst C dX2_users_33 (by decide) ?_
          refine r_iload C dX2_users_34 rfl ?_
          refine r_ishl C dX2_users_36 ?_
          refine r_ior C dX2_users_37 ?_
          refine r_istore_n C dX2_users_38 (by decide) ?_
          refine r_iinc C dX2_users_39 rfl (by decide) (by omega) ?_
          refine r_goto (tgt := 5) C dX2_users_42 (by decide) ?_
          have hz := ih (i + 1) (by omega) (by omega) (by omega)
          first | (rw [bt_f h3 (fun q => hc29 (key2.mpr q))] at hz; exact hz) | (rw [bt_t h3 (key2.mp hc29)] at hz; exact hz)
  refine r_iconst C dX2_users_0 (by decide) ?_
  refine r_istore_n C dX2_users_1 (by decide) ?_
  refine r_iconst C dX2_users_2 (by decide) ?_
  refine r_istore C dX2_users_3 (by decide) ?_
  exact loop (pg.toNat + 1) 0 (by omega) (by omega) (by omega)
theorem m_Oforget {v : Int} (ho : OS h ao bk rk vs pg mn tx tl kn) (hv : 0 ≤ v) (hv2 : v < 6) :
    Meets yX2_forget cX2_forget 3 none 0 0 0 [vR ao, vI v] h (pV (fun h' => ∃ kn', OS h' ao bk rk vs pg mn tx tl kn' ∧ Kp (fun t => t = 45) h h' ∧ (∀ c, (c < v * 12 ∨ v * 12 + 12 ≤ c) → kn' c = kn c) ∧ (∀ p, 0 ≤ p → p < 12 → kn' (v * 12 + p) = 0))) := by
  obtain ⟨y1, y2, y3, xw, ca, us, fw, pl, gv, op, uu, ⟨hs, e1, e2, e3⟩, hr, hk⟩ := id ho
  refine Meets.of (plainFor_of_name (by decide)) (Nat.le_of_ble_eq_true rfl) (fun X C hX hN hA => ?_)
  have loop : ∀ (j : Nat) (i : Int) (h' : Pic) (kn' : Int → Int), 0 ≤ i → i ≤ 12 → 12 - i < j → h' y1 = some (ia 45 2 72 kn') → Kp (fun t => t = 45) h h' → (∀ c, (c < v * 12 ∨ v * 12 + i ≤ c) → kn' c = kn c) → (∀ p, 0 ≤ p → p < i → kn' (v * 12 + p) = 0) →
      Go X (Qm X (pV (fun h' => ∃ kn', OS h' ao bk rk vs pg mn tx tl kn' ∧ Kp (fun t => t = 45) h h' ∧ (∀ c, (c < v * 12 ∨ v * 12 + 12 ≤ c) → kn' c = kn c) ∧ (∀ p, 0 ≤ p → p < 12 → kn' (v * 12 + p) = 0))) 0 0) 0 0 h' 12 [some (vR ao), some (vI v), some (vI i)] [] := by
    intro j
    induction j with
    | zero => intro i h' kn' h3 h4 h5; exact absurd h5 (by omega)
    | succ j ih =>
      intro i h' kn' h3 h4 h5 c1 hkp hm hd
      have hs' := hkp _ _ _ hs (by omega)
      refine r_iload_n C dX2_forget_12 rfl ?_
      refine r_bipush C dX2_forget_13 (by decide) ?_
      refine r_icmp_ge (tgt := 36) C dX2_forget_15 (by decide) (fun hc15 => ?_) (fun hc15 => ?_)
      · refine r_vret C dX2_forget_36 (by decide) (by decide) ⟨rfl, kn', ⟨y1, y2, y3, xw, ca, us, fw, pl, gv, op, uu, ⟨hs', c1, hkp _ _ _ e2 (by omega), hkp _ _ _ e3 (by omega)⟩, hr.kp hkp (by omega) (by omega), fun v' p' q1 q2 q3 q4 q5 => ?_⟩, hkp, fun c z => hm c (by omega), fun p q1 q2 => hd p q1 (by omega)⟩
        by_cases hcc : v' = v
        · exact absurd (by rw [hcc]; exact hd p' q3 (by omega)) q5
        · rw [hm _ (by omega)] at q5
          exact hk v' p' q1 q2 q3 q4 q5
      refine r_aload_n C dX2_forget_18 rfl ?_
      refine r_get C dX2_forget_19 flX2_19 hs' rfl ?_
      refine r_iload_n C dX2_forget_22 rfl ?_
      refine r_bipush C dX2_forget_23 (by decide) ?_
      refine r_imul C dX2_forget_25 (by omega) ?_
      refine r_iload_n C dX2_forget_26 rfl ?_
      refine r_iadd C dX2_forget_27 (by omega) ?_
      refine r_iconst C dX2_forget_28 (by decide) ?_
      refine r_zastA C dX2_forget_29 c1 (by omega) (by omega) (by omega) (fun h1 g1 o1 => ?_)
      have k1 : Kp (fun t => t = 45) h' h1 := o1.kp c1 rfl
      refine r_iinc C dX2_forget_30 rfl (by decide) (by omega) ?_
      refine r_goto (tgt := 12) C dX2_forget_33 (by decide) ?_
      refine ih (i + 1) h1 (fu kn' (v * 12 + i) 0) (by omega) (by omega) (by omega) g1 (hkp.tr k1) (fun c z => ?_) (fun p q1 q2 => ?_)
      · rw [fu_n (by omega)]; exact hm c (by omega)
      · by_cases hpi : p = i
        · rw [hpi, fu_s]
        · rw [fu_n (by omega)]; exact hd p q1 (by omega)
  refine r_iload_n C dX2_forget_0 rfl ?_
  refine r_if_lt (tgt := 36) C dX2_forget_1 (by decide) (fun q => absurd q (by omega)) (fun _ => ?_)
  refine r_iload_n C dX2_forget_4 rfl ?_
  refine r_bipush C dX2_forget_5 (by decide) ?_
  refine r_icmp_ge (tgt := 36) C dX2_forget_7 (by decide) (fun q => absurd q (by omega)) (fun _ => ?_)
  refine r_iconst C dX2_forget_10 (by decide) ?_
  refine r_istore_n C dX2_forget_11 (by decide) ?_
  exact loop 13 0 h kn (by omega) (by omega) (by omega) e1 Kp.rf (fun _ _ => rfl) (fun p q1 q2 => by omega)
theorem m_OforgetAll (ho : OS h ao bk rk vs pg mn tx tl kn) :
    Meets yX2_forgetAll cX2_forgetAll 2 none 1 0 0 [vR ao] h (pV (fun h' => ∃ kn', OS h' ao bk rk vs pg mn tx tl kn' ∧ Kp (fun t => t = 45) h h' ∧ (∀ c, 0 ≤ c → c < 72 → kn' c = 0))) := by
  refine Meets.of (plainFor_of_name (by decide)) (Nat.le_of_ble_eq_true rfl) (fun X C hX hN hA => ?_)
  have loop : ∀ (j : Nat) (i : Int) (h' : Pic) (kn' : Int → Int), 0 ≤ i → i ≤ 6 → 6 - i < j → OS h' ao bk rk vs pg mn tx tl kn' → Kp (fun t => t = 45) h h' → (∀ c, 0 ≤ c → c < 12 * i → kn' c = 0) →
      Go X (Qm X (pV (fun h' => ∃ kn', OS h' ao bk rk vs pg mn tx tl kn' ∧ Kp (fun t => t = 45) h h' ∧ (∀ c, 0 ≤ c → c < 72 → kn' c = 0))) 0 0) 0 0 h' 2 [some (vR ao), some (vI i)] [] := by
    intro j
    induction j with
    | zero => intro i h' kn' h3 h4 h5; exact absurd h5 (by omega)
    | succ j ih =>
      intro i h' kn' h3 h4 h5 ho' hkp hd
      obtain ⟨y1, y2, y3, xw, ca, us, fw, pl, gv, op, uu, ⟨hs, -⟩, -⟩ := id ho'
      refine r_iload_n C dX2_forgetAll_2 rfl ?_
      refine r_bipush C dX2_forgetAll_3 (by decide) ?_
      refine r_icmp_ge (tgt := 19) C dX2_forgetAll_5 (by decide) (fun hc5 => ?_) (fun hc5 => ?_)
      · exact r_vret C dX2_forgetAll_19 (by decide) (by decide) ⟨rfl, kn', ho', hkp, fun c q1 q2 => hd c q1 (by omega)⟩
      refine r_aload_n C dX2_forgetAll_8 rfl ?_
      refine r_iload_n C dX2_forgetAll_9 rfl ?_
      refine r_cVv C dX2_forgetAll_10 mlX2_30 kX2_forget (m_Oforget (v := i) ho' h3 (by omega)) hs rfl rfl rfl (Nat.le_of_ble_eq_true rfl) (fit hX (by decide)) ?_
      rintro h1 ⟨kn1, ho1, k1, hm1, hd1⟩
      refine r_iinc C dX2_forgetAll_13 rfl (by decide) (by omega) ?_
      refine r_goto (tgt := 2) C dX2_forgetAll_16 (by decide) ?_
      refine ih (i + 1) h1 kn1 (by omega) (by omega) (by omega) ho1 (hkp.tr k1) (fun c q1 q2 => ?_)
      by_cases hci : c < 12 * i
      · rw [hm1 c (by omega)]; exact hd c q1 hci
      · have := hd1 (c - i * 12) (by omega) (by omega)
        rw [show i * 12 + (c - i * 12) = c by omega] at this
        exact this
  refine r_iconst C dX2_forgetAll_0 (by decide) ?_
  refine r_istore_n C dX2_forgetAll_1 (by decide) ?_
  exact loop 7 0 h kn (by omega) (by omega) (by omega) ho Kp.rf (fun c q1 q2 => by omega)
end
end
section
/-! numbers by their bits -/
def tb (x : Int) (i : Nat) : Bool := (Int32.ofInt x).toBitVec.getLsbD i
theorem tb_ext {x y : Int} (hx : Rg x) (hy : Rg y) (h : ∀ i, i < 32 → tb x i = tb y i) : x = y := (o_eq hx hy).mp (Int32.toBitVec_inj.mp (BitVec.eq_of_getLsbD_eq (fun i hi => h i hi)))
theorem tb_or (x y : Int) (i : Nat) : tb (bOr x y) i = (tb x i || tb y i) := by
  unfold tb bOr
  rw [Int32.ofInt_toInt, Int32.toBitVec_or, BitVec.getLsbD_or]
theorem tb_and (x y : Int) (i : Nat) : tb (bAnd x y) i = (tb x i && tb y i) := by
  unfold tb bAnd
  rw [Int32.ofInt_toInt, Int32.toBitVec_and, BitVec.getLsbD_and]
theorem tb_xor (x y : Int) (i : Nat) : tb (bXor x y) i = (tb x i ^^ tb y i) := by
  unfold tb bXor
  rw [Int32.ofInt_toInt, Int32.toBitVec_xor, BitVec.getLsbD_xor]
theorem tb_m1 : ∀ i, i < 32 → tb (-1) i = true := by decide +kernel
theorem tb_0 (i : Nat) : tb 0 i = false := BitVec.getLsbD_zero
theorem tb_1a : ∀ i, i < 32 → tb 1 i = decide (i = 0) := by decide +kernel
theorem tb_sh_all : (List.range 32).all (fun j => (List.range 32).all (fun i => tb (bShl 1 (j : Int)) i == decide (i = j))) = true := by decide +kernel
theorem tb_shl {i j : Nat} (hj : j < 32) (hi : i < 32) : tb (bShl 1 (j : Int)) i = decide (i = j) := by
  have := List.all_eq_true.mp (List.all_eq_true.mp tb_sh_all j (List.mem_range.mpr hj)) i (List.mem_range.mpr hi)
  exact eq_of_beq this
theorem s_lm : ∀ n, n < 32 → ((nI n &&& 31).toBitVec.smod 32).toNat = n := by decide +kernel
theorem tb_shr {x : Int} {j i : Nat} (hj : j < 32) (hi : i < 32) : tb (bShr x (j : Int)) i = if j + i < 32 then tb x (j + i) else tb x 31 := by
  unfold tb bShr
  rw [Int32.ofInt_toInt, Int32.ofInt_eq_ofNat]
  show (Int32.ofInt x >>> (nI j &&& 31)).toBitVec.getLsbD i = _
  rw [Int32.toBitVec_shiftRight]
  show ((Int32.ofInt x).toBitVec.sshiftRight ((nI j &&& 31).toBitVec.smod 32).toNat).getLsbD i = _
  rw [s_lm j hj, BitVec.getLsbD_sshiftRight, BitVec.msb_eq_getLsbD_last]
  simp [hi]
/-- one bit, as the code asks for it -/
theorem tb_bit {x : Int} {j : Nat} (hj : j < 32) : bAnd (bShr x (j : Int)) 1 = if tb x j then 1 else 0 := by
  refine tb_ext (b_rg _) (by split <;> omega) (fun i hi => ?_)
  rw [tb_and, tb_shr hj hi, tb_1a i hi]
  by_cases h0 : i = 0
  · subst h0
    rw [if_pos (by omega)]
    cases tb x (j + 0) with
    | true => simp [tb_1a 0 (by omega)]
    | false => simp [tb_0]
  · have e : (decide (i = 0)) = false := by simpa using h0
    rw [e, Bool.and_false]
    split
    · rw [tb_1a i hi, e]
    · rw [tb_0]
theorem bit_1 {x j : Int} (h0 : 0 ≤ j) (h1 : j < 32) : bAnd (bShr x j) 1 = 1 ↔ tb x j.toNat = true := by
  obtain ⟨k, rfl⟩ := Int.eq_ofNat_of_zero_le h0
  rw [tb_bit (by omega)]
  show _ ↔ tb x k = true
  cases tb x k <;> simp
theorem bit_01 {x j : Int} (h0 : 0 ≤ j) (h1 : j < 32) : bAnd (bShr x j) 1 = 0 ∨ bAnd (bShr x j) 1 = 1 := by
  obtain ⟨k, rfl⟩ := Int.eq_ofNat_of_zero_le h0
  rw [tb_bit (by omega)]
  cases tb x k <;> simp
theorem tb_bitsN (P : Int → Prop) : ∀ (n i : Nat), n ≤ 31 → i < 32 → (tb (bitsN P n) i = true ↔ i < n ∧ P i) := by
  intro n
  induction n with
  | zero =>
    intro i _ _
    show tb 0 i = true ↔ _
    rw [tb_0]
    exact ⟨fun q => absurd q (by decide), fun q => absurd q.1 (by omega)⟩
  | succ n ih =>
    intro i hn hi
    have ihi := ih i (by omega) hi
    by_cases hp : P n
    · have e : bitsN P (n + 1) = bOr (bitsN P n) (bShl 1 n) := by
        conv => lhs; unfold bitsN
        exact if_pos hp
      rw [e, tb_or, tb_shl (by omega) hi, Bool.or_eq_true, ihi, decide_eq_true_iff]
      refine ⟨fun q => ?_, fun q => ?_⟩
      · rcases q with q | q
        · exact ⟨by omega, q.2⟩
        · subst q; exact ⟨by omega, hp⟩
      · by_cases hin : i = n
        · exact Or.inr hin
        · exact Or.inl ⟨by omega, q.2⟩
    · have e : bitsN P (n + 1) = bitsN P n := by
        conv => lhs; unfold bitsN
        exact if_neg hp
      rw [e, ihi]
      refine ⟨fun q => ⟨by omega, q.2⟩, fun q => ⟨?_, q.2⟩⟩
      by_cases hin : i = n
      · subst hin; exact absurd q.2 hp
      · omega
theorem tb_bt {P : Int → Prop} {n : Int} {i : Nat} (h1 : n ≤ 31) (hi : i < 32) : tb (bt P n) i = true ↔ (i : Int) < n ∧ P i := by
  unfold bt
  rw [tb_bitsN P n.toNat i (by omega) hi]
  refine ⟨fun q => ⟨by omega, q.2⟩, fun q => ⟨by omega, q.2⟩⟩
theorem bitsN_rg (P : Int → Prop) (n : Nat) : Rg (bitsN P n) := by
  cases n with
  | zero => show Rg 0; omega
  | succ n =>
    by_cases hp : P n
    · have e : bitsN P (n + 1) = bOr (bitsN P n) (bShl 1 n) := by
        conv => lhs; unfold bitsN
        exact if_pos hp
      rw [e]; exact b_rg _
    · have e : bitsN P (n + 1) = bitsN P n := by
        conv => lhs; unfold bitsN
        exact if_neg hp
      rw [e]; exact bitsN_rg P n
theorem bt_rg (P : Int → Prop) (n : Int) : Rg (bt P n) := bitsN_rg P _
theorem bt_congr {P P' : Int → Prop} {n : Int} (h : ∀ i, 0 ≤ i → i < n → (P i ↔ P' i)) : bt P n = bt P' n := by
  have key : ∀ m : Nat, (m : Int) ≤ n → bitsN P m = bitsN P' m := by
    intro m
    induction m with
    | zero => intro _; rfl
    | succ m ih =>
      intro hm
      have hi := h m (by omega) (by omega)
      have ihm := ih (by omega)
      conv => lhs; unfold bitsN
      conv => rhs; unfold bitsN
      by_cases hp : P m
      · rw [if_pos hp, if_pos (hi.mp hp), ihm]
      · rw [if_neg hp, if_neg (fun q => hp (hi.mpr q)), ihm]
  unfold bt
  by_cases hn : 0 ≤ n
  · exact key n.toNat (by omega)
  · rw [show n.toNat = 0 by omega]; rfl
theorem and_0 {x y : Int} : bAnd x y = 0 ↔ ∀ i, i < 32 → ¬ (tb x i = true ∧ tb y i = true) := by
  refine ⟨fun h i hi q => ?_, fun h => tb_ext (b_rg _) (by omega) (fun i hi => ?_)⟩
  · have := tb_and x y i
    rw [h, tb_0, q.1, q.2] at this
    cases this
  · rw [tb_and, tb_0]
    have := h i hi
    cases h1 : tb x i <;> cases h2 : tb y i <;> simp_all
theorem bOr_0 {x : Int} (hx : Rg x) : bOr x 0 = x := tb_ext (b_rg _) hx (fun i _ => by rw [tb_or, tb_0, Bool.or_false])
end
section
/-! what a text comes to depends on its signs alone, and on the words that it uses -/
theorem sgn_congr {n : Int} {f f' : Int → Int} (hf : ∀ k, 0 ≤ k → k < n → f k = f' k) (p : Int) : sgn n f p = sgn n f' p := by
  unfold sgn
  by_cases h : 0 ≤ p ∧ p < n
  · rw [if_pos h, if_pos h, hf p h.1 h.2]
  · rw [if_neg h, if_neg h]
theorem pe_congr {n : Int} {f f' : Int → Int} (hf : ∀ k, 0 ≤ k → k < n → f k = f' k) : ∀ (d : Nat), pe n f d = pe n f' d := by
  intro d
  induction d with
  | zero =>
    funext p
    show (if nd (sgn n f p) < 0 ∨ 0 < nd (sgn n f p) then -1 - p else p + 1) = (if nd (sgn n f' p) < 0 ∨ 0 < nd (sgn n f' p) then -1 - p else p + 1)
    rw [sgn_congr hf]
  | succ d ih =>
    funext p
    show (if nd (sgn n f p) < 0 then -1 - p else pit (pe n f d) (nd (sgn n f p)).toNat (p + 1)) = (if nd (sgn n f' p) < 0 then -1 - p else pit (pe n f' d) (nd (sgn n f' p)).toNat (p + 1))
    rw [sgn_congr hf, ih]
theorem ev_congr {gv gv' : Int → Int → (Int × Int) → Sv} (hg : ∀ w v s, 0 ≤ w → w < 8 → gv w v s = gv' w v s) {n : Int} {f f' : Int → Int} (hf : ∀ k, 0 ≤ k → k < n → f k = f' k) : ∀ (d : Nat) (p x e : Int) (s : Int × Int), 0 ≤ p → pe n f d p = e → 0 ≤ e → ev gv n f d p x s = ev gv' n f' d p x s := by
  intro d
  induction d with
  | zero =>
    intro p x e s h0 he h1
    obtain ⟨hp, -, -⟩ := pe_0 h0 he h1
    show (if f p = 120 then (x, s) else (f p - 48, s)) = (if f' p = 120 then (x, s) else (f' p - 48, s))
    rw [hf p h0 hp]
  | succ d ih =>
    intro p x e s h0 he h1
    obtain ⟨hp, hz, hpit⟩ := pe_s h0 he h1
    have hfp := hf p h0 hp
    have hpd := pe_congr hf d
    by_cases h2 : f p = 120
    · rw [ev_x h2, ev_x (hfp ▸ h2)]
    by_cases h3 : isD (f p)
    · rw [ev_d h2 h3, ev_d (hfp ▸ h2) (hfp ▸ h3), hfp]
    have hnd := nd_rng (f p)
    have hnz : nd (f p) ≠ 0 := fun q => by have := nd0 q; omega
    obtain ⟨k, hk⟩ : ∃ k, (nd (f p)).toNat = k + 1 := ⟨(nd (f p)).toNat - 1, by omega⟩
    rw [hk] at hpit
    obtain ⟨q1, q2⟩ := pit_1 (by omega) hpit h1
    have r1 := ih (p + 1) x _ s (by omega) rfl q1
    by_cases h4 : (ev gv n f d (p + 1) x s).1 < 0
    · rw [ev_neg h2 h3 h4, ev_neg (hfp ▸ h2) (hfp ▸ h3) (r1 ▸ h4), r1]
    by_cases h5 : isW (f p)
    · rw [ev_w h2 h3 h4 h5, ev_w (hfp ▸ h2) (hfp ▸ h3) (r1 ▸ h4) (hfp ▸ h5), r1, hfp]
      exact hg _ _ _ (by omega) (by omega)
    have hnd1 : nd (f p) ≠ 1 := fun q => h5 (nd1 q)
    obtain ⟨k2, hk2⟩ : ∃ k2, k = k2 + 1 := ⟨k - 1, by omega⟩
    rw [hk2] at q2
    obtain ⟨q3, q4⟩ := pit_1 q1 q2 h1
    have r2 := fun s' => ih (pe n f d (p + 1)) x _ s' q1 rfl q3
    by_cases h6 : f p = 63
    · have hn3 : nd (f p) = 3 := by rw [h6]; decide
      have hk3 : k2 = 1 := by omega
      rw [hk3] at q4
      obtain ⟨q5, -⟩ := pit_1 q3 q4 h1
      have r3 := fun s' => ih (pe n f d (pe n f d (p + 1))) x _ s' q3 rfl q5
      by_cases h7 : (ev gv n f d (p + 1) x s).1 = 0
      · rw [ev_q0 h4 h6 h7, ev_q0 (r1 ▸ h4) (hfp ▸ h6) (r1 ▸ h7), r2, r1, hpd]
      · rw [ev_q1 h4 h6 h7, ev_q1 (r1 ▸ h4) (hfp ▸ h6) (r1 ▸ h7), r3, r1, hpd]
    have e2 : ev gv n f d (pe n f d (p + 1)) x (ev gv n f d (p + 1) x s).2 = ev gv' n f' d (pe n f' d (p + 1)) x (ev gv' n f' d (p + 1) x s).2 := by rw [r2, r1, hpd]
    by_cases h7 : (ev gv n f d (pe n f d (p + 1)) x (ev gv n f d (p + 1) x s).2).1 < 0
    · rw [ev_jn h2 h3 h4 h5 h6 h7, ev_jn (hfp ▸ h2) (hfp ▸ h3) (r1 ▸ h4) (hfp ▸ h5) (hfp ▸ h6) (e2 ▸ h7), e2]
    · rw [ev_j h2 h3 h4 h5 h6 h7, ev_j (hfp ▸ h2) (hfp ▸ h3) (r1 ▸ h4) (hfp ▸ h5) (hfp ▸ h6) (e2 ▸ h7), e2, r1, hfp]
/-- the words are the same -/
def sameW (wn wn' : Int → Int) (wt wt' : Int → Int → Int) : Prop := ∀ w, 0 ≤ w → w < 8 → wn w = wn' w ∧ ∀ k, 0 ≤ k → k < wn w → wt w k = wt' w k
theorem gvN_congr {wn wn' : Int → Int} {wt wt' : Int → Int → Int} (hw : okW wn wt) (hs : sameW wn wn' wt wt') : ∀ (o : Nat) (w v : Int) (s : Int × Int), 0 ≤ w → w < 8 → gvN wn wt o w v s = gvN wn' wt' o w v s := by
  intro o
  induction o with
  | zero =>
    intro w v s h0 h1
    show (if wn w = 0 then _ else _) = (if wn' w = 0 then _ else _)
    rw [(hs w h0 h1).1]
  | succ o ih =>
    intro w v s h0 h1
    obtain ⟨e1, e2⟩ := hs w h0 h1
    by_cases hz : wn w = 0
    · rw [gv_gone hz, gv_gone (e1 ▸ hz)]
    by_cases h3 : 300 ≤ s.1
    · rw [gv_end hz h3, gv_end (e1 ▸ hz) h3]
    · rw [gv_in hz h3, gv_in (e1 ▸ hz) h3]
      rcases hw w h0 h1 with h4 | ⟨h4, h5⟩
      · exact absurd h4 hz
      · rw [ev_congr ih e2 6 0 v _ _ (Int.le_refl 0) h5 (by omega), e1]
theorem evT_congr {wn wn' : Int → Int} {wt wt' : Int → Int → Int} {n x : Int} {f f' : Int → Int} (hw : okW wn wt) (hs : sameW wn wn' wt wt') (hf : ∀ k, 0 ≤ k → k < n → f k = f' k) (hv : pe n f 6 0 = n) (hn : 0 ≤ n) : evT wn wt n f x = evT wn' wt' n f' x := ev_congr (gvN_congr hw hs 20) hf 6 0 x _ _ (Int.le_refl 0) hv hn
-- used words
theorem tb_up {u w : Int} {i : Nat} (h : tb u i = true) : tb (bOr u (bShl 1 w)) i = true := by rw [tb_or, h]; rfl
theorem tb_own {u w : Int} (h0 : 0 ≤ w) (h8 : w < 8) : tb (bOr u (bShl 1 w)) w.toNat = true := by
  obtain ⟨k, rfl⟩ := Int.eq_ofNat_of_zero_le h0
  rw [tb_or]
  show (_ || tb (bShl 1 (k : Int)) k) = true
  rw [tb_shl (by omega) (by omega)]
  simp
/-- what was used stays used -/
def mono (gv : Int → Int → (Int × Int) → Sv) : Prop := ∀ w v s i, 0 ≤ w → w < 8 → tb s.2 i = true → tb (gv w v s).2.2 i = true
theorem ev_mono {gv : Int → Int → (Int × Int) → Sv} (hg : mono gv) {n : Int} {f : Int → Int} : ∀ (d : Nat) (p x : Int) (s : Int × Int) (i : Nat), tb s.2 i = true → tb (ev gv n f d p x s).2.2 i = true := by
  intro d
  induction d with
  | zero =>
    intro p x s i h
    show tb (if f p = 120 then (x, s) else (f p - 48, s)).2.2 i = true
    split <;> exact h
  | succ d ih =>
    intro p x s i h
    have r1 := ih (p + 1) x s i h
    unfold ev
    split
    · exact h
    split
    · exact h
    split
    · exact r1
    split
    · rename_i h5
      exact hg _ _ _ _ (by omega) (by omega) r1
    split
    · split
      · exact ih _ x _ i r1
      · exact ih _ x _ i r1
    split
    · exact ih _ x _ i r1
    · exact ih _ x _ i r1
theorem gvN_mono {wn : Int → Int} {wt : Int → Int → Int} : ∀ (o : Nat), mono (gvN wn wt o) := by
  intro o
  induction o with
  | zero =>
    intro w v s i h0 h1 h
    show tb (if wn w = 0 then ((-10 : Int), (s.1, bOr s.2 (bShl 1 w))) else (-11, s)).2.2 i = true
    split
    · exact tb_up h
    · exact h
  | succ o ih =>
    intro w v s i h0 h1 h
    by_cases hz : wn w = 0
    · rw [gv_gone hz]; exact tb_up h
    by_cases h3 : 300 ≤ s.1
    · rw [gv_end hz h3]; exact h
    · rw [gv_in hz h3]; exact ev_mono ih 6 0 v _ i (tb_up h)
/-- with a word that isn't used as another one, a number comes out the same -/
def unus (w0 : Int) (gv gv' : Int → Int → (Int × Int) → Sv) : Prop := ∀ w v s, 0 ≤ w → w < 8 → 0 ≤ (gv w v s).1 → tb (gv w v s).2.2 w0.toNat = false → gv' w v s = gv w v s
theorem ev_unus {w0 : Int} {gv gv' : Int → Int → (Int × Int) → Sv} (hg : unus w0 gv gv') (hm : mono gv) {n : Int} {f : Int → Int} : ∀ (d : Nat) (p x : Int) (s : Int × Int), 0 ≤ (ev gv n f d p x s).1 → tb (ev gv n f d p x s).2.2 w0.toNat = false → ev gv' n f d p x s = ev gv n f d p x s := by
  intro d
  induction d with
  | zero => intro p x s _ _; rfl
  | succ d ih =>
    intro p x s h0 h1
    by_cases h2 : f p = 120
    · rw [ev_x h2, ev_x h2]
    by_cases h3 : isD (f p)
    · rw [ev_d h2 h3, ev_d h2 h3]
    by_cases h4 : (ev gv n f d (p + 1) x s).1 < 0
    · rw [ev_neg h2 h3 h4] at h0; omega
    by_cases h5 : isW (f p)
    · rw [ev_w h2 h3 h4 h5] at h0 h1
      have hu : tb (ev gv n f d (p + 1) x s).2.2 w0.toNat = false := by
        cases hb : tb (ev gv n f d (p + 1) x s).2.2 w0.toNat with
        | false => rfl
        | true =>
          have := hm (f p - 97) (ev gv n f d (p + 1) x s).1 _ _ (by omega) (by omega) hb
          rw [h1] at this; cases this
      have r1 := ih (p + 1) x s (by omega) hu
      rw [ev_w h2 h3 h4 h5, ev_w h2 h3 (by rw [r1]; exact h4) h5, r1]
      exact hg _ _ _ (by omega) (by omega) h0 h1
    by_cases h6 : f p = 63
    · by_cases h7 : (ev gv n f d (p + 1) x s).1 = 0
      · rw [ev_q0 h4 h6 h7] at h0 h1
        have hu : tb (ev gv n f d (p + 1) x s).2.2 w0.toNat = false := by
          cases hb : tb (ev gv n f d (p + 1) x s).2.2 w0.toNat with
          | false => rfl
          | true =>
            have := ev_mono hm (n := n) (f := f) d (pe n f d (p + 1)) x _ _ hb
            rw [h1] at this; cases this
        have r1 := ih (p + 1) x s (by omega) hu
        rw [ev_q0 h4 h6 h7, ev_q0 (by rw [r1]; exact h4) h6 (by rw [r1]; exact h7), r1]
        exact ih _ x _ h0 h1
      · rw [ev_q1 h4 h6 h7] at h0 h1
        have hu : tb (ev gv n f d (p + 1) x s).2.2 w0.toNat = false := by
          cases hb : tb (ev gv n f d (p + 1) x s).2.2 w0.toNat with
          | false => rfl
          | true =>
            have := ev_mono hm (n := n) (f := f) d (pe n f d (pe n f d (p + 1))) x _ _ hb
            rw [h1] at this; cases this
        have r1 := ih (p + 1) x s (by omega) hu
        rw [ev_q1 h4 h6 h7, ev_q1 (by rw [r1]; exact h4) h6 (by rw [r1]; exact h7), r1]
        exact ih _ x _ h0 h1
    by_cases h7 : (ev gv n f d (pe n f d (p + 1)) x (ev gv n f d (p + 1) x s).2).1 < 0
    · rw [ev_jn h2 h3 h4 h5 h6 h7] at h0; omega
    · rw [ev_j h2 h3 h4 h5 h6 h7] at h1
      have hu : tb (ev gv n f d (p + 1) x s).2.2 w0.toNat = false := by
        cases hb : tb (ev gv n f d (p + 1) x s).2.2 w0.toNat with
        | false => rfl
        | true =>
          have := ev_mono hm (n := n) (f := f) d (pe n f d (p + 1)) x _ _ hb
          rw [h1] at this; cases this
      have r1 := ih (p + 1) x s (by omega) hu
      have r2 := ih (pe n f d (p + 1)) x (ev gv n f d (p + 1) x s).2 (by omega) h1
      rw [ev_j h2 h3 h4 h5 h6 h7, ev_j h2 h3 (by rw [r1]; exact h4) h5 h6 (by rw [r1, r2]; exact h7), r1, r2]
theorem gvN_unus {w0 : Int} (hw0 : 0 ≤ w0) (hw8 : w0 < 8) {wn wn' : Int → Int} {wt wt' : Int → Int → Int} (hs : ∀ w, 0 ≤ w → w < 8 → w ≠ w0 → wn' w = wn w ∧ wt' w = wt w) : ∀ (o : Nat), unus w0 (gvN wn wt o) (gvN wn' wt' o) := by
  intro o
  induction o with
  | zero =>
    intro w v s h0 h1 hv _
    have : (gvN wn wt 0 w v s).1 < 0 := by
      show (if wn w = 0 then ((-10 : Int), (s.1, bOr s.2 (bShl 1 w))) else (-11, s)).1 < 0
      split
      · show (-10 : Int) < 0; decide
      · show (-11 : Int) < 0; decide
    omega
  | succ o ih =>
    intro w v s h0 h1 hv hu
    by_cases hz : wn w = 0
    · rw [gv_gone hz] at hv; exact absurd (show (0 : Int) ≤ -10 from hv) (by decide)
    by_cases h3 : 300 ≤ s.1
    · rw [gv_end hz h3] at hv; exact absurd (show (0 : Int) ≤ -11 from hv) (by decide)
    rw [gv_in hz h3] at hv hu
    by_cases hww : w = w0
    · subst hww
      have := ev_mono (gvN_mono (wn := wn) (wt := wt) o) (n := wn w) (f := wt w) 6 0 v (s.1 + 1, bOr s.2 (bShl 1 w)) _ (tb_own hw0 hw8)
      rw [hu] at this
      cases this
    · obtain ⟨e1, e2⟩ := hs w h0 h1 hww
      rw [gv_in hz h3, gv_in (by rw [e1]; exact hz) h3, e1, e2]
      exact ev_unus ih (gvN_mono o) 6 0 v _ hv hu
theorem evT_unus {w0 : Int} (hw0 : 0 ≤ w0) (hw8 : w0 < 8) {wn wn' : Int → Int} {wt wt' : Int → Int → Int} {n x : Int} {f : Int → Int} (hs : ∀ w, 0 ≤ w → w < 8 → w ≠ w0 → wn' w = wn w ∧ wt' w = wt w) (hv : 0 ≤ (evT wn wt n f x).1) (hu : tb (evT wn wt n f x).2.2 w0.toNat = false) : evT wn' wt' n f x = evT wn wt n f x := ev_unus (gvN_unus hw0 hw8 hs 20) (gvN_mono 20) 6 0 x (0, 0) hv hu
end
section
/-! Slips -/
noncomputable def scN (S : Int → Prop) : Nat → Int
  | 0 => 0
  | j + 1 => by classical exact if S j then scN S j + 1 else scN S j
noncomputable def enN (S : Int → Prop) : Nat → (Int → Int)
  | 0 => fun _ => 0
  | j + 1 => by classical exact if S j then fu (enN S j) (scN S j) j else enN S j
/-- how many of the places below i have S; which they are -/
noncomputable def sc (S : Int → Prop) (i : Int) : Int := scN S i.toNat
noncomputable def en (S : Int → Prop) (i : Int) : Int → Int := enN S i.toNat
theorem sc_t {S : Int → Prop} {i : Int} (h0 : 0 ≤ i) (hp : S i) : sc S (i + 1) = sc S i + 1 ∧ en S (i + 1) = fu (en S i) (sc S i) i := by
  unfold sc en
  have e : (i + 1).toNat = i.toNat + 1 := by omega
  have e2 : ((i.toNat : Nat) : Int) = i := by omega
  rw [e]
  constructor
  · conv => lhs; unfold scN
    rw [if_pos (by rw [e2]; exact hp)]
  · conv => lhs; unfold enN
    rw [if_pos (by rw [e2]; exact hp), e2]
theorem sc_f {S : Int → Prop} {i : Int} (h0 : 0 ≤ i) (hp : ¬ S i) : sc S (i + 1) = sc S i ∧ en S (i + 1) = en S i := by
  unfold sc en
  have e : (i + 1).toNat = i.toNat + 1 := by omega
  have e2 : ((i.toNat : Nat) : Int) = i := by omega
  rw [e]
  constructor
  · conv => lhs; unfold scN
    rw [if_neg (by rw [e2]; exact hp)]
  · conv => lhs; unfold enN
    rw [if_neg (by rw [e2]; exact hp)]
theorem sc_skip {S : Int → Prop} {a : Int} (h0 : 0 ≤ a) : ∀ (j : Nat), (∀ q, a ≤ q → q < a + j → ¬ S q) → sc S (a + j) = sc S a ∧ en S (a + j) = en S a := by
  intro j
  induction j with
  | zero => intro _; simp
  | succ j ih =>
    intro h
    obtain ⟨i1, i2⟩ := ih (fun q q1 q2 => h q q1 (by omega))
    obtain ⟨s1, s2⟩ := sc_f (S := S) (i := a + j) (by omega) (h _ (by omega) (by omega))
    rw [show a + ((j + 1 : Nat) : Int) = a + j + 1 by omega, s1, s2]
    exact ⟨i1, i2⟩
theorem sc_all (S : Int → Prop) : ∀ (j : Nat), (0 ≤ sc S j ∧ sc S j ≤ j) ∧ ∀ s, 0 ≤ s → s < sc S j → S (en S j s) ∧ 0 ≤ en S j s ∧ en S j s < j := by
  intro j
  induction j with
  | zero =>
    refine ⟨⟨Int.le_refl 0, Int.le_refl 0⟩, fun s h0 h1 => ?_⟩
    exact absurd h1 (by show ¬ s < 0; omega)
  | succ j ih =>
    obtain ⟨⟨i1, i2⟩, i3⟩ := ih
    by_cases hp : S j
    · obtain ⟨s1, s2⟩ := sc_t (S := S) (i := j) (by omega) hp
      rw [show ((j + 1 : Nat) : Int) = (j : Int) + 1 by omega, s1, s2]
      refine ⟨by omega, fun s h0 h1 => ?_⟩
      by_cases hs : s = sc S j
      · rw [hs, fu_s]; exact ⟨hp, by omega, by omega⟩
      · rw [fu_n hs]
        obtain ⟨r1, r2, r3⟩ := i3 s h0 (by omega)
        exact ⟨r1, r2, by omega⟩
    · obtain ⟨s1, s2⟩ := sc_f (S := S) (i := j) (by omega) hp
      rw [show ((j + 1 : Nat) : Int) = (j : Int) + 1 by omega, s1, s2]
      refine ⟨by omega, fun s h0 h1 => ?_⟩
      obtain ⟨r1, r2, r3⟩ := i3 s h0 h1
      exact ⟨r1, r2, by omega⟩
theorem sc_rng (S : Int → Prop) {i : Int} (h : 0 ≤ i) : 0 ≤ sc S i ∧ sc S i ≤ i := by
  obtain ⟨j, rfl⟩ := Int.eq_ofNat_of_zero_le h
  exact (sc_all S j).1
theorem en_ok (S : Int → Prop) {i s : Int} (h : 0 ≤ i) (h0 : 0 ≤ s) (h1 : s < sc S i) : S (en S i s) ∧ 0 ≤ en S i s ∧ en S i s < i := by
  obtain ⟨j, rfl⟩ := Int.eq_ofNat_of_zero_le h
  exact (sc_all S j).2 s h0 h1
/-- a slip of version v: word q / 40, place q % 40 -/
def isS (mn : Int → Int) (tx : Int → Int → Int) (v q : Int) : Prop := q % 40 < mn (8 * v + q / 40) ∧ ¬ slp (tx (8 * v + q / 40) (q % 40)) = -6
/-- the words with that slip -/
def wtS (tx : Int → Int → Int) (v q : Int) : Int → Int → Int := fun w => if w = q / 40 then fu (tx (8 * v + q / 40)) (q % 40) (slp (tx (8 * v + q / 40) (q % 40))) else tx (8 * v + w)
def evS (mn : Int → Int) (tx : Int → Int → Int) (v q p : Int) : Sv := evT (fun w => mn (8 * v + w)) (wtS tx v q) (mn (48 + p)) (tx (48 + p)) 0
/-- the example on page p notices that slip -/
def ntc (mn : Int → Int) (tx : Int → Int → Int) (tl du : Int → Int) (v q p : Int) : Prop := hold mn tx tl du v p ∧ ¬ (evS mn tx v q p).1 = du p
def SlR (h : Pic) (al bk ao rk tr z1 z2 z3 : Nat) (cs kn no : Int → Int) : Prop := h al = some (ob 48 5 [vR bk, vR ao, vR rk, vR tr, vR z1, vR z2, vR z3]) ∧ h z1 = some (ia 49 0 320 cs) ∧ h z2 = some (ia 50 2 6 kn) ∧ h z3 = some (ia 51 0 1920 no)
/-- the codes of the slips, as they are listed -/
def okC (mn : Int → Int) (tx : Int → Int → Int) (v i : Int) (cs : Int → Int) : Prop := ∀ s, 0 ≤ s → s < sc (isS mn tx v) i → cs s = 100 * (en (isS mn tx v) i s / 40) + en (isS mn tx v) i s % 40
theorem m_list {h : Pic} {al bk ao rk tr z1 z2 z3 : Nat} {cs kn no : Int → Int} {vs pg v : Int} {mn : Int → Int} {tx : Int → Int → Int} {tl du : Int → Int} (hl : SlR h al bk ao rk tr z1 z2 z3 cs kn no) (hb : BkR h bk 10 vs pg mn tx tl du) (hv : 0 ≤ v) (hv2 : v < vs) :
    Meets yX5_list cX5_list 6 (some .int) 2 0 0 [vR al, vI v] h (pX (fun z h' => z = sc (isS mn tx v) 320 ∧ ∃ cs', SlR h' al bk ao rk tr z1 z2 z3 cs' kn no ∧ Kp (fun t => t = 49) h h' ∧ okC mn tx v 320 cs')) := by
  refine Meets.of (plainFor_of_name (by decide)) (Nat.le_of_ble_eq_true rfl) (fun X C hX hN hA => ?_)
  have outer : ∀ (j : Nat) (w : Int) (h' : Pic) (cs' : Int → Int) (o4 o5 : Option Va), 0 ≤ w → w ≤ 8 → 8 - w < j → SlR h' al bk ao rk tr z1 z2 z3 cs' kn no → Kp (fun t => t = 49) h h' → okC mn tx v (40 * w) cs' →
      Go X (Qm X (pX (fun z h' => z = sc (isS mn tx v) 320 ∧ ∃ cs', SlR h' al bk ao rk tr z1 z2 z3 cs' kn no ∧ Kp (fun t => t = 49) h h' ∧ okC mn tx v 320 cs')) 0 0) 0 0 h' 4 [some (vR al), some (vI v), some (vI (sc (isS mn tx v) (40 * w))), some (vI w), o4, o5] [] := by
    intro j
    induction j with
    | zero => intro w h' cs' o4 o5 h3 h4 h5; exact absurd h5 (by omega)
    | succ j ih =>
      intro w h' cs' o4 o5 h3 h4 h5 hl' hk hc
      have hb' : BkR h' bk 10 vs pg mn tx tl du := hb.kp hk (by omega) (by omega) (fun t q1 q2 => by omega)
      obtain ⟨nt, x1, x2, x3, x4, x5, ft, fs, f2, f4, f5, ⟨hbs, -⟩, -, hvs, hpg, -⟩ := id hb'
      refine r_iload_n C dX5_list_4 rfl ?_
      refine r_bipush C dX5_list_5 (by decide) ?_
      refine r_icmp_ge (tgt := 84) C dX5_list_7 (by decide) (fun hc7 => ?_) (fun hc7 => ?_)
      · refine r_iload_n C dX5_list_84 rfl ?_
        have hw8 : w = 8 := by omega
        subst hw8
        exact r_iret C dX5_list_85 (by decide) (by decide) ⟨_, rfl, rfl, cs', hl', hk, hc⟩
      refine r_aload_n C dX5_list_10 rfl ?_
      refine r_get C dX5_list_11 flX5_9 hl'.1 rfl ?_
      refine r_iload_n C dX5_list_14 rfl ?_
      refine r_iload_n C dX5_list_15 rfl ?_
      refine r_cVy C dX5_list_16 mlX5_38 kX0_text (m_text (v := v) (w := w) hb' hv hv2 h3 (by omega)) hbs rfl rfl rfl (Nat.le_of_ble_eq_true rfl) (fit hX (by decide)) ?_
      rintro q h'' ⟨rfl, htq⟩
      obtain ⟨q', bq, mq, gq, eqq, hq1, hq2, hn0, hnm, hn40, hgq⟩ := id htq
      cases eqq
      refine r_astore C dX5_list_19 (by decide) ?_
      refine r_iconst C dX5_list_21 (by decide) ?_
      refine r_istore C dX5_list_22 (by decide) ?_
      have inner : ∀ (jj : Nat) (kq : Int) (h1 : Pic) (cs1 : Int → Int), 0 ≤ kq → kq ≤ mn (8 * v + w) → mn (8 * v + w) - kq < jj → SlR h1 al bk ao rk tr z1 z2 z3 cs1 kn no → Kp (fun t => t = 49) h h1 → okC mn tx v (40 * w + kq) cs1 → TxP h1 (some q) (mn (8 * v + w)) (tx (8 * v + w)) →
          Go X (Qm X (pX (fun z h' => z = sc (isS mn tx v) 320 ∧ ∃ cs', SlR h' al bk ao rk tr z1 z2 z3 cs' kn no ∧ Kp (fun t => t = 49) h h' ∧ okC mn tx v 320 cs')) 0 0) 0 0 h1 24 [some (vR al), some (vI v), some (vI (sc (isS mn tx v) (40 * w + kq))), some (vI w), some (vR q), some (vI kq)] [] := by
        intro jj
        induction jj with
        | zero => intro kq h1 cs1 g3 g4 g5; exact absurd g5 (by omega)
        | succ jj ihj =>
          intro kq h1 cs1 g3 g4 g5 hl1 hk1 hc1 ht1
          obtain ⟨b1, t1, t1', m1, gg1, hts1, -⟩ := id ht1.R
          have hsc := sc_rng (isS mn tx v) (i := 40 * w + kq) (by omega)
          refine r_iload C dX5_list_24 rfl ?_
          refine r_aload C dX5_list_26 rfl ?_
          refine r_cVi C dX5_list_28 mlX5_44 kX6_count (m_count ht1.R) hts1 rfl rfl rfl (Nat.le_of_ble_eq_true rfl) (fit hX (by decide)) ?_
          refine r_icmp_ge (tgt := 78) C dX5_list_31 (by decide) (fun hc31 => ?_) (fun hc31 => ?_)
          · -- the next word
            have hkn : kq = mn (8 * v + w) := by omega
            obtain ⟨k1, k2⟩ := sc_skip (S := isS mn tx v) (a := 40 * w + kq) (by omega) (40 - kq).toNat (fun z z1 z2 zz => by
              have e1 : z / 40 = w := by omega
              have e2 := zz.1
              rw [e1] at e2
              omega)
            rw [show 40 * w + kq + ((40 - kq).toNat : Int) = 40 * (w + 1) by omega] at k1 k2
            refine r_iinc C dX5_list_78 rfl (by decide) (by omega) ?_
            refine r_goto (tgt := 4) C dX5_list_81 (by decide) ?_
            have hz := ih (w + 1) h1 cs1 (some (vR q)) (some (vI kq)) (by omega) (by omega) (by omega) hl1 hk1 (by unfold okC; rw [k1, k2]; exact hc1)
            rw [k1] at hz
            exact hz
          refine r_aload C dX5_list_34 rfl ?_
          refine r_iload C dX5_list_36 rfl ?_
          refine r_cVi C dX5_list_38 mlX5_50 kX6_sign (m_sign ht1.R (p := kq)) hts1 rfl rfl rfl (Nat.le_of_ble_eq_true rfl) (fit hX (by decide)) ?_
          rw [sgn_in g3 (by omega)]
          refine r_cSi C dX5_list_41 mlX5_54 kX4_slipped (m_slipped (c := tx (8 * v + w) kq)) rfl rfl (Nat.le_of_ble_eq_true rfl) (fit hX (by decide)) ?_
          refine r_bipush C dX5_list_44 (by decide) ?_
          refine r_icmp_eq (tgt := 72) C dX5_list_46 (by decide) (fun hc46 => ?_) (fun hc46 => ?_)
          · -- no slip here
            obtain ⟨k1, k2⟩ := sc_f (S := isS mn tx v) (i := 40 * w + kq) (by omega) (fun zz => zz.2 (by rw [show (40 * w + kq) / 40 = w by omega, show (40 * w + kq) % 40 = kq by omega]; exact hc46))
            rw [show 40 * w + kq + 1 = 40 * w + (kq + 1) by omega] at k1 k2
            refine r_iinc C dX5_list_72 rfl (by decide) (by omega) ?_
            refine r_goto (tgt := 24) C dX5_list_75 (by decide) ?_
            have hz := ihj (kq + 1) h1 cs1 (by omega) (by omega) (by omega) hl1 hk1 (by unfold okC; rw [k1, k2]; exact hc1) ht1
            rw [k1] at hz
            exact hz
          -- a slip
          have hS : isS mn tx v (40 * w + kq) := ⟨by rw [show (40 * w + kq) / 40 = w by omega, show (40 * w + kq) % 40 = kq by omega]; omega, by rw [show (40 * w + kq) / 40 = w by omega, show (40 * w + kq) % 40 = kq by omega]; exact hc46⟩
          obtain ⟨k1, k2⟩ := sc_t (S := isS mn tx v) (i := 40 * w + kq) (by omega) hS
          rw [show 40 * w + kq + 1 = 40 * w + (kq + 1) by omega] at k1 k2
          refine r_iload_n C dX5_list_49 rfl ?_
          refine r_sipush C dX5_list_50 (by decide) ?_
          refine r_icmp_ge (tgt := 72) C dX5_list_53 (by decide) (fun zz => absurd zz (by omega)) (fun _ => ?_)
          refine r_aload_n C dX5_list_56 rfl ?_
          refine r_get C dX5_list_57 flX5_27 hl1.1 rfl ?_
          refine r_iload_n C dX5_list_60 rfl ?_
          refine r_bipush C dX5_list_61 (by decide) ?_
          refine r_iload_n C dX5_list_63 rfl ?_
          refine r_imul C dX5_list_64 (by omega) ?_
          refine r_iload C dX5_list_65 rfl ?_
          refine r_iadd C dX5_list_67 (by omega) ?_
          refine r_iastA C dX5_list_68 hl1.2.1 (by omega) (by omega) (fun h2 g2 o2 => ?_)
          have kp2 : Kp (fun t => t = 49) h1 h2 := o2.kp hl1.2.1 rfl
          refine r_iinc C dX5_list_69 rfl (by decide) (by omega) ?_
          refine r_iinc C dX5_list_72 rfl (by decide) (by omega) ?_
          refine r_goto (tgt := 24) C dX5_list_75 (by decide) ?_
          have hz := ihj (kq + 1) h2 (fu cs1 (sc (isS mn tx v) (40 * w + kq)) (100 * w + kq)) (by omega) (by omega) (by omega) ⟨kp2 _ _ _ hl1.1 (by omega), g2, kp2 _ _ _ hl1.2.2.1 (by omega), kp2 _ _ _ hl1.2.2.2 (by omega)⟩ (hk1.tr kp2) (by
            intro s s0 s1
            rw [k1] at s1
            rw [k2]
            by_cases hs : s = sc (isS mn tx v) (40 * w + kq)
            · rw [hs, fu_s, fu_s]; omega
            · rw [fu_n hs, fu_n hs]; exact hc1 s s0 (by omega)) (ht1.kp kp2 (by omega) (by omega))
          rw [k1] at hz
          exact hz
      have hz := inner ((mn (8 * v + w)).toNat + 1) 0 h'' cs' (by omega) (by omega) (by omega) hl' hk (by rw [Int.add_zero]; exact hc) htq
      rw [Int.add_zero] at hz
      exact hz
  refine r_iconst C dX5_list_0 (by decide) ?_
  refine r_istore_n C dX5_list_1 (by decide) ?_
  refine r_iconst C dX5_list_2 (by decide) ?_
  refine r_istore_n C dX5_list_3 (by decide) ?_
  exact outer 9 0 h cs none none (by omega) (by omega) (by omega) hl Kp.rf (fun s s0 s1 => absurd s1 (by show ¬ s < 0; omega))
end
section
/-! Slips, second part: who notices them -/
/-- the trial text: tags 3, 4 -/
def TrR (h : Pic) (tr : Nat) : Prop := ∃ (b : Nat) (n : Int) (g : Int → Int), h tr = some (ob 3 6 [vR b, vI n]) ∧ h b = some (ia 4 1 40 g)
theorem TrR.kp {h h' : Pic} {S : Nat → Prop} {tr : Nat} (ht : TrR h tr) (x : Kp S h h') (h3 : ¬ S 3) (h4 : ¬ S 4) : TrR h' tr := by
  obtain ⟨b, n, g, e1, e2⟩ := ht
  exact ⟨b, n, g, x _ _ _ e1 h3, x _ _ _ e2 h4⟩
theorem slp_nd {c : Int} (h : ¬ slp c = -6) : nd (slp c) = nd c := by
  unfold slp at *
  unfold nd
  (repeat' split at h) <;> (repeat' split) <;> omega
theorem slp_rng {c : Int} (h : ¬ slp c = -6) : 0 ≤ slp c ∧ slp c ≤ 126 := by
  unfold slp at *
  (repeat' split at h) <;> (repeat' split) <;> omega
theorem pe_nd {n : Int} {f f' : Int → Int} (hf : ∀ k, 0 ≤ k → k < n → nd (f k) = nd (f' k)) : ∀ (d : Nat), pe n f d = pe n f' d := by
  have hs : ∀ p, nd (sgn n f p) = nd (sgn n f' p) := by
    intro p
    by_cases h : 0 ≤ p ∧ p < n
    · rw [sgn_in h.1 h.2, sgn_in h.1 h.2, hf p h.1 h.2]
    · unfold sgn
      rw [if_neg h, if_neg h]
  intro d
  induction d with
  | zero =>
    funext p
    show (if nd (sgn n f p) < 0 ∨ 0 < nd (sgn n f p) then -1 - p else p + 1) = (if nd (sgn n f' p) < 0 ∨ 0 < nd (sgn n f' p) then -1 - p else p + 1)
    rw [hs]
  | succ d ih =>
    funext p
    show (if nd (sgn n f p) < 0 then -1 - p else pit (pe n f d) (nd (sgn n f p)).toNat (p + 1)) = (if nd (sgn n f' p) < 0 then -1 - p else pit (pe n f' d) (nd (sgn n f' p)).toNat (p + 1))
    rw [hs, ih]
theorem okW_S {mn : Int → Int} {tx : Int → Int → Int} {v q : Int} (hw : okW (fun w => mn (8 * v + w)) (fun w => tx (8 * v + w))) (hS : isS mn tx v q) : okW (fun w => mn (8 * v + w)) (wtS tx v q) := by
  intro w h0 h1
  rcases hw w h0 h1 with h2 | ⟨h2, h3⟩
  · exact Or.inl h2
  · refine Or.inr ⟨h2, ?_⟩
    by_cases hq : w = q / 40
    · have e : wtS tx v q w = fu (tx (8 * v + q / 40)) (q % 40) (slp (tx (8 * v + q / 40) (q % 40))) := if_pos hq
      have hpe : pe (mn (8 * v + w)) (wtS tx v q w) 6 = pe (mn (8 * v + w)) (tx (8 * v + w)) 6 := by
        refine pe_nd (fun kz kz0 kz1 => ?_) 6
        rw [e]
        by_cases hk : kz = q % 40
        · rw [hk, fu_s, slp_nd hS.2, hq]
        · rw [fu_n hk, hq]
      show pe (mn (8 * v + w)) (wtS tx v q w) 6 0 = mn (8 * v + w)
      rw [hpe]
      exact h3
    · have e : wtS tx v q w = tx (8 * v + w) := if_neg hq
      show pe (mn (8 * v + w)) (wtS tx v q w) 6 0 = mn (8 * v + w)
      rw [e]
      exact h3
section
variable {h : Pic} {al bk ao rk tr : Nat} {vs pg : Int} {mn : Int → Int} {tx : Int → Int → Int} {tl du kn : Int → Int}
abbrev SN : Nat → Prop := fun t => t = 3 ∨ t = 4 ∨ t = 42 ∨ t = 43
theorem m_reckonNoticers {v q : Int} {z1 z2 z3 : Nat} {cs kn2 no : Int → Int} (hl : SlR h al bk ao rk tr z1 z2 z3 cs kn2 no) (ho : OS h ao bk rk vs pg mn tx tl kn) (hb : BkR h bk 10 vs pg mn tx tl du) (htr : TrR h tr) (hok : okB vs pg mn tx tl) (hdu : ∀ p, 0 ≤ p → p < pg → tl p = -6 → 0 ≤ du p) (hv : 0 ≤ v) (hv2 : v < vs) (hq0 : 0 ≤ q) (hq1 : q < 320) (hS : isS mn tx v q) (hkn : ∀ p, 0 ≤ p → p < pg → tl p = -6 → ¬ kn (v * 12 + p) = 0) :
    Meets yX5_reckonNoticers cX5_reckonNoticers 7 (some .int) 190 0 0 [vR al, vI v, vI (q / 40), vI (q % 40)] h (pX (fun z h' => z = bt (ntc mn tx tl du v q) pg ∧ OS h' ao bk rk vs pg mn tx tl kn ∧ TrR h' tr ∧ Kp SN h h')) := by
  obtain ⟨y1, y2, y3, xw, ca, us, fw, pl, gv, op, uu, ⟨hos, oe1, oe2, oe3⟩, hr, hOk⟩ := id ho
  obtain ⟨nt, x1, x2, x3, x4, x5, ft, fs, f2, f4, f5, ⟨hbs, -⟩, -, hvs, hpg, -⟩ := id hb
  obtain ⟨bt', nn, gt, ht1, ht2⟩ := id htr
  obtain ⟨hs, -⟩ := id hl
  have hw0 : 0 ≤ q / 40 := by omega
  have hw8 : q / 40 < 8 := by omega
  refine Meets.of (plainFor_of_name (by decide)) (Nat.le_of_ble_eq_true rfl) (fun X C hX hN hA => ?_)
  refine r_aload_n C dX5_reckonNoticers_0 rfl ?_
  refine r_get C dX5_reckonNoticers_1 flX5_15 hs rfl ?_
  refine r_iload_n C dX5_reckonNoticers_4 rfl ?_
  refine r_cVi C dX5_reckonNoticers_5 mlX5_70 kX2_holding (m_holding (v := v) ho hb hv hv2 hkn) hos rfl rfl rfl (Nat.le_of_ble_eq_true rfl) (fit hX (by decide)) ?_
  refine r_aload_n C dX5_reckonNoticers_8 rfl ?_
  refine r_get C dX5_reckonNoticers_9 flX5_15 hs rfl ?_
  refine r_iload_n C dX5_reckonNoticers_12 rfl ?_
  refine r_iload_n C dX5_reckonNoticers_13 rfl ?_
  refine r_cVi C dX5_reckonNoticers_14 mlX5_75 kX2_users (m_users (v := v) (w := q / 40) ho hb hv hv2 hw0 hw8 hkn) hos rfl rfl rfl (Nat.le_of_ble_eq_true rfl) (fit hX (by decide)) ?_
  refine r_iand C dX5_reckonNoticers_17 ?_
  refine r_istore C dX5_reckonNoticers_18 (by decide) ?_
  refine r_aload_n C dX5_reckonNoticers_20 rfl ?_
  refine r_get C dX5_reckonNoticers_21 flX5_23 hs rfl ?_
  refine r_aload_n C dX5_reckonNoticers_24 rfl ?_
  refine r_get C dX5_reckonNoticers_25 flX5_9 hs rfl ?_
  refine r_iload_n C dX5_reckonNoticers_28 rfl ?_
  refine r_iload_n C dX5_reckonNoticers_29 rfl ?_
  refine r_cVy C dX5_reckonNoticers_30 mlX5_38 kX0_text (m_text (v := v) (w := q / 40) hb hv hv2 hw0 hw8) hbs rfl rfl rfl (Nat.le_of_ble_eq_true rfl) (fit hX (by decide)) ?_
  rintro tq h' ⟨rfl, htq⟩
  obtain ⟨tq', bq, mq, gq, eqq, hq1', hq2', hn0, hnm, hn40, hgq⟩ := id htq
  cases eqq
  refine r_cVv C dX5_reckonNoticers_33 mlX5_79 kX6_become (m_become ht1 ht2 hq1' hq2' (by decide) (by decide) hn0 hn40 (Int.le_refl 40) hnm hgq) ht1 rfl rfl rfl (Nat.le_of_ble_eq_true rfl) (fit hX (by decide)) ?_
  rintro h1 ⟨g1, c1, c2, c3, c4, c5⟩
  have hab := ne_of ht1 ht2 (fun z => by cases z)
  have k1 : Kp SN h' h1 := fun a t b e n => (c3 a (by
    have n1 : a ≠ tr := ne_of e ht1 (fun z => n (by cases z; exact Or.inl rfl))
    have n2 : a ≠ bt' := ne_of e ht2 (fun z => n (by cases z; exact Or.inr (Or.inl rfl)))
    simp [n1, n2])).trans e
  have hs1 := k1 _ _ _ hs (by omega)
  have hkk : q % 40 < mn (8 * v + q / 40) := hS.1
  have htx1 : TxR h1 tr (mn (8 * v + q / 40)) (tx (8 * v + q / 40)) := ⟨bt', 3, 4, 40, g1, c1, c2, hn0, hn40, hn40, fun i i0 i1 => ⟨c4 i i0 i1, (hgq i i0 i1).2.1, (hgq i i0 i1).2.2⟩⟩
  refine r_aload_n C dX5_reckonNoticers_36 rfl ?_
  refine r_get C dX5_reckonNoticers_37 flX5_23 hs1 rfl ?_
  refine r_iload_n C dX5_reckonNoticers_40 rfl ?_
  refine r_aload_n C dX5_reckonNoticers_41 rfl ?_
  refine r_get C dX5_reckonNoticers_42 flX5_23 hs1 rfl ?_
  refine r_iload_n C dX5_reckonNoticers_45 rfl ?_
  refine r_cVi C dX5_reckonNoticers_46 mlX5_50 kX6_sign (m_sign htx1 (p := q % 40)) c1 rfl rfl rfl (Nat.le_of_ble_eq_true rfl) (fit hX (by decide)) ?_
  rw [sgn_in (by omega) hkk]
  refine r_cSi C dX5_reckonNoticers_49 mlX5_54 kX4_slipped (m_slipped (c := tx (8 * v + q / 40) (q % 40))) rfl rfl (Nat.le_of_ble_eq_true rfl) (fit hX (by decide)) ?_
  have hsr := slp_rng hS.2
  refine r_cVv C dX5_reckonNoticers_52 mlX5_83 kX6_put (m_put (p := q % 40) (c := slp (tx (8 * v + q / 40) (q % 40))) c1 c2 (by omega) hkk hn40 (by omega)) c1 rfl rfl rfl (Nat.le_of_ble_eq_true rfl) (fit hX (by decide)) ?_
  rintro h2 rfl
  have o2 : Off [bt'] h1 (pu h1 bt' (ia 4 1 40 (fu g1 (q % 40) (slp (tx (8 * v + q / 40) (q % 40)))))) := off1
  have d2 : pu h1 bt' (ia 4 1 40 (fu g1 (q % 40) (slp (tx (8 * v + q / 40) (q % 40))))) bt' = some (ia 4 1 40 (fu g1 (q % 40) (slp (tx (8 * v + q / 40) (q % 40))))) := pu_s
  generalize pu h1 bt' (ia 4 1 40 (fu g1 (q % 40) (slp (tx (8 * v + q / 40) (q % 40))))) = h2 at o2 d2 ⊢
  have k2 : Kp (fun t => t = 4) h1 h2 := o2.kp c2 rfl
  have k12 : Kp SN h' h2 := k1.tr (k2.mono (fun t z => Or.inr (Or.inl z)))
  have d1 := k2 _ _ _ c1 (by omega)
  have k12b : Kp (fun t => t = 3 ∨ t = 4) h' h2 := fun a t b e n => by
    have n1 : a ≠ tr := ne_of e ht1 (fun z => n (by cases z; exact Or.inl rfl))
    have n2 : a ≠ bt' := ne_of e ht2 (fun z => n (by cases z; exact Or.inr rfl))
    exact (o2 a (by simp [n2])).trans ((c3 a (by simp [n1, n2])).trans e)
  have hr2 := hr.kp k12b (by omega) (by omega)
  have hb2 : BkR h2 bk 10 vs pg mn tx tl du := hb.kp k12 (by omega) (by omega) (fun t q1 q2 => by omega)
  have hs2 := k12 _ _ _ hs (by omega)
  refine r_aload_n C dX5_reckonNoticers_55 rfl ?_
  refine r_get C dX5_reckonNoticers_56 flX5_19 hs2 rfl ?_
  refine r_aload_n C dX5_reckonNoticers_59 rfl ?_
  refine r_get C dX5_reckonNoticers_60 flX5_9 hs2 rfl ?_
  refine r_iload_n C dX5_reckonNoticers_63 rfl ?_
  refine r_cVv C dX5_reckonNoticers_64 mlX5_87 kX3_take (m_take hr2 hb2 (by decide) (by decide) hv hv2) hr2.1 rfl rfl rfl (Nat.le_of_ble_eq_true rfl) (fit hX (by decide)) ?_
  rintro h3 ⟨fw3, hr3, k3, hww⟩
  have hs3 := k3 _ _ _ hs2 (by omega)
  have d13 := k3 _ _ _ d1 (by omega)
  have d23 := k3 _ _ _ d2 (by omega)
  refine r_aload_n C dX5_reckonNoticers_67 rfl ?_
  refine r_get C dX5_reckonNoticers_68 flX5_19 hs3 rfl ?_
  refine r_iload_n C dX5_reckonNoticers_71 rfl ?_
  refine r_aload_n C dX5_reckonNoticers_72 rfl ?_
  refine r_get C dX5_reckonNoticers_73 flX5_23 hs3 rfl ?_
  refine r_cVv C dX5_reckonNoticers_76 mlX5_93 kX3_replace (m_replace (w := q / 40) hr3 d13 hw0 hw8) hr3.1 rfl rfl rfl (Nat.le_of_ble_eq_true rfl) (fit hX (by decide)) ?_
  rintro h4 ⟨hr4, k4⟩
  have k34 := k3.tr k4
  have k14 : Kp SN h' h4 := k12.tr (k34.mono (fun t z => by omega))
  have d14 := k4 _ _ _ d13 (by omega)
  have d24 := k4 _ _ _ d23 (by omega)
  have htx4 : TxR h4 tr (mn (8 * v + q / 40)) (wtS tx v q (q / 40)) := ⟨bt', 3, 4, 40, _, d14, d24, hn0, hn40, hn40, fun i i0 i1 => by
    have e : wtS tx v q (q / 40) = fu (tx (8 * v + q / 40)) (q % 40) (slp (tx (8 * v + q / 40) (q % 40))) := if_pos rfl
    rw [e]
    by_cases hi : i = q % 40
    · rw [hi, fu_s, fu_s]; exact ⟨rfl, hsr⟩
    · rw [fu_n hi, fu_n hi]; exact ⟨c4 i i0 i1, (hgq i i0 i1).2.1, (hgq i i0 i1).2.2⟩⟩
  have hW4 : WdR h4 (fu fw3 (q / 40) (some tr)) (fun w => mn (8 * v + w)) (wtS tx v q) := by
    intro w w0 w1
    by_cases hwq : w = q / 40
    · rw [hwq, fu_s]; exact ⟨tr, rfl, htx4⟩
    · rw [fu_n hwq]
      obtain ⟨z, bz, mz, gz, ez, rz⟩ := (hww w w0 w1).kp k4 (by omega) (by omega)
      refine ⟨z, ez, bz, 5, 6, mz, gz, ?_⟩
      have e : wtS tx v q w = tx (8 * v + w) := if_neg hwq
      rw [e]
      exact rz
  have hokS := okW_S (hok.1 v hv hv2) hS
  have loop : ∀ (j : Nat) (i : Int) (h5 : Pic) (pl5 gv5 op5 us5 : Int), 0 ≤ i → i ≤ pg → pg - i < j → RkR h5 rk xw (fu fw3 (q / 40) (some tr)) pl5 gv5 op5 us5 → Kp (fun t => t = 42) h4 h5 →
      Go X (Qm X (pX (fun z h'' => z = bt (ntc mn tx tl du v q) pg ∧ OS h'' ao bk rk vs pg mn tx tl kn ∧ TrR h'' tr ∧ Kp SN h' h'')) 0 0) 0 0 h5 85 [some (vR al), some (vI v), some (vI (q / 40)), some (vI (q % 40)), some (vI (bAnd (bt (hold mn tx tl du v) pg) (bt (uses mn tx tl v (q / 40)) pg))), some (vI (bt (ntc mn tx tl du v q) i)), some (vI i)] [] := by
    intro j
    induction j with
    | zero => intro i h5 pl5 gv5 op5 us5 g3 g4 g5; exact absurd g5 (by omega)
    | succ j ih =>
      intro i h5 pl5 gv5 op5 us5 g3 g4 g5 hr5 k5
      have k15 : Kp SN h' h5 := k14.tr (k5.mono (fun t z => by omega))
      have hb5 : BkR h5 bk 10 vs pg mn tx tl du := hb.kp k15 (by omega) (by omega) (fun t q1 q2 => by omega)
      have hbs5 := k15 _ _ _ hbs (by omega)
      have hs5 := k15 _ _ _ hs (by omega)
      refine r_iload C dX5_reckonNoticers_85 rfl ?_
      refine r_aload_n C dX5_reckonNoticers_87 rfl ?_
      refine r_get C dX5_reckonNoticers_88 flX5_9 hs5 rfl ?_
      refine r_cVi C dX5_reckonNoticers_91 mlX5_97 kX0_pages (m_pages hb5) hbs5 rfl rfl rfl (Nat.le_of_ble_eq_true rfl) (fit hX (by decide)) ?_
      refine r_icmp_ge (tgt := 152) C dX5_reckonNoticers_94 (by decide) (fun hc94 => ?_) (fun hc94 => ?_)
      · refine r_iload C dX5_reckonNoticers_152 rfl ?_
        refine r_iret C dX5_reckonNoticers_154 (by decide) (by decide) ⟨_, rfl, by rw [show i = pg by omega], ⟨y1, y2, y3, xw, ca, us, _, pl5, gv5, op5, us5, ⟨k15 _ _ _ hos (by omega), k15 _ _ _ oe1 (by omega), k15 _ _ _ oe2 (by omega), k15 _ _ _ oe3 (by omega)⟩, hr5, hOk⟩, ⟨bt', _, _, k5 _ _ _ d14 (by omega), k5 _ _ _ d24 (by omega)⟩, k15⟩
      have hbit : bAnd (bShr (bAnd (bt (hold mn tx tl du v) pg) (bt (uses mn tx tl v (q / 40)) pg)) i) 1 = 1 ↔ (hold mn tx tl du v i ∧ uses mn tx tl v (q / 40) i) := by
        obtain ⟨jn, rfl⟩ := Int.eq_ofNat_of_zero_le g3
        rw [bit_1 g3 (by omega), tb_and, Bool.and_eq_true]
        show tb _ jn = true ∧ tb _ jn = true ↔ _
        rw [tb_bt (by omega) (by omega), tb_bt (by omega) (by omega)]
        exact ⟨fun z => ⟨z.1.2, z.2.2⟩, fun z => ⟨⟨by omega, z.1⟩, by omega, z.2⟩⟩
      refine r_iload C dX5_reckonNoticers_97 rfl ?_
      refine r_iload C dX5_reckonNoticers_99 rfl ?_
      refine r_ishr C dX5_reckonNoticers_101 ?_
      refine r_iconst C dX5_reckonNoticers_102 (by decide) ?_
      refine r_iand C dX5_reckonNoticers_103 ?_
      refine r_iconst C dX5_reckonNoticers_104 (by decide) ?_
      refine r_icmp_ne (tgt := 146) C dX5_reckonNoticers_105 (by decide) (fun hc105 => ?_) (fun hc105 => ?_)
      · -- not asked
        have hno : ¬ ntc mn tx tl du v q i := by
          intro z
          have hnu : ¬ uses mn tx tl v (q / 40) i := fun u => hc105 (hbit.mpr ⟨z.1, u⟩)
          apply z.2
          have hvd := hdu i g3 (by omega) z.1.1
          have hbit0 : tb (evV mn tx v i).2.2 (q / 40).toNat = false := by
            cases hb0 : tb (evV mn tx v i).2.2 (q / 40).toNat with
            | false => rfl
            | true => exact absurd ⟨z.1.1, (bit_1 hw0 (by omega)).mpr hb0⟩ hnu
          have e := evT_unus (w0 := q / 40) hw0 hw8 (wn := fun w => mn (8 * v + w)) (wt := fun w => tx (8 * v + w)) (wn' := fun w => mn (8 * v + w)) (wt' := wtS tx v q) (n := mn (48 + i)) (f := tx (48 + i)) (x := 0) (fun w w0 w1 wne => ⟨rfl, if_neg wne⟩) (by show 0 ≤ (evV mn tx v i).1; rw [z.1.2]; exact hvd) hbit0
          show (evT _ _ _ _ 0).1 = _
          rw [e]
          exact z.1.2
        refine r_iinc C dX5_reckonNoticers_146 rfl (by decide) (by omega) ?_
        refine r_goto (tgt := 85) C dX5_reckonNoticers_149 (by decide) ?_
        have hz := ih (i + 1) h5 pl5 gv5 op5 us5 (by omega) (by omega) (by omega) hr5 k5
        rw [bt_f g3 hno] at hz
        exact hz
      have hau := hbit.mp hc105
      have hW5 : WdR h5 (fu fw3 (q / 40) (some tr)) (fun w => mn (8 * v + w)) (wtS tx v q) := by
        intro w w0 w1
        by_cases hwq : w = q / 40
        · rw [hwq, fu_s]
          refine ⟨tr, rfl, ?_⟩
          obtain ⟨bz, tz, tz', mz, gz, rz1, rz2, rz3⟩ := htx4
          cases d14.symm.trans rz1
          cases d24.symm.trans rz2
          exact ⟨_, _, _, _, _, k5 _ _ _ d14 (by omega), k5 _ _ _ d24 (by omega), rz3⟩
        · rw [fu_n hwq]
          obtain ⟨z, bz, mz, gz, ez, rz⟩ := ((hww w w0 w1).kp k4 (by omega) (by omega)).kp k5 (by omega) (by omega)
          refine ⟨z, ez, bz, 5, 6, mz, gz, ?_⟩
          have e : wtS tx v q w = tx (8 * v + w) := if_neg hwq
          rw [e]
          exact rz
      have hex := hau.1.1
      refine r_aload_n C dX5_reckonNoticers_108 rfl ?_
      refine r_get C dX5_reckonNoticers_109 flX5_19 hs5 rfl ?_
      refine r_aload_n C dX5_reckonNoticers_112 rfl ?_
      refine r_get C dX5_reckonNoticers_113 flX5_9 hs5 rfl ?_
      refine r_iload C dX5_reckonNoticers_116 rfl ?_
      refine r_cVy C dX5_reckonNoticers_118 mlX5_100 kX0_example (m_example (p := i) hb5 g3 (by omega)) hbs5 rfl rfl rfl (Nat.le_of_ble_eq_true rfl) (fit hX (by decide)) ?_
      rintro eq h6 ⟨rfl, hteq⟩
      refine r_iconst C dX5_reckonNoticers_121 (by decide) ?_
      refine r_cVx C dX5_reckonNoticers_122 mlX5_104 kX3_outcome (m_outcome hokS hr5 (hW5) hteq.R (hok.2 i g3 (by omega) hex).2 (Int.le_refl 0) (by omega)) hr5.1 rfl rfl rfl (Nat.le_of_ble_eq_true rfl) (fit hX (by decide)) ?_
      rintro v1 h7 ⟨hv1, pl7, gv7, op7, hr7, o7⟩
      have k7 : Kp (fun t => t = 42) h6 h7 := o7.kp hr5.1 rfl
      have k57 := k5.tr k7
      have k17 : Kp SN h' h7 := k14.tr (k57.mono (fun t z => by omega))
      have hb7 : BkR h7 bk 10 vs pg mn tx tl du := hb.kp k17 (by omega) (by omega) (fun t q1 q2 => by omega)
      have hbs7 := k17 _ _ _ hbs (by omega)
      have hs7 := k17 _ _ _ hs (by omega)
      refine r_aload_n C dX5_reckonNoticers_125 rfl ?_
      refine r_get C dX5_reckonNoticers_126 flX5_9 hs7 rfl ?_
      refine r_iload C dX5_reckonNoticers_129 rfl ?_
      refine r_cVi C dX5_reckonNoticers_131 mlX5_108 kX0_due (m_due (p := i) hb7 g3 (by omega)) hbs7 rfl rfl rfl (Nat.le_of_ble_eq_true rfl) (fit hX (by decide)) ?_
      refine r_icmp_eq (tgt := 146) C dX5_reckonNoticers_134 (by decide) (fun hc134 => ?_) (fun hc134 => ?_)
      · refine r_iinc C dX5_reckonNoticers_146 rfl (by decide) (by omega) ?_
        refine r_goto (tgt := 85) C dX5_reckonNoticers_149 (by decide) ?_
        have hz := ih (i + 1) h7 pl7 gv7 op7 _ (by omega) (by omega) (by omega) hr7 k57
        rw [bt_f g3 (fun z => z.2 (by show (evT _ _ _ _ 0).1 = _; rw [← hv1]; exact hc134))] at hz
        exact hz
      · refine r_iload C dX5_reckonNoticers_137 rfl ?_
        refine r_iconst C dX5_reckonNoticers_139 (by decide) ?_
        refine r_iload C dX5_reckonNoticers_140 rfl ?_
        refine r_ishl C dX5_reckonNoticers_142 ?_
        refine r_ior C dX5_reckonNoticers_143 ?_
        refine r_istore C dX5_reckonNoticers_144 (by decide) ?_
        refine r_iinc C dX5_reckonNoticers_146 rfl (by decide) (by omega) ?_
        refine r_goto (tgt := 85) C dX5_reckonNoticers_149 (by decide) ?_
        have hz := ih (i + 1) h7 pl7 gv7 op7 _ (by omega) (by omega) (by omega) hr7 k57
        rw [bt_t g3 ⟨hau.1, fun z => hc134 (by rw [hv1]; exact z)⟩] at hz
        exact hz
  refine r_iconst C dX5_reckonNoticers_79 (by decide) ?_
  refine r_istore C dX5_reckonNoticers_80 (by decide) ?_
  refine r_iconst C dX5_reckonNoticers_82 (by decide) ?_
  refine r_istore C dX5_reckonNoticers_83 (by decide) ?_
  exact loop (pg.toNat + 1) 0 h4 pl gv op uu (by omega) (by omega) (by omega) hr4 Kp.rf
end
end
section
/-! Slips, third part: kept -/
def OkS (vs pg : Int) (mn : Int → Int) (tx : Int → Int → Int) (tl du kn no : Int → Int) : Prop := ∀ v, 0 ≤ v → v < 6 → ¬ kn v = 0 → v < vs ∧ ∀ s, 0 ≤ s → s < sc (isS mn tx v) 320 → no (v * 320 + s) = bt (ntc mn tx tl du v (en (isS mn tx v) 320 s)) pg
abbrev SL : Nat → Prop := fun t => t = 3 ∨ t = 4 ∨ t = 42 ∨ t = 43 ∨ (49 ≤ t ∧ t ≤ 51)
theorem SlR.kp {h h' : Pic} {S : Nat → Prop} {al bk ao rk tr z1 z2 z3 : Nat} {cs kn no : Int → Int} (hl : SlR h al bk ao rk tr z1 z2 z3 cs kn no) (x : Kp S h h') (hs : ∀ t, 48 ≤ t → t ≤ 51 → ¬ S t) : SlR h' al bk ao rk tr z1 z2 z3 cs kn no := ⟨x _ _ _ hl.1 (hs _ (by omega) (by omega)), x _ _ _ hl.2.1 (hs _ (by omega) (by omega)), x _ _ _ hl.2.2.1 (hs _ (by omega) (by omega)), x _ _ _ hl.2.2.2 (hs _ (by omega) (by omega))⟩
section
variable {h : Pic} {al bk ao rk tr z1 z2 z3 : Nat} {vs pg : Int} {mn : Int → Int} {tx : Int → Int → Int} {tl du kn cs kn2 no : Int → Int}
theorem m_Sforget (hl : SlR h al bk ao rk tr z1 z2 z3 cs kn2 no) : Meets yX5_forget cX5_forget 2 none 0 0 0 [vR al] h (pV (fun h' => ∃ kn', SlR h' al bk ao rk tr z1 z2 z3 cs kn' no ∧ (∀ c, 0 ≤ c → c < 6 → kn' c = 0) ∧ Kp (fun t => t = 50) h h')) := by
  refine Meets.of (plainFor_of_name (by decide)) (Nat.le_of_ble_eq_true rfl) (fun X C hX hN hA => ?_)
  have loop : ∀ (j : Nat) (i : Int) (h' : Pic) (kn' : Int → Int), 0 ≤ i → i ≤ 6 → 6 - i < j → SlR h' al bk ao rk tr z1 z2 z3 cs kn' no → (∀ c, 0 ≤ c → c < i → kn' c = 0) → Kp (fun t => t = 50) h h' →
      Go X (Qm X (pV (fun h' => ∃ kn', SlR h' al bk ao rk tr z1 z2 z3 cs kn' no ∧ (∀ c, 0 ≤ c → c < 6 → kn' c = 0) ∧ Kp (fun t => t = 50) h h')) 0 0) 0 0 h' 2 [some (vR al), some (vI i)] [] := by
    intro j
    induction j with
    | zero => intro i h' kn' h3 h4 h5; exact absurd h5 (by omega)
    | succ j ih =>
      intro i h' kn' h3 h4 h5 hl' hd hk
      refine r_iload_n C dX5_forget_2 rfl ?_
      refine r_bipush C dX5_forget_3 (by decide) ?_
      refine r_icmp_ge (tgt := 21) C dX5_forget_5 (by decide) (fun hc5 => ?_) (fun hc5 => ?_)
      · exact r_vret C dX5_forget_21 (by decide) (by decide) ⟨rfl, kn', hl', fun c q1 q2 => hd c q1 (by omega), hk⟩
      refine r_aload_n C dX5_forget_8 rfl ?_
      refine r_get C dX5_forget_9 flX5_31 hl'.1 rfl ?_
      refine r_iload_n C dX5_forget_12 rfl ?_
      refine r_iconst C dX5_forget_13 (by decide) ?_
      refine r_zastA C dX5_forget_14 hl'.2.2.1 (by omega) (by omega) (by omega) (fun h1 g1 o1 => ?_)
      have k1 : Kp (fun t => t = 50) h' h1 := o1.kp hl'.2.2.1 rfl
      refine r_iinc C dX5_forget_15 rfl (by decide) (by omega) ?_
      refine r_goto (tgt := 2) C dX5_forget_18 (by decide) ?_
      refine ih (i + 1) h1 (fu kn' i 0) (by omega) (by omega) (by omega) ⟨k1 _ _ _ hl'.1 (by omega), k1 _ _ _ hl'.2.1 (by omega), g1, k1 _ _ _ hl'.2.2.2 (by omega)⟩ (fun cz q1 q2 => ?_) (hk.tr k1)
      by_cases hci : cz = i
      · rw [hci, fu_s]
      · rw [fu_n hci]; exact hd cz q1 (by omega)
  refine r_iconst C dX5_forget_0 (by decide) ?_
  refine r_istore_n C dX5_forget_1 (by decide) ?_
  exact loop 7 0 h kn2 (by omega) (by omega) (by omega) hl (fun c q1 q2 => by omega) Kp.rf
theorem m_Scode {s : Int} (hl : SlR h al bk ao rk tr z1 z2 z3 cs kn2 no) (h0 : 0 ≤ s) (h1 : s < 320) : Meets yX5_code cX5_code 2 (some .int) 0 0 0 [vR al, vI s] h (pI (cs s) h) := by
  obtain ⟨hs, e1, e2, e3⟩ := hl
  refine Meets.of (plainFor_of_name (by decide)) (Nat.le_of_ble_eq_true rfl) (fun X C hX hN hA => ?_)
  refine r_iload_n C dX5_code_0 rfl ?_
  refine r_if_lt (tgt := 20) C dX5_code_1 (by decide) (fun hc1 => ?_) (fun hc1 => ?_)
  · exact absurd hc1 (by omega)
  · refine r_iload_n C dX5_code_4 rfl ?_
    refine r_sipush C dX5_code_5 (by decide) ?_
    refine r_icmp_ge (tgt := 20) C dX5_code_8 (by decide) (fun hc8 => ?_) (fun hc8 => ?_)
    · exact absurd hc8 (by omega)
    · refine r_aload_n C dX5_code_11 rfl ?_
      refine r_get C dX5_code_12 flX5_27 hs rfl ?_
      refine r_iload_n C dX5_code_15 rfl ?_
      refine r_iald C dX5_code_16 e1 (by omega) (by omega) ?_
      refine r_goto (tgt := 22) C dX5_code_17 (by decide) ?_
      exact r_iret C dX5_code_22 (by decide) (by decide) (⟨rfl, rfl⟩)
theorem m_Snoticers {v s : Int} (hl : SlR h al bk ao rk tr z1 z2 z3 cs kn2 no) (hb : BkR h bk 10 vs pg mn tx tl du) (hv : 0 ≤ v) (hv2 : v < vs) (h0 : 0 ≤ s) (h1 : s < 320) : Meets yX5_noticers cX5_noticers 3 (some .int) 1 0 0 [vR al, vI v, vI s] h (pI (no (v * 320 + s)) h) := by
  obtain ⟨hs, e1, e2, e3⟩ := hl
  obtain ⟨nt, x1, x2, x3, x4, x5, ft, fs, f2, f4, f5, ⟨hbs, -⟩, -, hvs, hpg, -⟩ := id hb
  refine Meets.of (plainFor_of_name (by decide)) (Nat.le_of_ble_eq_true rfl) (fun X C hX hN hA => ?_)
  refine r_aload_n C dX5_noticers_0 rfl ?_
  refine r_get C dX5_noticers_1 flX5_9 hs rfl ?_
  refine r_iload_n C dX5_noticers_4 rfl ?_
  refine r_cVi C dX5_noticers_5 mlX5_59 kX0_hasVersion (m_hasVersion (v := v) hb) hbs rfl rfl rfl (Nat.le_of_ble_eq_true rfl) (fit hX (by decide)) ?_
  refine r_if_eq (tgt := 22) C dX5_noticers_8 (by decide) (fun hc8 => ?_) (fun hc8 => ?_)
  · exact absurd hc8 (by rw [zb_t ⟨hv, hv2⟩]; decide)
  · refine r_iload_n C dX5_noticers_11 rfl ?_
    refine r_if_lt (tgt := 22) C dX5_noticers_12 (by decide) (fun hc12 => ?_) (fun hc12 => ?_)
    · exact absurd hc12 (by omega)
    · refine r_iload_n C dX5_noticers_15 rfl ?_
      refine r_sipush C dX5_noticers_16 (by decide) ?_
      refine r_icmp_lt (tgt := 24) C dX5_noticers_19 (by decide) (fun hc19 => ?_) (fun hc19 => ?_)
      · refine r_aload_n C dX5_noticers_24 rfl ?_
        refine r_get C dX5_noticers_25 flX5_35 hs rfl ?_
        refine r_iload_n C dX5_noticers_28 rfl ?_
        refine r_sipush C dX5_noticers_29 (by decide) ?_
        refine r_imul C dX5_noticers_32 (by omega) ?_
        refine r_iload_n C dX5_noticers_33 rfl ?_
        refine r_iadd C dX5_noticers_34 (by omega) ?_
        refine r_iald C dX5_noticers_35 e3 (by omega) (by omega) ?_
        exact r_iret C dX5_noticers_36 (by decide) (by decide) (⟨rfl, rfl⟩)
      · exact absurd hc19 (by omega)
theorem m_Slearn {v : Int} (hl : SlR h al bk ao rk tr z1 z2 z3 cs kn2 no) (hos : OkS vs pg mn tx tl du kn2 no) (ho : OS h ao bk rk vs pg mn tx tl kn) (hb : BkR h bk 10 vs pg mn tx tl du) (htr : TrR h tr) (hok : okB vs pg mn tx tl) (hdu : ∀ p, 0 ≤ p → p < pg → tl p = -6 → 0 ≤ du p) (hv : 0 ≤ v) (hv2 : v < vs) (hkn : ∀ p, 0 ≤ p → p < pg → tl p = -6 → ¬ kn (v * 12 + p) = 0) :
    Meets yX5_learn cX5_learn 4 (some .int) 191 0 0 [vR al, vI v] h (pX (fun z h' => z = sc (isS mn tx v) 320 ∧ ∃ cs' kn' no', SlR h' al bk ao rk tr z1 z2 z3 cs' kn' no' ∧ OkS vs pg mn tx tl du kn' no' ∧ ¬ kn' v = 0 ∧ OS h' ao bk rk vs pg mn tx tl kn ∧ TrR h' tr ∧ Kp SL h h')) := by
  obtain ⟨nt, x1, x2, x3, x4, x5, ft, fs, f2, f4, f5, ⟨hbs, -⟩, -, hvs, hpg, -⟩ := id hb
  have hsr := sc_rng (isS mn tx v) (i := 320) (by omega)
  refine Meets.of (plainFor_of_name (by decide)) (Nat.le_of_ble_eq_true rfl) (fun X C hX hN hA => ?_)
  refine r_aload_n C dX5_learn_0 rfl ?_
  refine r_get C dX5_learn_1 flX5_9 hl.1 rfl ?_
  refine r_iload_n C dX5_learn_4 rfl ?_
  refine r_cVi C dX5_learn_5 mlX5_59 kX0_hasVersion (m_hasVersion (v := v) hb) hbs rfl rfl rfl (Nat.le_of_ble_eq_true rfl) (fit hX (by decide)) ?_
  rw [zb_t ⟨hv, hv2⟩]
  refine r_if_ne (tgt := 13) C dX5_learn_8 (by decide) (fun _ => ?_) (fun q => absurd q (by decide))
  refine r_aload_n C dX5_learn_13 rfl ?_
  refine r_iload_n C dX5_learn_14 rfl ?_
  refine r_cVx C dX5_learn_15 mlX5_63 kX5_list (m_list (v := v) hl hb hv hv2) hl.1 rfl rfl rfl (Nat.le_of_ble_eq_true rfl) (fit hX (by decide)) ?_
  rintro cnt1 h1 ⟨rfl, cs1, hl1, k1, hC1⟩
  have kSL1 : Kp SL h h1 := k1.mono (fun t z => by omega)
  have ho1 : OS h1 ao bk rk vs pg mn tx tl kn := ho.kp k1 (fun t q1 q2 => by omega)
  have htr1 : TrR h1 tr := htr.kp k1 (by omega) (by omega)
  refine r_istore_n C dX5_learn_18 (by decide) ?_
  refine r_aload_n C dX5_learn_19 rfl ?_
  refine r_get C dX5_learn_20 flX5_31 hl1.1 rfl ?_
  refine r_iload_n C dX5_learn_23 rfl ?_
  refine r_zald C dX5_learn_24 hl1.2.2.1 (by omega) (by omega) ?_
  refine r_if_ne (tgt := 83) C dX5_learn_25 (by decide) (fun hc25 => ?_) (fun hc25 => ?_)
  · refine r_iload_n C dX5_learn_83 rfl ?_
    exact r_iret C dX5_learn_84 (by decide) (by decide) ⟨_, rfl, rfl, cs1, kn2, no, hl1, hos, hc25, ho1, htr1, kSL1⟩
  have loop : ∀ (j : Nat) (i : Int) (h' : Pic) (no' : Int → Int), 0 ≤ i → i ≤ sc (isS mn tx v) 320 → sc (isS mn tx v) 320 - i < j → SlR h' al bk ao rk tr z1 z2 z3 cs1 kn2 no' → (∀ c, (c < v * 320 ∨ v * 320 + 320 ≤ c) → no' c = no c) → (∀ s, 0 ≤ s → s < i → no' (v * 320 + s) = bt (ntc mn tx tl du v (en (isS mn tx v) 320 s)) pg) → OS h' ao bk rk vs pg mn tx tl kn → TrR h' tr → Kp SL h h' →
      Go X (Qm X (pX (fun z h' => z = sc (isS mn tx v) 320 ∧ ∃ cs' kn' no', SlR h' al bk ao rk tr z1 z2 z3 cs' kn' no' ∧ OkS vs pg mn tx tl du kn' no' ∧ ¬ kn' v = 0 ∧ OS h' ao bk rk vs pg mn tx tl kn ∧ TrR h' tr ∧ Kp SL h h')) 0 0) 0 0 h' 30 [some (vR al), some (vI v), some (vI (sc (isS mn tx v) 320)), some (vI i)] [] := by
    intro j
    induction j with
    | zero => intro i h' no' h3 h4 h5; exact absurd h5 (by omega)
    | succ j ih =>
      intro i h' no' h3 h4 h5 hl' hm hd ho' htr' hk
      have hb' : BkR h' bk 10 vs pg mn tx tl du := hb.kp hk (by omega) (by omega) (fun t q1 q2 => by omega)
      refine r_iload_n C dX5_learn_30 rfl ?_
      refine r_iload_n C dX5_learn_31 rfl ?_
      refine r_icmp_ge (tgt := 76) C dX5_learn_32 (by decide) (fun hc32 => ?_) (fun hc32 => ?_)
      · refine r_aload_n C dX5_learn_76 rfl ?_
        refine r_get C dX5_learn_77 flX5_31 hl'.1 rfl ?_
        refine r_iload_n C dX5_learn_80 rfl ?_
        refine r_iconst C dX5_learn_81 (by decide) ?_
        refine r_zastA C dX5_learn_82 hl'.2.2.1 (by omega) (by omega) (by omega) (fun h2 g2 o2 => ?_)
        have k2 : Kp (fun t => t = 50) h' h2 := o2.kp hl'.2.2.1 rfl
        refine r_iload_n C dX5_learn_83 rfl ?_
        refine r_iret C dX5_learn_84 (by decide) (by decide) ⟨_, rfl, rfl, cs1, fu kn2 v 1, no', ⟨k2 _ _ _ hl'.1 (by omega), k2 _ _ _ hl'.2.1 (by omega), g2, k2 _ _ _ hl'.2.2.2 (by omega)⟩, ?_, by rw [fu_s]; decide, ho'.kp k2 (fun t q1 q2 => by omega), htr'.kp k2 (by omega) (by omega), hk.tr (k2.mono (fun t z => by omega))⟩
        intro vz vz0 vz6 hvz
        by_cases hvv : vz = v
        · subst hvv
          exact ⟨hv2, fun s s0 s1 => hd s s0 (by omega)⟩
        · rw [fu_n hvv] at hvz
          obtain ⟨r1, r2⟩ := hos vz vz0 vz6 hvz
          refine ⟨r1, fun s s0 s1 => ?_⟩
          have hsz := sc_rng (isS mn tx vz) (i := 320) (by omega)
          rw [hm _ (by omega)]
          exact r2 s s0 s1
      obtain ⟨hen1, hen2, hen3⟩ := en_ok (isS mn tx v) (i := 320) (s := i) (by omega) h3 (by omega)
      have hcode := hC1 i h3 (by omega)
      refine r_aload_n C dX5_learn_35 rfl ?_
      refine r_get C dX5_learn_36 flX5_35 hl'.1 rfl ?_
      refine r_iload_n C dX5_learn_39 rfl ?_
      refine r_sipush C dX5_learn_40 (by decide) ?_
      refine r_imul C dX5_learn_43 (by omega) ?_
      refine r_iload_n C dX5_learn_44 rfl ?_
      refine r_iadd C dX5_learn_45 (by omega) ?_
      refine r_aload_n C dX5_learn_46 rfl ?_
      refine r_iload_n C dX5_learn_47 rfl ?_
      refine r_aload_n C dX5_learn_48 rfl ?_
      refine r_get C dX5_learn_49 flX5_27 hl'.1 rfl ?_
      refine r_iload_n C dX5_learn_52 rfl ?_
      refine r_iald C dX5_learn_53 hl'.2.1 (by omega) (by omega) ?_
      refine r_bipush C dX5_learn_54 (by decide) ?_
      rw [hcode]
      refine r_idiv C dX5_learn_56 (by omega) ?_
      rw [bDiv_eq (by omega) (by omega) (by omega) (by omega), show (100 * (en (isS mn tx v) 320 i / 40) + en (isS mn tx v) 320 i % 40) / 100 = en (isS mn tx v) 320 i / 40 by omega]
      refine r_aload_n C dX5_learn_57 rfl ?_
      refine r_get C dX5_learn_58 flX5_27 hl'.1 rfl ?_
      refine r_iload_n C dX5_learn_61 rfl ?_
      refine r_iald C dX5_learn_62 hl'.2.1 (by omega) (by omega) ?_
      refine r_bipush C dX5_learn_63 (by decide) ?_
      rw [hcode]
      refine r_irem C dX5_learn_65 (by omega) ?_
      rw [bRem_nn (by omega) (by omega) (by omega) (by omega), show (100 * (en (isS mn tx v) 320 i / 40) + en (isS mn tx v) 320 i % 40) % 100 = en (isS mn tx v) 320 i % 40 by omega]
      refine r_cVx C dX5_learn_66 mlX5_66 kX5_reckonNoticers (m_reckonNoticers (v := v) (q := en (isS mn tx v) 320 i) hl' ho' hb' htr' hok hdu hv hv2 hen2 hen3 hen1 hkn) hl'.1 rfl rfl rfl (Nat.le_of_ble_eq_true rfl) (fit hX (by decide)) ?_
      rintro rn h2 ⟨rfl, ho2, htr2, k2⟩
      have hl2 := hl'.kp k2 (fun t q1 q2 => by omega)
      refine r_iastA C dX5_learn_69 hl2.2.2.2 (by omega) (by omega) (fun h3' g3 o3 => ?_)
      have k3 : Kp (fun t => t = 51) h2 h3' := o3.kp hl2.2.2.2 rfl
      refine r_iinc C dX5_learn_70 rfl (by decide) (by omega) ?_
      refine r_goto (tgt := 30) C dX5_learn_73 (by decide) ?_
      refine ih (i + 1) h3' (fu no' (v * 320 + i) (bt (ntc mn tx tl du v (en (isS mn tx v) 320 i)) pg)) (by omega) (by omega) (by omega) ⟨k3 _ _ _ hl2.1 (by omega), k3 _ _ _ hl2.2.1 (by omega), k3 _ _ _ hl2.2.2.1 (by omega), g3⟩ (fun cz hcz => ?_) (fun s s0 s1 => ?_) (ho2.kp k3 (fun t q1 q2 => by omega)) (htr2.kp k3 (by omega) (by omega)) (hk.tr ((k2.mono (fun t z => by omega)).tr (k3.mono (fun t z => by omega))))
      · rw [fu_n (by omega)]; exact hm cz hcz
      · by_cases hsi : s = i
        · rw [hsi, fu_s]
        · rw [fu_n (by omega)]; exact hd s s0 (by omega)
  refine r_iconst C dX5_learn_28 (by decide) ?_
  refine r_istore_n C dX5_learn_29 (by decide) ?_
  exact loop ((sc (isS mn tx v) 320).toNat + 1) 0 h1 no (by omega) (by omega) (by omega) hl1 (fun _ _ => rfl) (fun s s0 s1 => by omega) ho1 htr1 kSL1
end
end
section
/-! BookShows: what it holds; its simple calls -/
abbrev Bs : Type := (Int × Int) × (Int → Int) × (Int → Int → Int) × (Int → Int) × (Int → Int)
def BkS (h : Pic) (a T : Nat) (b : Bs) : Prop := BkR h a T b.1.1 b.1.2 b.2.1 b.2.2.1 b.2.2.2.1 b.2.2.2.2
/-- pad, images, the object itself -/
def RA (h : Pic) (x pad pb tr bk ims kpa rk ao al ne i0 i1 : Nat) (pn : Int) (pf gp kf kp : Int → Int) (fi : Int → Option Nat) (im : Int → Bs) : Prop :=
  (h x = some (ob 7 7 [vR pad, vR tr, vR bk, vR ims, vR kpa, vR rk, vR ao, vR al, vR ne]) ∧ h pad = some (ob 1 6 [vR pb, vI pn]) ∧ h pb = some (ia 2 1 40 gp) ∧ h ims = some (ra 8 1 2 fi) ∧ h kpa = some (ia 9 2 2 kf)) ∧
  (fi 0 = some i0 ∧ fi 1 = some i1 ∧ BkS h i0 20 (im 0) ∧ BkS h i1 30 (im 1) ∧ ∀ n, 0 ≤ n → n < 2 → kf n = kp n) ∧ (0 ≤ pn ∧ pn ≤ 40 ∧ ∀ i, 0 ≤ i → i < pn → gp i = pf i ∧ 33 ≤ pf i ∧ pf i ≤ 126)
theorem RA.kp {h h' : Pic} {S : Nat → Prop} {x pad pb tr bk ims kpa rk ao al ne i0 i1 : Nat} {pn : Int} {pf gp kf kp : Int → Int} {fi : Int → Option Nat} {im : Int → Bs} (hr : RA h x pad pb tr bk ims kpa rk ao al ne i0 i1 pn pf gp kf kp fi im) (k : Kp S h h') (h1 : ∀ t, t ≤ 2 → ¬ S t) (h2 : ∀ t, 5 ≤ t → t ≤ 9 → ¬ S t) (h3 : ∀ t, 20 ≤ t → t ≤ 39 → ¬ S t) : RA h' x pad pb tr bk ims kpa rk ao al ne i0 i1 pn pf gp kf kp fi im := by
  obtain ⟨⟨e0, e1, e2, e3, e4⟩, ⟨f0, f1, b0, b1, hk⟩, hp⟩ := hr
  exact ⟨⟨k _ _ _ e0 (h2 _ (by omega) (by omega)), k _ _ _ e1 (h1 _ (by omega)), k _ _ _ e2 (h1 _ (by omega)), k _ _ _ e3 (h2 _ (by omega) (by omega)), k _ _ _ e4 (h2 _ (by omega) (by omega))⟩, ⟨f0, f1, BkR.kp b0 k (h2 _ (by omega) (by omega)) (h2 _ (by omega) (by omega)) (fun t q1 q2 => h3 t (by omega) (by omega)), BkR.kp b1 k (h2 _ (by omega) (by omega)) (h2 _ (by omega) (by omega)) (fun t q1 q2 => h3 t (by omega) (by omega)), hk⟩, hp⟩
theorem NeR.kp {h h' : Pic} {S : Nat → Prop} {a b : Nat} {c : Int} {f : Int → Int} (hn : NeR h a b c f) (k : Kp S h h') (h0 : ¬ S 40) (h1 : ¬ S 41) : NeR h' a b c f := ⟨k _ _ _ hn.1 h0, k _ _ _ hn.2.1 h1, hn.2.2⟩
/-- the class's object holds this: the pad, the book, the images; all else is kept right -/
def RC (h : Pic) (x : Nat) (pn : Int) (pf : Int → Int) (vs pg : Int) (mn : Int → Int) (tx : Int → Int → Int) (tl du kp : Int → Int) (im : Int → Bs) : Prop :=
  ∃ (pad pb tr bk ims kpa rk ao al ne i0 i1 nb z1 z2 z3 : Nat) (gp kf kn cs kn2 no f : Int → Int) (fi : Int → Option Nat) (c : Int), RA h x pad pb tr bk ims kpa rk ao al ne i0 i1 pn pf gp kf kp fi im ∧ TrR h tr ∧ BkR h bk 10 vs pg mn tx tl du ∧ OS h ao bk rk vs pg mn tx tl kn ∧ SlR h al bk ao rk tr z1 z2 z3 cs kn2 no ∧ OkS vs pg mn tx tl du kn2 no ∧ NeR h ne nb c f
abbrev SC : Nat → Prop := fun t => t < 60
section
variable {h : Pic} {x : Nat} {pn : Int} {pf : Int → Int} {vs pg : Int} {mn : Int → Int} {tx : Int → Int → Int} {tl du kp : Int → Int} {im : Int → Bs}
theorem PadR {h : Pic} {pad pb : Nat} {pn : Int} {gp pf : Int → Int} (e1 : h pad = some (ob 1 6 [vR pb, vI pn])) (e2 : h pb = some (ia 2 1 40 gp)) (hp : 0 ≤ pn ∧ pn ≤ 40 ∧ ∀ i, 0 ≤ i → i < pn → gp i = pf i ∧ 33 ≤ pf i ∧ pf i ≤ 126) : TxR h pad pn pf := ⟨pb, 1, 2, 40, gp, e1, e2, hp.1, hp.2.1, hp.2.1, fun i i0 i1 => ⟨(hp.2.2 i i0 i1).1, by have := (hp.2.2 i i0 i1).2.1; omega, (hp.2.2 i i0 i1).2.2⟩⟩
def aSay (pn : Int) (pf : Int → Int) (s : Int) : Int × Int × (Int → Int) := if s < 33 ∨ 126 < s then (-2, pn, pf) else if 40 ≤ pn then (-4, pn, pf) else (pn + 1, pn + 1, fu pf pn s)
theorem C_say {s : Int} (hc : RC h x pn pf vs pg mn tx tl du kp im) : Meets yX7_say cX7_say 2 (some .int) 200 0 0 [vR x, vI s] h (pX (fun z h' => z = (aSay pn pf s).1 ∧ RC h' x (aSay pn pf s).2.1 (aSay pn pf s).2.2 vs pg mn tx tl du kp im ∧ Kp SC h h')) := by
  obtain ⟨pad, pb, tr, bk, ims, kpa, rk, ao, al, ne, i0, i1, nb, z1, z2, z3, gp, kf, kn, cs, kn2, no, f, fi, c, hra, htr, hb, ho, hl, hos, hne⟩ := id hc
  obtain ⟨⟨e0, e1, e2, e3, e4⟩, him, hp⟩ := id hra
  have htx := PadR e1 e2 hp
  refine Meets.of (plainFor_of_name (by decide)) (Nat.le_of_ble_eq_true rfl) (fun X C hX hN hA => ?_)
  refine r_iload_n C dX7_say_0 rfl ?_
  refine r_bipush C dX7_say_1 (by decide) ?_
  refine r_icmp_lt (tgt := 12) C dX7_say_3 (by decide) (fun hc3 => ?_) (fun hc3 => ?_)
  · have hv : aSay pn pf s = (-2, pn, pf) := if_pos (Or.inl hc3)
    rw [hv]
    refine r_bipush C dX7_say_12 (by decide) ?_
    exact r_iret C dX7_say_14 (by decide) (by decide) ⟨_, rfl, rfl, hc, Kp.rf⟩
  refine r_iload_n C dX7_say_6 rfl ?_
  refine r_bipush C dX7_say_7 (by decide) ?_
  refine r_icmp_le (tgt := 15) C dX7_say_9 (by decide) (fun hc9 => ?_) (fun hc9 => ?_)
  rotate_left
  · have hv : aSay pn pf s = (-2, pn, pf) := if_pos (Or.inr hc9)
    rw [hv]
    refine r_bipush C dX7_say_12 (by decide) ?_
    exact r_iret C dX7_say_14 (by decide) (by decide) ⟨_, rfl, rfl, hc, Kp.rf⟩
  refine r_aload_n C dX7_say_15 rfl ?_
  refine r_get C dX7_say_16 flX7_14 e0 rfl ?_
  refine r_cVi C dX7_say_19 mlX7_70 kX6_count (m_count htx) e1 rfl rfl rfl (Nat.le_of_ble_eq_true rfl) (fit hX (by decide)) ?_
  refine r_bipush C dX7_say_22 (by decide) ?_
  refine r_icmp_lt (tgt := 30) C dX7_say_24 (by decide) (fun hc24 => ?_) (fun hc24 => ?_)
  rotate_left
  · have hv : aSay pn pf s = (-4, pn, pf) := (if_neg (by omega)).trans (if_pos (by omega))
    rw [hv]
    refine r_bipush C dX7_say_27 (by decide) ?_
    exact r_iret C dX7_say_29 (by decide) (by decide) ⟨_, rfl, rfl, hc, Kp.rf⟩
  have hv : aSay pn pf s = (pn + 1, pn + 1, fu pf pn s) := (if_neg (by omega)).trans (if_neg (by omega))
  rw [hv]
  refine r_aload_n C dX7_say_30 rfl ?_
  refine r_get C dX7_say_31 flX7_14 e0 rfl ?_
  refine r_iload_n C dX7_say_34 rfl ?_
  refine r_cVv C dX7_say_35 mlX7_74 kX6_add (m_add (c := s) e1 e2 hp.1 hc24 (Int.le_refl 40) (by omega)) e1 rfl rfl rfl (Nat.le_of_ble_eq_true rfl) (fit hX (by decide)) ?_
  rintro h1 rfl
  have hab := ne_of e1 e2 (fun z => by cases z)
  have k1 : Kp (fun t => t = 1 ∨ t = 2) h (pu (pu h pb (ia 2 1 40 (fu gp pn s))) pad (ob 1 6 [vR pb, vI (pn + 1)])) := fun a t b e n => by
    have n1 : a ≠ pad := ne_of e e1 (fun z => n (by cases z; exact Or.inl rfl))
    have n2 : a ≠ pb := ne_of e e2 (fun z => n (by cases z; exact Or.inr rfl))
    rw [pu_n n1, pu_n n2]; exact e
  have d1 : pu (pu h pb (ia 2 1 40 (fu gp pn s))) pad (ob 1 6 [vR pb, vI (pn + 1)]) pad = some (ob 1 6 [vR pb, vI (pn + 1)]) := pu_s
  have d2 : pu (pu h pb (ia 2 1 40 (fu gp pn s))) pad (ob 1 6 [vR pb, vI (pn + 1)]) pb = some (ia 2 1 40 (fu gp pn s)) := (pu_n hab.symm).trans pu_s
  generalize pu (pu h pb (ia 2 1 40 (fu gp pn s))) pad (ob 1 6 [vR pb, vI (pn + 1)]) = h1 at k1 d1 d2 ⊢
  have hp1 : 0 ≤ pn + 1 ∧ pn + 1 ≤ 40 ∧ ∀ i, 0 ≤ i → i < pn + 1 → fu gp pn s i = fu pf pn s i ∧ 33 ≤ fu pf pn s i ∧ fu pf pn s i ≤ 126 := ⟨by omega, by omega, fun i j0 j1 => by
    by_cases hi : i = pn
    · rw [hi, fu_s, fu_s]; exact ⟨rfl, by omega, by omega⟩
    · rw [fu_n hi, fu_n hi]; exact hp.2.2 i j0 (by omega)⟩
  have e01 := k1 _ _ _ e0 (by omega)
  have htx1 := PadR d1 d2 hp1
  refine r_aload_n C dX7_say_38 rfl ?_
  refine r_get C dX7_say_39 flX7_14 e01 rfl ?_
  refine r_cVi C dX7_say_42 mlX7_70 kX6_count (m_count htx1) d1 rfl rfl rfl (Nat.le_of_ble_eq_true rfl) (fit hX (by decide)) ?_
  refine r_iret C dX7_say_45 (by decide) (by decide) ⟨_, rfl, rfl, ?_, k1.mono (fun t z => by omega)⟩
  obtain ⟨f0, f1, b0, b1, hk⟩ := him
  exact ⟨pad, pb, tr, bk, ims, kpa, rk, ao, al, ne, i0, i1, nb, z1, z2, z3, fu gp pn s, kf, kn, cs, kn2, no, f, fi, c, ⟨⟨e01, d1, d2, k1 _ _ _ e3 (by omega), k1 _ _ _ e4 (by omega)⟩, ⟨f0, f1, BkR.kp b0 k1 (by omega) (by omega) (fun t q1 q2 => by omega), BkR.kp b1 k1 (by omega) (by omega) (fun t q1 q2 => by omega), hk⟩, hp1⟩, htr.kp k1 (by omega) (by omega), hb.kp k1 (by omega) (by omega) (fun t q1 q2 => by omega), ho.kp k1 (fun t q1 q2 => by omega), hl.kp k1 (fun t q1 q2 => by omega), hos, hne.kp k1 (by omega) (by omega)⟩
/-- the pad is empty -/
theorem pad_clear {h1 : Pic} {pad pb tr bk ims kpa rk ao al ne i0 i1 : Nat} {gp kf : Int → Int} {fi : Int → Option Nat} (hra : RA h x pad pb tr bk ims kpa rk ao al ne i0 i1 pn pf gp kf kp fi im) (hz : h1 = pu h pad (ob 1 6 [vR pb, vI 0])) : Kp (fun t => t = 1) h h1 ∧ RA h1 x pad pb tr bk ims kpa rk ao al ne i0 i1 0 pf gp kf kp fi im := by
  obtain ⟨⟨e0, e1, e2, e3, e4⟩, ⟨f0, f1, b0, b1, hk⟩, hp⟩ := hra
  subst hz
  have k1 : Kp (fun t => t = 1) h (pu h pad (ob 1 6 [vR pb, vI 0])) := off1.kp e1 rfl
  exact ⟨k1, ⟨k1 _ _ _ e0 (by omega), pu_s, k1 _ _ _ e2 (by omega), k1 _ _ _ e3 (by omega), k1 _ _ _ e4 (by omega)⟩, ⟨f0, f1, BkR.kp b0 k1 (by omega) (by omega) (fun t q1 q2 => by omega), BkR.kp b1 k1 (by omega) (by omega) (fun t q1 q2 => by omega), hk⟩, by omega, by omega, fun i j0 j1 => by omega⟩
theorem C_wipe (hc : RC h x pn pf vs pg mn tx tl du kp im) : Meets yX7_wipe cX7_wipe 2 (some .int) 200 0 0 [vR x] h (pX (fun z h' => z = pn ∧ RC h' x 0 pf vs pg mn tx tl du kp im ∧ Kp SC h h')) := by
  obtain ⟨pad, pb, tr, bk, ims, kpa, rk, ao, al, ne, i0, i1, nb, z1, z2, z3, gp, kf, kn, cs, kn2, no, f, fi, c, hra, htr, hb, ho, hl, hos, hne⟩ := id hc
  obtain ⟨⟨e0, e1, e2, e3, e4⟩, him, hp⟩ := id hra
  have htx := PadR e1 e2 hp
  refine Meets.of (plainFor_of_name (by decide)) (Nat.le_of_ble_eq_true rfl) (fun X C hX hN hA => ?_)
  refine r_aload_n C dX7_wipe_0 rfl ?_
  refine r_get C dX7_wipe_1 flX7_14 e0 rfl ?_
  refine r_cVi C dX7_wipe_4 mlX7_70 kX6_count (m_count htx) e1 rfl rfl rfl (Nat.le_of_ble_eq_true rfl) (fit hX (by decide)) ?_
  refine r_istore_n C dX7_wipe_7 (by decide) ?_
  refine r_aload_n C dX7_wipe_8 rfl ?_
  refine r_get C dX7_wipe_9 flX7_14 e0 rfl ?_
  refine r_cVv C dX7_wipe_12 mlX7_77 kX6_clear (m_clear e1) e1 rfl rfl rfl (Nat.le_of_ble_eq_true rfl) (fit hX (by decide)) ?_
  intro h1 hz
  obtain ⟨k1, hra1⟩ := pad_clear hra hz
  refine r_iload_n C dX7_wipe_15 rfl ?_
  exact r_iret C dX7_wipe_16 (by decide) (by decide) ⟨_, rfl, rfl, ⟨pad, pb, tr, bk, ims, kpa, rk, ao, al, ne, i0, i1, nb, z1, z2, z3, gp, kf, kn, cs, kn2, no, f, fi, c, hra1, htr.kp k1 (by omega) (by omega), hb.kp k1 (by omega) (by omega) (fun t q1 q2 => by omega), ho.kp k1 (fun t q1 q2 => by omega), hl.kp k1 (fun t q1 q2 => by omega), hos, hne.kp k1 (by omega) (by omega)⟩, k1.mono (fun t z => by omega)⟩
theorem C_fault (hc : RC h x pn pf vs pg mn tx tl du kp im) : Meets yX7_fault cX7_fault 1 (some .int) 200 0 0 [vR x] h (pI (flt pn pf) h) := by
  obtain ⟨pad, pb, tr, bk, ims, kpa, rk, ao, al, ne, i0, i1, nb, z1, z2, z3, gp, kf, kn, cs, kn2, no, f, fi, c, hra, -⟩ := id hc
  obtain ⟨⟨e0, e1, e2, e3, e4⟩, him, hp⟩ := id hra
  have htx := PadR e1 e2 hp
  refine Meets.of (plainFor_of_name (by decide)) (Nat.le_of_ble_eq_true rfl) (fun X C hX hN hA => ?_)
  refine r_aload_n C dX7_fault_0 rfl ?_
  refine r_get C dX7_fault_1 flX7_14 e0 rfl ?_
  refine r_cVi C dX7_fault_4 mlX7_80 kX6_firstFault (m_firstFault htx) e1 rfl rfl rfl (Nat.le_of_ble_eq_true rfl) (fit hX (by decide)) ?_
  exact r_iret C dX7_fault_7 (by decide) (by decide) ⟨rfl, rfl⟩
def aWritten (vs : Int) (mn : Int → Int) (tx : Int → Int → Int) (v w i : Int) : Int := if ¬ (0 ≤ v ∧ v < vs ∧ 0 ≤ w ∧ w < 8) then -1 else if i = -1 then mn (8 * v + w) else if 0 ≤ i ∧ i < mn (8 * v + w) then tx (8 * v + w) i else -6
theorem C_written {v w i : Int} (hc : RC h x pn pf vs pg mn tx tl du kp im) : Meets yX7_written cX7_written 5 (some .int) 200 0 0 [vR x, vI v, vI w, vI i] h (pI (aWritten vs mn tx v w i) h) := by
  obtain ⟨pad, pb, tr, bk, ims, kpa, rk, ao, al, ne, i0, i1, nb, z1, z2, z3, gp, kf, kn, cs, kn2, no, f, fi, c, hra, htr, hb, -⟩ := id hc
  obtain ⟨⟨e0, -⟩, -⟩ := id hra
  obtain ⟨nt, x1, x2, x3, x4, x5, ft, fs, f2, f4, f5, ⟨hbs, -⟩, -⟩ := id hb
  refine Meets.of (plainFor_of_name (by decide)) (Nat.le_of_ble_eq_true rfl) (fun X C hX hN hA => ?_)
  refine r_aload_n C dX7_written_0 rfl ?_
  refine r_get C dX7_written_1 flX7_26 e0 rfl ?_
  refine r_iload_n C dX7_written_4 rfl ?_
  refine r_cVi C dX7_written_5 mlX7_106 kX0_hasVersion (m_hasVersion (v := v) hb) hbs rfl rfl rfl (Nat.le_of_ble_eq_true rfl) (fit hX (by decide)) ?_
  refine r_if_eq (tgt := 18) C dX7_written_8 (by decide) (fun hc8 => ?_) (fun hc8 => ?_)
  · have hno := zb_0.mp hc8
    have hv : aWritten vs mn tx v w i = -1 := if_pos (by omega)
    rw [hv]
    refine r_iconst C dX7_written_18 (by decide) ?_
    exact r_iret C dX7_written_19 (by decide) (by decide) ⟨rfl, rfl⟩
  have hvv := zb_n0.mp hc8
  refine r_iload_n C dX7_written_11 rfl ?_
  refine r_cSi C dX7_written_12 mlX7_89 kX7_isWord (m_isWord (c := w)) rfl rfl (Nat.le_of_ble_eq_true rfl) (fit hX (by decide)) ?_
  refine r_if_ne (tgt := 20) C dX7_written_15 (by decide) (fun hc15 => ?_) (fun hc15 => ?_)
  rotate_left
  · have hno := zb_0.mp hc15
    have hv : aWritten vs mn tx v w i = -1 := if_pos (by omega)
    rw [hv]
    refine r_iconst C dX7_written_18 (by decide) ?_
    exact r_iret C dX7_written_19 (by decide) (by decide) ⟨rfl, rfl⟩
  have hww := zb_n0.mp hc15
  have hv0 : aWritten vs mn tx v w i = if i = -1 then mn (8 * v + w) else if 0 ≤ i ∧ i < mn (8 * v + w) then tx (8 * v + w) i else -6 := if_neg (by omega)
  rw [hv0]
  refine r_aload_n C dX7_written_20 rfl ?_
  refine r_get C dX7_written_21 flX7_26 e0 rfl ?_
  refine r_iload_n C dX7_written_24 rfl ?_
  refine r_iload_n C dX7_written_25 rfl ?_
  refine r_cVy C dX7_written_26 mlX7_109 kX0_text (m_text (v := v) (w := w) hb hvv.1 hvv.2 hww.1 hww.2) hbs rfl rfl rfl (Nat.le_of_ble_eq_true rfl) (fit hX (by decide)) ?_
  rintro q h' ⟨rfl, htq⟩
  obtain ⟨bq, tq, tq', mq, gq, hq1, -⟩ := id htq.R
  refine r_astore C dX7_written_29 (by decide) ?_
  refine r_iload_n C dX7_written_31 rfl ?_
  refine r_iconst C dX7_written_32 (by decide) ?_
  refine r_icmp_ne (tgt := 42) C dX7_written_33 (by decide) (fun hc33 => ?_) (fun hc33 => ?_)
  rotate_left
  · rw [if_pos hc33]
    refine r_aload C dX7_written_36 rfl ?_
    refine r_cVi C dX7_written_38 mlX7_70 kX6_count (m_count htq.R) hq1 rfl rfl rfl (Nat.le_of_ble_eq_true rfl) (fit hX (by decide)) ?_
    exact r_iret C dX7_written_41 (by decide) (by decide) ⟨rfl, rfl⟩
  rw [if_neg hc33]
  refine r_iload_n C dX7_written_42 rfl ?_
  refine r_if_lt (tgt := 64) C dX7_written_43 (by decide) (fun hc43 => ?_) (fun hc43 => ?_)
  · rw [if_neg (by omega)]
    refine r_bipush C dX7_written_64 (by decide) ?_
    exact r_iret C dX7_written_66 (by decide) (by decide) ⟨rfl, rfl⟩
  refine r_iload_n C dX7_written_46 rfl ?_
  refine r_aload C dX7_written_47 rfl ?_
  refine r_cVi C dX7_written_49 mlX7_70 kX6_count (m_count htq.R) hq1 rfl rfl rfl (Nat.le_of_ble_eq_true rfl) (fit hX (by decide)) ?_
  refine r_icmp_ge (tgt := 64) C dX7_written_52 (by decide) (fun hc52 => ?_) (fun hc52 => ?_)
  · rw [if_neg (by omega)]
    refine r_bipush C dX7_written_64 (by decide) ?_
    exact r_iret C dX7_written_66 (by decide) (by decide) ⟨rfl, rfl⟩
  rw [if_pos (by omega)]
  refine r_aload C dX7_written_55 rfl ?_
  refine r_iload_n C dX7_written_57 rfl ?_
  refine r_cVi C dX7_written_58 mlX7_113 kX6_sign (m_sign htq.R (p := i)) hq1 rfl rfl rfl (Nat.le_of_ble_eq_true rfl) (fit hX (by decide)) ?_
  rw [sgn_in hc43 hc52]
  refine r_goto (tgt := 66) C dX7_written_61 (by decide) ?_
  exact r_iret C dX7_written_66 (by decide) (by decide) ⟨rfl, rfl⟩
end
end
section
/-! what is kept stays right where the texts are the same -/
theorem scN_congr {S S' : Int → Prop} : ∀ (j : Nat), (∀ q, 0 ≤ q → q < (j : Int) → (S q ↔ S' q)) → scN S j = scN S' j ∧ enN S j = enN S' j := by
  intro j
  induction j with
  | zero => intro _; exact ⟨rfl, rfl⟩
  | succ j ih =>
    intro h
    obtain ⟨i1, i2⟩ := ih (fun q q1 q2 => h q q1 (by omega))
    have hj := h j (by omega) (by omega)
    by_cases hp : S j
    · have hp' := hj.mp hp
      constructor
      · conv => lhs; unfold scN
        conv => rhs; unfold scN
        rw [if_pos hp, if_pos hp', i1]
      · conv => lhs; unfold enN
        conv => rhs; unfold enN
        rw [if_pos hp, if_pos hp', i1, i2]
    · have hp' : ¬ S' j := fun q => hp (hj.mpr q)
      constructor
      · conv => lhs; unfold scN
        conv => rhs; unfold scN
        rw [if_neg hp, if_neg hp', i1]
      · conv => lhs; unfold enN
        conv => rhs; unfold enN
        rw [if_neg hp, if_neg hp', i2]
theorem sc_congr {S S' : Int → Prop} {i : Int} (hi : 0 ≤ i) (h : ∀ q, 0 ≤ q → q < i → (S q ↔ S' q)) : sc S i = sc S' i ∧ en S i = en S' i := by
  unfold sc en
  exact scN_congr i.toNat (fun q q1 q2 => h q q1 (by omega))
section
variable {mn mn' : Int → Int} {tx tx' : Int → Int → Int} {tl tl' du du' : Int → Int} {v p : Int}
def AgV (mn mn' : Int → Int) (tx tx' : Int → Int → Int) (v : Int) : Prop := ∀ w, 0 ≤ w → w < 8 → mn' (8 * v + w) = mn (8 * v + w) ∧ tx' (8 * v + w) = tx (8 * v + w)
def AgP (mn mn' : Int → Int) (tx tx' : Int → Int → Int) (p : Int) : Prop := mn' (48 + p) = mn (48 + p) ∧ tx' (48 + p) = tx (48 + p)
theorem evV_ag (hw : okW (fun w => mn (8 * v + w)) (fun w => tx (8 * v + w))) (hp : 0 < mn (48 + p) ∧ pe (mn (48 + p)) (tx (48 + p)) 6 0 = mn (48 + p)) (hV : AgV mn mn' tx tx' v) (hP : AgP mn mn' tx tx' p) : evV mn' tx' v p = evV mn tx v p := by
  unfold evV
  rw [hP.1, hP.2]
  exact (evT_congr hw (fun w w0 w1 => ⟨(hV w w0 w1).1.symm, fun kz _ _ => by show tx (8 * v + w) kz = tx' (8 * v + w) kz; rw [(hV w w0 w1).2]⟩) (fun _ _ _ => rfl) hp.2 (by omega)).symm
theorem isS_ag {q : Int} (hV : AgV mn mn' tx tx' v) (h0 : 0 ≤ q) (h1 : q < 320) : isS mn' tx' v q ↔ isS mn tx v q := by
  unfold isS
  obtain ⟨e1, e2⟩ := hV (q / 40) (by omega) (by omega)
  rw [e1, e2]
theorem evS_ag {q : Int} (hw : okW (fun w => mn (8 * v + w)) (fun w => tx (8 * v + w))) (hS : isS mn tx v q) (hp : 0 < mn (48 + p) ∧ pe (mn (48 + p)) (tx (48 + p)) 6 0 = mn (48 + p)) (hV : AgV mn mn' tx tx' v) (hP : AgP mn mn' tx tx' p) (h0 : 0 ≤ q) (h1 : q < 320) : evS mn' tx' v q p = evS mn tx v q p := by
  unfold evS
  rw [hP.1, hP.2]
  refine (evT_congr (okW_S hw hS) (fun w w0 w1 => ⟨(hV w w0 w1).1.symm, fun kz _ _ => ?_⟩) (fun _ _ _ => rfl) hp.2 (by omega)).symm
  unfold wtS
  obtain ⟨e1, e2⟩ := hV (q / 40) (by omega) (by omega)
  by_cases hq : w = q / 40
  · rw [if_pos hq, if_pos hq, e2]
  · rw [if_neg hq, if_neg hq, (hV w w0 w1).2]
theorem ntc_ag {q : Int} (hw : okW (fun w => mn (8 * v + w)) (fun w => tx (8 * v + w))) (hS : isS mn tx v q) (hp : tl p = -6 → 0 < mn (48 + p) ∧ pe (mn (48 + p)) (tx (48 + p)) 6 0 = mn (48 + p)) (hV : AgV mn mn' tx tx' v) (hP : AgP mn mn' tx tx' p) (ht : tl' p = tl p) (hd : tl p = -6 → du' p = du p) (h0 : 0 ≤ q) (h1 : q < 320) : ntc mn' tx' tl' du' v q p ↔ ntc mn tx tl du v q p := by
  by_cases hex : tl p = -6
  · unfold ntc hold
    rw [ht, hd hex, evV_ag hw (hp hex) hV hP, evS_ag hw hS (hp hex) hV hP h0 h1]
  · exact ⟨fun z => absurd (ht ▸ z.1.1) hex, fun z => absurd z.1.1 hex⟩
end
section
variable {vs pg vs' pg' : Int} {mn mn' : Int → Int} {tx tx' : Int → Int → Int} {tl tl' du du' kn ca us no : Int → Int}
theorem OkO_ag (ho : OkO vs pg mn tx tl kn ca us) (hok : okB vs pg mn tx tl) (hv : vs ≤ vs') (hp : pg ≤ pg') (hA : ∀ v p, 0 ≤ v → v < vs → 0 ≤ p → p < pg → ¬ kn (v * 12 + p) = 0 → AgV mn mn' tx tx' v) (hP : ∀ p, 0 ≤ p → p < pg → AgP mn mn' tx tx' p ∧ tl' p = tl p) : OkO vs' pg' mn' tx' tl' kn ca us := by
  intro v p q1 q2 q3 q4 q5
  obtain ⟨⟨r1, r2, r3⟩, r4, r5⟩ := ho v p q1 q2 q3 q4 q5
  obtain ⟨s1, s2⟩ := hP p q3 r2
  rw [evV_ag (hok.1 v q1 r1) (hok.2 p q3 r2 r3) (hA v p q1 r1 q3 r2 q5) s1]
  exact ⟨⟨by omega, by omega, by rw [s2]; exact r3⟩, r4, r5⟩
theorem OkS_ag (ho : OkS vs pg mn tx tl du kn no) (hok : okB vs pg mn tx tl) (hv : vs ≤ vs') (hpg : 0 ≤ pg) (hp : pg = pg' ∨ (pg' = pg + 1 ∧ ¬ tl' pg = -6)) (hA : ∀ v, 0 ≤ v → v < vs → ¬ kn v = 0 → AgV mn mn' tx tx' v) (hP : ∀ p, 0 ≤ p → p < pg → AgP mn mn' tx tx' p ∧ tl' p = tl p ∧ (tl p = -6 → du' p = du p)) : OkS vs' pg' mn' tx' tl' du' kn no := by
  intro v q1 q2 q3
  obtain ⟨r1, r2⟩ := ho v q1 q2 q3
  have hV := hA v q1 r1 q3
  obtain ⟨s1, s2⟩ := sc_congr (S := isS mn' tx' v) (S' := isS mn tx v) (i := 320) (by omega) (fun q z1 z2 => isS_ag hV z1 z2)
  refine ⟨by omega, fun s s0 s3 => ?_⟩
  rw [s1] at s3
  rw [r2 s s0 s3, s2]
  obtain ⟨t1, t2, t3⟩ := en_ok (isS mn tx v) (i := 320) (s := s) (by omega) s0 s3
  have hcg : bt (ntc mn' tx' tl' du' v (en (isS mn tx v) 320 s)) pg = bt (ntc mn tx tl du v (en (isS mn tx v) 320 s)) pg := bt_congr (fun p p0 p1 => ntc_ag (hok.1 v q1 r1) t1 (hok.2 p p0 p1) hV (hP p p0 p1).1 (hP p p0 p1).2.1 (hP p p0 p1).2.2 t2 t3)
  rcases hp with rfl | ⟨rfl, hn⟩
  · exact hcg.symm
  · rw [bt_f hpg (fun z => hn z.1.1), hcg]
theorem OkS_0 (h : ∀ c, 0 ≤ c → c < 6 → kn c = 0) : OkS vs pg mn tx tl du kn no := fun v q1 q2 q3 => absurd (h v q1 q2) q3
theorem OkO_0 (h : ∀ c, 0 ≤ c → c < 72 → kn c = 0) : OkO vs pg mn tx tl kn ca us := fun v p q1 q2 q3 q4 q5 => absurd (h _ (by omega) (by omega)) q5
end
/-- what holds of a book at all times -/
def IB (vs pg : Int) (mn : Int → Int) (tx : Int → Int → Int) (tl du : Int → Int) : Prop := okB vs pg mn tx tl ∧ ∀ p, 0 ≤ p → p < pg → ((tl p = -6 ∧ 0 ≤ du p ∧ du p ≤ 999) ∨ (0 ≤ tl p ∧ tl p < 8 ∧ mn (48 + p) = 0))
theorem IB.du {vs pg : Int} {mn : Int → Int} {tx : Int → Int → Int} {tl du : Int → Int} (hi : IB vs pg mn tx tl du) : ∀ p, 0 ≤ p → p < pg → tl p = -6 → 0 ≤ du p := fun p p0 p1 e => by
  rcases hi.2 p p0 p1 with q | q <;> omega
end
