section
-- ===== PART A: goes FIRST, ahead of the names: the tables' words, and 'selects' of the private methods out of them =====
/-- a private method of a class that the tables say can be made, by its rows of tables_1 -/
def lw_okq (q : MethodName × Nat) : Prop := (q.1.cls ≠ "java/lang/invoke/MethodHandle" ∧ q.1.cls ≠ "java/lang/invoke/VarHandle") ∧ Cond.instantiable q.1.cls q.2 ∈ tables_1 ∧ Cond.privateMethod q.1 ∈ tables_1 ∧ Cond.instanceMethod q.1 ∈ tables_1
theorem lw_p0 : lw_okq (⟨"WillKeeper", "searchReached", "(LWillKeeper$Search;)V"⟩, 12) := ⟨⟨by decide +kernel, by decide +kernel⟩, List.mem_of_getElem? (i := 12) (by decide +kernel), List.mem_of_getElem? (i := 82) (by decide +kernel), List.mem_of_getElem? (i := 83) (by decide +kernel)⟩
theorem lw_p1 : lw_okq (⟨"WillKeeper", "addRootsAndQueue", "(LWillKeeper$Search;)V"⟩, 12) := ⟨⟨by decide +kernel, by decide +kernel⟩, List.mem_of_getElem? (i := 12) (by decide +kernel), List.mem_of_getElem? (i := 90) (by decide +kernel), List.mem_of_getElem? (i := 91) (by decide +kernel)⟩
theorem lw_p2 : lw_okq (⟨"WillKeeper", "queueSize", "()I"⟩, 12) := ⟨⟨by decide +kernel, by decide +kernel⟩, List.mem_of_getElem? (i := 12) (by decide +kernel), List.mem_of_getElem? (i := 98) (by decide +kernel), List.mem_of_getElem? (i := 99) (by decide +kernel)⟩
theorem lw_p3 : lw_okq (⟨"WillKeeper", "queuePlace", "(I)I"⟩, 12) := ⟨⟨by decide +kernel, by decide +kernel⟩, List.mem_of_getElem? (i := 12) (by decide +kernel), List.mem_of_getElem? (i := 102) (by decide +kernel), List.mem_of_getElem? (i := 103) (by decide +kernel)⟩
theorem lw_p4 : lw_okq (⟨"WillKeeper", "followFields", "(LWillKeeper$Search;Z)V"⟩, 12) := ⟨⟨by decide +kernel, by decide +kernel⟩, List.mem_of_getElem? (i := 12) (by decide +kernel), List.mem_of_getElem? (i := 106) (by decide +kernel), List.mem_of_getElem? (i := 107) (by decide +kernel)⟩
theorem lw_p5 : lw_okq (⟨"WillKeeper", "thingOrNull", "(I)LWillKeeper$Thing;"⟩, 12) := ⟨⟨by decide +kernel, by decide +kernel⟩, List.mem_of_getElem? (i := 12) (by decide +kernel), List.mem_of_getElem? (i := 114) (by decide +kernel), List.mem_of_getElem? (i := 115) (by decide +kernel)⟩
theorem lw_p6 : lw_okq (⟨"WillKeeper", "queueUnreached", "()I"⟩, 12) := ⟨⟨by decide +kernel, by decide +kernel⟩, List.mem_of_getElem? (i := 12) (by decide +kernel), List.mem_of_getElem? (i := 126) (by decide +kernel), List.mem_of_getElem? (i := 127) (by decide +kernel)⟩
theorem lw_p7 : lw_okq (⟨"WillKeeper", "putInQueue", "(ILWillKeeper$Thing;)V"⟩, 12) := ⟨⟨by decide +kernel, by decide +kernel⟩, List.mem_of_getElem? (i := 12) (by decide +kernel), List.mem_of_getElem? (i := 138) (by decide +kernel), List.mem_of_getElem? (i := 139) (by decide +kernel)⟩
theorem lw_p8 : lw_okq (⟨"WillKeeper", "forgetUnreached", "()V"⟩, 12) := ⟨⟨by decide +kernel, by decide +kernel⟩, List.mem_of_getElem? (i := 12) (by decide +kernel), List.mem_of_getElem? (i := 142) (by decide +kernel), List.mem_of_getElem? (i := 143) (by decide +kernel)⟩
theorem lw_p9 : lw_okq (⟨"WillKeeper", "searchKept", "(LWillKeeper$Search;)V"⟩, 12) := ⟨⟨by decide +kernel, by decide +kernel⟩, List.mem_of_getElem? (i := 12) (by decide +kernel), List.mem_of_getElem? (i := 154) (by decide +kernel), List.mem_of_getElem? (i := 155) (by decide +kernel)⟩
theorem lw_p10 : lw_okq (⟨"java/lang/Throwable", "fillInStackTrace", "(I)Ljava/lang/Throwable;"⟩, 6) := ⟨⟨by decide +kernel, by decide +kernel⟩, List.mem_of_getElem? (i := 205) (by decide +kernel), List.mem_of_getElem? (i := 203) (by decide +kernel), List.mem_of_getElem? (i := 204) (by decide +kernel)⟩
theorem lw_p11 : lw_okq (⟨"WillKeeper", "thingWithField", "(II)LWillKeeper$Thing;"⟩, 12) := ⟨⟨by decide +kernel, by decide +kernel⟩, List.mem_of_getElem? (i := 12) (by decide +kernel), List.mem_of_getElem? (i := 283) (by decide +kernel), List.mem_of_getElem? (i := 284) (by decide +kernel)⟩
theorem lw_p12 : lw_okq (⟨"WillKeeper", "thingThere", "(I)LWillKeeper$Thing;"⟩, 12) := ⟨⟨by decide +kernel, by decide +kernel⟩, List.mem_of_getElem? (i := 12) (by decide +kernel), List.mem_of_getElem? (i := 287) (by decide +kernel), List.mem_of_getElem? (i := 288) (by decide +kernel)⟩
theorem lw_p13 : lw_okq (⟨"WillKeeper", "needThingOrNone", "(I)V"⟩, 12) := ⟨⟨by decide +kernel, by decide +kernel⟩, List.mem_of_getElem? (i := 12) (by decide +kernel), List.mem_of_getElem? (i := 309) (by decide +kernel), List.mem_of_getElem? (i := 310) (by decide +kernel)⟩
theorem lw_p14 : lw_okq (⟨"WillKeeper", "waitingFinals", "()I"⟩, 12) := ⟨⟨by decide +kernel, by decide +kernel⟩, List.mem_of_getElem? (i := 12) (by decide +kernel), List.mem_of_getElem? (i := 358) (by decide +kernel), List.mem_of_getElem? (i := 359) (by decide +kernel)⟩
theorem lw_p15 : lw_okq (⟨"WillKeeperModel", "goes", "(ZZ)Z"⟩, 16) := ⟨⟨by decide +kernel, by decide +kernel⟩, List.mem_of_getElem? (i := 363) (by decide +kernel), List.mem_of_getElem? (i := 426) (by decide +kernel), List.mem_of_getElem? (i := 427) (by decide +kernel)⟩
def lw_privs_1 : List (MethodName × Nat) := [(⟨"WillKeeper", "searchReached", "(LWillKeeper$Search;)V"⟩, 12), (⟨"WillKeeper", "addRootsAndQueue", "(LWillKeeper$Search;)V"⟩, 12), (⟨"WillKeeper", "queueSize", "()I"⟩, 12), (⟨"WillKeeper", "queuePlace", "(I)I"⟩, 12), (⟨"WillKeeper", "followFields", "(LWillKeeper$Search;Z)V"⟩, 12), (⟨"WillKeeper", "thingOrNull", "(I)LWillKeeper$Thing;"⟩, 12), (⟨"WillKeeper", "queueUnreached", "()I"⟩, 12), (⟨"WillKeeper", "putInQueue", "(ILWillKeeper$Thing;)V"⟩, 12), (⟨"WillKeeper", "forgetUnreached", "()V"⟩, 12), (⟨"WillKeeper", "searchKept", "(LWillKeeper$Search;)V"⟩, 12), (⟨"java/lang/Throwable", "fillInStackTrace", "(I)Ljava/lang/Throwable;"⟩, 6), (⟨"WillKeeper", "thingWithField", "(II)LWillKeeper$Thing;"⟩, 12), (⟨"WillKeeper", "thingThere", "(I)LWillKeeper$Thing;"⟩, 12), (⟨"WillKeeper", "needThingOrNone", "(I)V"⟩, 12), (⟨"WillKeeper", "waitingFinals", "()I"⟩, 12), (⟨"WillKeeperModel", "goes", "(ZZ)Z"⟩, 16)]
theorem lw_r1 : ∀ q ∈ lw_privs_1, lw_okq q := List.forall_mem_cons.mpr ⟨lw_p0, List.forall_mem_cons.mpr ⟨lw_p1, List.forall_mem_cons.mpr ⟨lw_p2, List.forall_mem_cons.mpr ⟨lw_p3, List.forall_mem_cons.mpr ⟨lw_p4, List.forall_mem_cons.mpr ⟨lw_p5, List.forall_mem_cons.mpr ⟨lw_p6, List.forall_mem_cons.mpr ⟨lw_p7, List.forall_mem_cons.mpr ⟨lw_p8, List.forall_mem_cons.mpr ⟨lw_p9, List.forall_mem_cons.mpr ⟨lw_p10, List.forall_mem_cons.mpr ⟨lw_p11, List.forall_mem_cons.mpr ⟨lw_p12, List.forall_mem_cons.mpr ⟨lw_p13, List.forall_mem_cons.mpr ⟨lw_p14, List.forall_mem_cons.mpr ⟨lw_p15, fun _ h => absurd h List.not_mem_nil⟩⟩⟩⟩⟩⟩⟩⟩⟩⟩⟩⟩⟩⟩⟩⟩
theorem lw_p16 : lw_okq (⟨"WillKeeperModel", "isField", "(II)Z"⟩, 16) := ⟨⟨by decide +kernel, by decide +kernel⟩, List.mem_of_getElem? (i := 363) (by decide +kernel), List.mem_of_getElem? (i := 434) (by decide +kernel), List.mem_of_getElem? (i := 435) (by decide +kernel)⟩
theorem lw_p17 : lw_okq (⟨"WillKeeperModel", "isThere", "(I)Z"⟩, 16) := ⟨⟨by decide +kernel, by decide +kernel⟩, List.mem_of_getElem? (i := 363) (by decide +kernel), List.mem_of_getElem? (i := 438) (by decide +kernel), List.mem_of_getElem? (i := 439) (by decide +kernel)⟩
theorem lw_p18 : lw_okq (⟨"WillKeeperModel", "isOrNone", "(I)Z"⟩, 16) := ⟨⟨by decide +kernel, by decide +kernel⟩, List.mem_of_getElem? (i := 363) (by decide +kernel), List.mem_of_getElem? (i := 442) (by decide +kernel), List.mem_of_getElem? (i := 443) (by decide +kernel)⟩
theorem lw_p19 : lw_okq (⟨"WillKeeperModel", "find", "(Z)I"⟩, 16) := ⟨⟨by decide +kernel, by decide +kernel⟩, List.mem_of_getElem? (i := 363) (by decide +kernel), List.mem_of_getElem? (i := 458) (by decide +kernel), List.mem_of_getElem? (i := 459) (by decide +kernel)⟩
theorem lw_p20 : lw_okq (⟨"WillKeeperModel", "many", "()I"⟩, 16) := ⟨⟨by decide +kernel, by decide +kernel⟩, List.mem_of_getElem? (i := 363) (by decide +kernel), List.mem_of_getElem? (i := 486) (by decide +kernel), List.mem_of_getElem? (i := 487) (by decide +kernel)⟩
theorem lw_p21 : lw_okq (⟨"WillKeeperModel", "waiting", "()I"⟩, 16) := ⟨⟨by decide +kernel, by decide +kernel⟩, List.mem_of_getElem? (i := 363) (by decide +kernel), List.mem_of_getElem? (i := 490) (by decide +kernel), List.mem_of_getElem? (i := 491) (by decide +kernel)⟩
def lw_privs_2 : List (MethodName × Nat) := [(⟨"WillKeeperModel", "isField", "(II)Z"⟩, 16), (⟨"WillKeeperModel", "isThere", "(I)Z"⟩, 16), (⟨"WillKeeperModel", "isOrNone", "(I)Z"⟩, 16), (⟨"WillKeeperModel", "find", "(Z)I"⟩, 16), (⟨"WillKeeperModel", "many", "()I"⟩, 16), (⟨"WillKeeperModel", "waiting", "()I"⟩, 16)]
theorem lw_r2 : ∀ q ∈ lw_privs_2, lw_okq q := List.forall_mem_cons.mpr ⟨lw_p16, List.forall_mem_cons.mpr ⟨lw_p17, List.forall_mem_cons.mpr ⟨lw_p18, List.forall_mem_cons.mpr ⟨lw_p19, List.forall_mem_cons.mpr ⟨lw_p20, List.forall_mem_cons.mpr ⟨lw_p21, fun _ h => absurd h List.not_mem_nil⟩⟩⟩⟩⟩⟩
def lw_privs : List (MethodName × Nat) := lw_privs_1 ++ (lw_privs_2)
def lw_tbl : List Cond := k2_sels lw_privs ++ tables_1
theorem lw_privs_ok : ∀ q ∈ lw_privs, lw_okq q := by
  show ∀ q ∈ lw_privs_1 ++ (lw_privs_2), lw_okq q
  exact List.forall_mem_append.mpr ⟨lw_r1, lw_r2⟩
end
section
/-! Part 01: names. Written by a program out of the class files and the tables of the claim. -/
def R_K : String := "WillKeeper"
def F_K : u_T := fun k => match k with
  | 0 => ("WillKeeper", "things", "[LWillKeeper$Thing;", true)
  | 1 => ("WillKeeper", "roots", "[I", true)
  | 2 => ("WillKeeper", "queue", "[I", true)
  | 3 => ("WillKeeper", "queueStart", "I", false)
  | 4 => ("WillKeeper", "queueEnd", "I", false)
  | 5 => ("WillKeeper", "before", "LWillKeeper$Search;", true)
  | 6 => ("WillKeeper", "now", "LWillKeeper$Search;", true)
  | 7 => ("WillKeeper", "made", "I", false)
  | 8 => ("WillKeeper", "present", "I", false)
  | 9 => ("WillKeeper", "forgotten", "I", false)
  | 10 => ("WillKeeper", "clearings", "I", false)
  | _ => ("WillKeeper", "identities", "I", false)
def tt_K : Nat → FieldType := fun k => match k with
  | 0 => .array (.object "WillKeeper$Thing")
  | 1 => .array (.int)
  | 2 => .array (.int)
  | 3 => .int
  | 4 => .int
  | 5 => .object "WillKeeper$Search"
  | 6 => .object "WillKeeper$Search"
  | 7 => .int
  | 8 => .int
  | 9 => .int
  | 10 => .int
  | _ => .int
theorem n_K : ∀ a, a < 12 → ∀ b, b < 12 → a ≠ b → (F_K a).2.1 ≠ (F_K b).2.1 := by decide +kernel
theorem tt_K_ok : ∀ k, k < 12 → parseFieldDescriptor (F_K k).2.2.1 = some (tt_K k) := by decide +kernel
def R_T : String := "WillKeeper$Thing"
def F_T : u_T := fun k => match k with
  | 0 => ("WillKeeper$Thing", "fields", "[I", true)
  | 1 => ("WillKeeper$Thing", "kind", "I", false)
  | 2 => ("WillKeeper$Thing", "everQueued", "Z", false)
  | _ => ("WillKeeper$Thing", "identityNumber", "I", false)
def tt_T : Nat → FieldType := fun k => match k with
  | 0 => .array (.int)
  | 1 => .int
  | 2 => .boolean
  | _ => .int
theorem n_T : ∀ a, a < 4 → ∀ b, b < 4 → a ≠ b → (F_T a).2.1 ≠ (F_T b).2.1 := by decide +kernel
theorem tt_T_ok : ∀ k, k < 4 → parseFieldDescriptor (F_T k).2.2.1 = some (tt_T k) := by decide +kernel
def R_S : String := "WillKeeper$Search"
def F_S : u_T := fun k => match k with
  | 0 => ("WillKeeper$Search", "found", "[Z", true)
  | 1 => ("WillKeeper$Search", "order", "[I", true)
  | _ => ("WillKeeper$Search", "size", "I", false)
def tt_S : Nat → FieldType := fun k => match k with
  | 0 => .array (.boolean)
  | 1 => .array (.int)
  | _ => .int
theorem n_S : ∀ a, a < 3 → ∀ b, b < 3 → a ≠ b → (F_S a).2.1 ≠ (F_S b).2.1 := by decide +kernel
theorem tt_S_ok : ∀ k, k < 3 → parseFieldDescriptor (F_S k).2.2.1 = some (tt_S k) := by decide +kernel
def R_L : String := "WillKeeperLaw"
def R_M : String := "WillKeeperModel"
def F_M : u_T := fun k => match k with
  | 0 => ("WillKeeperModel", "thrown", "I", false)
  | 1 => ("WillKeeperModel", "made", "I", false)
  | 2 => ("WillKeeperModel", "there", "[Z", true)
  | 3 => ("WillKeeperModel", "kinds", "[I", true)
  | 4 => ("WillKeeperModel", "sizes", "[I", true)
  | 5 => ("WillKeeperModel", "fields", "[I", true)
  | 6 => ("WillKeeperModel", "identities", "[I", true)
  | 7 => ("WillKeeperModel", "wasQueued", "[Z", true)
  | 8 => ("WillKeeperModel", "roots", "[I", true)
  | 9 => ("WillKeeperModel", "queued", "I", false)
  | 10 => ("WillKeeperModel", "queue", "[I", true)
  | 11 => ("WillKeeperModel", "clearings", "I", false)
  | 12 => ("WillKeeperModel", "forgotten", "I", false)
  | 13 => ("WillKeeperModel", "given", "I", false)
  | 14 => ("WillKeeperModel", "found", "[Z", true)
  | _ => ("WillKeeperModel", "before", "[Z", true)
def tt_M : Nat → FieldType := fun k => match k with
  | 0 => .int
  | 1 => .int
  | 2 => .array (.boolean)
  | 3 => .array (.int)
  | 4 => .array (.int)
  | 5 => .array (.int)
  | 6 => .array (.int)
  | 7 => .array (.boolean)
  | 8 => .array (.int)
  | 9 => .int
  | 10 => .array (.int)
  | 11 => .int
  | 12 => .int
  | 13 => .int
  | 14 => .array (.boolean)
  | _ => .array (.boolean)
theorem n_M : ∀ a, a < 16 → ∀ b, b < 16 → a ≠ b → (F_M a).2.1 ≠ (F_M b).2.1 := by decide +kernel
theorem tt_M_ok : ∀ k, k < 16 → parseFieldDescriptor (F_M k).2.2.1 = some (tt_M k) := by decide +kernel
abbrev kCl : List vw_C := [(R_K, F_K, 12), (R_S, F_S, 3), (R_T, F_T, 4), (R_M, F_M, 16)]
abbrev kTy (ty : Nat → ClassId) : List (ClassId × FieldType) := [(ty 0, .int), (ty 1, .boolean), (ty 2, .object "WillKeeper$Thing"), (ty 3, .long)]
def y_K_init : MethodName := ⟨R_K, "<init>", "()V"⟩
abbrev b_K_init : ByteArray := prog_1_method_1_code
abbrev k_K_init : Cond := .code y_K_init b_K_init 2 none
def y_K_make : MethodName := ⟨R_K, "make", "(II)I"⟩
abbrev b_K_make : ByteArray := prog_1_method_2_code
abbrev k_K_make : Cond := .code y_K_make b_K_make 4 (some .int)
def y_K_set : MethodName := ⟨R_K, "set", "(III)I"⟩
abbrev b_K_set : ByteArray := prog_1_method_3_code
abbrev k_K_set : Cond := .code y_K_set b_K_set 6 (some .int)
def y_K_get : MethodName := ⟨R_K, "get", "(II)I"⟩
abbrev b_K_get : ByteArray := prog_1_method_4_code
abbrev k_K_get : Cond := .code y_K_get b_K_get 3 (some .int)
def y_K_root : MethodName := ⟨R_K, "root", "(II)I"⟩
abbrev b_K_root : ByteArray := prog_1_method_5_code
abbrev k_K_root : Cond := .code y_K_root b_K_root 4 (some .int)
def y_K_clear : MethodName := ⟨R_K, "clear", "()I"⟩
abbrev b_K_clear : ByteArray := prog_1_method_6_code
abbrev k_K_clear : Cond := .code y_K_clear b_K_clear 2 (some .int)
def y_K_take : MethodName := ⟨R_K, "take", "()I"⟩
abbrev b_K_take : ByteArray := prog_1_method_7_code
abbrev k_K_take : Cond := .code y_K_take b_K_take 3 (some .int)
def y_K_queued : MethodName := ⟨R_K, "queued", "(I)I"⟩
abbrev b_K_queued : ByteArray := prog_1_method_8_code
abbrev k_K_queued : Cond := .code y_K_queued b_K_queued 2 (some .int)
def y_K_sweep : MethodName := ⟨R_K, "sweep", "()I"⟩
abbrev b_K_sweep : ByteArray := prog_1_method_9_code
abbrev k_K_sweep : Cond := .code y_K_sweep b_K_sweep 3 (some .int)
def y_K_identity : MethodName := ⟨R_K, "identity", "(I)I"⟩
abbrev b_K_identity : ByteArray := prog_1_method_10_code
abbrev k_K_identity : Cond := .code y_K_identity b_K_identity 3 (some .int)
def y_K_about : MethodName := ⟨R_K, "about", "(II)I"⟩
abbrev b_K_about : ByteArray := prog_1_method_11_code
abbrev k_K_about : Cond := .code y_K_about b_K_about 4 (some .int)
def y_K_count : MethodName := ⟨R_K, "count", "(I)I"⟩
abbrev b_K_count : ByteArray := prog_1_method_12_code
abbrev k_K_count : Cond := .code y_K_count b_K_count 2 (some .int)
def y_K_thingOrNull : MethodName := ⟨R_K, "thingOrNull", "(I)LWillKeeper$Thing;"⟩
abbrev b_K_thingOrNull : ByteArray := prog_1_method_13_code
abbrev k_K_thingOrNull : Cond := .code y_K_thingOrNull b_K_thingOrNull 2 (some (.object "WillKeeper$Thing"))
def y_K_thingThere : MethodName := ⟨R_K, "thingThere", "(I)LWillKeeper$Thing;"⟩
abbrev b_K_thingThere : ByteArray := prog_1_method_14_code
abbrev k_K_thingThere : Cond := .code y_K_thingThere b_K_thingThere 3 (some (.object "WillKeeper$Thing"))
def y_K_thingWithField : MethodName := ⟨R_K, "thingWithField", "(II)LWillKeeper$Thing;"⟩
abbrev b_K_thingWithField : ByteArray := prog_1_method_15_code
abbrev k_K_thingWithField : Cond := .code y_K_thingWithField b_K_thingWithField 4 (some (.object "WillKeeper$Thing"))
def y_K_needThingOrNone : MethodName := ⟨R_K, "needThingOrNone", "(I)V"⟩
abbrev b_K_needThingOrNone : ByteArray := prog_1_method_16_code
abbrev k_K_needThingOrNone : Cond := .code y_K_needThingOrNone b_K_needThingOrNone 2 none
def y_K_queueSize : MethodName := ⟨R_K, "queueSize", "()I"⟩
abbrev b_K_queueSize : ByteArray := prog_1_method_17_code
abbrev k_K_queueSize : Cond := .code y_K_queueSize b_K_queueSize 1 (some .int)
def y_K_queuePlace : MethodName := ⟨R_K, "queuePlace", "(I)I"⟩
abbrev b_K_queuePlace : ByteArray := prog_1_method_18_code
abbrev k_K_queuePlace : Cond := .code y_K_queuePlace b_K_queuePlace 3 (some .int)
def y_K_putInQueue : MethodName := ⟨R_K, "putInQueue", "(ILWillKeeper$Thing;)V"⟩
abbrev b_K_putInQueue : ByteArray := prog_1_method_19_code
abbrev k_K_putInQueue : Cond := .code y_K_putInQueue b_K_putInQueue 3 none
def y_K_waitingFinals : MethodName := ⟨R_K, "waitingFinals", "()I"⟩
abbrev b_K_waitingFinals : ByteArray := prog_1_method_20_code
abbrev k_K_waitingFinals : Cond := .code y_K_waitingFinals b_K_waitingFinals 4 (some .int)
def y_K_searchReached : MethodName := ⟨R_K, "searchReached", "(LWillKeeper$Search;)V"⟩
abbrev b_K_searchReached : ByteArray := prog_1_method_21_code
abbrev k_K_searchReached : Cond := .code y_K_searchReached b_K_searchReached 2 none
def y_K_searchKept : MethodName := ⟨R_K, "searchKept", "(LWillKeeper$Search;)V"⟩
abbrev b_K_searchKept : ByteArray := prog_1_method_22_code
abbrev k_K_searchKept : Cond := .code y_K_searchKept b_K_searchKept 4 none
def y_K_addRootsAndQueue : MethodName := ⟨R_K, "addRootsAndQueue", "(LWillKeeper$Search;)V"⟩
abbrev b_K_addRootsAndQueue : ByteArray := prog_1_method_23_code
abbrev k_K_addRootsAndQueue : Cond := .code y_K_addRootsAndQueue b_K_addRootsAndQueue 4 none
def y_K_followFields : MethodName := ⟨R_K, "followFields", "(LWillKeeper$Search;Z)V"⟩
abbrev b_K_followFields : ByteArray := prog_1_method_24_code
abbrev k_K_followFields : Cond := .code y_K_followFields b_K_followFields 7 none
def y_K_queueUnreached : MethodName := ⟨R_K, "queueUnreached", "()I"⟩
abbrev b_K_queueUnreached : ByteArray := prog_1_method_25_code
abbrev k_K_queueUnreached : Cond := .code y_K_queueUnreached b_K_queueUnreached 4 (some .int)
def y_K_forgetUnreached : MethodName := ⟨R_K, "forgetUnreached", "()V"⟩
abbrev b_K_forgetUnreached : ByteArray := prog_1_method_26_code
abbrev k_K_forgetUnreached : Cond := .code y_K_forgetUnreached b_K_forgetUnreached 4 none
def y_T_init : MethodName := ⟨R_T, "<init>", "(II)V"⟩
abbrev b_T_init : ByteArray := prog_3_method_1_code
abbrev k_T_init : Cond := .code y_T_init b_T_init 4 none
def y_T_hasField : MethodName := ⟨R_T, "hasField", "(I)Z"⟩
abbrev b_T_hasField : ByteArray := prog_3_method_2_code
abbrev k_T_hasField : Cond := .code y_T_hasField b_T_hasField 2 (some .boolean)
def y_T_hasWeakField : MethodName := ⟨R_T, "hasWeakField", "()Z"⟩
abbrev b_T_hasWeakField : ByteArray := prog_3_method_3_code
abbrev k_T_hasWeakField : Cond := .code y_T_hasWeakField b_T_hasWeakField 1 (some .boolean)
def y_T_waitsForQueue : MethodName := ⟨R_T, "waitsForQueue", "()Z"⟩
abbrev b_T_waitsForQueue : ByteArray := prog_3_method_4_code
abbrev k_T_waitsForQueue : Cond := .code y_T_waitsForQueue b_T_waitsForQueue 1 (some .boolean)
def y_S_init : MethodName := ⟨R_S, "<init>", "()V"⟩
abbrev b_S_init : ByteArray := prog_2_method_1_code
abbrev k_S_init : Cond := .code y_S_init b_S_init 1 none
def y_S_forgetAll : MethodName := ⟨R_S, "forgetAll", "()V"⟩
abbrev b_S_forgetAll : ByteArray := prog_2_method_2_code
abbrev k_S_forgetAll : Cond := .code y_S_forgetAll b_S_forgetAll 2 none
def y_S_add : MethodName := ⟨R_S, "add", "(I)V"⟩
abbrev b_S_add : ByteArray := prog_2_method_3_code
abbrev k_S_add : Cond := .code y_S_add b_S_add 2 none
def y_S_has : MethodName := ⟨R_S, "has", "(I)Z"⟩
abbrev b_S_has : ByteArray := prog_2_method_4_code
abbrev k_S_has : Cond := .code y_S_has b_S_has 2 (some .boolean)
def y_S_at : MethodName := ⟨R_S, "at", "(I)I"⟩
abbrev b_S_at : ByteArray := prog_2_method_5_code
abbrev k_S_at : Cond := .code y_S_at b_S_at 2 (some .int)
def y_L_make : MethodName := ⟨R_L, "make", "(LWillKeeper;II[J)I"⟩
abbrev b_L_make : ByteArray := method_3_code
abbrev k_L_make : Cond := .codeWith y_L_make b_L_make 5 (some .int) [((0), (10), (13), (13)), ((0), (10), (17), (15))]
def y_L_set : MethodName := ⟨R_L, "set", "(LWillKeeper;III[J)I"⟩
abbrev b_L_set : ByteArray := method_4_code
abbrev k_L_set : Cond := .codeWith y_L_set b_L_set 6 (some .int) [((0), (12), (15), (21))]
def y_L_get : MethodName := ⟨R_L, "get", "(LWillKeeper;II[J)I"⟩
abbrev b_L_get : ByteArray := method_5_code
abbrev k_L_get : Cond := .codeWith y_L_get b_L_get 5 (some .int) [((0), (10), (13), (21))]
def y_L_root : MethodName := ⟨R_L, "root", "(LWillKeeper;II[J)I"⟩
abbrev b_L_root : ByteArray := method_6_code
abbrev k_L_root : Cond := .codeWith y_L_root b_L_root 5 (some .int) [((0), (10), (13), (21))]
def y_L_queued : MethodName := ⟨R_L, "queued", "(LWillKeeper;I[J)I"⟩
abbrev b_L_queued : ByteArray := method_7_code
abbrev k_L_queued : Cond := .codeWith y_L_queued b_L_queued 4 (some .int) [((0), (9), (12), (13))]
def y_L_identity : MethodName := ⟨R_L, "identity", "(LWillKeeper;I[J)I"⟩
abbrev b_L_identity : ByteArray := method_8_code
abbrev k_L_identity : Cond := .codeWith y_L_identity b_L_identity 4 (some .int) [((0), (9), (12), (21))]
def y_L_about : MethodName := ⟨R_L, "about", "(LWillKeeper;II[J)I"⟩
abbrev b_L_about : ByteArray := method_9_code
abbrev k_L_about : Cond := .codeWith y_L_about b_L_about 5 (some .int) [((0), (10), (13), (21)), ((0), (10), (17), (13))]
def y_L_count : MethodName := ⟨R_L, "count", "(LWillKeeper;I[J)I"⟩
abbrev b_L_count : ByteArray := method_10_code
abbrev k_L_count : Cond := .codeWith y_L_count b_L_count 4 (some .int) [((0), (9), (12), (13))]
def y_L_law : MethodName := ⟨R_L, "law", "([I)Z"⟩
abbrev b_L_law : ByteArray := code
def y_M_init : MethodName := ⟨R_M, "<init>", "()V"⟩
abbrev b_M_init : ByteArray := prog_5_method_1_code
abbrev k_M_init : Cond := .code y_M_init b_M_init 1 none
def y_M_thrown : MethodName := ⟨R_M, "thrown", "()I"⟩
abbrev b_M_thrown : ByteArray := prog_5_method_2_code
abbrev k_M_thrown : Cond := .code y_M_thrown b_M_thrown 1 (some .int)
def y_M_goes : MethodName := ⟨R_M, "goes", "(ZZ)Z"⟩
abbrev b_M_goes : ByteArray := prog_5_method_3_code
abbrev k_M_goes : Cond := .code y_M_goes b_M_goes 3 (some .boolean)
def y_M_isThere : MethodName := ⟨R_M, "isThere", "(I)Z"⟩
abbrev b_M_isThere : ByteArray := prog_5_method_4_code
abbrev k_M_isThere : Cond := .code y_M_isThere b_M_isThere 2 (some .boolean)
def y_M_isOrNone : MethodName := ⟨R_M, "isOrNone", "(I)Z"⟩
abbrev b_M_isOrNone : ByteArray := prog_5_method_5_code
abbrev k_M_isOrNone : Cond := .code y_M_isOrNone b_M_isOrNone 2 (some .boolean)
def y_M_isField : MethodName := ⟨R_M, "isField", "(II)Z"⟩
abbrev b_M_isField : ByteArray := prog_5_method_6_code
abbrev k_M_isField : Cond := .code y_M_isField b_M_isField 3 (some .boolean)
def y_M_make : MethodName := ⟨R_M, "make", "(II)I"⟩
abbrev b_M_make : ByteArray := prog_5_method_7_code
abbrev k_M_make : Cond := .code y_M_make b_M_make 3 (some .int)
def y_M_set : MethodName := ⟨R_M, "set", "(III)I"⟩
abbrev b_M_set : ByteArray := prog_5_method_8_code
abbrev k_M_set : Cond := .code y_M_set b_M_set 5 (some .int)
def y_M_get : MethodName := ⟨R_M, "get", "(II)I"⟩
abbrev b_M_get : ByteArray := prog_5_method_9_code
abbrev k_M_get : Cond := .code y_M_get b_M_get 3 (some .int)
def y_M_root : MethodName := ⟨R_M, "root", "(II)I"⟩
abbrev b_M_root : ByteArray := prog_5_method_10_code
abbrev k_M_root : Cond := .code y_M_root b_M_root 4 (some .int)
def y_M_find : MethodName := ⟨R_M, "find", "(Z)I"⟩
abbrev b_M_find : ByteArray := prog_5_method_11_code
abbrev k_M_find : Cond := .code y_M_find b_M_find 6 (some .int)
def y_M_clear : MethodName := ⟨R_M, "clear", "()I"⟩
abbrev b_M_clear : ByteArray := prog_5_method_12_code
abbrev k_M_clear : Cond := .code y_M_clear b_M_clear 6 (some .int)
def y_M_take : MethodName := ⟨R_M, "take", "()I"⟩
abbrev b_M_take : ByteArray := prog_5_method_13_code
abbrev k_M_take : Cond := .code y_M_take b_M_take 3 (some .int)
def y_M_queued : MethodName := ⟨R_M, "queued", "(I)I"⟩
abbrev b_M_queued : ByteArray := prog_5_method_14_code
abbrev k_M_queued : Cond := .code y_M_queued b_M_queued 2 (some .int)
def y_M_sweep : MethodName := ⟨R_M, "sweep", "()I"⟩
abbrev b_M_sweep : ByteArray := prog_5_method_15_code
abbrev k_M_sweep : Cond := .code y_M_sweep b_M_sweep 4 (some .int)
def y_M_identity : MethodName := ⟨R_M, "identity", "(I)I"⟩
abbrev b_M_identity : ByteArray := prog_5_method_16_code
abbrev k_M_identity : Cond := .code y_M_identity b_M_identity 2 (some .int)
def y_M_about : MethodName := ⟨R_M, "about", "(II)I"⟩
abbrev b_M_about : ByteArray := prog_5_method_17_code
abbrev k_M_about : Cond := .code y_M_about b_M_about 4 (some .int)
def y_M_many : MethodName := ⟨R_M, "many", "()I"⟩
abbrev b_M_many : ByteArray := prog_5_method_18_code
abbrev k_M_many : Cond := .code y_M_many b_M_many 3 (some .int)
def y_M_waiting : MethodName := ⟨R_M, "waiting", "()I"⟩
abbrev b_M_waiting : ByteArray := prog_5_method_19_code
abbrev k_M_waiting : Cond := .code y_M_waiting b_M_waiting 3 (some .int)
def y_M_count : MethodName := ⟨R_M, "count", "(I)I"⟩
abbrev b_M_count : ByteArray := prog_5_method_20_code
abbrev k_M_count : Cond := .code y_M_count b_M_count 2 (some .int)
end
section
/-! Decode rows. -/
theorem d_T_init_0 : decode b_T_init 0 = .ok (.aload_n 0, 1) := by decide +kernel
theorem d_T_init_1 : decode b_T_init 1 = .ok (.invokespecial 3, 3) := by decide +kernel
theorem d_T_init_4 : decode b_T_init 4 = .ok (.aload_n 0, 1) := by decide +kernel
theorem d_T_init_5 : decode b_T_init 5 = .ok (.iload_n 1, 1) := by decide +kernel
theorem d_T_init_6 : decode b_T_init 6 = .ok (.putfield 9, 3) := by decide +kernel
theorem d_T_init_9 : decode b_T_init 9 = .ok (.aload_n 0, 1) := by decide +kernel
theorem d_T_init_10 : decode b_T_init 10 = .ok (.iload_n 2, 1) := by decide +kernel
theorem d_T_init_11 : decode b_T_init 11 = .ok (.ifCond .lt 7, 3) := by decide +kernel
theorem d_T_init_14 : decode b_T_init 14 = .ok (.iload_n 2, 1) := by decide +kernel
theorem d_T_init_15 : decode b_T_init 15 = .ok (.goto 4, 3) := by decide +kernel
theorem d_T_init_18 : decode b_T_init 18 = .ok (.iconst 0, 1) := by decide +kernel
theorem d_T_init_19 : decode b_T_init 19 = .ok (.newarray .int, 2) := by decide +kernel
theorem d_T_init_21 : decode b_T_init 21 = .ok (.putfield 15, 3) := by decide +kernel
theorem d_T_init_24 : decode b_T_init 24 = .ok (.aload_n 0, 1) := by decide +kernel
theorem d_T_init_25 : decode b_T_init 25 = .ok (.iconst 0, 1) := by decide +kernel
theorem d_T_init_26 : decode b_T_init 26 = .ok (.putfield 19, 3) := by decide +kernel
theorem d_T_init_29 : decode b_T_init 29 = .ok (.aload_n 0, 1) := by decide +kernel
theorem d_T_init_30 : decode b_T_init 30 = .ok (.iconst (-1), 1) := by decide +kernel
theorem d_T_init_31 : decode b_T_init 31 = .ok (.putfield 23, 3) := by decide +kernel
theorem d_T_init_34 : decode b_T_init 34 = .ok (.iconst 0, 1) := by decide +kernel
theorem d_T_init_35 : decode b_T_init 35 = .ok (.istore_n 3, 1) := by decide +kernel
theorem d_T_init_36 : decode b_T_init 36 = .ok (.iload_n 3, 1) := by decide +kernel
theorem d_T_init_37 : decode b_T_init 37 = .ok (.aload_n 0, 1) := by decide +kernel
theorem d_T_init_38 : decode b_T_init 38 = .ok (.getfield 15, 3) := by decide +kernel
theorem d_T_init_41 : decode b_T_init 41 = .ok (.arraylength, 1) := by decide +kernel
theorem d_T_init_42 : decode b_T_init 42 = .ok (.if_icmp .ge 16, 3) := by decide +kernel
theorem d_T_init_45 : decode b_T_init 45 = .ok (.aload_n 0, 1) := by decide +kernel
theorem d_T_init_46 : decode b_T_init 46 = .ok (.getfield 15, 3) := by decide +kernel
theorem d_T_init_49 : decode b_T_init 49 = .ok (.iload_n 3, 1) := by decide +kernel
theorem d_T_init_50 : decode b_T_init 50 = .ok (.iconst (-1), 1) := by decide +kernel
theorem d_T_init_51 : decode b_T_init 51 = .ok (.iastore, 1) := by decide +kernel
theorem d_T_init_52 : decode b_T_init 52 = .ok (.iinc 3 1, 3) := by decide +kernel
theorem d_T_init_55 : decode b_T_init 55 = .ok (.goto (-19), 3) := by decide +kernel
theorem d_T_init_58 : decode b_T_init 58 = .ok (.return_, 1) := by decide +kernel
theorem d_T_hasField_0 : decode b_T_hasField 0 = .ok (.iload_n 1, 1) := by decide +kernel
theorem d_T_hasField_1 : decode b_T_hasField 1 = .ok (.ifCond .lt 16, 3) := by decide +kernel
theorem d_T_hasField_4 : decode b_T_hasField 4 = .ok (.iload_n 1, 1) := by decide +kernel
theorem d_T_hasField_5 : decode b_T_hasField 5 = .ok (.aload_n 0, 1) := by decide +kernel
theorem d_T_hasField_6 : decode b_T_hasField 6 = .ok (.getfield 15, 3) := by decide +kernel
theorem d_T_hasField_9 : decode b_T_hasField 9 = .ok (.arraylength, 1) := by decide +kernel
theorem d_T_hasField_10 : decode b_T_hasField 10 = .ok (.if_icmp .ge 7, 3) := by decide +kernel
theorem d_T_hasField_13 : decode b_T_hasField 13 = .ok (.iconst 1, 1) := by decide +kernel
theorem d_T_hasField_14 : decode b_T_hasField 14 = .ok (.goto 4, 3) := by decide +kernel
theorem d_T_hasField_17 : decode b_T_hasField 17 = .ok (.iconst 0, 1) := by decide +kernel
theorem d_T_hasField_18 : decode b_T_hasField 18 = .ok (.ireturn, 1) := by decide +kernel
theorem d_T_hasWeakField_0 : decode b_T_hasWeakField 0 = .ok (.aload_n 0, 1) := by decide +kernel
theorem d_T_hasWeakField_1 : decode b_T_hasWeakField 1 = .ok (.getfield 9, 3) := by decide +kernel
theorem d_T_hasWeakField_4 : decode b_T_hasWeakField 4 = .ok (.iconst 1, 1) := by decide +kernel
theorem d_T_hasWeakField_5 : decode b_T_hasWeakField 5 = .ok (.if_icmp .ne 15, 3) := by decide +kernel
theorem d_T_hasWeakField_8 : decode b_T_hasWeakField 8 = .ok (.aload_n 0, 1) := by decide +kernel
theorem d_T_hasWeakField_9 : decode b_T_hasWeakField 9 = .ok (.iconst 0, 1) := by decide +kernel
theorem d_T_hasWeakField_10 : decode b_T_hasWeakField 10 = .ok (.invokevirtual 26, 3) := by decide +kernel
theorem d_T_hasWeakField_13 : decode b_T_hasWeakField 13 = .ok (.ifCond .eq 7, 3) := by decide +kernel
theorem d_T_hasWeakField_16 : decode b_T_hasWeakField 16 = .ok (.iconst 1, 1) := by decide +kernel
theorem d_T_hasWeakField_17 : decode b_T_hasWeakField 17 = .ok (.goto 4, 3) := by decide +kernel
theorem d_T_hasWeakField_20 : decode b_T_hasWeakField 20 = .ok (.iconst 0, 1) := by decide +kernel
theorem d_T_hasWeakField_21 : decode b_T_hasWeakField 21 = .ok (.ireturn, 1) := by decide +kernel
theorem d_T_waitsForQueue_0 : decode b_T_waitsForQueue 0 = .ok (.aload_n 0, 1) := by decide +kernel
theorem d_T_waitsForQueue_1 : decode b_T_waitsForQueue 1 = .ok (.getfield 9, 3) := by decide +kernel
theorem d_T_waitsForQueue_4 : decode b_T_waitsForQueue 4 = .ok (.iconst 2, 1) := by decide +kernel
theorem d_T_waitsForQueue_5 : decode b_T_waitsForQueue 5 = .ok (.if_icmp .ne 14, 3) := by decide +kernel
theorem d_T_waitsForQueue_8 : decode b_T_waitsForQueue 8 = .ok (.aload_n 0, 1) := by decide +kernel
theorem d_T_waitsForQueue_9 : decode b_T_waitsForQueue 9 = .ok (.getfield 19, 3) := by decide +kernel
theorem d_T_waitsForQueue_12 : decode b_T_waitsForQueue 12 = .ok (.ifCond .ne 7, 3) := by decide +kernel
theorem d_T_waitsForQueue_15 : decode b_T_waitsForQueue 15 = .ok (.iconst 1, 1) := by decide +kernel
theorem d_T_waitsForQueue_16 : decode b_T_waitsForQueue 16 = .ok (.goto 4, 3) := by decide +kernel
theorem d_T_waitsForQueue_19 : decode b_T_waitsForQueue 19 = .ok (.iconst 0, 1) := by decide +kernel
theorem d_T_waitsForQueue_20 : decode b_T_waitsForQueue 20 = .ok (.ireturn, 1) := by decide +kernel
theorem d_S_init_0 : decode b_S_init 0 = .ok (.aload_n 0, 1) := by decide +kernel
theorem d_S_init_1 : decode b_S_init 1 = .ok (.invokespecial 3, 3) := by decide +kernel
theorem d_S_init_4 : decode b_S_init 4 = .ok (.aload_n 0, 1) := by decide +kernel
theorem d_S_init_5 : decode b_S_init 5 = .ok (.sipush 300, 3) := by decide +kernel
theorem d_S_init_8 : decode b_S_init 8 = .ok (.newarray .boolean, 2) := by decide +kernel
theorem d_S_init_10 : decode b_S_init 10 = .ok (.putfield 9, 3) := by decide +kernel
theorem d_S_init_13 : decode b_S_init 13 = .ok (.aload_n 0, 1) := by decide +kernel
theorem d_S_init_14 : decode b_S_init 14 = .ok (.sipush 300, 3) := by decide +kernel
theorem d_S_init_17 : decode b_S_init 17 = .ok (.newarray .int, 2) := by decide +kernel
theorem d_S_init_19 : decode b_S_init 19 = .ok (.putfield 15, 3) := by decide +kernel
theorem d_S_init_22 : decode b_S_init 22 = .ok (.aload_n 0, 1) := by decide +kernel
theorem d_S_init_23 : decode b_S_init 23 = .ok (.iconst 0, 1) := by decide +kernel
theorem d_S_init_24 : decode b_S_init 24 = .ok (.putfield 19, 3) := by decide +kernel
theorem d_S_init_27 : decode b_S_init 27 = .ok (.return_, 1) := by decide +kernel
theorem d_S_forgetAll_0 : decode b_S_forgetAll 0 = .ok (.iconst 0, 1) := by decide +kernel
theorem d_S_forgetAll_1 : decode b_S_forgetAll 1 = .ok (.istore_n 1, 1) := by decide +kernel
theorem d_S_forgetAll_2 : decode b_S_forgetAll 2 = .ok (.iload_n 1, 1) := by decide +kernel
theorem d_S_forgetAll_3 : decode b_S_forgetAll 3 = .ok (.aload_n 0, 1) := by decide +kernel
theorem d_S_forgetAll_4 : decode b_S_forgetAll 4 = .ok (.getfield 9, 3) := by decide +kernel
theorem d_S_forgetAll_7 : decode b_S_forgetAll 7 = .ok (.arraylength, 1) := by decide +kernel
theorem d_S_forgetAll_8 : decode b_S_forgetAll 8 = .ok (.if_icmp .ge 16, 3) := by decide +kernel
theorem d_S_forgetAll_11 : decode b_S_forgetAll 11 = .ok (.aload_n 0, 1) := by decide +kernel
theorem d_S_forgetAll_12 : decode b_S_forgetAll 12 = .ok (.getfield 9, 3) := by decide +kernel
theorem d_S_forgetAll_15 : decode b_S_forgetAll 15 = .ok (.iload_n 1, 1) := by decide +kernel
theorem d_S_forgetAll_16 : decode b_S_forgetAll 16 = .ok (.iconst 0, 1) := by decide +kernel
theorem d_S_forgetAll_17 : decode b_S_forgetAll 17 = .ok (.bastore, 1) := by decide +kernel
theorem d_S_forgetAll_18 : decode b_S_forgetAll 18 = .ok (.iinc 1 1, 3) := by decide +kernel
theorem d_S_forgetAll_21 : decode b_S_forgetAll 21 = .ok (.goto (-19), 3) := by decide +kernel
theorem d_S_forgetAll_24 : decode b_S_forgetAll 24 = .ok (.aload_n 0, 1) := by decide +kernel
theorem d_S_forgetAll_25 : decode b_S_forgetAll 25 = .ok (.iconst 0, 1) := by decide +kernel
theorem d_S_forgetAll_26 : decode b_S_forgetAll 26 = .ok (.putfield 19, 3) := by decide +kernel
theorem d_S_forgetAll_29 : decode b_S_forgetAll 29 = .ok (.return_, 1) := by decide +kernel
theorem d_S_add_0 : decode b_S_add 0 = .ok (.iload_n 1, 1) := by decide +kernel
theorem d_S_add_1 : decode b_S_add 1 = .ok (.ifCond .lt 40, 3) := by decide +kernel
theorem d_S_add_4 : decode b_S_add 4 = .ok (.iload_n 1, 1) := by decide +kernel
theorem d_S_add_5 : decode b_S_add 5 = .ok (.aload_n 0, 1) := by decide +kernel
theorem d_S_add_6 : decode b_S_add 6 = .ok (.getfield 9, 3) := by decide +kernel
theorem d_S_add_9 : decode b_S_add 9 = .ok (.arraylength, 1) := by decide +kernel
theorem d_S_add_10 : decode b_S_add 10 = .ok (.if_icmp .ge 31, 3) := by decide +kernel
theorem d_S_add_13 : decode b_S_add 13 = .ok (.aload_n 0, 1) := by decide +kernel
theorem d_S_add_14 : decode b_S_add 14 = .ok (.getfield 9, 3) := by decide +kernel
theorem d_S_add_17 : decode b_S_add 17 = .ok (.iload_n 1, 1) := by decide +kernel
theorem d_S_add_18 : decode b_S_add 18 = .ok (.baload, 1) := by decide +kernel
theorem d_S_add_19 : decode b_S_add 19 = .ok (.ifCond .ne 22, 3) := by decide +kernel
theorem d_S_add_22 : decode b_S_add 22 = .ok (.aload_n 0, 1) := by decide +kernel
theorem d_S_add_23 : decode b_S_add 23 = .ok (.getfield 19, 3) := by decide +kernel
theorem d_S_add_26 : decode b_S_add 26 = .ok (.ifCond .lt 15, 3) := by decide +kernel
theorem d_S_add_29 : decode b_S_add 29 = .ok (.aload_n 0, 1) := by decide +kernel
theorem d_S_add_30 : decode b_S_add 30 = .ok (.getfield 19, 3) := by decide +kernel
theorem d_S_add_33 : decode b_S_add 33 = .ok (.aload_n 0, 1) := by decide +kernel
theorem d_S_add_34 : decode b_S_add 34 = .ok (.getfield 15, 3) := by decide +kernel
theorem d_S_add_37 : decode b_S_add 37 = .ok (.arraylength, 1) := by decide +kernel
theorem d_S_add_38 : decode b_S_add 38 = .ok (.if_icmp .lt 4, 3) := by decide +kernel
theorem d_S_add_41 : decode b_S_add 41 = .ok (.return_, 1) := by decide +kernel
theorem d_S_add_42 : decode b_S_add 42 = .ok (.aload_n 0, 1) := by decide +kernel
theorem d_S_add_43 : decode b_S_add 43 = .ok (.getfield 9, 3) := by decide +kernel
theorem d_S_add_46 : decode b_S_add 46 = .ok (.iload_n 1, 1) := by decide +kernel
theorem d_S_add_47 : decode b_S_add 47 = .ok (.iconst 1, 1) := by decide +kernel
theorem d_S_add_48 : decode b_S_add 48 = .ok (.bastore, 1) := by decide +kernel
theorem d_S_add_49 : decode b_S_add 49 = .ok (.aload_n 0, 1) := by decide +kernel
theorem d_S_add_50 : decode b_S_add 50 = .ok (.getfield 15, 3) := by decide +kernel
theorem d_S_add_53 : decode b_S_add 53 = .ok (.aload_n 0, 1) := by decide +kernel
theorem d_S_add_54 : decode b_S_add 54 = .ok (.getfield 19, 3) := by decide +kernel
theorem d_S_add_57 : decode b_S_add 57 = .ok (.iload_n 1, 1) := by decide +kernel
theorem d_S_add_58 : decode b_S_add 58 = .ok (.iastore, 1) := by decide +kernel
theorem d_S_add_59 : decode b_S_add 59 = .ok (.aload_n 0, 1) := by decide +kernel
theorem d_S_add_60 : decode b_S_add 60 = .ok (.dup, 1) := by decide +kernel
theorem d_S_add_61 : decode b_S_add 61 = .ok (.getfield 19, 3) := by decide +kernel
theorem d_S_add_64 : decode b_S_add 64 = .ok (.iconst 1, 1) := by decide +kernel
theorem d_S_add_65 : decode b_S_add 65 = .ok (.iadd, 1) := by decide +kernel
theorem d_S_add_66 : decode b_S_add 66 = .ok (.putfield 19, 3) := by decide +kernel
theorem d_S_add_69 : decode b_S_add 69 = .ok (.return_, 1) := by decide +kernel
theorem d_S_has_0 : decode b_S_has 0 = .ok (.iload_n 1, 1) := by decide +kernel
theorem d_S_has_1 : decode b_S_has 1 = .ok (.ifCond .lt 25, 3) := by decide +kernel
theorem d_S_has_4 : decode b_S_has 4 = .ok (.iload_n 1, 1) := by decide +kernel
theorem d_S_has_5 : decode b_S_has 5 = .ok (.aload_n 0, 1) := by decide +kernel
theorem d_S_has_6 : decode b_S_has 6 = .ok (.getfield 9, 3) := by decide +kernel
theorem d_S_has_9 : decode b_S_has 9 = .ok (.arraylength, 1) := by decide +kernel
theorem d_S_has_10 : decode b_S_has 10 = .ok (.if_icmp .ge 16, 3) := by decide +kernel
theorem d_S_has_13 : decode b_S_has 13 = .ok (.aload_n 0, 1) := by decide +kernel
theorem d_S_has_14 : decode b_S_has 14 = .ok (.getfield 9, 3) := by decide +kernel
theorem d_S_has_17 : decode b_S_has 17 = .ok (.iload_n 1, 1) := by decide +kernel
theorem d_S_has_18 : decode b_S_has 18 = .ok (.baload, 1) := by decide +kernel
theorem d_S_has_19 : decode b_S_has 19 = .ok (.ifCond .eq 7, 3) := by decide +kernel
theorem d_S_has_22 : decode b_S_has 22 = .ok (.iconst 1, 1) := by decide +kernel
theorem d_S_has_23 : decode b_S_has 23 = .ok (.goto 4, 3) := by decide +kernel
theorem d_S_has_26 : decode b_S_has 26 = .ok (.iconst 0, 1) := by decide +kernel
theorem d_S_has_27 : decode b_S_has 27 = .ok (.ireturn, 1) := by decide +kernel
theorem d_S_at_0 : decode b_S_at 0 = .ok (.iload_n 1, 1) := by decide +kernel
theorem d_S_at_1 : decode b_S_at 1 = .ok (.ifCond .lt 29, 3) := by decide +kernel
theorem d_S_at_4 : decode b_S_at 4 = .ok (.iload_n 1, 1) := by decide +kernel
theorem d_S_at_5 : decode b_S_at 5 = .ok (.aload_n 0, 1) := by decide +kernel
theorem d_S_at_6 : decode b_S_at 6 = .ok (.getfield 19, 3) := by decide +kernel
theorem d_S_at_9 : decode b_S_at 9 = .ok (.if_icmp .ge 21, 3) := by decide +kernel
theorem d_S_at_12 : decode b_S_at 12 = .ok (.iload_n 1, 1) := by decide +kernel
theorem d_S_at_13 : decode b_S_at 13 = .ok (.aload_n 0, 1) := by decide +kernel
theorem d_S_at_14 : decode b_S_at 14 = .ok (.getfield 15, 3) := by decide +kernel
theorem d_S_at_17 : decode b_S_at 17 = .ok (.arraylength, 1) := by decide +kernel
theorem d_S_at_18 : decode b_S_at 18 = .ok (.if_icmp .ge 12, 3) := by decide +kernel
theorem d_S_at_21 : decode b_S_at 21 = .ok (.aload_n 0, 1) := by decide +kernel
theorem d_S_at_22 : decode b_S_at 22 = .ok (.getfield 15, 3) := by decide +kernel
theorem d_S_at_25 : decode b_S_at 25 = .ok (.iload_n 1, 1) := by decide +kernel
theorem d_S_at_26 : decode b_S_at 26 = .ok (.iaload, 1) := by decide +kernel
theorem d_S_at_27 : decode b_S_at 27 = .ok (.goto 4, 3) := by decide +kernel
theorem d_S_at_30 : decode b_S_at 30 = .ok (.iconst (-1), 1) := by decide +kernel
theorem d_S_at_31 : decode b_S_at 31 = .ok (.ireturn, 1) := by decide +kernel
end
section
/-! Part 02: the base. Word lists over one table of good words; contracts that only read (kR), that write the world (Met over kB), that throw (kM); their calls. -/
-- ===== the words =====
/-- the tables' words that hold at every later state of the run -/
def kT : List Cond := lw_tbl.filter goodWord
theorem kT_tbl {w : Cond} (h : w ∈ kT) : w ∈ lw_tbl := (List.mem_filter.mp h).1
theorem kT_ok {w : Cond} (h : w ∈ kT) : (w.onTables && w.keeps) = true ∨ ∃ ty, w = .arrayClass ty := good_of_word (List.mem_filter.mp h).2
theorem kT_of {w : Cond} (i : Nat) (h : lw_tbl[i]? = some w) (hg : goodWord w = true) : w ∈ kT := List.mem_filter.mpr ⟨List.mem_of_getElem? h, hg⟩
theorem kG {Ts : List Cond} {cy : Cond} (hs : ∀ w ∈ kT, w ∈ Ts) (h : cy ∈ kT) : GoodIn Ts (cy :: kT) := fun w hw => by
  rcases List.mem_cons.mp hw with rfl | hw
  · exact ⟨hs _ h, kT_ok h⟩
  · exact ⟨hs _ hw, kT_ok hw⟩
theorem kGV {Ts : List Cond} {cy : Cond} {own : String} {idx : Nat} {C : String} {y : MethodName} (hs : ∀ w ∈ kT, w ∈ Ts) (h1 : Cond.methodLink own idx y ∈ kT) (h2 : Cond.instanceMethod y ∈ kT) (h3 : Cond.selects C y y ∈ kT) (h4 : Cond.initialized C ∈ kT) (h : cy ∈ kT) : GoodIn Ts (wsV own idx C y (cy :: kT)) := by
  intro w hw
  rcases List.mem_append.mp hw with hw | hw
  · have hk : w ∈ kT := by
      simp only [List.mem_cons, List.not_mem_nil, or_false] at hw
      rcases hw with rfl | rfl | rfl | rfl <;> assumption
    exact ⟨hs _ hk, kT_ok hk⟩
  · exact kG hs h w hw
theorem kGS {Ts : List Cond} {cy : Cond} {own : String} {idx : Nat} {y : MethodName} (hs : ∀ w ∈ kT, w ∈ Ts) (h1 : Cond.methodLink own idx y ∈ kT) (h2 : Cond.static y ∈ kT) (h4 : Cond.initialized y.cls ∈ kT) (h : cy ∈ kT) : GoodIn Ts (va_wsS own idx y (cy :: kT)) := by
  intro w hw
  rcases List.mem_append.mp hw with hw | hw
  · have hk : w ∈ kT := by
      simp only [List.mem_cons, List.not_mem_nil, or_false] at hw
      rcases hw with rfl | rfl | rfl <;> assumption
    exact ⟨hs _ hk, kT_ok hk⟩
  · exact kG hs h w hw
theorem kS1 {cx : Cond} : ∀ w ∈ kT, w ∈ cx :: kT := fun _ h => List.mem_cons_of_mem _ h
-- ===== a method's start and end =====
/-- the world ws lies in the heap of sz cells -/
def kP (D : va_G) (cl : List vw_C) (tys : List (ClassId × FieldType)) (ws : va_W) (sz : Nat) (U : State) : Prop := U.heap.size = sz ∧ va_P D cl ws U.heap ∧ va_K D cl tys U ∧ va_D (fun _ => True) ws
/-- the world u lies there behind it -/
def kB (D : va_G) (cl : List vw_C) (tys : List (ClassId × FieldType)) (A : Nat → Prop) (u : va_W) (t : State) : Prop := va_P D cl u t.heap ∧ va_K D cl tys t ∧ va_D A u
/-- Throwable's two statics, at cells that A doesn't name -/
def kZ (A : Nat → Prop) (U : State) (H : Heap) : Prop := va_Zq Bundle.tN "UNASSIGNED_STACK" Bundle.steD A U H ∧ va_Zq Bundle.tN "SUPPRESSED_SENTINEL" Bundle.listD A U H
/-- it answers rv and has changed nothing -/
def kQr (rv : Option Value) : Array Value → State → Outcome → State → Prop := fun _ st o t => o = .returned rv ∧ t.heap = st.heap
/-- it threw a plain object of class E, and no cell that was there has changed -/
def kQt (E : String) (mc ms : Nat) : Array Value → State → Outcome → State → Prop := fun _ st o t => ∃ (x : Addr) (cell : Cell), o = .threw x ∧ st.WarmedH t.vm ∧ st.sameButNew ({ t with vm := st.vm } : State) [] mc ms ∧ t.heap[x]? = some cell ∧ cell.vm = .none ∧ st.vm.findClass E = some cell.cls
/-- a contract of a road that ends in a throw -/
def kM (l : Launch) (y : MethodName) (ws : List Cond) (rm : Room) (Pc : Array Value → State → Prop) (E : String) (mc ms : Nat) : Prop := MetFree l y (headSpec ws rm) Pc (fun _ _ _ _ _ => True) (kQt E mc ms)
/-- the end of a walk that throws -/
def kMQ (below : List Frame) (E : String) (a : Array Value) (s : State) (mc ms : Nat) : State → Prop := fun t => ∃ o, t.status = .running ∧ Ended t below o ∧ kQt E mc ms a s o t
theorem kP_blind {D : va_G} {cl : List vw_C} {tys : List (ClassId × FieldType)} {ws : va_W} {sz : Nat} {av : List Value} : FrameBlind (va_Pc av (kP D cl tys ws sz)) := fun a U g mk q => by
  obtain ⟨q0, q1, qP, qK, qD⟩ := q
  exact ⟨q0, q1, qP, va_K.moved (u := U) (U := U.calling g mk a) (Vm.Alike.refl U.vm) qK, qD⟩
theorem kPZ_blind {D : va_G} {cl : List vw_C} {tys : List (ClassId × FieldType)} {ws : va_W} {sz : Nat} {av : List Value} {A : Nat → Prop} : FrameBlind (va_Pc av (fun U => kP D cl tys ws sz U ∧ kZ A U U.heap)) := fun a U g mk q => by
  obtain ⟨q0, ⟨q1, qP, qK, qD⟩, z1, z2⟩ := q
  exact ⟨q0, ⟨q1, qP, va_K.moved (u := U) (U := U.calling g mk a) (Vm.Alike.refl U.vm) qK, qD⟩, va_Zq.moved (u := U) (U := U.calling g mk a) (Vm.Alike.refl U.vm) z1, va_Zq.moved (u := U) (U := U.calling g mk a) (Vm.Alike.refl U.vm) z2⟩
theorem kP_at {D : va_G} {cl : List vw_C} {tys : List (ClassId × FieldType)} {ws : va_W} {A : Nat → Prop} {s : State} {H : Heap} (hK : va_K D cl tys s) (hP : va_P D cl ws H) (hD : va_D A ws) (U : State) (hU : U.heap = H) (hW : s.WarmedH U.vm) : kP D cl tys ws H.size U := ⟨by rw [hU], by rw [hU]; exact hP, va_K.moved hW.alike hK, hD.weaken (fun _ _ _ _ => trivial)⟩
theorem kZ.at {A B : Nat → Prop} {s : State} {H : Heap} {locs : List Loc} (hZ : kZ A s s.heap) (hS : va_S A s.heap H locs) (hAB : ∀ q, B q → A q) (U : State) (hU : U.heap = H) (hW : s.WarmedH U.vm) : kZ B U U.heap := by
  rw [hU]
  exact ⟨va_Zq.moved hW.alike ((hZ.1.kept (fun a h1 h2 => hS.2.1 a h1 h2)).narrow hAB), va_Zq.moved hW.alike ((hZ.2.kept (fun a h1 h2 => hS.2.1 a h1 h2)).narrow hAB)⟩
theorem kA_free {A : Nat → Prop} {ws : va_W} {H0 H : Heap} {locs : List Loc} (hD : va_D A ws) (hS : va_S A H0 H locs) (hA : ∀ q, H0.size ≤ q → A q) : ∀ q, va_A ws H.size q → A q := fun q h => by
  rcases h with ⟨k, e, h⟩ | h
  · exact hD.2 k (q, e) h
  · exact hA q (Nat.le_trans hS.1 h)
section KB
variable {p : Program} {l : Launch} {e : Env} {R : Room} {s : State} {m : MethodId} {args : Array Value} {below : List Frame} {meth : Method} {c : Code} {H : Heap} {locs : List Loc} {cells slots : Nat} {Q : State → Prop}
variable {pc : Nat} {ls : Array Slot} {rest st0 : List Value} {a : Array Value} {A : Nat → Prop} {D : va_G} {cl : List vw_C} {tys : List (ClassId × FieldType)} {ws : va_W} {mc ms : Nat}
-- ===== calls =====
/-- behind a call that only read -/
theorem kc_R {rv : Option Value} (hr : va_Run p l e R s m args below meth c H locs cells slots 0 0 (F0 m pc ls st0) rest (kQr rv a) (fun _ => False))
    (kk : W p l e R s m args below meth c H locs cells slots Q (F0 m (pc + 3) ls (rv.toList ++ rest))) : W p l e R s m args below meth c H locs cells slots Q (F0 m pc ls st0) := by
  intro T hT X
  obtain ⟨v, st₀, t, T', L, h0, X', hL, e1, e2, ⟨hv, hh⟩, st⟩ := hr T hT X
  cases hv
  obtain ⟨t2, a1, b1⟩ := kk T' (by rw [e1, hh, h0]) (Stand.forget X' (fun q h => (hL q h).elim))
  exact ⟨t2, st t2 a1, b1⟩
/-- behind a call that answered an int and changed the world -/
theorem kc_i {post : Int32 → va_W → Prop} (hr : va_Run p l e R s m args below meth c H locs cells slots mc ms (F0 m pc ls st0) rest (va_Qi post (kB D cl tys (va_A ws H.size)) (va_A ws H.size) a) (va_A ws H.size)) (hD : va_D A ws) (hS : va_S A s.heap H locs) (hA : ∀ q, s.heap.size ≤ q → A q)
    (kk : ∀ (r : Int32) (u : va_W) (H1 : Heap) (locs1 : List Loc), post r u → va_P D cl u H1 → va_D A u → va_S A s.heap H1 locs1 → H.size ≤ H1.size → W p l e R s m args below meth c H1 locs1 (cells + mc) (slots + ms) Q (F0 m (pc + 3) ls (.int r :: rest))) : W p l e R s m args below meth c H locs cells slots Q (F0 m pc ls st0) := by
  have hF := kA_free hD hS hA
  refine va_calli hr hS (fun q _ h => hF q h) hF (fun r u t H1 locs1 ht hvm hw hB hz1 hk1 hS1 => ?_)
  obtain ⟨hP1, hK1, hD1⟩ := hB
  rw [ht] at hP1
  exact kk r u H1 locs1 hw hP1 (hD1.weaken (fun _ q _ h => hF q.1 h)) hS1 hz1
/-- .. that answered nothing -/
theorem kc_v {post : va_W → Prop} (hr : va_Run p l e R s m args below meth c H locs cells slots mc ms (F0 m pc ls st0) rest (va_Qv post (kB D cl tys (va_A ws H.size)) (va_A ws H.size) a) (va_A ws H.size)) (hD : va_D A ws) (hS : va_S A s.heap H locs) (hA : ∀ q, s.heap.size ≤ q → A q)
    (kk : ∀ (u : va_W) (H1 : Heap) (locs1 : List Loc), post u → va_P D cl u H1 → va_D A u → va_S A s.heap H1 locs1 → H.size ≤ H1.size → W p l e R s m args below meth c H1 locs1 (cells + mc) (slots + ms) Q (F0 m (pc + 3) ls rest)) : W p l e R s m args below meth c H locs cells slots Q (F0 m pc ls st0) := by
  have hF := kA_free hD hS hA
  refine va_callv hr hS (fun q _ h => hF q h) hF (fun u t H1 locs1 ht hvm hw hB hz1 hk1 hS1 => ?_)
  obtain ⟨hP1, hK1, hD1⟩ := hB
  rw [ht] at hP1
  exact kk u H1 locs1 hw hP1 (hD1.weaken (fun _ q _ h => hF q.1 h)) hS1 hz1
-- ===== throws =====
/-- a contract of a throwing road out of a walk -/
theorem kM.ofW {y : MethodName} {wl wl' : List Cond} {rm : Room} {Pc : Array Value → State → Prop} {E : String} {cc : ByteArray} {maxL : Nat} {ret : Option FieldType}
    (hy : plainName y.cls = true) (hw : wl = Cond.code y cc maxL ret :: wl')
    (body : ∀ p e s m args below meth c s₁, BodyLoose p l y (headSpec wl rm) cc maxL ret e s m args below meth c s₁ → c.maxLocals = maxL → Pc args s →
      W p l e (headSpec wl rm).room s m args below meth c s.heap [] 0 0 (kMQ below E args s mc ms) (entryFrame m args maxL)) : kM l y wl rm Pc E mc ms := by
  refine MetFree.of_bodyS (code := cc) (maxLocals := maxL) (ret := ret) hy ?_ ?_
  · intro args s m h hn
    obtain ⟨meth, c, h1, h2, h3, h4, h5, h6, -, -⟩ := Cond.code_spec hn (atoms_spec (ws := wl) h _ (by rw [hw]; exact List.mem_cons_self))
    exact ⟨meth, c, h1, h2, h3, h4, h5, h6⟩
  · intro p e s m args below meth c s₁ B hml hP _
    have hh0 : s₁.heap = s.heap := by rw [B.state]; rfl
    obtain ⟨t, a1, o, b1, b2, b3⟩ := body p e s m args below meth c s₁ B hml hP s₁ hh0 (Stand.of_body B)
    exact ⟨t, o, a1, b1, b2, b3⟩
/-- no handler in a method whose word is 'code' -/
theorem kNoH {x : MethodName} {S : Spec} {code : ByteArray} {maxLocals : Nat} {ret : Option FieldType} {s₁ : State} (B : BodyLoose p l x S code maxLocals ret e s m args below meth c s₁) (hc : (Cond.code x code maxLocals ret).before args s = true) (q : Nat) : ∀ x ∈ c.exceptionTable.toList, covers x q = false := covers_of_empty (B.noHandlers hc) q
/-- a static that holds a reference or null says so -/
theorem kZ_ref {C n d : String} (h : va_Zq C n d A s s.heap) : (Cond.isRef (.static C n d)).before args s = true := by
  have key : ∀ v : Value, va_Z C n d v A s s.heap → (Term.static C n d).eval args s none [] s = some v := by
    intro v hv
    obtain ⟨cf, kf, fi, f, ad, cell, h1, h2, h3, h4, h5, h6, h7, h8⟩ := hv
    have hu : cell.vm ≠ .unknown := fun hu => by rw [hu] at h6; cases h6
    simp [Term.eval, State.fieldNamed?, h1, h2, h4, h5, h6, h7]
  rcases h with h | ⟨t, h⟩
  · simp [Cond.before, Cond.holds, Cond.value, key _ h]
  · simp [Cond.before, Cond.holds, Cond.value, key _ h]
/-- 'throw new E("text")' in a method that has changed nothing and has no handler there: one cell of six slots -/
theorem kt_own {cc : ByteArray} {nL : Nat} {own E text : String} {names : List String} {ik is ic : Nat} (hx : p.tables.exec = Jvm.exec) (hb : c.code = cc) (hml : c.maxLocals = nL) (hown : s.vm.findClass own = some m.cls) (htr : l.stackTraces = false)
    (hcls : Bundle.fit E = true) (hnames : ∀ n ∈ names, Bundle.fit n = true) (hk : (Cond.classLink own ik E).before args s = true) (hini : (Cond.initialized E).before args s = true) (hs : (Cond.stringRef own is text).before args s = true)
    (h : ∀ w ∈ Bundle.ownAtoms own ic E names, w.before args s = true) (hsize : ls.size = nL)
    (d0 : decode cc pc = .ok (.new ik, 3)) (d3 : decode cc (pc + 3) = .ok (.dup, 1)) (d4 : decode cc (pc + 4) = .ok (.ldc is, 2)) (d6 : decode cc (pc + 6) = .ok (.invokespecial ic, 3)) (d9 : decode cc (pc + 9) = .ok (.athrow, 1))
    (hout : ∀ x ∈ c.exceptionTable.toList, covers x (pc + 9) = false) (hf : names.length + 3 < R.frames) (hl : 13 * (names.length + 1) + 44 ≤ R.locals) (hc1 : 1 ≤ R.cells) (hs6 : 6 ≤ R.slots) (hlocks : meth.locks = false) :
    W p l e R s m args below meth c s.heap [] 0 0 (kMQ below E args s 1 6) (F0 m pc ls []) := by
  intro T hT X
  subst hb
  have hins : (Cond.instantiable E 6).before args s = true := h _ (by simp [Bundle.ownAtoms])
  have htr' : e.platform.stackTraces = false := by rw [X.admits.platform]; exact htr
  obtain ⟨vm₁, cX, kX, hfX, hkX, -, -, X₁, st1⟩ := X.newCold hx (own := own) (C := E) (index := ik) (n := 6) hown hk hins hini (g := F0 m pc ls []) rfl d0 (by omega) (by omega)
  generalize hTe : (T.setVm vm₁).pushCell { cls := cX, slots := kX.instanceTypes.map defaultValue, vm := .none } = T1 at X₁ st1
  have hcellA : T1.heap[T.heap.size]? = some (freshCell cX kX) := by rw [← hTe]; exact State.heap_pushCell_size _ _
  obtain ⟨-, -, -, sa, -, -, -, -, -, hev⟩ := Cond.stringRef_spec hown hs
  obtain ⟨U, hsteps, hrun, hend, hW, hsame, ce, hce, K⟩ := X₁.ctorThrowS hx htr' (own := own) (cls := E) (names := names) (ic := ic) hown hcls hnames h (fun y hy => by cases hy) hfX hkX hcellA (by rw [hT]; exact Nat.le_refl _) (msg := .ref sa) rfl
    (g := F0 m (pc + 6) ls [.ref sa, .ref T.heap.size, .ref T.heap.size]) rfl (hsize.trans hml.symm) rfl rfl (rest := []) rfl d6 d9 hout hf (by simp [JFrame.monitorRoom, Value.category]; omega) hlocks
  refine ⟨U, ?_, .threw T.heap.size, hrun, hend, T.heap.size, ce, rfl, hW, by simpa using hsame, hce, K.vm, K.cls⟩
  refine st1 _ ?_
  show Steps p.tables e below (T1.setTop { method := m, pc := pc + 3, locals := ls, stack := [.ref T.heap.size], locked := none }) _
  jvm_step X₁.here [X₁.here.top, hx, d3, Value.category]
  exact X₁.ldcString hx (own := own) (text := text) (index := is) (a := sa) hown hs hev (g := F0 m (pc + 4) ls [.ref T.heap.size, .ref T.heap.size]) rfl d4 _ hsteps
/-- what a call comes to whose callee throws -/
def kt_Run (p : Program) (l : Launch) (e : Env) (R : Room) (s : State) (m : MethodId) (args : Array Value) (below : List Frame) (meth : Method) (c : Code) (H : Heap) (locs : List Loc) (cells slots mc ms : Nat) (g : JFrame) (rest : List Value) (E : String) : Prop :=
  ∀ T : State, T.heap = H → Stand p l e R s m args below meth c T locs cells slots → ∃ (x : Addr) (cell : Cell) (T' : State), Stand p l e R s m args below meth c T' locs (cells + mc) (slots + ms) ∧ H.size ≤ T'.heap.size ∧ (∀ (q : Addr) (d : Cell), H[q]? = some d → T'.heap[q]? = some d) ∧ T'.heap[x]? = some cell ∧ cell.vm = .none ∧ s.vm.findClass E = some cell.cls ∧
      ∀ target, Steps p.tables e below ((T'.setTop { g with stack := rest }).pushFrame (.throwing x)) target → Steps p.tables e below (T.setTop g) target
theorem kt_callV {y : MethodName} {cc bytes : ByteArray} {nL maxL n index : Nat} {ret : Option FieldType} {wl Ts : List Cond} {rm : Room} {Pc : Array Value → State → Prop} {E own C : String} {b : Addr} {As : List Value} {g : JFrame}
    (S : CallFix p m c cc nL s args Ts own) (hM : kM l y wl rm Pc E mc ms) (cw : CallW R s args own C index y bytes maxL ret wl rm mc ms n) (hp : PreV s H C b Pc As)
    (hg : g.method = m) (hn : As.length = n) (hsize : g.locals.size = nL) (hstack : g.stack = As.reverse ++ .ref b :: rest) (hW : 2 * g.monitorRoom + (rest.map fun v => v.category).sum ≤ 8) (hdg : decode cc g.pc = .ok (.invokevirtual index, 3)) (hf : cells + mc ≤ R.cells ∧ slots + ms ≤ R.slots) :
    kt_Run p l e R s m args below meth c H locs cells slots mc ms g rest E := by
  obtain ⟨⟨hrc, hrs, hfr, hlo, hws, hcw, hcode, hini, hy, hlen, hl⟩, hinst, hsel⟩ := cw
  obtain ⟨hx, hb, hml, ho, -⟩ := S
  obtain ⟨hbl, ⟨cellB, hcB, hoB, hclB⟩, hPc⟩ := hp
  subst hb
  intro T hT X
  obtain ⟨mk, methM, hnamed, hmethM, hstM, habM⟩ := Cond.instanceMethod_spec hinst
  obtain ⟨methM', cM, hmethM', -, -, -, -, -, -, hsigM⟩ := Cond.code_spec hnamed hcode
  cases hmethM.symm.trans hmethM'
  obtain ⟨c2, r2, m2, q1, q2, q3, q4, kP, hkP, hkPi⟩ := Cond.selects_spec hsel
  cases hclB.symm.trans q1
  cases (State.methodFound?_of_named hnamed hy).symm.trans q2
  cases hnamed.symm.trans q3
  have hselP : selectMethod e.platform s.vm cellB.cls mk = .method mk := by rw [Launch.admits_selectMethod X.admits]; exact q4
  obtain ⟨vm₁, X₁, hstep₁⟩ := X.invokevirtual hx ho hl hnamed hmethM hstM hkP hkPi hy (a := b) (cell := cellB) (by rw [hT]; exact hcB) (fun z h => by rw [h] at hoB; cases hoB) hselP hmethM habM hkP hkPi (g := g) hg (argsL := As) (rest := rest) (hn.trans (hlen _ hsigM)) hstack hdg
  have hPU : Pc (Value.ref b :: As).toArray (T.setVm vm₁) := hPc (T.setVm vm₁) hT X₁.warmed
  generalize hUe : T.setVm vm₁ = U at X₁ hstep₁ hPU
  have hUh : U.heap = H := by rw [← hUe]; exact hT
  generalize hge : ({ g with stack := rest } : JFrame) = g' at hstep₁
  have hg' : g'.method = m := by rw [← hge]; exact hg
  have hdg' : decode c.code g'.pc = .ok (.invokevirtual index, 3) := by rw [← hge]; exact hdg
  have hsz' : g'.locals.size = c.maxLocals := by rw [← hge]; exact hsize.trans hml.symm
  have hW' : 2 * g'.monitorRoom + (g'.stack.map fun v => v.category).sum ≤ 8 := by rw [← hge]; exact hW
  have hn1 : U.methodNamed? y = some mk := X₁.named hnamed
  have h1 : (headSpec wl rm).pre.before (Value.ref b :: As).toArray U = true := atoms_intro fun w hw => hws w hw _ _ X₁.warmed
  have h2 := hws _ hcw (Value.ref b :: As).toArray U X₁.warmed
  have h3 : (Cond.initialized y.cls).before (Value.ref b :: As).toArray U = true := word_at X₁.warmed (Or.inl (by first | rfl | simp [Cond.onTables, Cond.keeps, Cond.steady])) hini
  obtain ⟨methY, cY, hmY, hcY, -, hlY, -, -, -, -⟩ := Cond.code_spec hn1 h2
  obtain ⟨kY, hkY, -⟩ := className_of_methodNamed hn1
  have hinitY : kY.init = .initialized := Cond.initialized_spec (findClass_of_methodNamed hn1) hkY h3
  have h : At U g'.method c below := by rw [hg']; exact X₁.here
  have happ : (headSpec wl rm).appliesLoose y e.platform (U.calling g' mk (Value.ref b :: As).toArray) = true :=
    Spec.appliesLoose_calling (g := g') h hdg' hn1 hkY hinitY
      (X₁.room_calling (g := g') (R' := (headSpec wl rm).room) hsz' hmY hcY (show rm.frames + 1 ≤ R.frames from hfr) (by rw [hlY]; show _ + rm.locals ≤ _; omega) (by show cells + rm.cells ≤ _; rw [hrc]; exact hf.1) (by show slots + rm.slots ≤ _; rw [hrs]; exact hf.2)) h1
  obtain ⟨mid, hmid⟩ := h.above
  have hfrm : (U.setTop g').frames = (.java g' :: mid) ++ below := by rw [State.frames_setTop' g' h.top, hmid]; rfl
  obtain ⟨o, s₂, hsteps, -, hend, hq⟩ := Steps.callFree hM p X₁.admits X₁.cas X₁.clock (acts := []) hfrm happ (hbl _ _ _ _ hPU) trivial
  have hq : kQt E mc ms (Value.ref b :: As).toArray (U.calling g' mk (Value.ref b :: As).toArray) o s₂ := hq
  obtain ⟨x, cell, rfl, hW₂, ⟨e2, q2, q3, q4, q5, q6⟩, hcx, hcv, hcc⟩ := hq
  rw [State.frames_setTop' g' h.top] at hend
  have hf₂ : s₂.frames = .throwing x :: .java g' :: U.frames.tail := hend
  have e3 : s₂ = ({ (U.calling g' mk (Value.ref b :: As).toArray).setFrames s₂.frames with heap := s₂.heap, slotsUsed := s₂.slotsUsed } : State).setVm s₂.vm := by
    have : s₂ = ({ s₂ with vm := (U.calling g' mk (Value.ref b :: As).toArray).vm } : State).setVm s₂.vm := rfl
    rw [e2] at this
    exact this
  have hWU : U.WarmedH s₂.vm := hW₂
  obtain ⟨g₀, hg0⟩ := Option.isSome_iff_exists.mp h.top
  obtain ⟨r, hr⟩ := State.topJava?_eq_some.mp hg0
  have hs₂ : s₂ = ((({ U with heap := s₂.heap, slotsUsed := s₂.slotsUsed } : State).setVm s₂.vm).setTop g').pushFrame (.throwing x) := by
    have hr' : (({ U with heap := s₂.heap, slotsUsed := s₂.slotsUsed } : State).setVm s₂.vm).frames = .java g₀ :: r := hr
    refine e3.trans ?_
    rw [hf₂, State.calling_eq h.top, State.setFrames_setFrames, State.pushFrame, State.frames_setTop _ hr', State.setTop_of_frames _ hr', State.setFrames_setFrames, hr]
    rfl
  have hsame : U.sameButNew ({ U with heap := s₂.heap, slotsUsed := s₂.slotsUsed } : State) [] mc ms := by
    refine ⟨?_, q2, q3, q4, q5, q6⟩
    obtain ⟨t, ht, -⟩ := State.frames_cons hr
    show ({ U with heap := s₂.heap, slotsUsed := s₂.slotsUsed } : State) = { U.setFrames U.frames with heap := s₂.heap, slotsUsed := s₂.slotsUsed }
    rw [State.setFrames_self ht]
  have hkeep : ∀ (q : Addr) (d : Cell), H[q]? = some d → s₂.heap[q]? = some d := by
    intro q d hd
    obtain ⟨c', hc1, hc2, hc3, hc4⟩ := q6 q d (by show U.heap[q]? = some d; rw [hUh]; exact hd)
    have hsl : c'.slots = d.slots := Array.ext_getElem? (fun i => hc4 i (by simp))
    have : c' = d := by rw [hc2, hsl]
    rw [← this]
    exact hc1
  have hXs := X₁.same.trans (hsame.setVm s.vm)
  rw [List.append_nil] at hXs
  subst hg'
  refine ⟨x, cell, ({ U with heap := s₂.heap, slotsUsed := s₂.slotsUsed } : State).setVm s₂.vm, ⟨X₁.admits, X₁.cas, X₁.clock, X₁.frames, X₁.room, X₁.hears, X₁.method, X₁.code, (X₁.here.setHeapUsed s₂.heap s₂.slotsUsed).setVm hWU.alike, X₁.tail, State.WarmedH.trans X₁.warmed hWU, X₁.limits, X₁.bytes, hXs⟩,
    by rw [← hUh]; exact q2, hkeep, hcx, hcv, ?_, fun target hrest => ?_⟩
  · have : U.vm.findClass E = some cell.cls := hcc
    rw [X₁.warmed.alike.findClass] at this
    exact this
  · refine hstep₁ _ fun acts => ?_
    rw [doInvoke_state]
    refine hsteps.trans ?_
    rw [hs₂]
    exact hrest
/-- the callee throws, and this method passes it on -/
theorem kt_prop {E : String} (hr : kt_Run p l e R s m args below meth c s.heap [] 0 0 mc ms (F0 m pc ls st0) rest E) (hout : ∀ x ∈ c.exceptionTable.toList, covers x pc = false) (hlocks : meth.locks = false) :
    W p l e R s m args below meth c s.heap [] 0 0 (kMQ below E args s mc ms) (F0 m pc ls st0) := by
  intro T hT X
  obtain ⟨x, cell, T', X', hz, hk, hcx, hcv, hcc, st⟩ := hr T hT X
  obtain ⟨hwalk, hrun, hend, hW, hsame⟩ := X'.leaveThrown x (g := F0 m pc ls rest) rfl rfl rfl hout hlocks
  exact ⟨_, st _ hwalk, .threw x, hrun, hend, x, cell, rfl, hW, by simpa using hsame, hcx, hcv, hcc⟩
-- ===== handlers =====
/-- the search in the table: it finds the handler at hpc, and the tables grow only warmer -/
def kf_To (e : Env) (s : State) (f : JFrame) (a : Addr) (t : List ExceptionTableEntry) (hpc : Nat) (s0 : State) : Prop := ∃ vm' : Vm, s0.WarmedH vm' ∧ ∀ (Q : Handler → Pre) (E : CtlPost) (d : Bool) (acts : List Action), wp (findHandler.go f a t) Q E e d acts s ↔ Q (.found hpc) d acts (s.setVm vm')
/-- a row that takes it -/
theorem kf_hit {S : State} {f : JFrame} {x : Addr} {en : ExceptionTableEntry} {t : List ExceptionTableEntry} {own name E : String} {cell : Cell} (hpl : e.platform.magicAccessors = ({} : Platform).magicAccessors) (hown : s.vm.findClass own = some f.method.cls) (hW : s.WarmedH S.vm)
    (hcov : covers en f.pc = true) (h0 : en.catchType ≠ 0) (hlink : (Cond.classLink own en.catchType name).before args s = true) (hcast : (Cond.castable E name).before args s = true) (hcell : S.heap[x]? = some cell) (hvm : cell.vm = .none) (hE : s.vm.findClass E = some cell.cls) : kf_To e S f x (en :: t) en.handlerPc s := by
  obtain ⟨c', hc', hcl⟩ := Cond.classLink_spec hown hlink e.platform hpl
  obtain ⟨c3, t3, w1, w2, w3⟩ := Cond.castable_spec hcast
  cases hE.symm.trans w1
  cases hc'.symm.trans w2
  obtain ⟨dk, _, _, kt, hd, _, _, _, _, hkt, _, hopen⟩ := hcl.here
  have hl := hW.classLinks hcl
  have hal := hW.alike
  obtain ⟨k1, hk1⟩ := Vm.classAt_of_findClass hE
  refine ⟨S.vm.noted f.method.cls en.catchType (.cls c'), hW.noted hd hopen (State.rightAt_cls hcl), fun Q E' d acts => ?_⟩
  obtain ⟨ha, ht⟩ := (resolveClass_links e.toSetting hl).op (op := VmOp.resolveClass f.method.cls en.catchType) rfl
  have hal2 : s.vm.Alike (S.vm.noted f.method.cls en.catchType (.cls c')) := hal.trans ((Vm.Alike.refl S.vm).noted _ _ _)
  obtain ⟨k1', hk1', -⟩ := hal2.2.2 _ _ hk1
  obtain ⟨k2', hk2', -⟩ := hal2.2.2 _ _ hkt
  have hfit : (S.vm.noted f.method.cls en.catchType (.cls c')).assignable cell.cls c' = true := by rw [hal2.assignable]; exact w3
  have hobj : ∀ k, cell.vm ≠ .statics k := fun k hk => by rw [hvm] at hk; cases hk
  simp only [covers] at hcov
  simp [findHandler.go, hcov, h0, ha, ht, hcell, hobj, hk1', hk2', hfit, VmOp.dirties, VmOp.acts]
/-- a row that doesn't -/
theorem kf_miss {S : State} {f : JFrame} {x : Addr} {en : ExceptionTableEntry} {t : List ExceptionTableEntry} {own name E : String} {cell : Cell} {hpc : Nat} (hpl : e.platform.magicAccessors = ({} : Platform).magicAccessors) (hown : s.vm.findClass own = some f.method.cls) (hW : s.WarmedH S.vm)
    (hcov : covers en f.pc = true) (h0 : en.catchType ≠ 0) (hlink : (Cond.classLink own en.catchType name).before args s = true) (hno : ∀ cn, s.vm.findClass name = some cn → s.vm.assignable cell.cls cn = false) (hcell : S.heap[x]? = some cell) (hvm : cell.vm = .none) (hE : s.vm.findClass E = some cell.cls)
    (kk : ∀ S' : State, s.WarmedH S'.vm → S'.heap = S.heap → kf_To e S' f x t hpc s) : kf_To e S f x (en :: t) hpc s := by
  obtain ⟨c', hc', hcl⟩ := Cond.classLink_spec hown hlink e.platform hpl
  obtain ⟨dk, _, _, kt, hd, _, _, _, _, hkt, _, hopen⟩ := hcl.here
  have hl := hW.classLinks hcl
  have hal := hW.alike
  obtain ⟨k1, hk1⟩ := Vm.classAt_of_findClass hE
  have hW2 := hW.noted hd hopen (State.rightAt_cls hcl)
  obtain ⟨vm', hvm', hgo⟩ := kk (S.setVm (S.vm.noted f.method.cls en.catchType (.cls c'))) hW2 rfl
  refine ⟨vm', hvm', fun Q E' d acts => ?_⟩
  obtain ⟨ha, ht⟩ := (resolveClass_links e.toSetting hl).op (op := VmOp.resolveClass f.method.cls en.catchType) rfl
  have hal2 : s.vm.Alike (S.vm.noted f.method.cls en.catchType (.cls c')) := hal.trans ((Vm.Alike.refl S.vm).noted _ _ _)
  obtain ⟨k1', hk1', -⟩ := hal2.2.2 _ _ hk1
  obtain ⟨k2', hk2', -⟩ := hal2.2.2 _ _ hkt
  have hfit : (S.vm.noted f.method.cls en.catchType (.cls c')).assignable cell.cls c' = false := by rw [hal2.assignable]; exact hno c' hc'
  have hobj : ∀ k, cell.vm ≠ .statics k := fun k hk => by rw [hvm] at hk; cases hk
  simp only [covers] at hcov
  have hgo' := hgo Q E' d acts
  rw [← show (S.setVm (S.vm.noted f.method.cls en.catchType (.cls c'))).setVm vm' = S.setVm vm' from rfl]
  rw [← hgo']
  simp [findHandler.go, hcov, h0, ha, ht, hcell, hobj, hk1', hk2', hfit, VmOp.dirties, VmOp.acts]
/-- the callee throws, and this method's handler at hpc takes it -/
theorem kt_catch {E : String} {hpc : Nat} (hr : kt_Run p l e R s m args below meth c H locs cells slots mc ms (F0 m pc ls st0) rest E)
    (hfind : ∀ (S : State) (x : Addr) (cell : Cell), s.WarmedH S.vm → S.heap[x]? = some cell → cell.vm = .none → s.vm.findClass E = some cell.cls → kf_To e S (F0 m pc ls rest) x c.exceptionTable.toList hpc s)
    (kk : ∀ (x : Addr) (H1 : Heap), H.size ≤ H1.size → (∀ (q : Addr) (d : Cell), H[q]? = some d → H1[q]? = some d) → W p l e R s m args below meth c H1 locs (cells + mc) (slots + ms) Q (F0 m hpc ls [.ref x])) : W p l e R s m args below meth c H locs cells slots Q (F0 m pc ls st0) := by
  intro T hT X
  obtain ⟨x, cell, T', X', hz, hk, hcx, hcv, hcc, st⟩ := hr T hT X
  obtain ⟨vm', hW', hgo⟩ := hfind ((T'.setTop (F0 m pc ls rest)).pushFrame (.throwing x)) x cell X'.warmed hcx hcv hcc
  obtain ⟨t, a1, b1⟩ := kk x T'.heap hz hk (T'.setVm vm') rfl (X'.noted hW')
  refine ⟨t, st t ?_, b1⟩
  have h : At T' (F0 m pc ls rest).method c below := X'.here
  obtain ⟨hgo', hw⟩ := h.throwing x
  refine Steps.head hgo' hw ?_
  rw [stepThread_throwing (frames_entered h.top _)]
  have hstep : (stepThrowing e ((T'.setTop (F0 m pc ls rest)).pushFrame (.throwing x)) x (.java (F0 m pc ls rest) :: T'.frames.tail)).Is ((((T'.setTop (F0 m pc ls rest)).pushFrame (.throwing x)).setVm vm').setFrames (.java (F0 m hpc ls [.ref x]) :: T'.frames.tail)) [] := by
    simp only [stepThrowing, searchFrame, vmDo]
    generalize hres : Sem.go _ e false [] ((T'.setTop (F0 m pc ls rest)).pushFrame (.throwing x)) = res
    obtain ⟨as, rfl, ha⟩ := Sem.eq_ok_of hres (a := Handler.found hpc) (s' := ((T'.setTop (F0 m pc ls rest)).pushFrame (.throwing x)).setVm vm') (acts' := []) (by
      have hm : ((T'.setTop (F0 m pc ls rest)).pushFrame (.throwing x)).vm.method? (F0 m pc ls rest).method = some meth := X'.method'
      simp [W.findHandler_eq hm X'.code, hgo])
    exact ⟨rfl, ha⟩
  rw [hstep.1]
  obtain ⟨g₀, hg⟩ := Option.isSome_iff_exists.mp h.top
  obtain ⟨r, hr0⟩ := State.topJava?_eq_some.mp hg
  have hr' : (T'.setVm vm').frames = .java g₀ :: r := hr0
  have hsv : ∀ (u : State) (F G : List Frame), ((u.setFrames F).setVm vm').setFrames G = (u.setVm vm').setFrames G := fun u F G => by
    have h1 : (u.setFrames F).setVm vm' = (u.setVm vm').setFrames F := rfl
    rw [h1, State.setFrames_setFrames]
  rw [State.setTop_of_frames _ hr'] at a1
  rw [hr0, List.tail_cons, State.pushFrame, hsv, State.setTop_of_frames _ hr0, hsv]
  exact a1
end KB
end
