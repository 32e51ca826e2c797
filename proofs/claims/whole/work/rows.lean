section
/-- the words of a throw but the four that speak of the heap -/
def vx_no (w : Cond) : Bool := decide (w ≠ .isRef (.static Bundle.tN "UNASSIGNED_STACK" Bundle.steD)) && decide (w ≠ .isRef (.static Bundle.tN "SUPPRESSED_SENTINEL" Bundle.listD)) && decide (w ≠ .laysStatic Bundle.tN "UNASSIGNED_STACK" Bundle.steD) && decide (w ≠ .laysStatic Bundle.tN "SUPPRESSED_SENTINEL" Bundle.listD)
def vx_at0 (own : String) (ic : Nat) (X : String) (names : List String) : List Cond := (Bundle.ownAtoms0 own ic X names).filter vx_no
def vx_atS (own : String) (ic : Nat) (X : String) (names : List String) : List Cond := (Bundle.ownAtoms own ic X names).filter vx_no
/-- a word that the tables alone decide, or a good one -/
def vx_ot (w : Cond) : Bool := w.onTables || goodWord w
theorem vx_ot_at {args a' : Array Value} {s U : State} {w : Cond} (hW : s.WarmedH U.vm) (hvm : s.vm = U.vm) (hg : vx_ot w = true) (h : w.before args s = true) : w.before a' U = true := by
  simp only [vx_ot, Bool.or_eq_true] at hg
  rcases hg with hg | hg
  · exact va_tabs hg hvm h
  · exact word_at hW (good_of_word hg) h
/-- a list's words: the good ones out of the method's own list, the others by premises of their own -/
theorem vx_hat {args : Array Value} {s : State} {L B : List Cond} (h1 : ∀ w ∈ L.filter goodWord, w.before args s = true) (h2 : ∀ w ∈ L.filter (fun w => !goodWord w), w ∈ B) (h3 : ∀ w ∈ B, w.before args s = true) : ∀ w ∈ L, w.before args s = true := by
  intro w hw
  by_cases g : goodWord w = true
  · exact h1 w (List.mem_filter.mpr ⟨hw, g⟩)
  · refine h3 w (h2 w (List.mem_filter.mpr ⟨hw, ?_⟩))
    show (!goodWord w) = true
    cases hgw : goodWord w
    · rfl
    · exact absurd hgw g
theorem vx_c {args : Array Value} {s : State} {w : Cond} {B : List Cond} (h : w.before args s = true) (t : ∀ w ∈ B, w.before args s = true) : ∀ w' ∈ w :: B, w'.before args s = true := fun w' h' => (List.mem_cons.mp h').elim (fun e => by rw [e]; exact h) (t w')
theorem vx_n {args : Array Value} {s : State} : ∀ w ∈ ([] : List Cond), w.before args s = true := fun _ h => nomatch h
theorem vx_own {args : Array Value} {s : State} {L : List Cond} (h1 : ∀ w ∈ L.filter vx_no, w.before args s = true)
    (hU : (Cond.isRef (.static Bundle.tN "UNASSIGNED_STACK" Bundle.steD)).before args s = true) (hN : (Cond.isRef (.static Bundle.tN "SUPPRESSED_SENTINEL" Bundle.listD)).before args s = true)
    (lU : (Cond.laysStatic Bundle.tN "UNASSIGNED_STACK" Bundle.steD).before args s = true) (lN : (Cond.laysStatic Bundle.tN "SUPPRESSED_SENTINEL" Bundle.listD).before args s = true) : ∀ w ∈ L, w.before args s = true := by
  intro w hw
  by_cases e1 : w = .isRef (.static Bundle.tN "UNASSIGNED_STACK" Bundle.steD)
  · rw [e1]; exact hU
  · by_cases e2 : w = .isRef (.static Bundle.tN "SUPPRESSED_SENTINEL" Bundle.listD)
    · rw [e2]; exact hN
    · by_cases e3 : w = .laysStatic Bundle.tN "UNASSIGNED_STACK" Bundle.steD
      · rw [e3]; exact lU
      · by_cases e4 : w = .laysStatic Bundle.tN "SUPPRESSED_SENTINEL" Bundle.listD
        · rw [e4]; exact lN
        · exact h1 w (List.mem_filter.mpr ⟨hw, by unfold vx_no; rw [decide_eq_true e1, decide_eq_true e2, decide_eq_true e3, decide_eq_true e4]; rfl⟩)
/-- where a static field lies, its class's statics cell in H -/
def vx_L (C n d : String) (A : Nat → Prop) (U : State) (H : Heap) : Prop := ∃ (c : ClassId) (k : Class) (i : Nat) (f : Field) (a : Nat) (cell : Cell), U.vm.findClass C = some c ∧ U.fieldFound? C n d = some (c, k, i, f) ∧ f.isStatic = true ∧ k.statics = some a ∧ H[a]? = some cell ∧ cell.vm.isStatics = true ∧ cell.cls = c ∧ f.slot < cell.slots.size ∧ k.staticTypes[f.slot]? = some f.type ∧ ¬ A a
theorem vx_L.moved {C n d : String} {A : Nat → Prop} {u U : State} {H : Heap} (hvm : u.vm.Alike U.vm) (h : vx_L C n d A u H) : vx_L C n d A U H := by
  obtain ⟨c, k, i, f, a, cell, h1, h2, h3, h4, h5, h6, h7, h8, h9, h10⟩ := h
  obtain ⟨k', hi', he⟩ := State.fieldFound?_setVm hvm h2
  exact ⟨c, k', i, f, a, cell, by rw [hvm.findClass]; exact h1, hi', h3, by rw [he]; exact h4, h5, h6, h7, h8, by rw [he]; exact h9, h10⟩
theorem vx_L.kept {C n d : String} {A : Nat → Prop} {U : State} {H H1 : Heap} (h : vx_L C n d A U H) (hq : ∀ a : Nat, a < H.size → ¬ A a → H1[a]? = H[a]?) : vx_L C n d A U H1 := by
  obtain ⟨c, k, i, f, a, cell, h1, h2, h3, h4, h5, h6, h7, h8, h9, h10⟩ := h
  exact ⟨c, k, i, f, a, cell, h1, h2, h3, h4, by rw [hq a (Array.getElem?_eq_some_iff.mp h5).1 h10]; exact h5, h6, h7, h8, h9, h10⟩
theorem vx_L.narrow {C n d : String} {A B : Nat → Prop} {U : State} {H : Heap} (h : vx_L C n d A U H) (hAB : ∀ q, B q → A q) : vx_L C n d B U H := by
  obtain ⟨c, k, i, f, a, cell, h1, h2, h3, h4, h5, h6, h7, h8, h9, h10⟩ := h
  exact ⟨c, k, i, f, a, cell, h1, h2, h3, h4, h5, h6, h7, h8, h9, fun z => h10 (hAB _ z)⟩
theorem vx_L.word {C n d : String} {A : Nat → Prop} {s : State} {args : Array Value} (h : vx_L C n d A s s.heap) : (Cond.laysStatic C n d).before args s = true := by
  obtain ⟨c, k, i, f, a, cell, h1, h2, h3, h4, h5, h6, h7, h8, h9, -⟩ := h
  show (Cond.laysStatic C n d).holds args s none s [] = true
  exact Cond.laysStatic_of h1 h2 h3 h4 h5 h6 h7 h8 h9
/-- .. and what it holds: null or some reference -/
def vx_Zq (C n d : String) (A : Nat → Prop) (U : State) (H : Heap) : Prop := va_Zq C n d A U H ∧ vx_L C n d A U H
theorem vx_Zq.moved {C n d : String} {A : Nat → Prop} {u U : State} {H : Heap} (hvm : u.vm.Alike U.vm) (h : vx_Zq C n d A u H) : vx_Zq C n d A U H := ⟨va_Zq.moved hvm h.1, vx_L.moved hvm h.2⟩
theorem vx_Zq.kept {C n d : String} {A : Nat → Prop} {U : State} {H H1 : Heap} (h : vx_Zq C n d A U H) (hq : ∀ a : Nat, a < H.size → ¬ A a → H1[a]? = H[a]?) : vx_Zq C n d A U H1 := ⟨va_Zq.kept h.1 hq, vx_L.kept h.2 hq⟩
theorem vx_Zq.narrow {C n d : String} {A B : Nat → Prop} {U : State} {H : Heap} (h : vx_Zq C n d A U H) (hAB : ∀ q, B q → A q) : vx_Zq C n d B U H := ⟨va_Zq.narrow h.1 hAB, vx_L.narrow h.2 hAB⟩
theorem vx_Zqof {args : Array Value} {s : State} {C n d : String} {A : Nat → Prop} (hl : (Cond.laysStatic C n d).before args s = true) (hini : (Cond.initialized C).before args s = true) (h : (Cond.isRef (.static C n d)).before args s = true) (hA : ∀ a : Nat, a < s.heap.size → ¬ A a) : vx_Zq C n d A s s.heap := by
  refine ⟨va_Zqof hl hini h hA, ?_⟩
  obtain ⟨c, k, i, f, a, cell, h1, h2, h3, h4, h5, h6, h7, h8, h9⟩ := Cond.laysStatic_spec hl
  exact ⟨c, k, i, f, a, cell, h1, h2, h3, h4, h5, h6, h7, h8, h9, hA a (Array.getElem?_eq_some_iff.mp h5).1⟩
theorem vx_isRef {C n d : String} {v : Value} {A : Nat → Prop} {s : State} {args : Array Value} (h : va_Z C n d v A s s.heap) (hv : v.isRef = true) : (Cond.isRef (.static C n d)).before args s = true := by
  obtain ⟨cf, kf, fi, f, a, cell, h1, h2, h3, h4, h5, h6, h7, -⟩ := h
  have he : (Term.static C n d).eval args s none [] s = some v := by
    simp [Term.eval, State.fieldNamed?, h1, h2, h4, h5, h6, h7]
  simp only [Cond.before, Cond.holds, Cond.value, he]
  cases v <;> simp_all [Value.isRef]
theorem vx_isRefq {C n d : String} {A : Nat → Prop} {s : State} {args : Array Value} (h : va_Zq C n d A s s.heap) : (Cond.isRef (.static C n d)).before args s = true := by
  rcases h with h | ⟨t, h⟩
  · exact vx_isRef h rfl
  · exact vx_isRef h rfl
end
section
-- ===== PART A: goes FIRST, ahead of the names: the tables' words, and 'selects' of the private methods out of them =====
/-- a private method of a class that the tables say can be made, by its rows of tables_1 -/
def lw_okq (q : MethodName × Nat) : Prop := (q.1.cls ≠ "java/lang/invoke/MethodHandle" ∧ q.1.cls ≠ "java/lang/invoke/VarHandle") ∧ Cond.instantiable q.1.cls q.2 ∈ tables_1 ∧ Cond.privateMethod q.1 ∈ tables_1 ∧ Cond.instanceMethod q.1 ∈ tables_1
theorem lw_p0 : lw_okq (⟨"WillKeeper", "searchReached", "(LWillKeeper$Search;)V"⟩, 12) := ⟨⟨by decide +kernel, by decide +kernel⟩, List.mem_of_getElem? (i := 12) (by decide +kernel), List.mem_of_getElem? (i := 82) (by decide +kernel), List.mem_of_getElem? (i := 83) (by decide +kernel)⟩
theorem lw_p1 : lw_okq (⟨"WillKeeper", "addRootsAndQueue", "(LWillKeeper$Search;)V"⟩, 12) := ⟨⟨by decide +kernel, by decide +kernel⟩, List.mem_of_getElem? (i := 12) (by decide +kernel), List.mem_of_getElem? (i := 90) (by decide +kernel), List.mem_of_getElem? (i := 91) (by decide +kernel)⟩
theorem lw_p2 : lw_okq (⟨"WillKeeper", "queueSize", "()I"⟩, 12) := ⟨⟨by decide +kernel, by decide +kernel⟩, List.mem_of_getElem? (i := 12) (by decide +kernel), List.mem_of_getElem? (i := 98) (by decide +kernel), List.mem_of_getElem? (i := 99) (by decide +kernel)⟩
theorem lw_p3 : lw_okq (⟨"WillKeeper", "queuePlace", "(I)I"⟩, 12) := ⟨⟨by decide +kernel, by decide +kernel⟩, List.mem_of_getElem? (i := 12) (by decide +kernel), List.mem_of_getElem? (i := 102) (by decide +kernel), List.mem_of_getElem? (i := 103) (by decide +kernel)⟩
theorem lw_p4 : lw_okq (⟨"WillKeeper", "followFields", "(LWillKeeper$Search;Z)V"⟩, 12) := ⟨⟨by decide +kernel, by decide +kernel⟩, List.mem_of_getElem? (i := 12) (by decide +kernel), List.mem_of_getElem? (i := 106) (by decide +kernel), List.mem_of_getElem? (i := 107) (by decide +kernel)⟩
theorem lw_p5 : lw_okq (⟨"WillKeeper", "thingOrNull", "(I)LWillKeeper$Thing;"⟩, 12) := ⟨⟨by decide +kernel, by decide +kernel⟩, List.mem_of_getElem? (i := 12) (by decide +kernel), List.mem_of_getElem? (i := 114) (by decide +kernel), List.mem_of_getElem? (i := 115) (by decide +kernel)⟩
theorem lw_p6 : lw_okq (⟨"WillKeeper", "queueUnreached", "()I"⟩, 12) := ⟨⟨by decide +kernel, by decide +kernel⟩, List.mem_of_getElem? (i := 12) (by decide +kernel), List.mem_of_getElem? (i := 126) (by decide +kernel), List.mem_of_getElem? (i := 127) (by decide +kernel)⟩
theorem lw_p7 : lw_okq (⟨"WillKeeper", "putInQueue", "(ILWillKeeper$Thing;)V"⟩, 12) := ⟨⟨by decide +kernel, by decide +kernel⟩, List.mem_of_getElem? (i := 12) (by decide +kernel), List.mem_of_getElem? (i := 138) (by decide +kernel), List.mem_of_getElem? (i := 139) (by decide +kernel)⟩
theorem lw_p8 : lw_okq (⟨"WillKeeper", "forgetUnreached", "()V"⟩, 12) := ⟨⟨by decide +kernel, by decide +kernel⟩, List.mem_of_getElem? (i := 12) (by decide +kernel), List.mem_of_getElem? (i := 142) (by decide +kernel), List.mem_of_getElem? (i := 143) (by decide +kernel)⟩
theorem lw_p9 : lw_okq (⟨"WillKeeper", "searchKept", "(LWillKeeper$Search;)V"⟩, 12) := ⟨⟨by decide +kernel, by decide +kernel⟩, List.mem_of_getElem? (i := 12) (by decide +kernel), List.mem_of_getElem? (i := 154) (by decide +kernel), List.mem_of_getElem? (i := 155) (by decide +kernel)⟩
theorem lw_p10 : lw_okq (⟨"java/lang/Throwable", "fillInStackTrace", "(I)Ljava/lang/Throwable;"⟩, 6) := ⟨⟨by decide +kernel, by decide +kernel⟩, List.mem_of_getElem? (i := 205) (by decide +kernel), List.mem_of_getElem? (i := 203) (by decide +kernel), List.mem_of_getElem? (i := 204) (by decide +kernel)⟩
theorem lw_p11 : lw_okq (⟨"WillKeeper", "thingWithField", "(II)LWillKeeper$Thing;"⟩, 12) := ⟨⟨by decide +kernel, by decide +kernel⟩, List.mem_of_getElem? (i := 12) (by decide +kernel), List.mem_of_getElem? (i := 283) (by decide +kernel), List.mem_of_getElem? (i := 284) (by decide +kernel)⟩
theorem lw_p12 : lw_okq (⟨"WillKeeper", "thingThere", "(I)LWillKeeper$Thing;"⟩, 12) := ⟨⟨by decide +kernel, by decide +kernel⟩, List.mem_of_getElem? (i := 12) (by decide +kernel), List.mem_of_getElem? (i := 287) (by decide +kernel), List.mem_of_getElem? (i := 288) (by decide +kernel)⟩
theorem lw_p13 : lw_okq (⟨"WillKeeper", "needThingOrNone", "(I)V"⟩, 12) := ⟨⟨by decide +kernel, by decide +kernel⟩, List.mem_of_getElem? (i := 12) (by decide +kernel), List.mem_of_getElem? (i := 309) (by decide +kernel), List.mem_of_getElem? (i := 310) (by decide +kernel)⟩
theorem lw_p14 : lw_okq (⟨"WillKeeper", "waitingFinals", "()I"⟩, 12) := ⟨⟨by decide +kernel, by decide +kernel⟩, List.mem_of_getElem? (i := 12) (by decide +kernel), List.mem_of_getElem? (i := 358) (by decide +kernel), List.mem_of_getElem? (i := 359) (by decide +kernel)⟩
theorem lw_p15 : lw_okq (⟨"WillKeeperModel", "goes", "(ZZ)Z"⟩, 16) := ⟨⟨by decide +kernel, by decide +kernel⟩, List.mem_of_getElem? (i := 363) (by decide +kernel), List.mem_of_getElem? (i := 426) (by decide +kernel), List.mem_of_getElem? (i := 427) (by decide +kernel)⟩
def lw_privs_1 : List (MethodName × Nat) := [(⟨"WillKeeper", "searchReached", "(LWillKeeper$Search;)V"⟩, 12), (⟨"WillKeeper", "addRootsAndQueue", "(LWillKeeper$Search;)V"⟩, 12), (⟨"WillKeeper", "queueSize", "()I"⟩, 12), (⟨"WillKeeper", "queuePlace", "(I)I"⟩, 12), (⟨"WillKeeper", "followFields", "(LWillKeeper$Search;Z)V"⟩, 12), (⟨"WillKeeper", "thingOrNull", "(I)LWillKeeper$Thing;"⟩, 12), (⟨"WillKeeper", "queueUnreached", "()I"⟩, 12), (⟨"WillKeeper", "putInQueue", "(ILWillKeeper$Thing;)V"⟩, 12), (⟨"WillKeeper", "forgetUnreached", "()V"⟩, 12), (⟨"WillKeeper", "searchKept", "(LWillKeeper$Search;)V"⟩, 12), (⟨"java/lang/Throwable", "fillInStackTrace", "(I)Ljava/lang/Throwable;"⟩, 6), (⟨"WillKeeper", "thingWithField", "(II)LWillKeeper$Thing;"⟩, 12), (⟨"WillKeeper", "thingThere", "(I)LWillKeeper$Thing;"⟩, 12), (⟨"WillKeeper", "needThingOrNone", "(I)V"⟩, 12), (⟨"WillKeeper", "waitingFinals", "()I"⟩, 12), (⟨"WillKeeperModel", "goes", "(ZZ)Z"⟩, 16)]
theorem lw_r1 : ∀ q ∈ lw_privs_1, lw_okq q := List.forall_mem_cons.mpr ⟨lw_p0, List.forall_mem_cons.mpr ⟨lw_p1, List.forall_mem_cons.mpr ⟨lw_p2, List.forall_mem_cons.mpr ⟨lw_p3, List.forall_mem_cons.mpr ⟨lw_p4, List.forall_mem_cons.mpr ⟨lw_p5, List.forall_mem_cons.mpr ⟨lw_p6, List.forall_mem_cons.mpr ⟨lw_p7, List.forall_mem_cons.mpr ⟨lw_p8, List.forall_mem_cons.mpr ⟨lw_p9, List.forall_mem_cons.mpr ⟨lw_p10, List.forall_mem_cons.mpr ⟨lw_p11, List.forall_mem_cons.mpr ⟨lw_p12, List.forall_mem_cons.mpr ⟨lw_p13, List.forall_mem_cons.mpr ⟨lw_p14, List.forall_mem_cons.mpr ⟨lw_p15, fun _ h => absurd h List.not_mem_nil⟩⟩⟩⟩⟩⟩⟩⟩⟩⟩⟩⟩⟩⟩⟩⟩
theorem lw_p16 : lw_okq (⟨"WillKeeperModel", "isField", "(II)Z"⟩, 16) := ⟨⟨by decide +kernel, by decide +kernel⟩, List.mem_of_getElem? (i := 363) (by decide +kernel), List.mem_of_getElem? (i := 434) (by decide +kernel), List.mem_of_getElem? (i := 435) (by decide +kernel)⟩
theorem lw_p17 : lw_okq (⟨"WillKeeperModel", "isThere", "(I)Z"⟩, 16) := ⟨⟨by decide +kernel, by decide +kernel⟩, List.mem_of_getElem? (i := 363) (by decide +kernel), List.mem_of_getElem? (i := 438) (by decide +kernel), List.mem_of_getElem? (i := 439) (by decide +kernel)⟩
theorem lw_p18 : lw_okq (⟨"WillKeeperModel", "isOrNone", "(I)Z"⟩, 16) := ⟨⟨by decide +kernel, by decide +kernel⟩, List.mem_of_getElem? (i := 363) (by decide +kernel), List.mem_of_getElem? (i := 442) (by decide +kernel), List.mem_of_getElem? (i := 443) (by decide +kernel)⟩
theorem lw_p19 : lw_okq (⟨"WillKeeperModel", "find", "(Z)I"⟩, 16) := ⟨⟨by decide +kernel, by decide +kernel⟩, List.mem_of_getElem? (i := 363) (by decide +kernel), List.mem_of_getElem? (i := 458) (by decide +kernel), List.mem_of_getElem? (i := 459) (by decide +kernel)⟩
theorem lw_p20 : lw_okq (⟨"WillKeeperModel", "many", "()I"⟩, 16) := ⟨⟨by decide +kernel, by decide +kernel⟩, List.mem_of_getElem? (i := 363) (by decide +kernel), List.mem_of_getElem? (i := 486) (by decide +kernel), List.mem_of_getElem? (i := 487) (by decide +kernel)⟩
theorem lw_p21 : lw_okq (⟨"WillKeeperModel", "waiting", "()I"⟩, 16) := ⟨⟨by decide +kernel, by decide +kernel⟩, List.mem_of_getElem? (i := 363) (by decide +kernel), List.mem_of_getElem? (i := 490) (by decide +kernel), List.mem_of_getElem? (i := 491) (by decide +kernel)⟩
def lw_privs_2 : List (MethodName × Nat) := [(⟨"WillKeeperModel", "isField", "(II)Z"⟩, 16), (⟨"WillKeeperModel", "isThere", "(I)Z"⟩, 16), (⟨"WillKeeperModel", "isOrNone", "(I)Z"⟩, 16), (⟨"WillKeeperModel", "find", "(Z)I"⟩, 16), (⟨"WillKeeperModel", "many", "()I"⟩, 16), (⟨"WillKeeperModel", "waiting", "()I"⟩, 16)]
theorem lw_r2 : ∀ q ∈ lw_privs_2, lw_okq q := List.forall_mem_cons.mpr ⟨lw_p16, List.forall_mem_cons.mpr ⟨lw_p17, List.forall_mem_cons.mpr ⟨lw_p18, List.forall_mem_cons.mpr ⟨lw_p19, List.forall_mem_cons.mpr ⟨lw_p20, List.forall_mem_cons.mpr ⟨lw_p21, fun _ h => absurd h List.not_mem_nil⟩⟩⟩⟩⟩⟩
def lw_privs : List (MethodName × Nat) := lw_privs_1 ++ (lw_privs_2)
def lw_tbl : List Cond := k2_sels lw_privs ++ tables_1
theorem lw_privs_ok : ∀ q ∈ lw_privs, lw_okq q := by
  show ∀ q ∈ lw_privs_1 ++ (lw_privs_2), lw_okq q
  exact List.forall_mem_append.mpr ⟨lw_r1, lw_r2⟩
end
section
/-! Part 01: names. Written by a program out of the class files and the tables of the claim. -/
def R_K : String := "WillKeeper"
def F_K : u_T := fun k => match k with
  | 0 => ("WillKeeper", "things", "[LWillKeeper$Thing;", true)
  | 1 => ("WillKeeper", "roots", "[I", true)
  | 2 => ("WillKeeper", "queue", "[I", true)
  | 3 => ("WillKeeper", "queueStart", "I", false)
  | 4 => ("WillKeeper", "queueEnd", "I", false)
  | 5 => ("WillKeeper", "before", "LWillKeeper$Search;", true)
  | 6 => ("WillKeeper", "now", "LWillKeeper$Search;", true)
  | 7 => ("WillKeeper", "made", "I", false)
  | 8 => ("WillKeeper", "present", "I", false)
  | 9 => ("WillKeeper", "forgotten", "I", false)
  | 10 => ("WillKeeper", "clearings", "I", false)
  | _ => ("WillKeeper", "identities", "I", false)
def tt_K : Nat → FieldType := fun k => match k with
  | 0 => .array (.object "WillKeeper$Thing")
  | 1 => .array (.int)
  | 2 => .array (.int)
  | 3 => .int
  | 4 => .int
  | 5 => .object "WillKeeper$Search"
  | 6 => .object "WillKeeper$Search"
  | 7 => .int
  | 8 => .int
  | 9 => .int
  | 10 => .int
  | _ => .int
theorem n_K : ∀ a, a < 12 → ∀ b, b < 12 → a ≠ b → (F_K a).2.1 ≠ (F_K b).2.1 := by decide +kernel
theorem tt_K_ok : ∀ k, k < 12 → parseFieldDescriptor (F_K k).2.2.1 = some (tt_K k) := by decide +kernel
def R_T : String := "WillKeeper$Thing"
def F_T : u_T := fun k => match k with
  | 0 => ("WillKeeper$Thing", "fields", "[I", true)
  | 1 => ("WillKeeper$Thing", "kind", "I", false)
  | 2 => ("WillKeeper$Thing", "everQueued", "Z", false)
  | _ => ("WillKeeper$Thing", "identityNumber", "I", false)
def tt_T : Nat → FieldType := fun k => match k with
  | 0 => .array (.int)
  | 1 => .int
  | 2 => .boolean
  | _ => .int
theorem n_T : ∀ a, a < 4 → ∀ b, b < 4 → a ≠ b → (F_T a).2.1 ≠ (F_T b).2.1 := by decide +kernel
theorem tt_T_ok : ∀ k, k < 4 → parseFieldDescriptor (F_T k).2.2.1 = some (tt_T k) := by decide +kernel
def R_S : String := "WillKeeper$Search"
def F_S : u_T := fun k => match k with
  | 0 => ("WillKeeper$Search", "found", "[Z", true)
  | 1 => ("WillKeeper$Search", "order", "[I", true)
  | _ => ("WillKeeper$Search", "size", "I", false)
def tt_S : Nat → FieldType := fun k => match k with
  | 0 => .array (.boolean)
  | 1 => .array (.int)
  | _ => .int
theorem n_S : ∀ a, a < 3 → ∀ b, b < 3 → a ≠ b → (F_S a).2.1 ≠ (F_S b).2.1 := by decide +kernel
theorem tt_S_ok : ∀ k, k < 3 → parseFieldDescriptor (F_S k).2.2.1 = some (tt_S k) := by decide +kernel
def R_L : String := "WillKeeperLaw"
def R_M : String := "WillKeeperModel"
def F_M : u_T := fun k => match k with
  | 0 => ("WillKeeperModel", "thrown", "I", false)
  | 1 => ("WillKeeperModel", "made", "I", false)
  | 2 => ("WillKeeperModel", "there", "[Z", true)
  | 3 => ("WillKeeperModel", "kinds", "[I", true)
  | 4 => ("WillKeeperModel", "sizes", "[I", true)
  | 5 => ("WillKeeperModel", "fields", "[I", true)
  | 6 => ("WillKeeperModel", "identities", "[I", true)
  | 7 => ("WillKeeperModel", "wasQueued", "[Z", true)
  | 8 => ("WillKeeperModel", "roots", "[I", true)
  | 9 => ("WillKeeperModel", "queued", "I", false)
  | 10 => ("WillKeeperModel", "queue", "[I", true)
  | 11 => ("WillKeeperModel", "clearings", "I", false)
  | 12 => ("WillKeeperModel", "forgotten", "I", false)
  | 13 => ("WillKeeperModel", "given", "I", false)
  | 14 => ("WillKeeperModel", "found", "[Z", true)
  | _ => ("WillKeeperModel", "before", "[Z", true)
def tt_M : Nat → FieldType := fun k => match k with
  | 0 => .int
  | 1 => .int
  | 2 => .array (.boolean)
  | 3 => .array (.int)
  | 4 => .array (.int)
  | 5 => .array (.int)
  | 6 => .array (.int)
  | 7 => .array (.boolean)
  | 8 => .array (.int)
  | 9 => .int
  | 10 => .array (.int)
  | 11 => .int
  | 12 => .int
  | 13 => .int
  | 14 => .array (.boolean)
  | _ => .array (.boolean)
theorem n_M : ∀ a, a < 16 → ∀ b, b < 16 → a ≠ b → (F_M a).2.1 ≠ (F_M b).2.1 := by decide +kernel
theorem tt_M_ok : ∀ k, k < 16 → parseFieldDescriptor (F_M k).2.2.1 = some (tt_M k) := by decide +kernel
abbrev kCl : List vw_C := [(R_K, F_K, 12), (R_S, F_S, 3), (R_T, F_T, 4), (R_M, F_M, 16)]
abbrev kTy (ty : Nat → ClassId) : List (ClassId × FieldType) := [(ty 0, .int), (ty 1, .boolean), (ty 2, .object "WillKeeper$Thing"), (ty 3, .long)]
def y_K_init : MethodName := ⟨R_K, "<init>", "()V"⟩
abbrev b_K_init : ByteArray := prog_1_method_1_code
abbrev k_K_init : Cond := .code y_K_init b_K_init 2 none
def y_K_make : MethodName := ⟨R_K, "make", "(II)I"⟩
abbrev b_K_make : ByteArray := prog_1_method_2_code
abbrev k_K_make : Cond := .code y_K_make b_K_make 4 (some .int)
def y_K_set : MethodName := ⟨R_K, "set", "(III)I"⟩
abbrev b_K_set : ByteArray := prog_1_method_3_code
abbrev k_K_set : Cond := .code y_K_set b_K_set 6 (some .int)
def y_K_get : MethodName := ⟨R_K, "get", "(II)I"⟩
abbrev b_K_get : ByteArray := prog_1_method_4_code
abbrev k_K_get : Cond := .code y_K_get b_K_get 3 (some .int)
def y_K_root : MethodName := ⟨R_K, "root", "(II)I"⟩
abbrev b_K_root : ByteArray := prog_1_method_5_code
abbrev k_K_root : Cond := .code y_K_root b_K_root 4 (some .int)
def y_K_clear : MethodName := ⟨R_K, "clear", "()I"⟩
abbrev b_K_clear : ByteArray := prog_1_method_6_code
abbrev k_K_clear : Cond := .code y_K_clear b_K_clear 2 (some .int)
def y_K_take : MethodName := ⟨R_K, "take", "()I"⟩
abbrev b_K_take : ByteArray := prog_1_method_7_code
abbrev k_K_take : Cond := .code y_K_take b_K_take 3 (some .int)
def y_K_queued : MethodName := ⟨R_K, "queued", "(I)I"⟩
abbrev b_K_queued : ByteArray := prog_1_method_8_code
abbrev k_K_queued : Cond := .code y_K_queued b_K_queued 2 (some .int)
def y_K_sweep : MethodName := ⟨R_K, "sweep", "()I"⟩
abbrev b_K_sweep : ByteArray := prog_1_method_9_code
abbrev k_K_sweep : Cond := .code y_K_sweep b_K_sweep 3 (some .int)
def y_K_identity : MethodName := ⟨R_K, "identity", "(I)I"⟩
abbrev b_K_identity : ByteArray := prog_1_method_10_code
abbrev k_K_identity : Cond := .code y_K_identity b_K_identity 3 (some .int)
def y_K_about : MethodName := ⟨R_K, "about", "(II)I"⟩
abbrev b_K_about : ByteArray := prog_1_method_11_code
abbrev k_K_about : Cond := .code y_K_about b_K_about 4 (some .int)
def y_K_count : MethodName := ⟨R_K, "count", "(I)I"⟩
abbrev b_K_count : ByteArray := prog_1_method_12_code
abbrev k_K_count : Cond := .code y_K_count b_K_count 2 (some .int)
def y_K_thingOrNull : MethodName := ⟨R_K, "thingOrNull", "(I)LWillKeeper$Thing;"⟩
abbrev b_K_thingOrNull : ByteArray := prog_1_method_13_code
abbrev k_K_thingOrNull : Cond := .code y_K_thingOrNull b_K_thingOrNull 2 (some (.object "WillKeeper$Thing"))
def y_K_thingThere : MethodName := ⟨R_K, "thingThere", "(I)LWillKeeper$Thing;"⟩
abbrev b_K_thingThere : ByteArray := prog_1_method_14_code
abbrev k_K_thingThere : Cond := .code y_K_thingThere b_K_thingThere 3 (some (.object "WillKeeper$Thing"))
def y_K_thingWithField : MethodName := ⟨R_K, "thingWithField", "(II)LWillKeeper$Thing;"⟩
abbrev b_K_thingWithField : ByteArray := prog_1_method_15_code
abbrev k_K_thingWithField : Cond := .code y_K_thingWithField b_K_thingWithField 4 (some (.object "WillKeeper$Thing"))
def y_K_needThingOrNone : MethodName := ⟨R_K, "needThingOrNone", "(I)V"⟩
abbrev b_K_needThingOrNone : ByteArray := prog_1_method_16_code
abbrev k_K_needThingOrNone : Cond := .code y_K_needThingOrNone b_K_needThingOrNone 2 none
def y_K_queueSize : MethodName := ⟨R_K, "queueSize", "()I"⟩
abbrev b_K_queueSize : ByteArray := prog_1_method_17_code
abbrev k_K_queueSize : Cond := .code y_K_queueSize b_K_queueSize 1 (some .int)
def y_K_queuePlace : MethodName := ⟨R_K, "queuePlace", "(I)I"⟩
abbrev b_K_queuePlace : ByteArray := prog_1_method_18_code
abbrev k_K_queuePlace : Cond := .code y_K_queuePlace b_K_queuePlace 3 (some .int)
def y_K_putInQueue : MethodName := ⟨R_K, "putInQueue", "(ILWillKeeper$Thing;)V"⟩
abbrev b_K_putInQueue : ByteArray := prog_1_method_19_code
abbrev k_K_putInQueue : Cond := .code y_K_putInQueue b_K_putInQueue 3 none
def y_K_waitingFinals : MethodName := ⟨R_K, "waitingFinals", "()I"⟩
abbrev b_K_waitingFinals : ByteArray := prog_1_method_20_code
abbrev k_K_waitingFinals : Cond := .code y_K_waitingFinals b_K_waitingFinals 4 (some .int)
def y_K_searchReached : MethodName := ⟨R_K, "searchReached", "(LWillKeeper$Search;)V"⟩
abbrev b_K_searchReached : ByteArray := prog_1_method_21_code
abbrev k_K_searchReached : Cond := .code y_K_searchReached b_K_searchReached 2 none
def y_K_searchKept : MethodName := ⟨R_K, "searchKept", "(LWillKeeper$Search;)V"⟩
abbrev b_K_searchKept : ByteArray := prog_1_method_22_code
abbrev k_K_searchKept : Cond := .code y_K_searchKept b_K_searchKept 4 none
def y_K_addRootsAndQueue : MethodName := ⟨R_K, "addRootsAndQueue", "(LWillKeeper$Search;)V"⟩
abbrev b_K_addRootsAndQueue : ByteArray := prog_1_method_23_code
abbrev k_K_addRootsAndQueue : Cond := .code y_K_addRootsAndQueue b_K_addRootsAndQueue 4 none
def y_K_followFields : MethodName := ⟨R_K, "followFields", "(LWillKeeper$Search;Z)V"⟩
abbrev b_K_followFields : ByteArray := prog_1_method_24_code
abbrev k_K_followFields : Cond := .code y_K_followFields b_K_followFields 7 none
def y_K_queueUnreached : MethodName := ⟨R_K, "queueUnreached", "()I"⟩
abbrev b_K_queueUnreached : ByteArray := prog_1_method_25_code
abbrev k_K_queueUnreached : Cond := .code y_K_queueUnreached b_K_queueUnreached 4 (some .int)
def y_K_forgetUnreached : MethodName := ⟨R_K, "forgetUnreached", "()V"⟩
abbrev b_K_forgetUnreached : ByteArray := prog_1_method_26_code
abbrev k_K_forgetUnreached : Cond := .code y_K_forgetUnreached b_K_forgetUnreached 4 none
def y_T_init : MethodName := ⟨R_T, "<init>", "(II)V"⟩
abbrev b_T_init : ByteArray := prog_3_method_1_code
abbrev k_T_init : Cond := .code y_T_init b_T_init 4 none
def y_T_hasField : MethodName := ⟨R_T, "hasField", "(I)Z"⟩
abbrev b_T_hasField : ByteArray := prog_3_method_2_code
abbrev k_T_hasField : Cond := .code y_T_hasField b_T_hasField 2 (some .boolean)
def y_T_hasWeakField : MethodName := ⟨R_T, "hasWeakField", "()Z"⟩
abbrev b_T_hasWeakField : ByteArray := prog_3_method_3_code
abbrev k_T_hasWeakField : Cond := .code y_T_hasWeakField b_T_hasWeakField 1 (some .boolean)
def y_T_waitsForQueue : MethodName := ⟨R_T, "waitsForQueue", "()Z"⟩
abbrev b_T_waitsForQueue : ByteArray := prog_3_method_4_code
abbrev k_T_waitsForQueue : Cond := .code y_T_waitsForQueue b_T_waitsForQueue 1 (some .boolean)
def y_S_init : MethodName := ⟨R_S, "<init>", "()V"⟩
abbrev b_S_init : ByteArray := prog_2_method_1_code
abbrev k_S_init : Cond := .code y_S_init b_S_init 1 none
def y_S_forgetAll : MethodName := ⟨R_S, "forgetAll", "()V"⟩
abbrev b_S_forgetAll : ByteArray := prog_2_method_2_code
abbrev k_S_forgetAll : Cond := .code y_S_forgetAll b_S_forgetAll 2 none
def y_S_add : MethodName := ⟨R_S, "add", "(I)V"⟩
abbrev b_S_add : ByteArray := prog_2_method_3_code
abbrev k_S_add : Cond := .code y_S_add b_S_add 2 none
def y_S_has : MethodName := ⟨R_S, "has", "(I)Z"⟩
abbrev b_S_has : ByteArray := prog_2_method_4_code
abbrev k_S_has : Cond := .code y_S_has b_S_has 2 (some .boolean)
def y_S_at : MethodName := ⟨R_S, "at", "(I)I"⟩
abbrev b_S_at : ByteArray := prog_2_method_5_code
abbrev k_S_at : Cond := .code y_S_at b_S_at 2 (some .int)
def y_L_make : MethodName := ⟨R_L, "make", "(LWillKeeper;II[J)I"⟩
abbrev b_L_make : ByteArray := method_3_code
abbrev k_L_make : Cond := .codeWith y_L_make b_L_make 5 (some .int) [((0), (10), (13), (13)), ((0), (10), (17), (15))]
def y_L_set : MethodName := ⟨R_L, "set", "(LWillKeeper;III[J)I"⟩
abbrev b_L_set : ByteArray := method_4_code
abbrev k_L_set : Cond := .codeWith y_L_set b_L_set 6 (some .int) [((0), (12), (15), (21))]
def y_L_get : MethodName := ⟨R_L, "get", "(LWillKeeper;II[J)I"⟩
abbrev b_L_get : ByteArray := method_5_code
abbrev k_L_get : Cond := .codeWith y_L_get b_L_get 5 (some .int) [((0), (10), (13), (21))]
def y_L_root : MethodName := ⟨R_L, "root", "(LWillKeeper;II[J)I"⟩
abbrev b_L_root : ByteArray := method_6_code
abbrev k_L_root : Cond := .codeWith y_L_root b_L_root 5 (some .int) [((0), (10), (13), (21))]
def y_L_queued : MethodName := ⟨R_L, "queued", "(LWillKeeper;I[J)I"⟩
abbrev b_L_queued : ByteArray := method_7_code
abbrev k_L_queued : Cond := .codeWith y_L_queued b_L_queued 4 (some .int) [((0), (9), (12), (13))]
def y_L_identity : MethodName := ⟨R_L, "identity", "(LWillKeeper;I[J)I"⟩
abbrev b_L_identity : ByteArray := method_8_code
abbrev k_L_identity : Cond := .codeWith y_L_identity b_L_identity 4 (some .int) [((0), (9), (12), (21))]
def y_L_about : MethodName := ⟨R_L, "about", "(LWillKeeper;II[J)I"⟩
abbrev b_L_about : ByteArray := method_9_code
abbrev k_L_about : Cond := .codeWith y_L_about b_L_about 5 (some .int) [((0), (10), (13), (21)), ((0), (10), (17), (13))]
def y_L_count : MethodName := ⟨R_L, "count", "(LWillKeeper;I[J)I"⟩
abbrev b_L_count : ByteArray := method_10_code
abbrev k_L_count : Cond := .codeWith y_L_count b_L_count 4 (some .int) [((0), (9), (12), (13))]
def y_L_law : MethodName := ⟨R_L, "law", "([I)Z"⟩
abbrev b_L_law : ByteArray := code
def y_M_init : MethodName := ⟨R_M, "<init>", "()V"⟩
abbrev b_M_init : ByteArray := prog_5_method_1_code
abbrev k_M_init : Cond := .code y_M_init b_M_init 1 none
def y_M_thrown : MethodName := ⟨R_M, "thrown", "()I"⟩
abbrev b_M_thrown : ByteArray := prog_5_method_2_code
abbrev k_M_thrown : Cond := .code y_M_thrown b_M_thrown 1 (some .int)
def y_M_goes : MethodName := ⟨R_M, "goes", "(ZZ)Z"⟩
abbrev b_M_goes : ByteArray := prog_5_method_3_code
abbrev k_M_goes : Cond := .code y_M_goes b_M_goes 3 (some .boolean)
def y_M_isThere : MethodName := ⟨R_M, "isThere", "(I)Z"⟩
abbrev b_M_isThere : ByteArray := prog_5_method_4_code
abbrev k_M_isThere : Cond := .code y_M_isThere b_M_isThere 2 (some .boolean)
def y_M_isOrNone : MethodName := ⟨R_M, "isOrNone", "(I)Z"⟩
abbrev b_M_isOrNone : ByteArray := prog_5_method_5_code
abbrev k_M_isOrNone : Cond := .code y_M_isOrNone b_M_isOrNone 2 (some .boolean)
def y_M_isField : MethodName := ⟨R_M, "isField", "(II)Z"⟩
abbrev b_M_isField : ByteArray := prog_5_method_6_code
abbrev k_M_isField : Cond := .code y_M_isField b_M_isField 3 (some .boolean)
def y_M_make : MethodName := ⟨R_M, "make", "(II)I"⟩
abbrev b_M_make : ByteArray := prog_5_method_7_code
abbrev k_M_make : Cond := .code y_M_make b_M_make 3 (some .int)
def y_M_set : MethodName := ⟨R_M, "set", "(III)I"⟩
abbrev b_M_set : ByteArray := prog_5_method_8_code
abbrev k_M_set : Cond := .code y_M_set b_M_set 5 (some .int)
def y_M_get : MethodName := ⟨R_M, "get", "(II)I"⟩
abbrev b_M_get : ByteArray := prog_5_method_9_code
abbrev k_M_get : Cond := .code y_M_get b_M_get 3 (some .int)
def y_M_root : MethodName := ⟨R_M, "root", "(II)I"⟩
abbrev b_M_root : ByteArray := prog_5_method_10_code
abbrev k_M_root : Cond := .code y_M_root b_M_root 4 (some .int)
def y_M_find : MethodName := ⟨R_M, "find", "(Z)I"⟩
abbrev b_M_find : ByteArray := prog_5_method_11_code
abbrev k_M_find : Cond := .code y_M_find b_M_find 6 (some .int)
def y_M_clear : MethodName := ⟨R_M, "clear", "()I"⟩
abbrev b_M_clear : ByteArray := prog_5_method_12_code
abbrev k_M_clear : Cond := .code y_M_clear b_M_clear 6 (some .int)
def y_M_take : MethodName := ⟨R_M, "take", "()I"⟩
abbrev b_M_take : ByteArray := prog_5_method_13_code
abbrev k_M_take : Cond := .code y_M_take b_M_take 3 (some .int)
def y_M_queued : MethodName := ⟨R_M, "queued", "(I)I"⟩
abbrev b_M_queued : ByteArray := prog_5_method_14_code
abbrev k_M_queued : Cond := .code y_M_queued b_M_queued 2 (some .int)
def y_M_sweep : MethodName := ⟨R_M, "sweep", "()I"⟩
abbrev b_M_sweep : ByteArray := prog_5_method_15_code
abbrev k_M_sweep : Cond := .code y_M_sweep b_M_sweep 4 (some .int)
def y_M_identity : MethodName := ⟨R_M, "identity", "(I)I"⟩
abbrev b_M_identity : ByteArray := prog_5_method_16_code
abbrev k_M_identity : Cond := .code y_M_identity b_M_identity 2 (some .int)
def y_M_about : MethodName := ⟨R_M, "about", "(II)I"⟩
abbrev b_M_about : ByteArray := prog_5_method_17_code
abbrev k_M_about : Cond := .code y_M_about b_M_about 4 (some .int)
def y_M_many : MethodName := ⟨R_M, "many", "()I"⟩
abbrev b_M_many : ByteArray := prog_5_method_18_code
abbrev k_M_many : Cond := .code y_M_many b_M_many 3 (some .int)
def y_M_waiting : MethodName := ⟨R_M, "waiting", "()I"⟩
abbrev b_M_waiting : ByteArray := prog_5_method_19_code
abbrev k_M_waiting : Cond := .code y_M_waiting b_M_waiting 3 (some .int)
def y_M_count : MethodName := ⟨R_M, "count", "(I)I"⟩
abbrev b_M_count : ByteArray := prog_5_method_20_code
abbrev k_M_count : Cond := .code y_M_count b_M_count 2 (some .int)
end
section
/-! Decode rows. -/
theorem d_T_init_0 : decode b_T_init 0 = .ok (.aload_n 0, 1) := by decide +kernel
theorem d_T_init_1 : decode b_T_init 1 = .ok (.invokespecial 3, 3) := by decide +kernel
theorem d_T_init_4 : decode b_T_init 4 = .ok (.aload_n 0, 1) := by decide +kernel
theorem d_T_init_5 : decode b_T_init 5 = .ok (.iload_n 1, 1) := by decide +kernel
theorem d_T_init_6 : decode b_T_init 6 = .ok (.putfield 9, 3) := by decide +kernel
theorem d_T_init_9 : decode b_T_init 9 = .ok (.aload_n 0, 1) := by decide +kernel
theorem d_T_init_10 : decode b_T_init 10 = .ok (.iload_n 2, 1) := by decide +kernel
theorem d_T_init_11 : decode b_T_init 11 = .ok (.ifCond .lt 7, 3) := by decide +kernel
theorem d_T_init_14 : decode b_T_init 14 = .ok (.iload_n 2, 1) := by decide +kernel
theorem d_T_init_15 : decode b_T_init 15 = .ok (.goto 4, 3) := by decide +kernel
theorem d_T_init_18 : decode b_T_init 18 = .ok (.iconst 0, 1) := by decide +kernel
theorem d_T_init_19 : decode b_T_init 19 = .ok (.newarray .int, 2) := by decide +kernel
theorem d_T_init_21 : decode b_T_init 21 = .ok (.putfield 15, 3) := by decide +kernel
theorem d_T_init_24 : decode b_T_init 24 = .ok (.aload_n 0, 1) := by decide +kernel
theorem d_T_init_25 : decode b_T_init 25 = .ok (.iconst 0, 1) := by decide +kernel
theorem d_T_init_26 : decode b_T_init 26 = .ok (.putfield 19, 3) := by decide +kernel
theorem d_T_init_29 : decode b_T_init 29 = .ok (.aload_n 0, 1) := by decide +kernel
theorem d_T_init_30 : decode b_T_init 30 = .ok (.iconst (-1), 1) := by decide +kernel
theorem d_T_init_31 : decode b_T_init 31 = .ok (.putfield 23, 3) := by decide +kernel
theorem d_T_init_34 : decode b_T_init 34 = .ok (.iconst 0, 1) := by decide +kernel
theorem d_T_init_35 : decode b_T_init 35 = .ok (.istore_n 3, 1) := by decide +kernel
theorem d_T_init_36 : decode b_T_init 36 = .ok (.iload_n 3, 1) := by decide +kernel
theorem d_T_init_37 : decode b_T_init 37 = .ok (.aload_n 0, 1) := by decide +kernel
theorem d_T_init_38 : decode b_T_init 38 = .ok (.getfield 15, 3) := by decide +kernel
theorem d_T_init_41 : decode b_T_init 41 = .ok (.arraylength, 1) := by decide +kernel
theorem d_T_init_42 : decode b_T_init 42 = .ok (.if_icmp .ge 16, 3) := by decide +kernel
theorem d_T_init_45 : decode b_T_init 45 = .ok (.aload_n 0, 1) := by decide +kernel
theorem d_T_init_46 : decode b_T_init 46 = .ok (.getfield 15, 3) := by decide +kernel
theorem d_T_init_49 : decode b_T_init 49 = .ok (.iload_n 3, 1) := by decide +kernel
theorem d_T_init_50 : decode b_T_init 50 = .ok (.iconst (-1), 1) := by decide +kernel
theorem d_T_init_51 : decode b_T_init 51 = .ok (.iastore, 1) := by decide +kernel
theorem d_T_init_52 : decode b_T_init 52 = .ok (.iinc 3 1, 3) := by decide +kernel
theorem d_T_init_55 : decode b_T_init 55 = .ok (.goto (-19), 3) := by decide +kernel
theorem d_T_init_58 : decode b_T_init 58 = .ok (.return_, 1) := by decide +kernel
theorem d_T_hasField_0 : decode b_T_hasField 0 = .ok (.iload_n 1, 1) := by decide +kernel
theorem d_T_hasField_1 : decode b_T_hasField 1 = .ok (.ifCond .lt 16, 3) := by decide +kernel
theorem d_T_hasField_4 : decode b_T_hasField 4 = .ok (.iload_n 1, 1) := by decide +kernel
theorem d_T_hasField_5 : decode b_T_hasField 5 = .ok (.aload_n 0, 1) := by decide +kernel
theorem d_T_hasField_6 : decode b_T_hasField 6 = .ok (.getfield 15, 3) := by decide +kernel
theorem d_T_hasField_9 : decode b_T_hasField 9 = .ok (.arraylength, 1) := by decide +kernel
theorem d_T_hasField_10 : decode b_T_hasField 10 = .ok (.if_icmp .ge 7, 3) := by decide +kernel
theorem d_T_hasField_13 : decode b_T_hasField 13 = .ok (.iconst 1, 1) := by decide +kernel
theorem d_T_hasField_14 : decode b_T_hasField 14 = .ok (.goto 4, 3) := by decide +kernel
theorem d_T_hasField_17 : decode b_T_hasField 17 = .ok (.iconst 0, 1) := by decide +kernel
theorem d_T_hasField_18 : decode b_T_hasField 18 = .ok (.ireturn, 1) := by decide +kernel
theorem d_T_hasWeakField_0 : decode b_T_hasWeakField 0 = .ok (.aload_n 0, 1) := by decide +kernel
theorem d_T_hasWeakField_1 : decode b_T_hasWeakField 1 = .ok (.getfield 9, 3) := by decide +kernel
theorem d_T_hasWeakField_4 : decode b_T_hasWeakField 4 = .ok (.iconst 1, 1) := by decide +kernel
theorem d_T_hasWeakField_5 : decode b_T_hasWeakField 5 = .ok (.if_icmp .ne 15, 3) := by decide +kernel
theorem d_T_hasWeakField_8 : decode b_T_hasWeakField 8 = .ok (.aload_n 0, 1) := by decide +kernel
theorem d_T_hasWeakField_9 : decode b_T_hasWeakField 9 = .ok (.iconst 0, 1) := by decide +kernel
theorem d_T_hasWeakField_10 : decode b_T_hasWeakField 10 = .ok (.invokevirtual 26, 3) := by decide +kernel
theorem d_T_hasWeakField_13 : decode b_T_hasWeakField 13 = .ok (.ifCond .eq 7, 3) := by decide +kernel
theorem d_T_hasWeakField_16 : decode b_T_hasWeakField 16 = .ok (.iconst 1, 1) := by decide +kernel
theorem d_T_hasWeakField_17 : decode b_T_hasWeakField 17 = .ok (.goto 4, 3) := by decide +kernel
theorem d_T_hasWeakField_20 : decode b_T_hasWeakField 20 = .ok (.iconst 0, 1) := by decide +kernel
theorem d_T_hasWeakField_21 : decode b_T_hasWeakField 21 = .ok (.ireturn, 1) := by decide +kernel
theorem d_T_waitsForQueue_0 : decode b_T_waitsForQueue 0 = .ok (.aload_n 0, 1) := by decide +kernel
theorem d_T_waitsForQueue_1 : decode b_T_waitsForQueue 1 = .ok (.getfield 9, 3) := by decide +kernel
theorem d_T_waitsForQueue_4 : decode b_T_waitsForQueue 4 = .ok (.iconst 2, 1) := by decide +kernel
theorem d_T_waitsForQueue_5 : decode b_T_waitsForQueue 5 = .ok (.if_icmp .ne 14, 3) := by decide +kernel
theorem d_T_waitsForQueue_8 : decode b_T_waitsForQueue 8 = .ok (.aload_n 0, 1) := by decide +kernel
theorem d_T_waitsForQueue_9 : decode b_T_waitsForQueue 9 = .ok (.getfield 19, 3) := by decide +kernel
theorem d_T_waitsForQueue_12 : decode b_T_waitsForQueue 12 = .ok (.ifCond .ne 7, 3) := by decide +kernel
theorem d_T_waitsForQueue_15 : decode b_T_waitsForQueue 15 = .ok (.iconst 1, 1) := by decide +kernel
theorem d_T_waitsForQueue_16 : decode b_T_waitsForQueue 16 = .ok (.goto 4, 3) := by decide +kernel
theorem d_T_waitsForQueue_19 : decode b_T_waitsForQueue 19 = .ok (.iconst 0, 1) := by decide +kernel
theorem d_T_waitsForQueue_20 : decode b_T_waitsForQueue 20 = .ok (.ireturn, 1) := by decide +kernel
theorem d_S_init_0 : decode b_S_init 0 = .ok (.aload_n 0, 1) := by decide +kernel
theorem d_S_init_1 : decode b_S_init 1 = .ok (.invokespecial 3, 3) := by decide +kernel
theorem d_S_init_4 : decode b_S_init 4 = .ok (.aload_n 0, 1) := by decide +kernel
theorem d_S_init_5 : decode b_S_init 5 = .ok (.sipush 300, 3) := by decide +kernel
theorem d_S_init_8 : decode b_S_init 8 = .ok (.newarray .boolean, 2) := by decide +kernel
theorem d_S_init_10 : decode b_S_init 10 = .ok (.putfield 9, 3) := by decide +kernel
theorem d_S_init_13 : decode b_S_init 13 = .ok (.aload_n 0, 1) := by decide +kernel
theorem d_S_init_14 : decode b_S_init 14 = .ok (.sipush 300, 3) := by decide +kernel
theorem d_S_init_17 : decode b_S_init 17 = .ok (.newarray .int, 2) := by decide +kernel
theorem d_S_init_19 : decode b_S_init 19 = .ok (.putfield 15, 3) := by decide +kernel
theorem d_S_init_22 : decode b_S_init 22 = .ok (.aload_n 0, 1) := by decide +kernel
theorem d_S_init_23 : decode b_S_init 23 = .ok (.iconst 0, 1) := by decide +kernel
theorem d_S_init_24 : decode b_S_init 24 = .ok (.putfield 19, 3) := by decide +kernel
theorem d_S_init_27 : decode b_S_init 27 = .ok (.return_, 1) := by decide +kernel
theorem d_S_forgetAll_0 : decode b_S_forgetAll 0 = .ok (.iconst 0, 1) := by decide +kernel
theorem d_S_forgetAll_1 : decode b_S_forgetAll 1 = .ok (.istore_n 1, 1) := by decide +kernel
theorem d_S_forgetAll_2 : decode b_S_forgetAll 2 = .ok (.iload_n 1, 1) := by decide +kernel
theorem d_S_forgetAll_3 : decode b_S_forgetAll 3 = .ok (.aload_n 0, 1) := by decide +kernel
theorem d_S_forgetAll_4 : decode b_S_forgetAll 4 = .ok (.getfield 9, 3) := by decide +kernel
theorem d_S_forgetAll_7 : decode b_S_forgetAll 7 = .ok (.arraylength, 1) := by decide +kernel
theorem d_S_forgetAll_8 : decode b_S_forgetAll 8 = .ok (.if_icmp .ge 16, 3) := by decide +kernel
theorem d_S_forgetAll_11 : decode b_S_forgetAll 11 = .ok (.aload_n 0, 1) := by decide +kernel
theorem d_S_forgetAll_12 : decode b_S_forgetAll 12 = .ok (.getfield 9, 3) := by decide +kernel
theorem d_S_forgetAll_15 : decode b_S_forgetAll 15 = .ok (.iload_n 1, 1) := by decide +kernel
theorem d_S_forgetAll_16 : decode b_S_forgetAll 16 = .ok (.iconst 0, 1) := by decide +kernel
theorem d_S_forgetAll_17 : decode b_S_forgetAll 17 = .ok (.bastore, 1) := by decide +kernel
theorem d_S_forgetAll_18 : decode b_S_forgetAll 18 = .ok (.iinc 1 1, 3) := by decide +kernel
theorem d_S_forgetAll_21 : decode b_S_forgetAll 21 = .ok (.goto (-19), 3) := by decide +kernel
theorem d_S_forgetAll_24 : decode b_S_forgetAll 24 = .ok (.aload_n 0, 1) := by decide +kernel
theorem d_S_forgetAll_25 : decode b_S_forgetAll 25 = .ok (.iconst 0, 1) := by decide +kernel
theorem d_S_forgetAll_26 : decode b_S_forgetAll 26 = .ok (.putfield 19, 3) := by decide +kernel
theorem d_S_forgetAll_29 : decode b_S_forgetAll 29 = .ok (.return_, 1) := by decide +kernel
theorem d_S_add_0 : decode b_S_add 0 = .ok (.iload_n 1, 1) := by decide +kernel
theorem d_S_add_1 : decode b_S_add 1 = .ok (.ifCond .lt 40, 3) := by decide +kernel
theorem d_S_add_4 : decode b_S_add 4 = .ok (.iload_n 1, 1) := by decide +kernel
theorem d_S_add_5 : decode b_S_add 5 = .ok (.aload_n 0, 1) := by decide +kernel
theorem d_S_add_6 : decode b_S_add 6 = .ok (.getfield 9, 3) := by decide +kernel
theorem d_S_add_9 : decode b_S_add 9 = .ok (.arraylength, 1) := by decide +kernel
theorem d_S_add_10 : decode b_S_add 10 = .ok (.if_icmp .ge 31, 3) := by decide +kernel
theorem d_S_add_13 : decode b_S_add 13 = .ok (.aload_n 0, 1) := by decide +kernel
theorem d_S_add_14 : decode b_S_add 14 = .ok (.getfield 9, 3) := by decide +kernel
theorem d_S_add_17 : decode b_S_add 17 = .ok (.iload_n 1, 1) := by decide +kernel
theorem d_S_add_18 : decode b_S_add 18 = .ok (.baload, 1) := by decide +kernel
theorem d_S_add_19 : decode b_S_add 19 = .ok (.ifCond .ne 22, 3) := by decide +kernel
theorem d_S_add_22 : decode b_S_add 22 = .ok (.aload_n 0, 1) := by decide +kernel
theorem d_S_add_23 : decode b_S_add 23 = .ok (.getfield 19, 3) := by decide +kernel
theorem d_S_add_26 : decode b_S_add 26 = .ok (.ifCond .lt 15, 3) := by decide +kernel
theorem d_S_add_29 : decode b_S_add 29 = .ok (.aload_n 0, 1) := by decide +kernel
theorem d_S_add_30 : decode b_S_add 30 = .ok (.getfield 19, 3) := by decide +kernel
theorem d_S_add_33 : decode b_S_add 33 = .ok (.aload_n 0, 1) := by decide +kernel
theorem d_S_add_34 : decode b_S_add 34 = .ok (.getfield 15, 3) := by decide +kernel
theorem d_S_add_37 : decode b_S_add 37 = .ok (.arraylength, 1) := by decide +kernel
theorem d_S_add_38 : decode b_S_add 38 = .ok (.if_icmp .lt 4, 3) := by decide +kernel
theorem d_S_add_41 : decode b_S_add 41 = .ok (.return_, 1) := by decide +kernel
theorem d_S_add_42 : decode b_S_add 42 = .ok (.aload_n 0, 1) := by decide +kernel
theorem d_S_add_43 : decode b_S_add 43 = .ok (.getfield 9, 3) := by decide +kernel
theorem d_S_add_46 : decode b_S_add 46 = .ok (.iload_n 1, 1) := by decide +kernel
theorem d_S_add_47 : decode b_S_add 47 = .ok (.iconst 1, 1) := by decide +kernel
theorem d_S_add_48 : decode b_S_add 48 = .ok (.bastore, 1) := by decide +kernel
theorem d_S_add_49 : decode b_S_add 49 = .ok (.aload_n 0, 1) := by decide +kernel
theorem d_S_add_50 : decode b_S_add 50 = .ok (.getfield 15, 3) := by decide +kernel
theorem d_S_add_53 : decode b_S_add 53 = .ok (.aload_n 0, 1) := by decide +kernel
theorem d_S_add_54 : decode b_S_add 54 = .ok (.getfield 19, 3) := by decide +kernel
theorem d_S_add_57 : decode b_S_add 57 = .ok (.iload_n 1, 1) := by decide +kernel
theorem d_S_add_58 : decode b_S_add 58 = .ok (.iastore, 1) := by decide +kernel
theorem d_S_add_59 : decode b_S_add 59 = .ok (.aload_n 0, 1) := by decide +kernel
theorem d_S_add_60 : decode b_S_add 60 = .ok (.dup, 1) := by decide +kernel
theorem d_S_add_61 : decode b_S_add 61 = .ok (.getfield 19, 3) := by decide +kernel
theorem d_S_add_64 : decode b_S_add 64 = .ok (.iconst 1, 1) := by decide +kernel
theorem d_S_add_65 : decode b_S_add 65 = .ok (.iadd, 1) := by decide +kernel
theorem d_S_add_66 : decode b_S_add 66 = .ok (.putfield 19, 3) := by decide +kernel
theorem d_S_add_69 : decode b_S_add 69 = .ok (.return_, 1) := by decide +kernel
theorem d_S_has_0 : decode b_S_has 0 = .ok (.iload_n 1, 1) := by decide +kernel
theorem d_S_has_1 : decode b_S_has 1 = .ok (.ifCond .lt 25, 3) := by decide +kernel
theorem d_S_has_4 : decode b_S_has 4 = .ok (.iload_n 1, 1) := by decide +kernel
theorem d_S_has_5 : decode b_S_has 5 = .ok (.aload_n 0, 1) := by decide +kernel
theorem d_S_has_6 : decode b_S_has 6 = .ok (.getfield 9, 3) := by decide +kernel
theorem d_S_has_9 : decode b_S_has 9 = .ok (.arraylength, 1) := by decide +kernel
theorem d_S_has_10 : decode b_S_has 10 = .ok (.if_icmp .ge 16, 3) := by decide +kernel
theorem d_S_has_13 : decode b_S_has 13 = .ok (.aload_n 0, 1) := by decide +kernel
theorem d_S_has_14 : decode b_S_has 14 = .ok (.getfield 9, 3) := by decide +kernel
theorem d_S_has_17 : decode b_S_has 17 = .ok (.iload_n 1, 1) := by decide +kernel
theorem d_S_has_18 : decode b_S_has 18 = .ok (.baload, 1) := by decide +kernel
theorem d_S_has_19 : decode b_S_has 19 = .ok (.ifCond .eq 7, 3) := by decide +kernel
theorem d_S_has_22 : decode b_S_has 22 = .ok (.iconst 1, 1) := by decide +kernel
theorem d_S_has_23 : decode b_S_has 23 = .ok (.goto 4, 3) := by decide +kernel
theorem d_S_has_26 : decode b_S_has 26 = .ok (.iconst 0, 1) := by decide +kernel
theorem d_S_has_27 : decode b_S_has 27 = .ok (.ireturn, 1) := by decide +kernel
theorem d_S_at_0 : decode b_S_at 0 = .ok (.iload_n 1, 1) := by decide +kernel
theorem d_S_at_1 : decode b_S_at 1 = .ok (.ifCond .lt 29, 3) := by decide +kernel
theorem d_S_at_4 : decode b_S_at 4 = .ok (.iload_n 1, 1) := by decide +kernel
theorem d_S_at_5 : decode b_S_at 5 = .ok (.aload_n 0, 1) := by decide +kernel
theorem d_S_at_6 : decode b_S_at 6 = .ok (.getfield 19, 3) := by decide +kernel
theorem d_S_at_9 : decode b_S_at 9 = .ok (.if_icmp .ge 21, 3) := by decide +kernel
theorem d_S_at_12 : decode b_S_at 12 = .ok (.iload_n 1, 1) := by decide +kernel
theorem d_S_at_13 : decode b_S_at 13 = .ok (.aload_n 0, 1) := by decide +kernel
theorem d_S_at_14 : decode b_S_at 14 = .ok (.getfield 15, 3) := by decide +kernel
theorem d_S_at_17 : decode b_S_at 17 = .ok (.arraylength, 1) := by decide +kernel
theorem d_S_at_18 : decode b_S_at 18 = .ok (.if_icmp .ge 12, 3) := by decide +kernel
theorem d_S_at_21 : decode b_S_at 21 = .ok (.aload_n 0, 1) := by decide +kernel
theorem d_S_at_22 : decode b_S_at 22 = .ok (.getfield 15, 3) := by decide +kernel
theorem d_S_at_25 : decode b_S_at 25 = .ok (.iload_n 1, 1) := by decide +kernel
theorem d_S_at_26 : decode b_S_at 26 = .ok (.iaload, 1) := by decide +kernel
theorem d_S_at_27 : decode b_S_at 27 = .ok (.goto 4, 3) := by decide +kernel
theorem d_S_at_30 : decode b_S_at 30 = .ok (.iconst (-1), 1) := by decide +kernel
theorem d_S_at_31 : decode b_S_at 31 = .ok (.ireturn, 1) := by decide +kernel
end
section
/-! Decode rows. -/
theorem d_K_init_0 : decode b_K_init 0 = .ok (.aload_n 0, 1) := by decide +kernel
theorem d_K_init_1 : decode b_K_init 1 = .ok (.invokespecial 1, 3) := by decide +kernel
theorem d_K_init_4 : decode b_K_init 4 = .ok (.aload_n 0, 1) := by decide +kernel
theorem d_K_init_5 : decode b_K_init 5 = .ok (.sipush 300, 3) := by decide +kernel
theorem d_K_init_8 : decode b_K_init 8 = .ok (.anewarray 9, 3) := by decide +kernel
theorem d_K_init_11 : decode b_K_init 11 = .ok (.putfield 11, 3) := by decide +kernel
theorem d_K_init_14 : decode b_K_init 14 = .ok (.aload_n 0, 1) := by decide +kernel
theorem d_K_init_15 : decode b_K_init 15 = .ok (.bipush 16, 2) := by decide +kernel
theorem d_K_init_17 : decode b_K_init 17 = .ok (.newarray .int, 2) := by decide +kernel
theorem d_K_init_19 : decode b_K_init 19 = .ok (.putfield 15, 3) := by decide +kernel
theorem d_K_init_22 : decode b_K_init 22 = .ok (.iconst 0, 1) := by decide +kernel
theorem d_K_init_23 : decode b_K_init 23 = .ok (.istore_n 1, 1) := by decide +kernel
theorem d_K_init_24 : decode b_K_init 24 = .ok (.iload_n 1, 1) := by decide +kernel
theorem d_K_init_25 : decode b_K_init 25 = .ok (.aload_n 0, 1) := by decide +kernel
theorem d_K_init_26 : decode b_K_init 26 = .ok (.getfield 15, 3) := by decide +kernel
theorem d_K_init_29 : decode b_K_init 29 = .ok (.arraylength, 1) := by decide +kernel
theorem d_K_init_30 : decode b_K_init 30 = .ok (.if_icmp .ge 16, 3) := by decide +kernel
theorem d_K_init_33 : decode b_K_init 33 = .ok (.aload_n 0, 1) := by decide +kernel
theorem d_K_init_34 : decode b_K_init 34 = .ok (.getfield 15, 3) := by decide +kernel
theorem d_K_init_37 : decode b_K_init 37 = .ok (.iload_n 1, 1) := by decide +kernel
theorem d_K_init_38 : decode b_K_init 38 = .ok (.iconst (-1), 1) := by decide +kernel
theorem d_K_init_39 : decode b_K_init 39 = .ok (.iastore, 1) := by decide +kernel
theorem d_K_init_40 : decode b_K_init 40 = .ok (.iinc 1 1, 3) := by decide +kernel
theorem d_K_init_43 : decode b_K_init 43 = .ok (.goto (-19), 3) := by decide +kernel
theorem d_K_init_46 : decode b_K_init 46 = .ok (.aload_n 0, 1) := by decide +kernel
theorem d_K_init_47 : decode b_K_init 47 = .ok (.sipush 300, 3) := by decide +kernel
theorem d_K_init_50 : decode b_K_init 50 = .ok (.newarray .int, 2) := by decide +kernel
theorem d_K_init_52 : decode b_K_init 52 = .ok (.putfield 19, 3) := by decide +kernel
theorem d_K_init_55 : decode b_K_init 55 = .ok (.aload_n 0, 1) := by decide +kernel
theorem d_K_init_56 : decode b_K_init 56 = .ok (.new 22, 3) := by decide +kernel
theorem d_K_init_59 : decode b_K_init 59 = .ok (.dup, 1) := by decide +kernel
theorem d_K_init_60 : decode b_K_init 60 = .ok (.invokespecial 24, 3) := by decide +kernel
theorem d_K_init_63 : decode b_K_init 63 = .ok (.putfield 25, 3) := by decide +kernel
theorem d_K_init_66 : decode b_K_init 66 = .ok (.aload_n 0, 1) := by decide +kernel
theorem d_K_init_67 : decode b_K_init 67 = .ok (.new 22, 3) := by decide +kernel
theorem d_K_init_70 : decode b_K_init 70 = .ok (.dup, 1) := by decide +kernel
theorem d_K_init_71 : decode b_K_init 71 = .ok (.invokespecial 24, 3) := by decide +kernel
theorem d_K_init_74 : decode b_K_init 74 = .ok (.putfield 29, 3) := by decide +kernel
theorem d_K_init_77 : decode b_K_init 77 = .ok (.return_, 1) := by decide +kernel
theorem d_K_make_0 : decode b_K_make 0 = .ok (.iload_n 1, 1) := by decide +kernel
theorem d_K_make_1 : decode b_K_make 1 = .ok (.ifCond .lt 8, 3) := by decide +kernel
theorem d_K_make_4 : decode b_K_make 4 = .ok (.iload_n 1, 1) := by decide +kernel
theorem d_K_make_5 : decode b_K_make 5 = .ok (.iconst 2, 1) := by decide +kernel
theorem d_K_make_6 : decode b_K_make 6 = .ok (.if_icmp .le 13, 3) := by decide +kernel
theorem d_K_make_9 : decode b_K_make 9 = .ok (.new 32, 3) := by decide +kernel
theorem d_K_make_12 : decode b_K_make 12 = .ok (.dup, 1) := by decide +kernel
theorem d_K_make_13 : decode b_K_make 13 = .ok (.ldc 34, 2) := by decide +kernel
theorem d_K_make_15 : decode b_K_make 15 = .ok (.invokespecial 36, 3) := by decide +kernel
theorem d_K_make_18 : decode b_K_make 18 = .ok (.athrow, 1) := by decide +kernel
theorem d_K_make_19 : decode b_K_make 19 = .ok (.iload_n 2, 1) := by decide +kernel
theorem d_K_make_20 : decode b_K_make 20 = .ok (.ifCond .lt 9, 3) := by decide +kernel
theorem d_K_make_23 : decode b_K_make 23 = .ok (.iload_n 2, 1) := by decide +kernel
theorem d_K_make_24 : decode b_K_make 24 = .ok (.bipush 12, 2) := by decide +kernel
theorem d_K_make_26 : decode b_K_make 26 = .ok (.if_icmp .le 13, 3) := by decide +kernel
theorem d_K_make_29 : decode b_K_make 29 = .ok (.new 32, 3) := by decide +kernel
theorem d_K_make_32 : decode b_K_make 32 = .ok (.dup, 1) := by decide +kernel
theorem d_K_make_33 : decode b_K_make 33 = .ok (.ldc 39, 2) := by decide +kernel
theorem d_K_make_35 : decode b_K_make 35 = .ok (.invokespecial 36, 3) := by decide +kernel
theorem d_K_make_38 : decode b_K_make 38 = .ok (.athrow, 1) := by decide +kernel
theorem d_K_make_39 : decode b_K_make 39 = .ok (.iload_n 1, 1) := by decide +kernel
theorem d_K_make_40 : decode b_K_make 40 = .ok (.iconst 1, 1) := by decide +kernel
theorem d_K_make_41 : decode b_K_make 41 = .ok (.if_icmp .ne 17, 3) := by decide +kernel
theorem d_K_make_44 : decode b_K_make 44 = .ok (.iload_n 2, 1) := by decide +kernel
theorem d_K_make_45 : decode b_K_make 45 = .ok (.ifCond .ne 13, 3) := by decide +kernel
theorem d_K_make_48 : decode b_K_make 48 = .ok (.new 32, 3) := by decide +kernel
theorem d_K_make_51 : decode b_K_make 51 = .ok (.dup, 1) := by decide +kernel
theorem d_K_make_52 : decode b_K_make 52 = .ok (.ldc 41, 2) := by decide +kernel
theorem d_K_make_54 : decode b_K_make 54 = .ok (.invokespecial 36, 3) := by decide +kernel
theorem d_K_make_57 : decode b_K_make 57 = .ok (.athrow, 1) := by decide +kernel
theorem d_K_make_58 : decode b_K_make 58 = .ok (.aload_n 0, 1) := by decide +kernel
theorem d_K_make_59 : decode b_K_make 59 = .ok (.getfield 43, 3) := by decide +kernel
theorem d_K_make_62 : decode b_K_make 62 = .ok (.ifCond .lt 15, 3) := by decide +kernel
theorem d_K_make_65 : decode b_K_make 65 = .ok (.aload_n 0, 1) := by decide +kernel
theorem d_K_make_66 : decode b_K_make 66 = .ok (.getfield 43, 3) := by decide +kernel
theorem d_K_make_69 : decode b_K_make 69 = .ok (.aload_n 0, 1) := by decide +kernel
theorem d_K_make_70 : decode b_K_make 70 = .ok (.getfield 11, 3) := by decide +kernel
theorem d_K_make_73 : decode b_K_make 73 = .ok (.arraylength, 1) := by decide +kernel
theorem d_K_make_74 : decode b_K_make 74 = .ok (.if_icmp .lt 13, 3) := by decide +kernel
theorem d_K_make_77 : decode b_K_make 77 = .ok (.new 47, 3) := by decide +kernel
theorem d_K_make_80 : decode b_K_make 80 = .ok (.dup, 1) := by decide +kernel
theorem d_K_make_81 : decode b_K_make 81 = .ok (.ldc 49, 2) := by decide +kernel
theorem d_K_make_83 : decode b_K_make 83 = .ok (.invokespecial 51, 3) := by decide +kernel
theorem d_K_make_86 : decode b_K_make 86 = .ok (.athrow, 1) := by decide +kernel
theorem d_K_make_87 : decode b_K_make 87 = .ok (.aload_n 0, 1) := by decide +kernel
theorem d_K_make_88 : decode b_K_make 88 = .ok (.getfield 43, 3) := by decide +kernel
theorem d_K_make_91 : decode b_K_make 91 = .ok (.istore_n 3, 1) := by decide +kernel
theorem d_K_make_92 : decode b_K_make 92 = .ok (.aload_n 0, 1) := by decide +kernel
theorem d_K_make_93 : decode b_K_make 93 = .ok (.getfield 11, 3) := by decide +kernel
theorem d_K_make_96 : decode b_K_make 96 = .ok (.iload_n 3, 1) := by decide +kernel
theorem d_K_make_97 : decode b_K_make 97 = .ok (.new 9, 3) := by decide +kernel
theorem d_K_make_100 : decode b_K_make 100 = .ok (.dup, 1) := by decide +kernel
theorem d_K_make_101 : decode b_K_make 101 = .ok (.iload_n 1, 1) := by decide +kernel
theorem d_K_make_102 : decode b_K_make 102 = .ok (.iload_n 2, 1) := by decide +kernel
theorem d_K_make_103 : decode b_K_make 103 = .ok (.invokespecial 52, 3) := by decide +kernel
theorem d_K_make_106 : decode b_K_make 106 = .ok (.aastore, 1) := by decide +kernel
theorem d_K_make_107 : decode b_K_make 107 = .ok (.aload_n 0, 1) := by decide +kernel
theorem d_K_make_108 : decode b_K_make 108 = .ok (.dup, 1) := by decide +kernel
theorem d_K_make_109 : decode b_K_make 109 = .ok (.getfield 43, 3) := by decide +kernel
theorem d_K_make_112 : decode b_K_make 112 = .ok (.iconst 1, 1) := by decide +kernel
theorem d_K_make_113 : decode b_K_make 113 = .ok (.iadd, 1) := by decide +kernel
theorem d_K_make_114 : decode b_K_make 114 = .ok (.putfield 43, 3) := by decide +kernel
theorem d_K_make_117 : decode b_K_make 117 = .ok (.aload_n 0, 1) := by decide +kernel
theorem d_K_make_118 : decode b_K_make 118 = .ok (.dup, 1) := by decide +kernel
theorem d_K_make_119 : decode b_K_make 119 = .ok (.getfield 55, 3) := by decide +kernel
theorem d_K_make_122 : decode b_K_make 122 = .ok (.iconst 1, 1) := by decide +kernel
theorem d_K_make_123 : decode b_K_make 123 = .ok (.iadd, 1) := by decide +kernel
theorem d_K_make_124 : decode b_K_make 124 = .ok (.putfield 55, 3) := by decide +kernel
theorem d_K_make_127 : decode b_K_make 127 = .ok (.iload_n 3, 1) := by decide +kernel
theorem d_K_make_128 : decode b_K_make 128 = .ok (.ireturn, 1) := by decide +kernel
theorem d_K_set_0 : decode b_K_set 0 = .ok (.aload_n 0, 1) := by decide +kernel
theorem d_K_set_1 : decode b_K_set 1 = .ok (.iload_n 1, 1) := by decide +kernel
theorem d_K_set_2 : decode b_K_set 2 = .ok (.iload_n 2, 1) := by decide +kernel
theorem d_K_set_3 : decode b_K_set 3 = .ok (.invokevirtual 58, 3) := by decide +kernel
theorem d_K_set_6 : decode b_K_set 6 = .ok (.astore 4, 2) := by decide +kernel
theorem d_K_set_8 : decode b_K_set 8 = .ok (.aload_n 0, 1) := by decide +kernel
theorem d_K_set_9 : decode b_K_set 9 = .ok (.iload_n 3, 1) := by decide +kernel
theorem d_K_set_10 : decode b_K_set 10 = .ok (.invokevirtual 62, 3) := by decide +kernel
theorem d_K_set_13 : decode b_K_set 13 = .ok (.aload 4, 2) := by decide +kernel
theorem d_K_set_15 : decode b_K_set 15 = .ok (.getfield 66, 3) := by decide +kernel
theorem d_K_set_18 : decode b_K_set 18 = .ok (.iload_n 2, 1) := by decide +kernel
theorem d_K_set_19 : decode b_K_set 19 = .ok (.iaload, 1) := by decide +kernel
theorem d_K_set_20 : decode b_K_set 20 = .ok (.istore 5, 2) := by decide +kernel
theorem d_K_set_22 : decode b_K_set 22 = .ok (.aload 4, 2) := by decide +kernel
theorem d_K_set_24 : decode b_K_set 24 = .ok (.getfield 66, 3) := by decide +kernel
theorem d_K_set_27 : decode b_K_set 27 = .ok (.iload_n 2, 1) := by decide +kernel
theorem d_K_set_28 : decode b_K_set 28 = .ok (.iload_n 3, 1) := by decide +kernel
theorem d_K_set_29 : decode b_K_set 29 = .ok (.iastore, 1) := by decide +kernel
theorem d_K_set_30 : decode b_K_set 30 = .ok (.iload 5, 2) := by decide +kernel
theorem d_K_set_32 : decode b_K_set 32 = .ok (.ireturn, 1) := by decide +kernel
theorem d_K_get_0 : decode b_K_get 0 = .ok (.aload_n 0, 1) := by decide +kernel
theorem d_K_get_1 : decode b_K_get 1 = .ok (.iload_n 1, 1) := by decide +kernel
theorem d_K_get_2 : decode b_K_get 2 = .ok (.iload_n 2, 1) := by decide +kernel
theorem d_K_get_3 : decode b_K_get 3 = .ok (.invokevirtual 58, 3) := by decide +kernel
theorem d_K_get_6 : decode b_K_get 6 = .ok (.getfield 66, 3) := by decide +kernel
theorem d_K_get_9 : decode b_K_get 9 = .ok (.iload_n 2, 1) := by decide +kernel
theorem d_K_get_10 : decode b_K_get 10 = .ok (.iaload, 1) := by decide +kernel
theorem d_K_get_11 : decode b_K_get 11 = .ok (.ireturn, 1) := by decide +kernel
theorem d_K_root_0 : decode b_K_root 0 = .ok (.iload_n 1, 1) := by decide +kernel
theorem d_K_root_1 : decode b_K_root 1 = .ok (.ifCond .lt 12, 3) := by decide +kernel
theorem d_K_root_4 : decode b_K_root 4 = .ok (.iload_n 1, 1) := by decide +kernel
theorem d_K_root_5 : decode b_K_root 5 = .ok (.aload_n 0, 1) := by decide +kernel
theorem d_K_root_6 : decode b_K_root 6 = .ok (.getfield 15, 3) := by decide +kernel
theorem d_K_root_9 : decode b_K_root 9 = .ok (.arraylength, 1) := by decide +kernel
theorem d_K_root_10 : decode b_K_root 10 = .ok (.if_icmp .lt 13, 3) := by decide +kernel
theorem d_K_root_13 : decode b_K_root 13 = .ok (.new 69, 3) := by decide +kernel
theorem d_K_root_16 : decode b_K_root 16 = .ok (.dup, 1) := by decide +kernel
theorem d_K_root_17 : decode b_K_root 17 = .ok (.ldc 71, 2) := by decide +kernel
theorem d_K_root_19 : decode b_K_root 19 = .ok (.invokespecial 73, 3) := by decide +kernel
theorem d_K_root_22 : decode b_K_root 22 = .ok (.athrow, 1) := by decide +kernel
theorem d_K_root_23 : decode b_K_root 23 = .ok (.aload_n 0, 1) := by decide +kernel
theorem d_K_root_24 : decode b_K_root 24 = .ok (.iload_n 2, 1) := by decide +kernel
theorem d_K_root_25 : decode b_K_root 25 = .ok (.invokevirtual 62, 3) := by decide +kernel
theorem d_K_root_28 : decode b_K_root 28 = .ok (.aload_n 0, 1) := by decide +kernel
theorem d_K_root_29 : decode b_K_root 29 = .ok (.getfield 15, 3) := by decide +kernel
theorem d_K_root_32 : decode b_K_root 32 = .ok (.iload_n 1, 1) := by decide +kernel
theorem d_K_root_33 : decode b_K_root 33 = .ok (.iaload, 1) := by decide +kernel
theorem d_K_root_34 : decode b_K_root 34 = .ok (.istore_n 3, 1) := by decide +kernel
theorem d_K_root_35 : decode b_K_root 35 = .ok (.aload_n 0, 1) := by decide +kernel
theorem d_K_root_36 : decode b_K_root 36 = .ok (.getfield 15, 3) := by decide +kernel
theorem d_K_root_39 : decode b_K_root 39 = .ok (.iload_n 1, 1) := by decide +kernel
theorem d_K_root_40 : decode b_K_root 40 = .ok (.iload_n 2, 1) := by decide +kernel
theorem d_K_root_41 : decode b_K_root 41 = .ok (.iastore, 1) := by decide +kernel
theorem d_K_root_42 : decode b_K_root 42 = .ok (.iload_n 3, 1) := by decide +kernel
theorem d_K_root_43 : decode b_K_root 43 = .ok (.ireturn, 1) := by decide +kernel
theorem d_K_clear_0 : decode b_K_clear 0 = .ok (.aload_n 0, 1) := by decide +kernel
theorem d_K_clear_1 : decode b_K_clear 1 = .ok (.aload_n 0, 1) := by decide +kernel
theorem d_K_clear_2 : decode b_K_clear 2 = .ok (.getfield 25, 3) := by decide +kernel
theorem d_K_clear_5 : decode b_K_clear 5 = .ok (.invokevirtual 74, 3) := by decide +kernel
theorem d_K_clear_8 : decode b_K_clear 8 = .ok (.aload_n 0, 1) := by decide +kernel
theorem d_K_clear_9 : decode b_K_clear 9 = .ok (.invokevirtual 78, 3) := by decide +kernel
theorem d_K_clear_12 : decode b_K_clear 12 = .ok (.istore_n 1, 1) := by decide +kernel
theorem d_K_clear_13 : decode b_K_clear 13 = .ok (.aload_n 0, 1) := by decide +kernel
theorem d_K_clear_14 : decode b_K_clear 14 = .ok (.aload_n 0, 1) := by decide +kernel
theorem d_K_clear_15 : decode b_K_clear 15 = .ok (.getfield 29, 3) := by decide +kernel
theorem d_K_clear_18 : decode b_K_clear 18 = .ok (.invokevirtual 74, 3) := by decide +kernel
theorem d_K_clear_21 : decode b_K_clear 21 = .ok (.aload_n 0, 1) := by decide +kernel
theorem d_K_clear_22 : decode b_K_clear 22 = .ok (.invokevirtual 82, 3) := by decide +kernel
theorem d_K_clear_25 : decode b_K_clear 25 = .ok (.aload_n 0, 1) := by decide +kernel
theorem d_K_clear_26 : decode b_K_clear 26 = .ok (.dup, 1) := by decide +kernel
theorem d_K_clear_27 : decode b_K_clear 27 = .ok (.getfield 85, 3) := by decide +kernel
theorem d_K_clear_30 : decode b_K_clear 30 = .ok (.iconst 1, 1) := by decide +kernel
theorem d_K_clear_31 : decode b_K_clear 31 = .ok (.iadd, 1) := by decide +kernel
theorem d_K_clear_32 : decode b_K_clear 32 = .ok (.putfield 85, 3) := by decide +kernel
theorem d_K_clear_35 : decode b_K_clear 35 = .ok (.iload_n 1, 1) := by decide +kernel
theorem d_K_clear_36 : decode b_K_clear 36 = .ok (.ireturn, 1) := by decide +kernel
theorem d_K_take_0 : decode b_K_take 0 = .ok (.aload_n 0, 1) := by decide +kernel
theorem d_K_take_1 : decode b_K_take 1 = .ok (.invokevirtual 88, 3) := by decide +kernel
theorem d_K_take_4 : decode b_K_take 4 = .ok (.ifCond .gt 5, 3) := by decide +kernel
theorem d_K_take_7 : decode b_K_take 7 = .ok (.iconst (-1), 1) := by decide +kernel
theorem d_K_take_8 : decode b_K_take 8 = .ok (.ireturn, 1) := by decide +kernel
theorem d_K_take_9 : decode b_K_take 9 = .ok (.aload_n 0, 1) := by decide +kernel
theorem d_K_take_10 : decode b_K_take 10 = .ok (.iconst 0, 1) := by decide +kernel
theorem d_K_take_11 : decode b_K_take 11 = .ok (.invokevirtual 91, 3) := by decide +kernel
theorem d_K_take_14 : decode b_K_take 14 = .ok (.istore_n 1, 1) := by decide +kernel
theorem d_K_take_15 : decode b_K_take 15 = .ok (.aload_n 0, 1) := by decide +kernel
theorem d_K_take_16 : decode b_K_take 16 = .ok (.dup, 1) := by decide +kernel
theorem d_K_take_17 : decode b_K_take 17 = .ok (.getfield 95, 3) := by decide +kernel
theorem d_K_take_20 : decode b_K_take 20 = .ok (.iconst 1, 1) := by decide +kernel
theorem d_K_take_21 : decode b_K_take 21 = .ok (.iadd, 1) := by decide +kernel
theorem d_K_take_22 : decode b_K_take 22 = .ok (.putfield 95, 3) := by decide +kernel
theorem d_K_take_25 : decode b_K_take 25 = .ok (.aload_n 0, 1) := by decide +kernel
theorem d_K_take_26 : decode b_K_take 26 = .ok (.iload_n 1, 1) := by decide +kernel
theorem d_K_take_27 : decode b_K_take 27 = .ok (.invokevirtual 98, 3) := by decide +kernel
theorem d_K_take_30 : decode b_K_take 30 = .ok (.astore_n 2, 1) := by decide +kernel
theorem d_K_take_31 : decode b_K_take 31 = .ok (.aload_n 2, 1) := by decide +kernel
theorem d_K_take_32 : decode b_K_take 32 = .ok (.ifnull 8, 3) := by decide +kernel
theorem d_K_take_35 : decode b_K_take 35 = .ok (.aload_n 2, 1) := by decide +kernel
theorem d_K_take_36 : decode b_K_take 36 = .ok (.iconst 0, 1) := by decide +kernel
theorem d_K_take_37 : decode b_K_take 37 = .ok (.putfield 102, 3) := by decide +kernel
theorem d_K_take_40 : decode b_K_take 40 = .ok (.iload_n 1, 1) := by decide +kernel
theorem d_K_take_41 : decode b_K_take 41 = .ok (.ireturn, 1) := by decide +kernel
theorem d_K_queued_0 : decode b_K_queued 0 = .ok (.iload_n 1, 1) := by decide +kernel
theorem d_K_queued_1 : decode b_K_queued 1 = .ok (.ifCond .ge 13, 3) := by decide +kernel
theorem d_K_queued_4 : decode b_K_queued 4 = .ok (.new 32, 3) := by decide +kernel
theorem d_K_queued_7 : decode b_K_queued 7 = .ok (.dup, 1) := by decide +kernel
theorem d_K_queued_8 : decode b_K_queued 8 = .ok (.ldc 105, 2) := by decide +kernel
theorem d_K_queued_10 : decode b_K_queued 10 = .ok (.invokespecial 36, 3) := by decide +kernel
theorem d_K_queued_13 : decode b_K_queued 13 = .ok (.athrow, 1) := by decide +kernel
theorem d_K_queued_14 : decode b_K_queued 14 = .ok (.aload_n 0, 1) := by decide +kernel
theorem d_K_queued_15 : decode b_K_queued 15 = .ok (.iload_n 1, 1) := by decide +kernel
theorem d_K_queued_16 : decode b_K_queued 16 = .ok (.invokevirtual 91, 3) := by decide +kernel
theorem d_K_queued_19 : decode b_K_queued 19 = .ok (.ireturn, 1) := by decide +kernel
theorem d_K_sweep_0 : decode b_K_sweep 0 = .ok (.aload_n 0, 1) := by decide +kernel
theorem d_K_sweep_1 : decode b_K_sweep 1 = .ok (.aload_n 0, 1) := by decide +kernel
theorem d_K_sweep_2 : decode b_K_sweep 2 = .ok (.getfield 29, 3) := by decide +kernel
theorem d_K_sweep_5 : decode b_K_sweep 5 = .ok (.invokevirtual 107, 3) := by decide +kernel
theorem d_K_sweep_8 : decode b_K_sweep 8 = .ok (.iconst 0, 1) := by decide +kernel
theorem d_K_sweep_9 : decode b_K_sweep 9 = .ok (.istore_n 1, 1) := by decide +kernel
theorem d_K_sweep_10 : decode b_K_sweep 10 = .ok (.iconst 0, 1) := by decide +kernel
theorem d_K_sweep_11 : decode b_K_sweep 11 = .ok (.istore_n 2, 1) := by decide +kernel
theorem d_K_sweep_12 : decode b_K_sweep 12 = .ok (.iload_n 2, 1) := by decide +kernel
theorem d_K_sweep_13 : decode b_K_sweep 13 = .ok (.aload_n 0, 1) := by decide +kernel
theorem d_K_sweep_14 : decode b_K_sweep 14 = .ok (.getfield 11, 3) := by decide +kernel
theorem d_K_sweep_17 : decode b_K_sweep 17 = .ok (.arraylength, 1) := by decide +kernel
theorem d_K_sweep_18 : decode b_K_sweep 18 = .ok (.if_icmp .ge 39, 3) := by decide +kernel
theorem d_K_sweep_21 : decode b_K_sweep 21 = .ok (.aload_n 0, 1) := by decide +kernel
theorem d_K_sweep_22 : decode b_K_sweep 22 = .ok (.getfield 11, 3) := by decide +kernel
theorem d_K_sweep_25 : decode b_K_sweep 25 = .ok (.iload_n 2, 1) := by decide +kernel
theorem d_K_sweep_26 : decode b_K_sweep 26 = .ok (.aaload, 1) := by decide +kernel
theorem d_K_sweep_27 : decode b_K_sweep 27 = .ok (.ifnull 24, 3) := by decide +kernel
theorem d_K_sweep_30 : decode b_K_sweep 30 = .ok (.aload_n 0, 1) := by decide +kernel
theorem d_K_sweep_31 : decode b_K_sweep 31 = .ok (.getfield 29, 3) := by decide +kernel
theorem d_K_sweep_34 : decode b_K_sweep 34 = .ok (.iload_n 2, 1) := by decide +kernel
theorem d_K_sweep_35 : decode b_K_sweep 35 = .ok (.invokevirtual 110, 3) := by decide +kernel
theorem d_K_sweep_38 : decode b_K_sweep 38 = .ok (.ifCond .ne 13, 3) := by decide +kernel
theorem d_K_sweep_41 : decode b_K_sweep 41 = .ok (.aload_n 0, 1) := by decide +kernel
theorem d_K_sweep_42 : decode b_K_sweep 42 = .ok (.getfield 11, 3) := by decide +kernel
theorem d_K_sweep_45 : decode b_K_sweep 45 = .ok (.iload_n 2, 1) := by decide +kernel
theorem d_K_sweep_46 : decode b_K_sweep 46 = .ok (.aconst_null, 1) := by decide +kernel
theorem d_K_sweep_47 : decode b_K_sweep 47 = .ok (.aastore, 1) := by decide +kernel
theorem d_K_sweep_48 : decode b_K_sweep 48 = .ok (.iinc 1 1, 3) := by decide +kernel
theorem d_K_sweep_51 : decode b_K_sweep 51 = .ok (.iinc 2 1, 3) := by decide +kernel
theorem d_K_sweep_54 : decode b_K_sweep 54 = .ok (.goto (-42), 3) := by decide +kernel
theorem d_K_sweep_57 : decode b_K_sweep 57 = .ok (.aload_n 0, 1) := by decide +kernel
theorem d_K_sweep_58 : decode b_K_sweep 58 = .ok (.dup, 1) := by decide +kernel
theorem d_K_sweep_59 : decode b_K_sweep 59 = .ok (.getfield 55, 3) := by decide +kernel
theorem d_K_sweep_62 : decode b_K_sweep 62 = .ok (.iload_n 1, 1) := by decide +kernel
theorem d_K_sweep_63 : decode b_K_sweep 63 = .ok (.isub, 1) := by decide +kernel
theorem d_K_sweep_64 : decode b_K_sweep 64 = .ok (.putfield 55, 3) := by decide +kernel
theorem d_K_sweep_67 : decode b_K_sweep 67 = .ok (.iload_n 1, 1) := by decide +kernel
theorem d_K_sweep_68 : decode b_K_sweep 68 = .ok (.ireturn, 1) := by decide +kernel
theorem d_K_identity_0 : decode b_K_identity 0 = .ok (.aload_n 0, 1) := by decide +kernel
theorem d_K_identity_1 : decode b_K_identity 1 = .ok (.iload_n 1, 1) := by decide +kernel
theorem d_K_identity_2 : decode b_K_identity 2 = .ok (.invokevirtual 114, 3) := by decide +kernel
theorem d_K_identity_5 : decode b_K_identity 5 = .ok (.astore_n 2, 1) := by decide +kernel
theorem d_K_identity_6 : decode b_K_identity 6 = .ok (.aload_n 2, 1) := by decide +kernel
theorem d_K_identity_7 : decode b_K_identity 7 = .ok (.getfield 117, 3) := by decide +kernel
theorem d_K_identity_10 : decode b_K_identity 10 = .ok (.iconst (-1), 1) := by decide +kernel
theorem d_K_identity_11 : decode b_K_identity 11 = .ok (.if_icmp .ne 21, 3) := by decide +kernel
theorem d_K_identity_14 : decode b_K_identity 14 = .ok (.aload_n 2, 1) := by decide +kernel
theorem d_K_identity_15 : decode b_K_identity 15 = .ok (.aload_n 0, 1) := by decide +kernel
theorem d_K_identity_16 : decode b_K_identity 16 = .ok (.getfield 120, 3) := by decide +kernel
theorem d_K_identity_19 : decode b_K_identity 19 = .ok (.putfield 117, 3) := by decide +kernel
theorem d_K_identity_22 : decode b_K_identity 22 = .ok (.aload_n 0, 1) := by decide +kernel
theorem d_K_identity_23 : decode b_K_identity 23 = .ok (.dup, 1) := by decide +kernel
theorem d_K_identity_24 : decode b_K_identity 24 = .ok (.getfield 120, 3) := by decide +kernel
theorem d_K_identity_27 : decode b_K_identity 27 = .ok (.iconst 1, 1) := by decide +kernel
theorem d_K_identity_28 : decode b_K_identity 28 = .ok (.iadd, 1) := by decide +kernel
theorem d_K_identity_29 : decode b_K_identity 29 = .ok (.putfield 120, 3) := by decide +kernel
theorem d_K_identity_32 : decode b_K_identity 32 = .ok (.aload_n 2, 1) := by decide +kernel
theorem d_K_identity_33 : decode b_K_identity 33 = .ok (.getfield 117, 3) := by decide +kernel
theorem d_K_identity_36 : decode b_K_identity 36 = .ok (.ireturn, 1) := by decide +kernel
theorem d_K_about_0 : decode b_K_about 0 = .ok (.aload_n 0, 1) := by decide +kernel
theorem d_K_about_1 : decode b_K_about 1 = .ok (.iload_n 1, 1) := by decide +kernel
theorem d_K_about_2 : decode b_K_about 2 = .ok (.invokevirtual 114, 3) := by decide +kernel
theorem d_K_about_5 : decode b_K_about 5 = .ok (.astore_n 3, 1) := by decide +kernel
theorem d_K_about_6 : decode b_K_about 6 = .ok (.iload_n 2, 1) := by decide +kernel
theorem d_K_about_7 : decode b_K_about 7 = .ok (.tableswitch 90 0 3 #[29, 34, 40, 65], 29) := by decide +kernel
theorem d_K_about_36 : decode b_K_about 36 = .ok (.aload_n 3, 1) := by decide +kernel
theorem d_K_about_37 : decode b_K_about 37 = .ok (.getfield 102, 3) := by decide +kernel
theorem d_K_about_40 : decode b_K_about 40 = .ok (.ireturn, 1) := by decide +kernel
theorem d_K_about_41 : decode b_K_about 41 = .ok (.aload_n 3, 1) := by decide +kernel
theorem d_K_about_42 : decode b_K_about 42 = .ok (.getfield 66, 3) := by decide +kernel
theorem d_K_about_45 : decode b_K_about 45 = .ok (.arraylength, 1) := by decide +kernel
theorem d_K_about_46 : decode b_K_about 46 = .ok (.ireturn, 1) := by decide +kernel
theorem d_K_about_47 : decode b_K_about 47 = .ok (.aload_n 0, 1) := by decide +kernel
theorem d_K_about_48 : decode b_K_about 48 = .ok (.aload_n 0, 1) := by decide +kernel
theorem d_K_about_49 : decode b_K_about 49 = .ok (.getfield 29, 3) := by decide +kernel
theorem d_K_about_52 : decode b_K_about 52 = .ok (.invokevirtual 74, 3) := by decide +kernel
theorem d_K_about_55 : decode b_K_about 55 = .ok (.aload_n 0, 1) := by decide +kernel
theorem d_K_about_56 : decode b_K_about 56 = .ok (.getfield 29, 3) := by decide +kernel
theorem d_K_about_59 : decode b_K_about 59 = .ok (.iload_n 1, 1) := by decide +kernel
theorem d_K_about_60 : decode b_K_about 60 = .ok (.invokevirtual 110, 3) := by decide +kernel
theorem d_K_about_63 : decode b_K_about 63 = .ok (.ifCond .eq 7, 3) := by decide +kernel
theorem d_K_about_66 : decode b_K_about 66 = .ok (.iconst 1, 1) := by decide +kernel
theorem d_K_about_67 : decode b_K_about 67 = .ok (.goto 4, 3) := by decide +kernel
theorem d_K_about_70 : decode b_K_about 70 = .ok (.iconst 0, 1) := by decide +kernel
theorem d_K_about_71 : decode b_K_about 71 = .ok (.ireturn, 1) := by decide +kernel
theorem d_K_about_72 : decode b_K_about 72 = .ok (.aload_n 0, 1) := by decide +kernel
theorem d_K_about_73 : decode b_K_about 73 = .ok (.aload_n 0, 1) := by decide +kernel
theorem d_K_about_74 : decode b_K_about 74 = .ok (.getfield 29, 3) := by decide +kernel
theorem d_K_about_77 : decode b_K_about 77 = .ok (.invokevirtual 107, 3) := by decide +kernel
theorem d_K_about_80 : decode b_K_about 80 = .ok (.aload_n 0, 1) := by decide +kernel
theorem d_K_about_81 : decode b_K_about 81 = .ok (.getfield 29, 3) := by decide +kernel
theorem d_K_about_84 : decode b_K_about 84 = .ok (.iload_n 1, 1) := by decide +kernel
theorem d_K_about_85 : decode b_K_about 85 = .ok (.invokevirtual 110, 3) := by decide +kernel
theorem d_K_about_88 : decode b_K_about 88 = .ok (.ifCond .eq 7, 3) := by decide +kernel
theorem d_K_about_91 : decode b_K_about 91 = .ok (.iconst 1, 1) := by decide +kernel
theorem d_K_about_92 : decode b_K_about 92 = .ok (.goto 4, 3) := by decide +kernel
theorem d_K_about_95 : decode b_K_about 95 = .ok (.iconst 0, 1) := by decide +kernel
theorem d_K_about_96 : decode b_K_about 96 = .ok (.ireturn, 1) := by decide +kernel
theorem d_K_about_97 : decode b_K_about 97 = .ok (.new 32, 3) := by decide +kernel
theorem d_K_about_100 : decode b_K_about 100 = .ok (.dup, 1) := by decide +kernel
theorem d_K_about_101 : decode b_K_about 101 = .ok (.ldc 123, 2) := by decide +kernel
theorem d_K_about_103 : decode b_K_about 103 = .ok (.invokespecial 36, 3) := by decide +kernel
theorem d_K_about_106 : decode b_K_about 106 = .ok (.athrow, 1) := by decide +kernel
theorem d_K_count_0 : decode b_K_count 0 = .ok (.iload_n 1, 1) := by decide +kernel
theorem d_K_count_1 : decode b_K_count 1 = .ok (.tableswitch 118 0 8 #[51, 56, 72, 88, 93, 98, 103, 108, 113], 51) := by decide +kernel
theorem d_K_count_52 : decode b_K_count 52 = .ok (.aload_n 0, 1) := by decide +kernel
theorem d_K_count_53 : decode b_K_count 53 = .ok (.getfield 55, 3) := by decide +kernel
theorem d_K_count_56 : decode b_K_count 56 = .ok (.ireturn, 1) := by decide +kernel
theorem d_K_count_57 : decode b_K_count 57 = .ok (.aload_n 0, 1) := by decide +kernel
theorem d_K_count_58 : decode b_K_count 58 = .ok (.aload_n 0, 1) := by decide +kernel
theorem d_K_count_59 : decode b_K_count 59 = .ok (.getfield 29, 3) := by decide +kernel
theorem d_K_count_62 : decode b_K_count 62 = .ok (.invokevirtual 74, 3) := by decide +kernel
theorem d_K_count_65 : decode b_K_count 65 = .ok (.aload_n 0, 1) := by decide +kernel
theorem d_K_count_66 : decode b_K_count 66 = .ok (.getfield 29, 3) := by decide +kernel
theorem d_K_count_69 : decode b_K_count 69 = .ok (.getfield 125, 3) := by decide +kernel
theorem d_K_count_72 : decode b_K_count 72 = .ok (.ireturn, 1) := by decide +kernel
theorem d_K_count_73 : decode b_K_count 73 = .ok (.aload_n 0, 1) := by decide +kernel
theorem d_K_count_74 : decode b_K_count 74 = .ok (.aload_n 0, 1) := by decide +kernel
theorem d_K_count_75 : decode b_K_count 75 = .ok (.getfield 29, 3) := by decide +kernel
theorem d_K_count_78 : decode b_K_count 78 = .ok (.invokevirtual 107, 3) := by decide +kernel
theorem d_K_count_81 : decode b_K_count 81 = .ok (.aload_n 0, 1) := by decide +kernel
theorem d_K_count_82 : decode b_K_count 82 = .ok (.getfield 29, 3) := by decide +kernel
theorem d_K_count_85 : decode b_K_count 85 = .ok (.getfield 125, 3) := by decide +kernel
theorem d_K_count_88 : decode b_K_count 88 = .ok (.ireturn, 1) := by decide +kernel
theorem d_K_count_89 : decode b_K_count 89 = .ok (.aload_n 0, 1) := by decide +kernel
theorem d_K_count_90 : decode b_K_count 90 = .ok (.invokevirtual 88, 3) := by decide +kernel
theorem d_K_count_93 : decode b_K_count 93 = .ok (.ireturn, 1) := by decide +kernel
theorem d_K_count_94 : decode b_K_count 94 = .ok (.aload_n 0, 1) := by decide +kernel
theorem d_K_count_95 : decode b_K_count 95 = .ok (.invokevirtual 128, 3) := by decide +kernel
theorem d_K_count_98 : decode b_K_count 98 = .ok (.ireturn, 1) := by decide +kernel
theorem d_K_count_99 : decode b_K_count 99 = .ok (.aload_n 0, 1) := by decide +kernel
theorem d_K_count_100 : decode b_K_count 100 = .ok (.getfield 131, 3) := by decide +kernel
theorem d_K_count_103 : decode b_K_count 103 = .ok (.ireturn, 1) := by decide +kernel
theorem d_K_count_104 : decode b_K_count 104 = .ok (.aload_n 0, 1) := by decide +kernel
theorem d_K_count_105 : decode b_K_count 105 = .ok (.getfield 85, 3) := by decide +kernel
theorem d_K_count_108 : decode b_K_count 108 = .ok (.ireturn, 1) := by decide +kernel
theorem d_K_count_109 : decode b_K_count 109 = .ok (.aload_n 0, 1) := by decide +kernel
theorem d_K_count_110 : decode b_K_count 110 = .ok (.getfield 120, 3) := by decide +kernel
theorem d_K_count_113 : decode b_K_count 113 = .ok (.ireturn, 1) := by decide +kernel
theorem d_K_count_114 : decode b_K_count 114 = .ok (.aload_n 0, 1) := by decide +kernel
theorem d_K_count_115 : decode b_K_count 115 = .ok (.getfield 43, 3) := by decide +kernel
theorem d_K_count_118 : decode b_K_count 118 = .ok (.ireturn, 1) := by decide +kernel
theorem d_K_count_119 : decode b_K_count 119 = .ok (.new 32, 3) := by decide +kernel
theorem d_K_count_122 : decode b_K_count 122 = .ok (.dup, 1) := by decide +kernel
theorem d_K_count_123 : decode b_K_count 123 = .ok (.ldc 134, 2) := by decide +kernel
theorem d_K_count_125 : decode b_K_count 125 = .ok (.invokespecial 36, 3) := by decide +kernel
theorem d_K_count_128 : decode b_K_count 128 = .ok (.athrow, 1) := by decide +kernel
theorem d_K_thingOrNull_0 : decode b_K_thingOrNull 0 = .ok (.iload_n 1, 1) := by decide +kernel
theorem d_K_thingOrNull_1 : decode b_K_thingOrNull 1 = .ok (.ifCond .lt 21, 3) := by decide +kernel
theorem d_K_thingOrNull_4 : decode b_K_thingOrNull 4 = .ok (.iload_n 1, 1) := by decide +kernel
theorem d_K_thingOrNull_5 : decode b_K_thingOrNull 5 = .ok (.aload_n 0, 1) := by decide +kernel
theorem d_K_thingOrNull_6 : decode b_K_thingOrNull 6 = .ok (.getfield 11, 3) := by decide +kernel
theorem d_K_thingOrNull_9 : decode b_K_thingOrNull 9 = .ok (.arraylength, 1) := by decide +kernel
theorem d_K_thingOrNull_10 : decode b_K_thingOrNull 10 = .ok (.if_icmp .ge 12, 3) := by decide +kernel
theorem d_K_thingOrNull_13 : decode b_K_thingOrNull 13 = .ok (.aload_n 0, 1) := by decide +kernel
theorem d_K_thingOrNull_14 : decode b_K_thingOrNull 14 = .ok (.getfield 11, 3) := by decide +kernel
theorem d_K_thingOrNull_17 : decode b_K_thingOrNull 17 = .ok (.iload_n 1, 1) := by decide +kernel
theorem d_K_thingOrNull_18 : decode b_K_thingOrNull 18 = .ok (.aaload, 1) := by decide +kernel
theorem d_K_thingOrNull_19 : decode b_K_thingOrNull 19 = .ok (.goto 4, 3) := by decide +kernel
theorem d_K_thingOrNull_22 : decode b_K_thingOrNull 22 = .ok (.aconst_null, 1) := by decide +kernel
theorem d_K_thingOrNull_23 : decode b_K_thingOrNull 23 = .ok (.areturn, 1) := by decide +kernel
theorem d_K_thingThere_0 : decode b_K_thingThere 0 = .ok (.aload_n 0, 1) := by decide +kernel
theorem d_K_thingThere_1 : decode b_K_thingThere 1 = .ok (.iload_n 1, 1) := by decide +kernel
theorem d_K_thingThere_2 : decode b_K_thingThere 2 = .ok (.invokevirtual 98, 3) := by decide +kernel
theorem d_K_thingThere_5 : decode b_K_thingThere 5 = .ok (.astore_n 2, 1) := by decide +kernel
theorem d_K_thingThere_6 : decode b_K_thingThere 6 = .ok (.aload_n 2, 1) := by decide +kernel
theorem d_K_thingThere_7 : decode b_K_thingThere 7 = .ok (.ifnonnull 13, 3) := by decide +kernel
theorem d_K_thingThere_10 : decode b_K_thingThere 10 = .ok (.new 69, 3) := by decide +kernel
theorem d_K_thingThere_13 : decode b_K_thingThere 13 = .ok (.dup, 1) := by decide +kernel
theorem d_K_thingThere_14 : decode b_K_thingThere 14 = .ok (.ldc 136, 2) := by decide +kernel
theorem d_K_thingThere_16 : decode b_K_thingThere 16 = .ok (.invokespecial 73, 3) := by decide +kernel
theorem d_K_thingThere_19 : decode b_K_thingThere 19 = .ok (.athrow, 1) := by decide +kernel
theorem d_K_thingThere_20 : decode b_K_thingThere 20 = .ok (.aload_n 2, 1) := by decide +kernel
theorem d_K_thingThere_21 : decode b_K_thingThere 21 = .ok (.areturn, 1) := by decide +kernel
theorem d_K_thingWithField_0 : decode b_K_thingWithField 0 = .ok (.aload_n 0, 1) := by decide +kernel
theorem d_K_thingWithField_1 : decode b_K_thingWithField 1 = .ok (.iload_n 1, 1) := by decide +kernel
theorem d_K_thingWithField_2 : decode b_K_thingWithField 2 = .ok (.invokevirtual 114, 3) := by decide +kernel
theorem d_K_thingWithField_5 : decode b_K_thingWithField 5 = .ok (.astore_n 3, 1) := by decide +kernel
theorem d_K_thingWithField_6 : decode b_K_thingWithField 6 = .ok (.aload_n 3, 1) := by decide +kernel
theorem d_K_thingWithField_7 : decode b_K_thingWithField 7 = .ok (.iload_n 2, 1) := by decide +kernel
theorem d_K_thingWithField_8 : decode b_K_thingWithField 8 = .ok (.invokevirtual 138, 3) := by decide +kernel
theorem d_K_thingWithField_11 : decode b_K_thingWithField 11 = .ok (.ifCond .ne 13, 3) := by decide +kernel
theorem d_K_thingWithField_14 : decode b_K_thingWithField 14 = .ok (.new 69, 3) := by decide +kernel
theorem d_K_thingWithField_17 : decode b_K_thingWithField 17 = .ok (.dup, 1) := by decide +kernel
theorem d_K_thingWithField_18 : decode b_K_thingWithField 18 = .ok (.ldc 141, 2) := by decide +kernel
theorem d_K_thingWithField_20 : decode b_K_thingWithField 20 = .ok (.invokespecial 73, 3) := by decide +kernel
theorem d_K_thingWithField_23 : decode b_K_thingWithField 23 = .ok (.athrow, 1) := by decide +kernel
theorem d_K_thingWithField_24 : decode b_K_thingWithField 24 = .ok (.aload_n 3, 1) := by decide +kernel
theorem d_K_thingWithField_25 : decode b_K_thingWithField 25 = .ok (.areturn, 1) := by decide +kernel
theorem d_K_needThingOrNone_0 : decode b_K_needThingOrNone 0 = .ok (.iload_n 1, 1) := by decide +kernel
theorem d_K_needThingOrNone_1 : decode b_K_needThingOrNone 1 = .ok (.iconst (-1), 1) := by decide +kernel
theorem d_K_needThingOrNone_2 : decode b_K_needThingOrNone 2 = .ok (.if_icmp .eq 21, 3) := by decide +kernel
theorem d_K_needThingOrNone_5 : decode b_K_needThingOrNone 5 = .ok (.aload_n 0, 1) := by decide +kernel
theorem d_K_needThingOrNone_6 : decode b_K_needThingOrNone 6 = .ok (.iload_n 1, 1) := by decide +kernel
theorem d_K_needThingOrNone_7 : decode b_K_needThingOrNone 7 = .ok (.invokevirtual 98, 3) := by decide +kernel
theorem d_K_needThingOrNone_10 : decode b_K_needThingOrNone 10 = .ok (.ifnonnull 13, 3) := by decide +kernel
theorem d_K_needThingOrNone_13 : decode b_K_needThingOrNone 13 = .ok (.new 69, 3) := by decide +kernel
theorem d_K_needThingOrNone_16 : decode b_K_needThingOrNone 16 = .ok (.dup, 1) := by decide +kernel
theorem d_K_needThingOrNone_17 : decode b_K_needThingOrNone 17 = .ok (.ldc 136, 2) := by decide +kernel
theorem d_K_needThingOrNone_19 : decode b_K_needThingOrNone 19 = .ok (.invokespecial 73, 3) := by decide +kernel
theorem d_K_needThingOrNone_22 : decode b_K_needThingOrNone 22 = .ok (.athrow, 1) := by decide +kernel
theorem d_K_needThingOrNone_23 : decode b_K_needThingOrNone 23 = .ok (.return_, 1) := by decide +kernel
theorem d_K_queueSize_0 : decode b_K_queueSize 0 = .ok (.aload_n 0, 1) := by decide +kernel
theorem d_K_queueSize_1 : decode b_K_queueSize 1 = .ok (.getfield 143, 3) := by decide +kernel
theorem d_K_queueSize_4 : decode b_K_queueSize 4 = .ok (.aload_n 0, 1) := by decide +kernel
theorem d_K_queueSize_5 : decode b_K_queueSize 5 = .ok (.getfield 95, 3) := by decide +kernel
theorem d_K_queueSize_8 : decode b_K_queueSize 8 = .ok (.isub, 1) := by decide +kernel
theorem d_K_queueSize_9 : decode b_K_queueSize 9 = .ok (.ireturn, 1) := by decide +kernel
theorem d_K_queuePlace_0 : decode b_K_queuePlace 0 = .ok (.iload_n 1, 1) := by decide +kernel
theorem d_K_queuePlace_1 : decode b_K_queuePlace 1 = .ok (.ifCond .lt 11, 3) := by decide +kernel
theorem d_K_queuePlace_4 : decode b_K_queuePlace 4 = .ok (.iload_n 1, 1) := by decide +kernel
theorem d_K_queuePlace_5 : decode b_K_queuePlace 5 = .ok (.aload_n 0, 1) := by decide +kernel
theorem d_K_queuePlace_6 : decode b_K_queuePlace 6 = .ok (.invokevirtual 88, 3) := by decide +kernel
theorem d_K_queuePlace_9 : decode b_K_queuePlace 9 = .ok (.if_icmp .lt 5, 3) := by decide +kernel
theorem d_K_queuePlace_12 : decode b_K_queuePlace 12 = .ok (.iconst (-1), 1) := by decide +kernel
theorem d_K_queuePlace_13 : decode b_K_queuePlace 13 = .ok (.ireturn, 1) := by decide +kernel
theorem d_K_queuePlace_14 : decode b_K_queuePlace 14 = .ok (.aload_n 0, 1) := by decide +kernel
theorem d_K_queuePlace_15 : decode b_K_queuePlace 15 = .ok (.getfield 95, 3) := by decide +kernel
theorem d_K_queuePlace_18 : decode b_K_queuePlace 18 = .ok (.iload_n 1, 1) := by decide +kernel
theorem d_K_queuePlace_19 : decode b_K_queuePlace 19 = .ok (.iadd, 1) := by decide +kernel
theorem d_K_queuePlace_20 : decode b_K_queuePlace 20 = .ok (.istore_n 2, 1) := by decide +kernel
theorem d_K_queuePlace_21 : decode b_K_queuePlace 21 = .ok (.iload_n 2, 1) := by decide +kernel
theorem d_K_queuePlace_22 : decode b_K_queuePlace 22 = .ok (.ifCond .lt 21, 3) := by decide +kernel
theorem d_K_queuePlace_25 : decode b_K_queuePlace 25 = .ok (.iload_n 2, 1) := by decide +kernel
theorem d_K_queuePlace_26 : decode b_K_queuePlace 26 = .ok (.aload_n 0, 1) := by decide +kernel
theorem d_K_queuePlace_27 : decode b_K_queuePlace 27 = .ok (.getfield 19, 3) := by decide +kernel
theorem d_K_queuePlace_30 : decode b_K_queuePlace 30 = .ok (.arraylength, 1) := by decide +kernel
theorem d_K_queuePlace_31 : decode b_K_queuePlace 31 = .ok (.if_icmp .ge 12, 3) := by decide +kernel
theorem d_K_queuePlace_34 : decode b_K_queuePlace 34 = .ok (.aload_n 0, 1) := by decide +kernel
theorem d_K_queuePlace_35 : decode b_K_queuePlace 35 = .ok (.getfield 19, 3) := by decide +kernel
theorem d_K_queuePlace_38 : decode b_K_queuePlace 38 = .ok (.iload_n 2, 1) := by decide +kernel
theorem d_K_queuePlace_39 : decode b_K_queuePlace 39 = .ok (.iaload, 1) := by decide +kernel
theorem d_K_queuePlace_40 : decode b_K_queuePlace 40 = .ok (.goto 4, 3) := by decide +kernel
theorem d_K_queuePlace_43 : decode b_K_queuePlace 43 = .ok (.iconst (-1), 1) := by decide +kernel
theorem d_K_queuePlace_44 : decode b_K_queuePlace 44 = .ok (.ireturn, 1) := by decide +kernel
theorem d_K_putInQueue_0 : decode b_K_putInQueue 0 = .ok (.aload_n 0, 1) := by decide +kernel
theorem d_K_putInQueue_1 : decode b_K_putInQueue 1 = .ok (.getfield 143, 3) := by decide +kernel
theorem d_K_putInQueue_4 : decode b_K_putInQueue 4 = .ok (.ifCond .lt 15, 3) := by decide +kernel
theorem d_K_putInQueue_7 : decode b_K_putInQueue 7 = .ok (.aload_n 0, 1) := by decide +kernel
theorem d_K_putInQueue_8 : decode b_K_putInQueue 8 = .ok (.getfield 143, 3) := by decide +kernel
theorem d_K_putInQueue_11 : decode b_K_putInQueue 11 = .ok (.aload_n 0, 1) := by decide +kernel
theorem d_K_putInQueue_12 : decode b_K_putInQueue 12 = .ok (.getfield 19, 3) := by decide +kernel
theorem d_K_putInQueue_15 : decode b_K_putInQueue 15 = .ok (.arraylength, 1) := by decide +kernel
theorem d_K_putInQueue_16 : decode b_K_putInQueue 16 = .ok (.if_icmp .lt 4, 3) := by decide +kernel
theorem d_K_putInQueue_19 : decode b_K_putInQueue 19 = .ok (.return_, 1) := by decide +kernel
theorem d_K_putInQueue_20 : decode b_K_putInQueue 20 = .ok (.aload_n 0, 1) := by decide +kernel
theorem d_K_putInQueue_21 : decode b_K_putInQueue 21 = .ok (.getfield 19, 3) := by decide +kernel
theorem d_K_putInQueue_24 : decode b_K_putInQueue 24 = .ok (.aload_n 0, 1) := by decide +kernel
theorem d_K_putInQueue_25 : decode b_K_putInQueue 25 = .ok (.getfield 143, 3) := by decide +kernel
theorem d_K_putInQueue_28 : decode b_K_putInQueue 28 = .ok (.iload_n 1, 1) := by decide +kernel
theorem d_K_putInQueue_29 : decode b_K_putInQueue 29 = .ok (.iastore, 1) := by decide +kernel
theorem d_K_putInQueue_30 : decode b_K_putInQueue 30 = .ok (.aload_n 0, 1) := by decide +kernel
theorem d_K_putInQueue_31 : decode b_K_putInQueue 31 = .ok (.dup, 1) := by decide +kernel
theorem d_K_putInQueue_32 : decode b_K_putInQueue 32 = .ok (.getfield 143, 3) := by decide +kernel
theorem d_K_putInQueue_35 : decode b_K_putInQueue 35 = .ok (.iconst 1, 1) := by decide +kernel
theorem d_K_putInQueue_36 : decode b_K_putInQueue 36 = .ok (.iadd, 1) := by decide +kernel
theorem d_K_putInQueue_37 : decode b_K_putInQueue 37 = .ok (.putfield 143, 3) := by decide +kernel
theorem d_K_putInQueue_40 : decode b_K_putInQueue 40 = .ok (.aload_n 2, 1) := by decide +kernel
theorem d_K_putInQueue_41 : decode b_K_putInQueue 41 = .ok (.iconst 1, 1) := by decide +kernel
theorem d_K_putInQueue_42 : decode b_K_putInQueue 42 = .ok (.putfield 146, 3) := by decide +kernel
theorem d_K_putInQueue_45 : decode b_K_putInQueue 45 = .ok (.return_, 1) := by decide +kernel
theorem d_K_waitingFinals_0 : decode b_K_waitingFinals 0 = .ok (.iconst 0, 1) := by decide +kernel
theorem d_K_waitingFinals_1 : decode b_K_waitingFinals 1 = .ok (.istore_n 1, 1) := by decide +kernel
theorem d_K_waitingFinals_2 : decode b_K_waitingFinals 2 = .ok (.iconst 0, 1) := by decide +kernel
theorem d_K_waitingFinals_3 : decode b_K_waitingFinals 3 = .ok (.istore_n 2, 1) := by decide +kernel
theorem d_K_waitingFinals_4 : decode b_K_waitingFinals 4 = .ok (.iload_n 2, 1) := by decide +kernel
theorem d_K_waitingFinals_5 : decode b_K_waitingFinals 5 = .ok (.aload_n 0, 1) := by decide +kernel
theorem d_K_waitingFinals_6 : decode b_K_waitingFinals 6 = .ok (.getfield 11, 3) := by decide +kernel
theorem d_K_waitingFinals_9 : decode b_K_waitingFinals 9 = .ok (.arraylength, 1) := by decide +kernel
theorem d_K_waitingFinals_10 : decode b_K_waitingFinals 10 = .ok (.if_icmp .ge 30, 3) := by decide +kernel
theorem d_K_waitingFinals_13 : decode b_K_waitingFinals 13 = .ok (.aload_n 0, 1) := by decide +kernel
theorem d_K_waitingFinals_14 : decode b_K_waitingFinals 14 = .ok (.getfield 11, 3) := by decide +kernel
theorem d_K_waitingFinals_17 : decode b_K_waitingFinals 17 = .ok (.iload_n 2, 1) := by decide +kernel
theorem d_K_waitingFinals_18 : decode b_K_waitingFinals 18 = .ok (.aaload, 1) := by decide +kernel
theorem d_K_waitingFinals_19 : decode b_K_waitingFinals 19 = .ok (.astore_n 3, 1) := by decide +kernel
theorem d_K_waitingFinals_20 : decode b_K_waitingFinals 20 = .ok (.aload_n 3, 1) := by decide +kernel
theorem d_K_waitingFinals_21 : decode b_K_waitingFinals 21 = .ok (.ifnull 13, 3) := by decide +kernel
theorem d_K_waitingFinals_24 : decode b_K_waitingFinals 24 = .ok (.aload_n 3, 1) := by decide +kernel
theorem d_K_waitingFinals_25 : decode b_K_waitingFinals 25 = .ok (.invokevirtual 150, 3) := by decide +kernel
theorem d_K_waitingFinals_28 : decode b_K_waitingFinals 28 = .ok (.ifCond .eq 6, 3) := by decide +kernel
theorem d_K_waitingFinals_31 : decode b_K_waitingFinals 31 = .ok (.iinc 1 1, 3) := by decide +kernel
theorem d_K_waitingFinals_34 : decode b_K_waitingFinals 34 = .ok (.iinc 2 1, 3) := by decide +kernel
theorem d_K_waitingFinals_37 : decode b_K_waitingFinals 37 = .ok (.goto (-33), 3) := by decide +kernel
theorem d_K_waitingFinals_40 : decode b_K_waitingFinals 40 = .ok (.iload_n 1, 1) := by decide +kernel
theorem d_K_waitingFinals_41 : decode b_K_waitingFinals 41 = .ok (.ireturn, 1) := by decide +kernel
theorem d_K_searchReached_0 : decode b_K_searchReached 0 = .ok (.aload_n 1, 1) := by decide +kernel
theorem d_K_searchReached_1 : decode b_K_searchReached 1 = .ok (.invokevirtual 154, 3) := by decide +kernel
theorem d_K_searchReached_4 : decode b_K_searchReached 4 = .ok (.aload_n 0, 1) := by decide +kernel
theorem d_K_searchReached_5 : decode b_K_searchReached 5 = .ok (.aload_n 1, 1) := by decide +kernel
theorem d_K_searchReached_6 : decode b_K_searchReached 6 = .ok (.invokevirtual 157, 3) := by decide +kernel
theorem d_K_searchReached_9 : decode b_K_searchReached 9 = .ok (.aload_n 0, 1) := by decide +kernel
theorem d_K_searchReached_10 : decode b_K_searchReached 10 = .ok (.aload_n 1, 1) := by decide +kernel
theorem d_K_searchReached_11 : decode b_K_searchReached 11 = .ok (.iconst 0, 1) := by decide +kernel
theorem d_K_searchReached_12 : decode b_K_searchReached 12 = .ok (.invokevirtual 160, 3) := by decide +kernel
theorem d_K_searchReached_15 : decode b_K_searchReached 15 = .ok (.return_, 1) := by decide +kernel
theorem d_K_searchKept_0 : decode b_K_searchKept 0 = .ok (.aload_n 1, 1) := by decide +kernel
theorem d_K_searchKept_1 : decode b_K_searchKept 1 = .ok (.invokevirtual 154, 3) := by decide +kernel
theorem d_K_searchKept_4 : decode b_K_searchKept 4 = .ok (.aload_n 0, 1) := by decide +kernel
theorem d_K_searchKept_5 : decode b_K_searchKept 5 = .ok (.aload_n 1, 1) := by decide +kernel
theorem d_K_searchKept_6 : decode b_K_searchKept 6 = .ok (.invokevirtual 157, 3) := by decide +kernel
theorem d_K_searchKept_9 : decode b_K_searchKept 9 = .ok (.iconst 0, 1) := by decide +kernel
theorem d_K_searchKept_10 : decode b_K_searchKept 10 = .ok (.istore_n 2, 1) := by decide +kernel
theorem d_K_searchKept_11 : decode b_K_searchKept 11 = .ok (.iload_n 2, 1) := by decide +kernel
theorem d_K_searchKept_12 : decode b_K_searchKept 12 = .ok (.aload_n 0, 1) := by decide +kernel
theorem d_K_searchKept_13 : decode b_K_searchKept 13 = .ok (.getfield 11, 3) := by decide +kernel
theorem d_K_searchKept_16 : decode b_K_searchKept 16 = .ok (.arraylength, 1) := by decide +kernel
theorem d_K_searchKept_17 : decode b_K_searchKept 17 = .ok (.if_icmp .ge 32, 3) := by decide +kernel
theorem d_K_searchKept_20 : decode b_K_searchKept 20 = .ok (.aload_n 0, 1) := by decide +kernel
theorem d_K_searchKept_21 : decode b_K_searchKept 21 = .ok (.getfield 11, 3) := by decide +kernel
theorem d_K_searchKept_24 : decode b_K_searchKept 24 = .ok (.iload_n 2, 1) := by decide +kernel
theorem d_K_searchKept_25 : decode b_K_searchKept 25 = .ok (.aaload, 1) := by decide +kernel
theorem d_K_searchKept_26 : decode b_K_searchKept 26 = .ok (.astore_n 3, 1) := by decide +kernel
theorem d_K_searchKept_27 : decode b_K_searchKept 27 = .ok (.aload_n 3, 1) := by decide +kernel
theorem d_K_searchKept_28 : decode b_K_searchKept 28 = .ok (.ifnull 15, 3) := by decide +kernel
theorem d_K_searchKept_31 : decode b_K_searchKept 31 = .ok (.aload_n 3, 1) := by decide +kernel
theorem d_K_searchKept_32 : decode b_K_searchKept 32 = .ok (.invokevirtual 150, 3) := by decide +kernel
theorem d_K_searchKept_35 : decode b_K_searchKept 35 = .ok (.ifCond .eq 8, 3) := by decide +kernel
theorem d_K_searchKept_38 : decode b_K_searchKept 38 = .ok (.aload_n 1, 1) := by decide +kernel
theorem d_K_searchKept_39 : decode b_K_searchKept 39 = .ok (.iload_n 2, 1) := by decide +kernel
theorem d_K_searchKept_40 : decode b_K_searchKept 40 = .ok (.invokevirtual 164, 3) := by decide +kernel
theorem d_K_searchKept_43 : decode b_K_searchKept 43 = .ok (.iinc 2 1, 3) := by decide +kernel
theorem d_K_searchKept_46 : decode b_K_searchKept 46 = .ok (.goto (-35), 3) := by decide +kernel
theorem d_K_searchKept_49 : decode b_K_searchKept 49 = .ok (.aload_n 0, 1) := by decide +kernel
theorem d_K_searchKept_50 : decode b_K_searchKept 50 = .ok (.aload_n 1, 1) := by decide +kernel
theorem d_K_searchKept_51 : decode b_K_searchKept 51 = .ok (.iconst 1, 1) := by decide +kernel
theorem d_K_searchKept_52 : decode b_K_searchKept 52 = .ok (.invokevirtual 160, 3) := by decide +kernel
theorem d_K_searchKept_55 : decode b_K_searchKept 55 = .ok (.return_, 1) := by decide +kernel
theorem d_K_addRootsAndQueue_0 : decode b_K_addRootsAndQueue 0 = .ok (.iconst 0, 1) := by decide +kernel
theorem d_K_addRootsAndQueue_1 : decode b_K_addRootsAndQueue 1 = .ok (.istore_n 2, 1) := by decide +kernel
theorem d_K_addRootsAndQueue_2 : decode b_K_addRootsAndQueue 2 = .ok (.iload_n 2, 1) := by decide +kernel
theorem d_K_addRootsAndQueue_3 : decode b_K_addRootsAndQueue 3 = .ok (.aload_n 0, 1) := by decide +kernel
theorem d_K_addRootsAndQueue_4 : decode b_K_addRootsAndQueue 4 = .ok (.getfield 15, 3) := by decide +kernel
theorem d_K_addRootsAndQueue_7 : decode b_K_addRootsAndQueue 7 = .ok (.arraylength, 1) := by decide +kernel
theorem d_K_addRootsAndQueue_8 : decode b_K_addRootsAndQueue 8 = .ok (.if_icmp .ge 19, 3) := by decide +kernel
theorem d_K_addRootsAndQueue_11 : decode b_K_addRootsAndQueue 11 = .ok (.aload_n 1, 1) := by decide +kernel
theorem d_K_addRootsAndQueue_12 : decode b_K_addRootsAndQueue 12 = .ok (.aload_n 0, 1) := by decide +kernel
theorem d_K_addRootsAndQueue_13 : decode b_K_addRootsAndQueue 13 = .ok (.getfield 15, 3) := by decide +kernel
theorem d_K_addRootsAndQueue_16 : decode b_K_addRootsAndQueue 16 = .ok (.iload_n 2, 1) := by decide +kernel
theorem d_K_addRootsAndQueue_17 : decode b_K_addRootsAndQueue 17 = .ok (.iaload, 1) := by decide +kernel
theorem d_K_addRootsAndQueue_18 : decode b_K_addRootsAndQueue 18 = .ok (.invokevirtual 164, 3) := by decide +kernel
theorem d_K_addRootsAndQueue_21 : decode b_K_addRootsAndQueue 21 = .ok (.iinc 2 1, 3) := by decide +kernel
theorem d_K_addRootsAndQueue_24 : decode b_K_addRootsAndQueue 24 = .ok (.goto (-22), 3) := by decide +kernel
theorem d_K_addRootsAndQueue_27 : decode b_K_addRootsAndQueue 27 = .ok (.aload_n 0, 1) := by decide +kernel
theorem d_K_addRootsAndQueue_28 : decode b_K_addRootsAndQueue 28 = .ok (.invokevirtual 88, 3) := by decide +kernel
theorem d_K_addRootsAndQueue_31 : decode b_K_addRootsAndQueue 31 = .ok (.istore_n 2, 1) := by decide +kernel
theorem d_K_addRootsAndQueue_32 : decode b_K_addRootsAndQueue 32 = .ok (.iconst 0, 1) := by decide +kernel
theorem d_K_addRootsAndQueue_33 : decode b_K_addRootsAndQueue 33 = .ok (.istore_n 3, 1) := by decide +kernel
theorem d_K_addRootsAndQueue_34 : decode b_K_addRootsAndQueue 34 = .ok (.iload_n 3, 1) := by decide +kernel
theorem d_K_addRootsAndQueue_35 : decode b_K_addRootsAndQueue 35 = .ok (.iload_n 2, 1) := by decide +kernel
theorem d_K_addRootsAndQueue_36 : decode b_K_addRootsAndQueue 36 = .ok (.if_icmp .ge 18, 3) := by decide +kernel
theorem d_K_addRootsAndQueue_39 : decode b_K_addRootsAndQueue 39 = .ok (.aload_n 1, 1) := by decide +kernel
theorem d_K_addRootsAndQueue_40 : decode b_K_addRootsAndQueue 40 = .ok (.aload_n 0, 1) := by decide +kernel
theorem d_K_addRootsAndQueue_41 : decode b_K_addRootsAndQueue 41 = .ok (.iload_n 3, 1) := by decide +kernel
theorem d_K_addRootsAndQueue_42 : decode b_K_addRootsAndQueue 42 = .ok (.invokevirtual 91, 3) := by decide +kernel
theorem d_K_addRootsAndQueue_45 : decode b_K_addRootsAndQueue 45 = .ok (.invokevirtual 164, 3) := by decide +kernel
theorem d_K_addRootsAndQueue_48 : decode b_K_addRootsAndQueue 48 = .ok (.iinc 3 1, 3) := by decide +kernel
theorem d_K_addRootsAndQueue_51 : decode b_K_addRootsAndQueue 51 = .ok (.goto (-17), 3) := by decide +kernel
theorem d_K_addRootsAndQueue_54 : decode b_K_addRootsAndQueue 54 = .ok (.return_, 1) := by decide +kernel
theorem d_K_followFields_0 : decode b_K_followFields 0 = .ok (.iconst 0, 1) := by decide +kernel
theorem d_K_followFields_1 : decode b_K_followFields 1 = .ok (.istore_n 3, 1) := by decide +kernel
theorem d_K_followFields_2 : decode b_K_followFields 2 = .ok (.iload_n 3, 1) := by decide +kernel
theorem d_K_followFields_3 : decode b_K_followFields 3 = .ok (.sipush 300, 3) := by decide +kernel
theorem d_K_followFields_6 : decode b_K_followFields 6 = .ok (.if_icmp .ge 88, 3) := by decide +kernel
theorem d_K_followFields_9 : decode b_K_followFields 9 = .ok (.iload_n 3, 1) := by decide +kernel
theorem d_K_followFields_10 : decode b_K_followFields 10 = .ok (.aload_n 1, 1) := by decide +kernel
theorem d_K_followFields_11 : decode b_K_followFields 11 = .ok (.getfield 125, 3) := by decide +kernel
theorem d_K_followFields_14 : decode b_K_followFields 14 = .ok (.if_icmp .ge 80, 3) := by decide +kernel
theorem d_K_followFields_17 : decode b_K_followFields 17 = .ok (.aload_n 0, 1) := by decide +kernel
theorem d_K_followFields_18 : decode b_K_followFields 18 = .ok (.aload_n 1, 1) := by decide +kernel
theorem d_K_followFields_19 : decode b_K_followFields 19 = .ok (.iload_n 3, 1) := by decide +kernel
theorem d_K_followFields_20 : decode b_K_followFields 20 = .ok (.invokevirtual 167, 3) := by decide +kernel
theorem d_K_followFields_23 : decode b_K_followFields 23 = .ok (.invokevirtual 98, 3) := by decide +kernel
theorem d_K_followFields_26 : decode b_K_followFields 26 = .ok (.astore 4, 2) := by decide +kernel
theorem d_K_followFields_28 : decode b_K_followFields 28 = .ok (.aload 4, 2) := by decide +kernel
theorem d_K_followFields_30 : decode b_K_followFields 30 = .ok (.ifnonnull 6, 3) := by decide +kernel
theorem d_K_followFields_33 : decode b_K_followFields 33 = .ok (.goto 55, 3) := by decide +kernel
theorem d_K_followFields_36 : decode b_K_followFields 36 = .ok (.iload_n 2, 1) := by decide +kernel
theorem d_K_followFields_37 : decode b_K_followFields 37 = .ok (.ifCond .ne 15, 3) := by decide +kernel
theorem d_K_followFields_40 : decode b_K_followFields 40 = .ok (.aload 4, 2) := by decide +kernel
theorem d_K_followFields_42 : decode b_K_followFields 42 = .ok (.invokevirtual 170, 3) := by decide +kernel
theorem d_K_followFields_45 : decode b_K_followFields 45 = .ok (.ifCond .eq 7, 3) := by decide +kernel
theorem d_K_followFields_48 : decode b_K_followFields 48 = .ok (.iconst 1, 1) := by decide +kernel
theorem d_K_followFields_49 : decode b_K_followFields 49 = .ok (.goto 4, 3) := by decide +kernel
theorem d_K_followFields_52 : decode b_K_followFields 52 = .ok (.iconst 0, 1) := by decide +kernel
theorem d_K_followFields_53 : decode b_K_followFields 53 = .ok (.istore 5, 2) := by decide +kernel
theorem d_K_followFields_55 : decode b_K_followFields 55 = .ok (.iload 5, 2) := by decide +kernel
theorem d_K_followFields_57 : decode b_K_followFields 57 = .ok (.istore 6, 2) := by decide +kernel
theorem d_K_followFields_59 : decode b_K_followFields 59 = .ok (.iload 6, 2) := by decide +kernel
theorem d_K_followFields_61 : decode b_K_followFields 61 = .ok (.aload 4, 2) := by decide +kernel
theorem d_K_followFields_63 : decode b_K_followFields 63 = .ok (.getfield 66, 3) := by decide +kernel
theorem d_K_followFields_66 : decode b_K_followFields 66 = .ok (.arraylength, 1) := by decide +kernel
theorem d_K_followFields_67 : decode b_K_followFields 67 = .ok (.if_icmp .ge 21, 3) := by decide +kernel
theorem d_K_followFields_70 : decode b_K_followFields 70 = .ok (.aload_n 1, 1) := by decide +kernel
theorem d_K_followFields_71 : decode b_K_followFields 71 = .ok (.aload 4, 2) := by decide +kernel
theorem d_K_followFields_73 : decode b_K_followFields 73 = .ok (.getfield 66, 3) := by decide +kernel
theorem d_K_followFields_76 : decode b_K_followFields 76 = .ok (.iload 6, 2) := by decide +kernel
theorem d_K_followFields_78 : decode b_K_followFields 78 = .ok (.iaload, 1) := by decide +kernel
theorem d_K_followFields_79 : decode b_K_followFields 79 = .ok (.invokevirtual 164, 3) := by decide +kernel
theorem d_K_followFields_82 : decode b_K_followFields 82 = .ok (.iinc 6 1, 3) := by decide +kernel
theorem d_K_followFields_85 : decode b_K_followFields 85 = .ok (.goto (-26), 3) := by decide +kernel
theorem d_K_followFields_88 : decode b_K_followFields 88 = .ok (.iinc 3 1, 3) := by decide +kernel
theorem d_K_followFields_91 : decode b_K_followFields 91 = .ok (.goto (-89), 3) := by decide +kernel
theorem d_K_followFields_94 : decode b_K_followFields 94 = .ok (.return_, 1) := by decide +kernel
theorem d_K_queueUnreached_0 : decode b_K_queueUnreached 0 = .ok (.iconst 0, 1) := by decide +kernel
theorem d_K_queueUnreached_1 : decode b_K_queueUnreached 1 = .ok (.istore_n 1, 1) := by decide +kernel
theorem d_K_queueUnreached_2 : decode b_K_queueUnreached 2 = .ok (.iconst 0, 1) := by decide +kernel
theorem d_K_queueUnreached_3 : decode b_K_queueUnreached 3 = .ok (.istore_n 2, 1) := by decide +kernel
theorem d_K_queueUnreached_4 : decode b_K_queueUnreached 4 = .ok (.iload_n 2, 1) := by decide +kernel
theorem d_K_queueUnreached_5 : decode b_K_queueUnreached 5 = .ok (.aload_n 0, 1) := by decide +kernel
theorem d_K_queueUnreached_6 : decode b_K_queueUnreached 6 = .ok (.getfield 11, 3) := by decide +kernel
theorem d_K_queueUnreached_9 : decode b_K_queueUnreached 9 = .ok (.arraylength, 1) := by decide +kernel
theorem d_K_queueUnreached_10 : decode b_K_queueUnreached 10 = .ok (.if_icmp .ge 47, 3) := by decide +kernel
theorem d_K_queueUnreached_13 : decode b_K_queueUnreached 13 = .ok (.aload_n 0, 1) := by decide +kernel
theorem d_K_queueUnreached_14 : decode b_K_queueUnreached 14 = .ok (.getfield 11, 3) := by decide +kernel
theorem d_K_queueUnreached_17 : decode b_K_queueUnreached 17 = .ok (.iload_n 2, 1) := by decide +kernel
theorem d_K_queueUnreached_18 : decode b_K_queueUnreached 18 = .ok (.aaload, 1) := by decide +kernel
theorem d_K_queueUnreached_19 : decode b_K_queueUnreached 19 = .ok (.astore_n 3, 1) := by decide +kernel
theorem d_K_queueUnreached_20 : decode b_K_queueUnreached 20 = .ok (.aload_n 3, 1) := by decide +kernel
theorem d_K_queueUnreached_21 : decode b_K_queueUnreached 21 = .ok (.ifnull 30, 3) := by decide +kernel
theorem d_K_queueUnreached_24 : decode b_K_queueUnreached 24 = .ok (.aload_n 3, 1) := by decide +kernel
theorem d_K_queueUnreached_25 : decode b_K_queueUnreached 25 = .ok (.invokevirtual 150, 3) := by decide +kernel
theorem d_K_queueUnreached_28 : decode b_K_queueUnreached 28 = .ok (.ifCond .eq 23, 3) := by decide +kernel
theorem d_K_queueUnreached_31 : decode b_K_queueUnreached 31 = .ok (.aload_n 0, 1) := by decide +kernel
theorem d_K_queueUnreached_32 : decode b_K_queueUnreached 32 = .ok (.getfield 25, 3) := by decide +kernel
theorem d_K_queueUnreached_35 : decode b_K_queueUnreached 35 = .ok (.iload_n 2, 1) := by decide +kernel
theorem d_K_queueUnreached_36 : decode b_K_queueUnreached 36 = .ok (.invokevirtual 110, 3) := by decide +kernel
theorem d_K_queueUnreached_39 : decode b_K_queueUnreached 39 = .ok (.ifCond .ne 12, 3) := by decide +kernel
theorem d_K_queueUnreached_42 : decode b_K_queueUnreached 42 = .ok (.aload_n 0, 1) := by decide +kernel
theorem d_K_queueUnreached_43 : decode b_K_queueUnreached 43 = .ok (.iload_n 2, 1) := by decide +kernel
theorem d_K_queueUnreached_44 : decode b_K_queueUnreached 44 = .ok (.aload_n 3, 1) := by decide +kernel
theorem d_K_queueUnreached_45 : decode b_K_queueUnreached 45 = .ok (.invokevirtual 173, 3) := by decide +kernel
theorem d_K_queueUnreached_48 : decode b_K_queueUnreached 48 = .ok (.iinc 1 1, 3) := by decide +kernel
theorem d_K_queueUnreached_51 : decode b_K_queueUnreached 51 = .ok (.iinc 2 1, 3) := by decide +kernel
theorem d_K_queueUnreached_54 : decode b_K_queueUnreached 54 = .ok (.goto (-50), 3) := by decide +kernel
theorem d_K_queueUnreached_57 : decode b_K_queueUnreached 57 = .ok (.iload_n 1, 1) := by decide +kernel
theorem d_K_queueUnreached_58 : decode b_K_queueUnreached 58 = .ok (.ireturn, 1) := by decide +kernel
theorem d_K_forgetUnreached_0 : decode b_K_forgetUnreached 0 = .ok (.iconst 0, 1) := by decide +kernel
theorem d_K_forgetUnreached_1 : decode b_K_forgetUnreached 1 = .ok (.istore_n 1, 1) := by decide +kernel
theorem d_K_forgetUnreached_2 : decode b_K_forgetUnreached 2 = .ok (.iload_n 1, 1) := by decide +kernel
theorem d_K_forgetUnreached_3 : decode b_K_forgetUnreached 3 = .ok (.aload_n 0, 1) := by decide +kernel
theorem d_K_forgetUnreached_4 : decode b_K_forgetUnreached 4 = .ok (.getfield 11, 3) := by decide +kernel
theorem d_K_forgetUnreached_7 : decode b_K_forgetUnreached 7 = .ok (.arraylength, 1) := by decide +kernel
theorem d_K_forgetUnreached_8 : decode b_K_forgetUnreached 8 = .ok (.if_icmp .ge 81, 3) := by decide +kernel
theorem d_K_forgetUnreached_11 : decode b_K_forgetUnreached 11 = .ok (.aload_n 0, 1) := by decide +kernel
theorem d_K_forgetUnreached_12 : decode b_K_forgetUnreached 12 = .ok (.getfield 11, 3) := by decide +kernel
theorem d_K_forgetUnreached_15 : decode b_K_forgetUnreached 15 = .ok (.iload_n 1, 1) := by decide +kernel
theorem d_K_forgetUnreached_16 : decode b_K_forgetUnreached 16 = .ok (.aaload, 1) := by decide +kernel
theorem d_K_forgetUnreached_17 : decode b_K_forgetUnreached 17 = .ok (.astore_n 2, 1) := by decide +kernel
theorem d_K_forgetUnreached_18 : decode b_K_forgetUnreached 18 = .ok (.aload_n 2, 1) := by decide +kernel
theorem d_K_forgetUnreached_19 : decode b_K_forgetUnreached 19 = .ok (.ifnull 64, 3) := by decide +kernel
theorem d_K_forgetUnreached_22 : decode b_K_forgetUnreached 22 = .ok (.aload_n 2, 1) := by decide +kernel
theorem d_K_forgetUnreached_23 : decode b_K_forgetUnreached 23 = .ok (.invokevirtual 170, 3) := by decide +kernel
theorem d_K_forgetUnreached_26 : decode b_K_forgetUnreached 26 = .ok (.ifCond .eq 57, 3) := by decide +kernel
theorem d_K_forgetUnreached_29 : decode b_K_forgetUnreached 29 = .ok (.aload_n 0, 1) := by decide +kernel
theorem d_K_forgetUnreached_30 : decode b_K_forgetUnreached 30 = .ok (.getfield 29, 3) := by decide +kernel
theorem d_K_forgetUnreached_33 : decode b_K_forgetUnreached 33 = .ok (.iload_n 1, 1) := by decide +kernel
theorem d_K_forgetUnreached_34 : decode b_K_forgetUnreached 34 = .ok (.invokevirtual 110, 3) := by decide +kernel
theorem d_K_forgetUnreached_37 : decode b_K_forgetUnreached 37 = .ok (.ifCond .ne 6, 3) := by decide +kernel
theorem d_K_forgetUnreached_40 : decode b_K_forgetUnreached 40 = .ok (.goto 43, 3) := by decide +kernel
theorem d_K_forgetUnreached_43 : decode b_K_forgetUnreached 43 = .ok (.aload_n 2, 1) := by decide +kernel
theorem d_K_forgetUnreached_44 : decode b_K_forgetUnreached 44 = .ok (.getfield 66, 3) := by decide +kernel
theorem d_K_forgetUnreached_47 : decode b_K_forgetUnreached 47 = .ok (.iconst 0, 1) := by decide +kernel
theorem d_K_forgetUnreached_48 : decode b_K_forgetUnreached 48 = .ok (.iaload, 1) := by decide +kernel
theorem d_K_forgetUnreached_49 : decode b_K_forgetUnreached 49 = .ok (.istore_n 3, 1) := by decide +kernel
theorem d_K_forgetUnreached_50 : decode b_K_forgetUnreached 50 = .ok (.iload_n 3, 1) := by decide +kernel
theorem d_K_forgetUnreached_51 : decode b_K_forgetUnreached 51 = .ok (.iconst (-1), 1) := by decide +kernel
theorem d_K_forgetUnreached_52 : decode b_K_forgetUnreached 52 = .ok (.if_icmp .eq 31, 3) := by decide +kernel
theorem d_K_forgetUnreached_55 : decode b_K_forgetUnreached 55 = .ok (.aload_n 0, 1) := by decide +kernel
theorem d_K_forgetUnreached_56 : decode b_K_forgetUnreached 56 = .ok (.getfield 25, 3) := by decide +kernel
theorem d_K_forgetUnreached_59 : decode b_K_forgetUnreached 59 = .ok (.iload_n 3, 1) := by decide +kernel
theorem d_K_forgetUnreached_60 : decode b_K_forgetUnreached 60 = .ok (.invokevirtual 110, 3) := by decide +kernel
theorem d_K_forgetUnreached_63 : decode b_K_forgetUnreached 63 = .ok (.ifCond .ne 20, 3) := by decide +kernel
theorem d_K_forgetUnreached_66 : decode b_K_forgetUnreached 66 = .ok (.aload_n 2, 1) := by decide +kernel
theorem d_K_forgetUnreached_67 : decode b_K_forgetUnreached 67 = .ok (.getfield 66, 3) := by decide +kernel
theorem d_K_forgetUnreached_70 : decode b_K_forgetUnreached 70 = .ok (.iconst 0, 1) := by decide +kernel
theorem d_K_forgetUnreached_71 : decode b_K_forgetUnreached 71 = .ok (.iconst (-1), 1) := by decide +kernel
theorem d_K_forgetUnreached_72 : decode b_K_forgetUnreached 72 = .ok (.iastore, 1) := by decide +kernel
theorem d_K_forgetUnreached_73 : decode b_K_forgetUnreached 73 = .ok (.aload_n 0, 1) := by decide +kernel
theorem d_K_forgetUnreached_74 : decode b_K_forgetUnreached 74 = .ok (.dup, 1) := by decide +kernel
theorem d_K_forgetUnreached_75 : decode b_K_forgetUnreached 75 = .ok (.getfield 131, 3) := by decide +kernel
theorem d_K_forgetUnreached_78 : decode b_K_forgetUnreached 78 = .ok (.iconst 1, 1) := by decide +kernel
theorem d_K_forgetUnreached_79 : decode b_K_forgetUnreached 79 = .ok (.iadd, 1) := by decide +kernel
theorem d_K_forgetUnreached_80 : decode b_K_forgetUnreached 80 = .ok (.putfield 131, 3) := by decide +kernel
theorem d_K_forgetUnreached_83 : decode b_K_forgetUnreached 83 = .ok (.iinc 1 1, 3) := by decide +kernel
theorem d_K_forgetUnreached_86 : decode b_K_forgetUnreached 86 = .ok (.goto (-84), 3) := by decide +kernel
theorem d_K_forgetUnreached_89 : decode b_K_forgetUnreached 89 = .ok (.return_, 1) := by decide +kernel
end
section
/-! Decode rows. -/
theorem d_M_init_0 : decode b_M_init 0 = .ok (.aload_n 0, 1) := by decide +kernel
theorem d_M_init_1 : decode b_M_init 1 = .ok (.invokespecial 1, 3) := by decide +kernel
theorem d_M_init_4 : decode b_M_init 4 = .ok (.aload_n 0, 1) := by decide +kernel
theorem d_M_init_5 : decode b_M_init 5 = .ok (.sipush 300, 3) := by decide +kernel
theorem d_M_init_8 : decode b_M_init 8 = .ok (.newarray .boolean, 2) := by decide +kernel
theorem d_M_init_10 : decode b_M_init 10 = .ok (.putfield 7, 3) := by decide +kernel
theorem d_M_init_13 : decode b_M_init 13 = .ok (.aload_n 0, 1) := by decide +kernel
theorem d_M_init_14 : decode b_M_init 14 = .ok (.sipush 300, 3) := by decide +kernel
theorem d_M_init_17 : decode b_M_init 17 = .ok (.newarray .int, 2) := by decide +kernel
theorem d_M_init_19 : decode b_M_init 19 = .ok (.putfield 13, 3) := by decide +kernel
theorem d_M_init_22 : decode b_M_init 22 = .ok (.aload_n 0, 1) := by decide +kernel
theorem d_M_init_23 : decode b_M_init 23 = .ok (.sipush 300, 3) := by decide +kernel
theorem d_M_init_26 : decode b_M_init 26 = .ok (.newarray .int, 2) := by decide +kernel
theorem d_M_init_28 : decode b_M_init 28 = .ok (.putfield 17, 3) := by decide +kernel
theorem d_M_init_31 : decode b_M_init 31 = .ok (.aload_n 0, 1) := by decide +kernel
theorem d_M_init_32 : decode b_M_init 32 = .ok (.sipush 3600, 3) := by decide +kernel
theorem d_M_init_35 : decode b_M_init 35 = .ok (.newarray .int, 2) := by decide +kernel
theorem d_M_init_37 : decode b_M_init 37 = .ok (.putfield 20, 3) := by decide +kernel
theorem d_M_init_40 : decode b_M_init 40 = .ok (.aload_n 0, 1) := by decide +kernel
theorem d_M_init_41 : decode b_M_init 41 = .ok (.sipush 300, 3) := by decide +kernel
theorem d_M_init_44 : decode b_M_init 44 = .ok (.newarray .int, 2) := by decide +kernel
theorem d_M_init_46 : decode b_M_init 46 = .ok (.putfield 23, 3) := by decide +kernel
theorem d_M_init_49 : decode b_M_init 49 = .ok (.aload_n 0, 1) := by decide +kernel
theorem d_M_init_50 : decode b_M_init 50 = .ok (.sipush 300, 3) := by decide +kernel
theorem d_M_init_53 : decode b_M_init 53 = .ok (.newarray .boolean, 2) := by decide +kernel
theorem d_M_init_55 : decode b_M_init 55 = .ok (.putfield 26, 3) := by decide +kernel
theorem d_M_init_58 : decode b_M_init 58 = .ok (.aload_n 0, 1) := by decide +kernel
theorem d_M_init_59 : decode b_M_init 59 = .ok (.bipush 16, 2) := by decide +kernel
theorem d_M_init_61 : decode b_M_init 61 = .ok (.newarray .int, 2) := by decide +kernel
theorem d_M_init_63 : decode b_M_init 63 = .ok (.putfield 29, 3) := by decide +kernel
theorem d_M_init_66 : decode b_M_init 66 = .ok (.aload_n 0, 1) := by decide +kernel
theorem d_M_init_67 : decode b_M_init 67 = .ok (.sipush 300, 3) := by decide +kernel
theorem d_M_init_70 : decode b_M_init 70 = .ok (.newarray .int, 2) := by decide +kernel
theorem d_M_init_72 : decode b_M_init 72 = .ok (.putfield 32, 3) := by decide +kernel
theorem d_M_init_75 : decode b_M_init 75 = .ok (.aload_n 0, 1) := by decide +kernel
theorem d_M_init_76 : decode b_M_init 76 = .ok (.sipush 300, 3) := by decide +kernel
theorem d_M_init_79 : decode b_M_init 79 = .ok (.newarray .boolean, 2) := by decide +kernel
theorem d_M_init_81 : decode b_M_init 81 = .ok (.putfield 35, 3) := by decide +kernel
theorem d_M_init_84 : decode b_M_init 84 = .ok (.aload_n 0, 1) := by decide +kernel
theorem d_M_init_85 : decode b_M_init 85 = .ok (.sipush 300, 3) := by decide +kernel
theorem d_M_init_88 : decode b_M_init 88 = .ok (.newarray .boolean, 2) := by decide +kernel
theorem d_M_init_90 : decode b_M_init 90 = .ok (.putfield 38, 3) := by decide +kernel
theorem d_M_init_93 : decode b_M_init 93 = .ok (.return_, 1) := by decide +kernel
theorem d_M_thrown_0 : decode b_M_thrown 0 = .ok (.aload_n 0, 1) := by decide +kernel
theorem d_M_thrown_1 : decode b_M_thrown 1 = .ok (.getfield 41, 3) := by decide +kernel
theorem d_M_thrown_4 : decode b_M_thrown 4 = .ok (.ireturn, 1) := by decide +kernel
theorem d_M_goes_0 : decode b_M_goes 0 = .ok (.aload_n 0, 1) := by decide +kernel
theorem d_M_goes_1 : decode b_M_goes 1 = .ok (.iload_n 1, 1) := by decide +kernel
theorem d_M_goes_2 : decode b_M_goes 2 = .ok (.ifCond .ne 7, 3) := by decide +kernel
theorem d_M_goes_5 : decode b_M_goes 5 = .ok (.iconst 1, 1) := by decide +kernel
theorem d_M_goes_6 : decode b_M_goes 6 = .ok (.goto 12, 3) := by decide +kernel
theorem d_M_goes_9 : decode b_M_goes 9 = .ok (.iload_n 2, 1) := by decide +kernel
theorem d_M_goes_10 : decode b_M_goes 10 = .ok (.ifCond .ne 7, 3) := by decide +kernel
theorem d_M_goes_13 : decode b_M_goes 13 = .ok (.iconst 2, 1) := by decide +kernel
theorem d_M_goes_14 : decode b_M_goes 14 = .ok (.goto 4, 3) := by decide +kernel
theorem d_M_goes_17 : decode b_M_goes 17 = .ok (.iconst 0, 1) := by decide +kernel
theorem d_M_goes_18 : decode b_M_goes 18 = .ok (.putfield 41, 3) := by decide +kernel
theorem d_M_goes_21 : decode b_M_goes 21 = .ok (.aload_n 0, 1) := by decide +kernel
theorem d_M_goes_22 : decode b_M_goes 22 = .ok (.getfield 41, 3) := by decide +kernel
theorem d_M_goes_25 : decode b_M_goes 25 = .ok (.ifCond .ne 7, 3) := by decide +kernel
theorem d_M_goes_28 : decode b_M_goes 28 = .ok (.iconst 1, 1) := by decide +kernel
theorem d_M_goes_29 : decode b_M_goes 29 = .ok (.goto 4, 3) := by decide +kernel
theorem d_M_goes_32 : decode b_M_goes 32 = .ok (.iconst 0, 1) := by decide +kernel
theorem d_M_goes_33 : decode b_M_goes 33 = .ok (.ireturn, 1) := by decide +kernel
theorem d_M_isThere_0 : decode b_M_isThere 0 = .ok (.iload_n 1, 1) := by decide +kernel
theorem d_M_isThere_1 : decode b_M_isThere 1 = .ok (.ifCond .lt 24, 3) := by decide +kernel
theorem d_M_isThere_4 : decode b_M_isThere 4 = .ok (.iload_n 1, 1) := by decide +kernel
theorem d_M_isThere_5 : decode b_M_isThere 5 = .ok (.aload_n 0, 1) := by decide +kernel
theorem d_M_isThere_6 : decode b_M_isThere 6 = .ok (.getfield 45, 3) := by decide +kernel
theorem d_M_isThere_9 : decode b_M_isThere 9 = .ok (.if_icmp .ge 16, 3) := by decide +kernel
theorem d_M_isThere_12 : decode b_M_isThere 12 = .ok (.aload_n 0, 1) := by decide +kernel
theorem d_M_isThere_13 : decode b_M_isThere 13 = .ok (.getfield 7, 3) := by decide +kernel
theorem d_M_isThere_16 : decode b_M_isThere 16 = .ok (.iload_n 1, 1) := by decide +kernel
theorem d_M_isThere_17 : decode b_M_isThere 17 = .ok (.baload, 1) := by decide +kernel
theorem d_M_isThere_18 : decode b_M_isThere 18 = .ok (.ifCond .eq 7, 3) := by decide +kernel
theorem d_M_isThere_21 : decode b_M_isThere 21 = .ok (.iconst 1, 1) := by decide +kernel
theorem d_M_isThere_22 : decode b_M_isThere 22 = .ok (.goto 4, 3) := by decide +kernel
theorem d_M_isThere_25 : decode b_M_isThere 25 = .ok (.iconst 0, 1) := by decide +kernel
theorem d_M_isThere_26 : decode b_M_isThere 26 = .ok (.ireturn, 1) := by decide +kernel
theorem d_M_isOrNone_0 : decode b_M_isOrNone 0 = .ok (.iload_n 1, 1) := by decide +kernel
theorem d_M_isOrNone_1 : decode b_M_isOrNone 1 = .ok (.iconst (-1), 1) := by decide +kernel
theorem d_M_isOrNone_2 : decode b_M_isOrNone 2 = .ok (.if_icmp .eq 11, 3) := by decide +kernel
theorem d_M_isOrNone_5 : decode b_M_isOrNone 5 = .ok (.aload_n 0, 1) := by decide +kernel
theorem d_M_isOrNone_6 : decode b_M_isOrNone 6 = .ok (.iload_n 1, 1) := by decide +kernel
theorem d_M_isOrNone_7 : decode b_M_isOrNone 7 = .ok (.invokevirtual 48, 3) := by decide +kernel
theorem d_M_isOrNone_10 : decode b_M_isOrNone 10 = .ok (.ifCond .eq 7, 3) := by decide +kernel
theorem d_M_isOrNone_13 : decode b_M_isOrNone 13 = .ok (.iconst 1, 1) := by decide +kernel
theorem d_M_isOrNone_14 : decode b_M_isOrNone 14 = .ok (.goto 4, 3) := by decide +kernel
theorem d_M_isOrNone_17 : decode b_M_isOrNone 17 = .ok (.iconst 0, 1) := by decide +kernel
theorem d_M_isOrNone_18 : decode b_M_isOrNone 18 = .ok (.ireturn, 1) := by decide +kernel
theorem d_M_isField_0 : decode b_M_isField 0 = .ok (.aload_n 0, 1) := by decide +kernel
theorem d_M_isField_1 : decode b_M_isField 1 = .ok (.iload_n 1, 1) := by decide +kernel
theorem d_M_isField_2 : decode b_M_isField 2 = .ok (.invokevirtual 48, 3) := by decide +kernel
theorem d_M_isField_5 : decode b_M_isField 5 = .ok (.ifCond .eq 21, 3) := by decide +kernel
theorem d_M_isField_8 : decode b_M_isField 8 = .ok (.iload_n 2, 1) := by decide +kernel
theorem d_M_isField_9 : decode b_M_isField 9 = .ok (.ifCond .lt 17, 3) := by decide +kernel
theorem d_M_isField_12 : decode b_M_isField 12 = .ok (.iload_n 2, 1) := by decide +kernel
theorem d_M_isField_13 : decode b_M_isField 13 = .ok (.aload_n 0, 1) := by decide +kernel
theorem d_M_isField_14 : decode b_M_isField 14 = .ok (.getfield 17, 3) := by decide +kernel
theorem d_M_isField_17 : decode b_M_isField 17 = .ok (.iload_n 1, 1) := by decide +kernel
theorem d_M_isField_18 : decode b_M_isField 18 = .ok (.iaload, 1) := by decide +kernel
theorem d_M_isField_19 : decode b_M_isField 19 = .ok (.if_icmp .ge 7, 3) := by decide +kernel
theorem d_M_isField_22 : decode b_M_isField 22 = .ok (.iconst 1, 1) := by decide +kernel
theorem d_M_isField_23 : decode b_M_isField 23 = .ok (.goto 4, 3) := by decide +kernel
theorem d_M_isField_26 : decode b_M_isField 26 = .ok (.iconst 0, 1) := by decide +kernel
theorem d_M_isField_27 : decode b_M_isField 27 = .ok (.ireturn, 1) := by decide +kernel
theorem d_M_make_0 : decode b_M_make 0 = .ok (.aload_n 0, 1) := by decide +kernel
theorem d_M_make_1 : decode b_M_make 1 = .ok (.iload_n 1, 1) := by decide +kernel
theorem d_M_make_2 : decode b_M_make 2 = .ok (.ifCond .lt 31, 3) := by decide +kernel
theorem d_M_make_5 : decode b_M_make 5 = .ok (.iload_n 1, 1) := by decide +kernel
theorem d_M_make_6 : decode b_M_make 6 = .ok (.iconst 2, 1) := by decide +kernel
theorem d_M_make_7 : decode b_M_make 7 = .ok (.if_icmp .gt 26, 3) := by decide +kernel
theorem d_M_make_10 : decode b_M_make 10 = .ok (.iload_n 2, 1) := by decide +kernel
theorem d_M_make_11 : decode b_M_make 11 = .ok (.ifCond .lt 22, 3) := by decide +kernel
theorem d_M_make_14 : decode b_M_make 14 = .ok (.iload_n 2, 1) := by decide +kernel
theorem d_M_make_15 : decode b_M_make 15 = .ok (.bipush 12, 2) := by decide +kernel
theorem d_M_make_17 : decode b_M_make 17 = .ok (.if_icmp .gt 16, 3) := by decide +kernel
theorem d_M_make_20 : decode b_M_make 20 = .ok (.iload_n 1, 1) := by decide +kernel
theorem d_M_make_21 : decode b_M_make 21 = .ok (.iconst 1, 1) := by decide +kernel
theorem d_M_make_22 : decode b_M_make 22 = .ok (.if_icmp .ne 7, 3) := by decide +kernel
theorem d_M_make_25 : decode b_M_make 25 = .ok (.iload_n 2, 1) := by decide +kernel
theorem d_M_make_26 : decode b_M_make 26 = .ok (.ifCond .le 7, 3) := by decide +kernel
theorem d_M_make_29 : decode b_M_make 29 = .ok (.iconst 1, 1) := by decide +kernel
theorem d_M_make_30 : decode b_M_make 30 = .ok (.goto 4, 3) := by decide +kernel
theorem d_M_make_33 : decode b_M_make 33 = .ok (.iconst 0, 1) := by decide +kernel
theorem d_M_make_34 : decode b_M_make 34 = .ok (.aload_n 0, 1) := by decide +kernel
theorem d_M_make_35 : decode b_M_make 35 = .ok (.getfield 45, 3) := by decide +kernel
theorem d_M_make_38 : decode b_M_make 38 = .ok (.sipush 300, 3) := by decide +kernel
theorem d_M_make_41 : decode b_M_make 41 = .ok (.if_icmp .ge 7, 3) := by decide +kernel
theorem d_M_make_44 : decode b_M_make 44 = .ok (.iconst 1, 1) := by decide +kernel
theorem d_M_make_45 : decode b_M_make 45 = .ok (.goto 4, 3) := by decide +kernel
theorem d_M_make_48 : decode b_M_make 48 = .ok (.iconst 0, 1) := by decide +kernel
theorem d_M_make_49 : decode b_M_make 49 = .ok (.invokevirtual 52, 3) := by decide +kernel
theorem d_M_make_52 : decode b_M_make 52 = .ok (.ifCond .ne 5, 3) := by decide +kernel
theorem d_M_make_55 : decode b_M_make 55 = .ok (.iconst 0, 1) := by decide +kernel
theorem d_M_make_56 : decode b_M_make 56 = .ok (.ireturn, 1) := by decide +kernel
theorem d_M_make_57 : decode b_M_make 57 = .ok (.aload_n 0, 1) := by decide +kernel
theorem d_M_make_58 : decode b_M_make 58 = .ok (.getfield 7, 3) := by decide +kernel
theorem d_M_make_61 : decode b_M_make 61 = .ok (.aload_n 0, 1) := by decide +kernel
theorem d_M_make_62 : decode b_M_make 62 = .ok (.getfield 45, 3) := by decide +kernel
theorem d_M_make_65 : decode b_M_make 65 = .ok (.iconst 1, 1) := by decide +kernel
theorem d_M_make_66 : decode b_M_make 66 = .ok (.bastore, 1) := by decide +kernel
theorem d_M_make_67 : decode b_M_make 67 = .ok (.aload_n 0, 1) := by decide +kernel
theorem d_M_make_68 : decode b_M_make 68 = .ok (.getfield 13, 3) := by decide +kernel
theorem d_M_make_71 : decode b_M_make 71 = .ok (.aload_n 0, 1) := by decide +kernel
theorem d_M_make_72 : decode b_M_make 72 = .ok (.getfield 45, 3) := by decide +kernel
theorem d_M_make_75 : decode b_M_make 75 = .ok (.iload_n 1, 1) := by decide +kernel
theorem d_M_make_76 : decode b_M_make 76 = .ok (.iastore, 1) := by decide +kernel
theorem d_M_make_77 : decode b_M_make 77 = .ok (.aload_n 0, 1) := by decide +kernel
theorem d_M_make_78 : decode b_M_make 78 = .ok (.getfield 17, 3) := by decide +kernel
theorem d_M_make_81 : decode b_M_make 81 = .ok (.aload_n 0, 1) := by decide +kernel
theorem d_M_make_82 : decode b_M_make 82 = .ok (.getfield 45, 3) := by decide +kernel
theorem d_M_make_85 : decode b_M_make 85 = .ok (.iload_n 2, 1) := by decide +kernel
theorem d_M_make_86 : decode b_M_make 86 = .ok (.iastore, 1) := by decide +kernel
theorem d_M_make_87 : decode b_M_make 87 = .ok (.aload_n 0, 1) := by decide +kernel
theorem d_M_make_88 : decode b_M_make 88 = .ok (.dup, 1) := by decide +kernel
theorem d_M_make_89 : decode b_M_make 89 = .ok (.getfield 45, 3) := by decide +kernel
theorem d_M_make_92 : decode b_M_make 92 = .ok (.iconst 1, 1) := by decide +kernel
theorem d_M_make_93 : decode b_M_make 93 = .ok (.iadd, 1) := by decide +kernel
theorem d_M_make_94 : decode b_M_make 94 = .ok (.putfield 45, 3) := by decide +kernel
theorem d_M_make_97 : decode b_M_make 97 = .ok (.aload_n 0, 1) := by decide +kernel
theorem d_M_make_98 : decode b_M_make 98 = .ok (.getfield 45, 3) := by decide +kernel
theorem d_M_make_101 : decode b_M_make 101 = .ok (.iconst 1, 1) := by decide +kernel
theorem d_M_make_102 : decode b_M_make 102 = .ok (.isub, 1) := by decide +kernel
theorem d_M_make_103 : decode b_M_make 103 = .ok (.ireturn, 1) := by decide +kernel
theorem d_M_set_0 : decode b_M_set 0 = .ok (.aload_n 0, 1) := by decide +kernel
theorem d_M_set_1 : decode b_M_set 1 = .ok (.aload_n 0, 1) := by decide +kernel
theorem d_M_set_2 : decode b_M_set 2 = .ok (.iload_n 1, 1) := by decide +kernel
theorem d_M_set_3 : decode b_M_set 3 = .ok (.iload_n 2, 1) := by decide +kernel
theorem d_M_set_4 : decode b_M_set 4 = .ok (.invokevirtual 56, 3) := by decide +kernel
theorem d_M_set_7 : decode b_M_set 7 = .ok (.ifCond .eq 15, 3) := by decide +kernel
theorem d_M_set_10 : decode b_M_set 10 = .ok (.aload_n 0, 1) := by decide +kernel
theorem d_M_set_11 : decode b_M_set 11 = .ok (.iload_n 3, 1) := by decide +kernel
theorem d_M_set_12 : decode b_M_set 12 = .ok (.invokevirtual 60, 3) := by decide +kernel
theorem d_M_set_15 : decode b_M_set 15 = .ok (.ifCond .eq 7, 3) := by decide +kernel
theorem d_M_set_18 : decode b_M_set 18 = .ok (.iconst 1, 1) := by decide +kernel
theorem d_M_set_19 : decode b_M_set 19 = .ok (.goto 4, 3) := by decide +kernel
theorem d_M_set_22 : decode b_M_set 22 = .ok (.iconst 0, 1) := by decide +kernel
theorem d_M_set_23 : decode b_M_set 23 = .ok (.iconst 1, 1) := by decide +kernel
theorem d_M_set_24 : decode b_M_set 24 = .ok (.invokevirtual 52, 3) := by decide +kernel
theorem d_M_set_27 : decode b_M_set 27 = .ok (.ifCond .ne 5, 3) := by decide +kernel
theorem d_M_set_30 : decode b_M_set 30 = .ok (.iconst 0, 1) := by decide +kernel
theorem d_M_set_31 : decode b_M_set 31 = .ok (.ireturn, 1) := by decide +kernel
theorem d_M_set_32 : decode b_M_set 32 = .ok (.aload_n 0, 1) := by decide +kernel
theorem d_M_set_33 : decode b_M_set 33 = .ok (.getfield 20, 3) := by decide +kernel
theorem d_M_set_36 : decode b_M_set 36 = .ok (.bipush 12, 2) := by decide +kernel
theorem d_M_set_38 : decode b_M_set 38 = .ok (.iload_n 1, 1) := by decide +kernel
theorem d_M_set_39 : decode b_M_set 39 = .ok (.imul, 1) := by decide +kernel
theorem d_M_set_40 : decode b_M_set 40 = .ok (.iload_n 2, 1) := by decide +kernel
theorem d_M_set_41 : decode b_M_set 41 = .ok (.iadd, 1) := by decide +kernel
theorem d_M_set_42 : decode b_M_set 42 = .ok (.iaload, 1) := by decide +kernel
theorem d_M_set_43 : decode b_M_set 43 = .ok (.istore 4, 2) := by decide +kernel
theorem d_M_set_45 : decode b_M_set 45 = .ok (.aload_n 0, 1) := by decide +kernel
theorem d_M_set_46 : decode b_M_set 46 = .ok (.getfield 20, 3) := by decide +kernel
theorem d_M_set_49 : decode b_M_set 49 = .ok (.bipush 12, 2) := by decide +kernel
theorem d_M_set_51 : decode b_M_set 51 = .ok (.iload_n 1, 1) := by decide +kernel
theorem d_M_set_52 : decode b_M_set 52 = .ok (.imul, 1) := by decide +kernel
theorem d_M_set_53 : decode b_M_set 53 = .ok (.iload_n 2, 1) := by decide +kernel
theorem d_M_set_54 : decode b_M_set 54 = .ok (.iadd, 1) := by decide +kernel
theorem d_M_set_55 : decode b_M_set 55 = .ok (.iload_n 3, 1) := by decide +kernel
theorem d_M_set_56 : decode b_M_set 56 = .ok (.iconst 1, 1) := by decide +kernel
theorem d_M_set_57 : decode b_M_set 57 = .ok (.iadd, 1) := by decide +kernel
theorem d_M_set_58 : decode b_M_set 58 = .ok (.iastore, 1) := by decide +kernel
theorem d_M_set_59 : decode b_M_set 59 = .ok (.iload 4, 2) := by decide +kernel
theorem d_M_set_61 : decode b_M_set 61 = .ok (.iconst 1, 1) := by decide +kernel
theorem d_M_set_62 : decode b_M_set 62 = .ok (.isub, 1) := by decide +kernel
theorem d_M_set_63 : decode b_M_set 63 = .ok (.ireturn, 1) := by decide +kernel
theorem d_M_get_0 : decode b_M_get 0 = .ok (.aload_n 0, 1) := by decide +kernel
theorem d_M_get_1 : decode b_M_get 1 = .ok (.aload_n 0, 1) := by decide +kernel
theorem d_M_get_2 : decode b_M_get 2 = .ok (.iload_n 1, 1) := by decide +kernel
theorem d_M_get_3 : decode b_M_get 3 = .ok (.iload_n 2, 1) := by decide +kernel
theorem d_M_get_4 : decode b_M_get 4 = .ok (.invokevirtual 56, 3) := by decide +kernel
theorem d_M_get_7 : decode b_M_get 7 = .ok (.iconst 1, 1) := by decide +kernel
theorem d_M_get_8 : decode b_M_get 8 = .ok (.invokevirtual 52, 3) := by decide +kernel
theorem d_M_get_11 : decode b_M_get 11 = .ok (.ifCond .eq 19, 3) := by decide +kernel
theorem d_M_get_14 : decode b_M_get 14 = .ok (.aload_n 0, 1) := by decide +kernel
theorem d_M_get_15 : decode b_M_get 15 = .ok (.getfield 20, 3) := by decide +kernel
theorem d_M_get_18 : decode b_M_get 18 = .ok (.bipush 12, 2) := by decide +kernel
theorem d_M_get_20 : decode b_M_get 20 = .ok (.iload_n 1, 1) := by decide +kernel
theorem d_M_get_21 : decode b_M_get 21 = .ok (.imul, 1) := by decide +kernel
theorem d_M_get_22 : decode b_M_get 22 = .ok (.iload_n 2, 1) := by decide +kernel
theorem d_M_get_23 : decode b_M_get 23 = .ok (.iadd, 1) := by decide +kernel
theorem d_M_get_24 : decode b_M_get 24 = .ok (.iaload, 1) := by decide +kernel
theorem d_M_get_25 : decode b_M_get 25 = .ok (.iconst 1, 1) := by decide +kernel
theorem d_M_get_26 : decode b_M_get 26 = .ok (.isub, 1) := by decide +kernel
theorem d_M_get_27 : decode b_M_get 27 = .ok (.goto 4, 3) := by decide +kernel
theorem d_M_get_30 : decode b_M_get 30 = .ok (.iconst 0, 1) := by decide +kernel
theorem d_M_get_31 : decode b_M_get 31 = .ok (.ireturn, 1) := by decide +kernel
theorem d_M_root_0 : decode b_M_root 0 = .ok (.aload_n 0, 1) := by decide +kernel
theorem d_M_root_1 : decode b_M_root 1 = .ok (.iload_n 1, 1) := by decide +kernel
theorem d_M_root_2 : decode b_M_root 2 = .ok (.ifCond .lt 21, 3) := by decide +kernel
theorem d_M_root_5 : decode b_M_root 5 = .ok (.iload_n 1, 1) := by decide +kernel
theorem d_M_root_6 : decode b_M_root 6 = .ok (.bipush 16, 2) := by decide +kernel
theorem d_M_root_8 : decode b_M_root 8 = .ok (.if_icmp .ge 15, 3) := by decide +kernel
theorem d_M_root_11 : decode b_M_root 11 = .ok (.aload_n 0, 1) := by decide +kernel
theorem d_M_root_12 : decode b_M_root 12 = .ok (.iload_n 2, 1) := by decide +kernel
theorem d_M_root_13 : decode b_M_root 13 = .ok (.invokevirtual 60, 3) := by decide +kernel
theorem d_M_root_16 : decode b_M_root 16 = .ok (.ifCond .eq 7, 3) := by decide +kernel
theorem d_M_root_19 : decode b_M_root 19 = .ok (.iconst 1, 1) := by decide +kernel
theorem d_M_root_20 : decode b_M_root 20 = .ok (.goto 4, 3) := by decide +kernel
theorem d_M_root_23 : decode b_M_root 23 = .ok (.iconst 0, 1) := by decide +kernel
theorem d_M_root_24 : decode b_M_root 24 = .ok (.iconst 1, 1) := by decide +kernel
theorem d_M_root_25 : decode b_M_root 25 = .ok (.invokevirtual 52, 3) := by decide +kernel
theorem d_M_root_28 : decode b_M_root 28 = .ok (.ifCond .ne 5, 3) := by decide +kernel
theorem d_M_root_31 : decode b_M_root 31 = .ok (.iconst 0, 1) := by decide +kernel
theorem d_M_root_32 : decode b_M_root 32 = .ok (.ireturn, 1) := by decide +kernel
theorem d_M_root_33 : decode b_M_root 33 = .ok (.aload_n 0, 1) := by decide +kernel
theorem d_M_root_34 : decode b_M_root 34 = .ok (.getfield 29, 3) := by decide +kernel
theorem d_M_root_37 : decode b_M_root 37 = .ok (.iload_n 1, 1) := by decide +kernel
theorem d_M_root_38 : decode b_M_root 38 = .ok (.iaload, 1) := by decide +kernel
theorem d_M_root_39 : decode b_M_root 39 = .ok (.istore_n 3, 1) := by decide +kernel
theorem d_M_root_40 : decode b_M_root 40 = .ok (.aload_n 0, 1) := by decide +kernel
theorem d_M_root_41 : decode b_M_root 41 = .ok (.getfield 29, 3) := by decide +kernel
theorem d_M_root_44 : decode b_M_root 44 = .ok (.iload_n 1, 1) := by decide +kernel
theorem d_M_root_45 : decode b_M_root 45 = .ok (.iload_n 2, 1) := by decide +kernel
theorem d_M_root_46 : decode b_M_root 46 = .ok (.iconst 1, 1) := by decide +kernel
theorem d_M_root_47 : decode b_M_root 47 = .ok (.iadd, 1) := by decide +kernel
theorem d_M_root_48 : decode b_M_root 48 = .ok (.iastore, 1) := by decide +kernel
theorem d_M_root_49 : decode b_M_root 49 = .ok (.iload_n 3, 1) := by decide +kernel
theorem d_M_root_50 : decode b_M_root 50 = .ok (.iconst 1, 1) := by decide +kernel
theorem d_M_root_51 : decode b_M_root 51 = .ok (.isub, 1) := by decide +kernel
theorem d_M_root_52 : decode b_M_root 52 = .ok (.ireturn, 1) := by decide +kernel
theorem d_M_find_0 : decode b_M_find 0 = .ok (.iconst 0, 1) := by decide +kernel
theorem d_M_find_1 : decode b_M_find 1 = .ok (.istore_n 2, 1) := by decide +kernel
theorem d_M_find_2 : decode b_M_find 2 = .ok (.iload_n 2, 1) := by decide +kernel
theorem d_M_find_3 : decode b_M_find 3 = .ok (.aload_n 0, 1) := by decide +kernel
theorem d_M_find_4 : decode b_M_find 4 = .ok (.getfield 45, 3) := by decide +kernel
theorem d_M_find_7 : decode b_M_find 7 = .ok (.if_icmp .ge 52, 3) := by decide +kernel
theorem d_M_find_10 : decode b_M_find 10 = .ok (.aload_n 0, 1) := by decide +kernel
theorem d_M_find_11 : decode b_M_find 11 = .ok (.getfield 35, 3) := by decide +kernel
theorem d_M_find_14 : decode b_M_find 14 = .ok (.iload_n 2, 1) := by decide +kernel
theorem d_M_find_15 : decode b_M_find 15 = .ok (.iload_n 1, 1) := by decide +kernel
theorem d_M_find_16 : decode b_M_find 16 = .ok (.ifCond .eq 35, 3) := by decide +kernel
theorem d_M_find_19 : decode b_M_find 19 = .ok (.aload_n 0, 1) := by decide +kernel
theorem d_M_find_20 : decode b_M_find 20 = .ok (.getfield 7, 3) := by decide +kernel
theorem d_M_find_23 : decode b_M_find 23 = .ok (.iload_n 2, 1) := by decide +kernel
theorem d_M_find_24 : decode b_M_find 24 = .ok (.baload, 1) := by decide +kernel
theorem d_M_find_25 : decode b_M_find 25 = .ok (.ifCond .eq 26, 3) := by decide +kernel
theorem d_M_find_28 : decode b_M_find 28 = .ok (.aload_n 0, 1) := by decide +kernel
theorem d_M_find_29 : decode b_M_find 29 = .ok (.getfield 13, 3) := by decide +kernel
theorem d_M_find_32 : decode b_M_find 32 = .ok (.iload_n 2, 1) := by decide +kernel
theorem d_M_find_33 : decode b_M_find 33 = .ok (.iaload, 1) := by decide +kernel
theorem d_M_find_34 : decode b_M_find 34 = .ok (.iconst 2, 1) := by decide +kernel
theorem d_M_find_35 : decode b_M_find 35 = .ok (.if_icmp .ne 16, 3) := by decide +kernel
theorem d_M_find_38 : decode b_M_find 38 = .ok (.aload_n 0, 1) := by decide +kernel
theorem d_M_find_39 : decode b_M_find 39 = .ok (.getfield 26, 3) := by decide +kernel
theorem d_M_find_42 : decode b_M_find 42 = .ok (.iload_n 2, 1) := by decide +kernel
theorem d_M_find_43 : decode b_M_find 43 = .ok (.baload, 1) := by decide +kernel
theorem d_M_find_44 : decode b_M_find 44 = .ok (.ifCond .ne 7, 3) := by decide +kernel
theorem d_M_find_47 : decode b_M_find 47 = .ok (.iconst 1, 1) := by decide +kernel
theorem d_M_find_48 : decode b_M_find 48 = .ok (.goto 4, 3) := by decide +kernel
theorem d_M_find_51 : decode b_M_find 51 = .ok (.iconst 0, 1) := by decide +kernel
theorem d_M_find_52 : decode b_M_find 52 = .ok (.bastore, 1) := by decide +kernel
theorem d_M_find_53 : decode b_M_find 53 = .ok (.iinc 2 1, 3) := by decide +kernel
theorem d_M_find_56 : decode b_M_find 56 = .ok (.goto (-54), 3) := by decide +kernel
theorem d_M_find_59 : decode b_M_find 59 = .ok (.iconst 0, 1) := by decide +kernel
theorem d_M_find_60 : decode b_M_find 60 = .ok (.istore_n 2, 1) := by decide +kernel
theorem d_M_find_61 : decode b_M_find 61 = .ok (.iload_n 2, 1) := by decide +kernel
theorem d_M_find_62 : decode b_M_find 62 = .ok (.bipush 16, 2) := by decide +kernel
theorem d_M_find_64 : decode b_M_find 64 = .ok (.if_icmp .ge 32, 3) := by decide +kernel
theorem d_M_find_67 : decode b_M_find 67 = .ok (.aload_n 0, 1) := by decide +kernel
theorem d_M_find_68 : decode b_M_find 68 = .ok (.getfield 29, 3) := by decide +kernel
theorem d_M_find_71 : decode b_M_find 71 = .ok (.iload_n 2, 1) := by decide +kernel
theorem d_M_find_72 : decode b_M_find 72 = .ok (.iaload, 1) := by decide +kernel
theorem d_M_find_73 : decode b_M_find 73 = .ok (.ifCond .le 17, 3) := by decide +kernel
theorem d_M_find_76 : decode b_M_find 76 = .ok (.aload_n 0, 1) := by decide +kernel
theorem d_M_find_77 : decode b_M_find 77 = .ok (.getfield 35, 3) := by decide +kernel
theorem d_M_find_80 : decode b_M_find 80 = .ok (.aload_n 0, 1) := by decide +kernel
theorem d_M_find_81 : decode b_M_find 81 = .ok (.getfield 29, 3) := by decide +kernel
theorem d_M_find_84 : decode b_M_find 84 = .ok (.iload_n 2, 1) := by decide +kernel
theorem d_M_find_85 : decode b_M_find 85 = .ok (.iaload, 1) := by decide +kernel
theorem d_M_find_86 : decode b_M_find 86 = .ok (.iconst 1, 1) := by decide +kernel
theorem d_M_find_87 : decode b_M_find 87 = .ok (.isub, 1) := by decide +kernel
theorem d_M_find_88 : decode b_M_find 88 = .ok (.iconst 1, 1) := by decide +kernel
theorem d_M_find_89 : decode b_M_find 89 = .ok (.bastore, 1) := by decide +kernel
theorem d_M_find_90 : decode b_M_find 90 = .ok (.iinc 2 1, 3) := by decide +kernel
theorem d_M_find_93 : decode b_M_find 93 = .ok (.goto (-32), 3) := by decide +kernel
theorem d_M_find_96 : decode b_M_find 96 = .ok (.iconst 0, 1) := by decide +kernel
theorem d_M_find_97 : decode b_M_find 97 = .ok (.istore_n 2, 1) := by decide +kernel
theorem d_M_find_98 : decode b_M_find 98 = .ok (.iload_n 2, 1) := by decide +kernel
theorem d_M_find_99 : decode b_M_find 99 = .ok (.aload_n 0, 1) := by decide +kernel
theorem d_M_find_100 : decode b_M_find 100 = .ok (.getfield 63, 3) := by decide +kernel
theorem d_M_find_103 : decode b_M_find 103 = .ok (.if_icmp .ge 21, 3) := by decide +kernel
theorem d_M_find_106 : decode b_M_find 106 = .ok (.aload_n 0, 1) := by decide +kernel
theorem d_M_find_107 : decode b_M_find 107 = .ok (.getfield 35, 3) := by decide +kernel
theorem d_M_find_110 : decode b_M_find 110 = .ok (.aload_n 0, 1) := by decide +kernel
theorem d_M_find_111 : decode b_M_find 111 = .ok (.getfield 32, 3) := by decide +kernel
theorem d_M_find_114 : decode b_M_find 114 = .ok (.iload_n 2, 1) := by decide +kernel
theorem d_M_find_115 : decode b_M_find 115 = .ok (.iaload, 1) := by decide +kernel
theorem d_M_find_116 : decode b_M_find 116 = .ok (.iconst 1, 1) := by decide +kernel
theorem d_M_find_117 : decode b_M_find 117 = .ok (.bastore, 1) := by decide +kernel
theorem d_M_find_118 : decode b_M_find 118 = .ok (.iinc 2 1, 3) := by decide +kernel
theorem d_M_find_121 : decode b_M_find 121 = .ok (.goto (-23), 3) := by decide +kernel
theorem d_M_find_124 : decode b_M_find 124 = .ok (.iconst 1, 1) := by decide +kernel
theorem d_M_find_125 : decode b_M_find 125 = .ok (.istore_n 2, 1) := by decide +kernel
theorem d_M_find_126 : decode b_M_find 126 = .ok (.iload_n 2, 1) := by decide +kernel
theorem d_M_find_127 : decode b_M_find 127 = .ok (.ifCond .eq 112, 3) := by decide +kernel
theorem d_M_find_130 : decode b_M_find 130 = .ok (.iconst 0, 1) := by decide +kernel
theorem d_M_find_131 : decode b_M_find 131 = .ok (.istore_n 2, 1) := by decide +kernel
theorem d_M_find_132 : decode b_M_find 132 = .ok (.iconst 0, 1) := by decide +kernel
theorem d_M_find_133 : decode b_M_find 133 = .ok (.istore_n 3, 1) := by decide +kernel
theorem d_M_find_134 : decode b_M_find 134 = .ok (.iload_n 3, 1) := by decide +kernel
theorem d_M_find_135 : decode b_M_find 135 = .ok (.aload_n 0, 1) := by decide +kernel
theorem d_M_find_136 : decode b_M_find 136 = .ok (.getfield 45, 3) := by decide +kernel
theorem d_M_find_139 : decode b_M_find 139 = .ok (.if_icmp .ge 97, 3) := by decide +kernel
theorem d_M_find_142 : decode b_M_find 142 = .ok (.aload_n 0, 1) := by decide +kernel
theorem d_M_find_143 : decode b_M_find 143 = .ok (.getfield 13, 3) := by decide +kernel
theorem d_M_find_146 : decode b_M_find 146 = .ok (.iload_n 3, 1) := by decide +kernel
theorem d_M_find_147 : decode b_M_find 147 = .ok (.iaload, 1) := by decide +kernel
theorem d_M_find_148 : decode b_M_find 148 = .ok (.iconst 1, 1) := by decide +kernel
theorem d_M_find_149 : decode b_M_find 149 = .ok (.if_icmp .ne 11, 3) := by decide +kernel
theorem d_M_find_152 : decode b_M_find 152 = .ok (.iload_n 1, 1) := by decide +kernel
theorem d_M_find_153 : decode b_M_find 153 = .ok (.ifCond .ne 7, 3) := by decide +kernel
theorem d_M_find_156 : decode b_M_find 156 = .ok (.iconst 1, 1) := by decide +kernel
theorem d_M_find_157 : decode b_M_find 157 = .ok (.goto 4, 3) := by decide +kernel
theorem d_M_find_160 : decode b_M_find 160 = .ok (.iconst 0, 1) := by decide +kernel
theorem d_M_find_161 : decode b_M_find 161 = .ok (.istore 4, 2) := by decide +kernel
theorem d_M_find_163 : decode b_M_find 163 = .ok (.iload 4, 2) := by decide +kernel
theorem d_M_find_165 : decode b_M_find 165 = .ok (.aload_n 0, 1) := by decide +kernel
theorem d_M_find_166 : decode b_M_find 166 = .ok (.getfield 17, 3) := by decide +kernel
theorem d_M_find_169 : decode b_M_find 169 = .ok (.iload_n 3, 1) := by decide +kernel
theorem d_M_find_170 : decode b_M_find 170 = .ok (.iaload, 1) := by decide +kernel
theorem d_M_find_171 : decode b_M_find 171 = .ok (.if_icmp .ge 59, 3) := by decide +kernel
theorem d_M_find_174 : decode b_M_find 174 = .ok (.aload_n 0, 1) := by decide +kernel
theorem d_M_find_175 : decode b_M_find 175 = .ok (.getfield 35, 3) := by decide +kernel
theorem d_M_find_178 : decode b_M_find 178 = .ok (.iload_n 3, 1) := by decide +kernel
theorem d_M_find_179 : decode b_M_find 179 = .ok (.baload, 1) := by decide +kernel
theorem d_M_find_180 : decode b_M_find 180 = .ok (.ifCond .eq 50, 3) := by decide +kernel
theorem d_M_find_183 : decode b_M_find 183 = .ok (.aload_n 0, 1) := by decide +kernel
theorem d_M_find_184 : decode b_M_find 184 = .ok (.getfield 20, 3) := by decide +kernel
theorem d_M_find_187 : decode b_M_find 187 = .ok (.bipush 12, 2) := by decide +kernel
theorem d_M_find_189 : decode b_M_find 189 = .ok (.iload_n 3, 1) := by decide +kernel
theorem d_M_find_190 : decode b_M_find 190 = .ok (.imul, 1) := by decide +kernel
theorem d_M_find_191 : decode b_M_find 191 = .ok (.iload 4, 2) := by decide +kernel
theorem d_M_find_193 : decode b_M_find 193 = .ok (.iadd, 1) := by decide +kernel
theorem d_M_find_194 : decode b_M_find 194 = .ok (.iaload, 1) := by decide +kernel
theorem d_M_find_195 : decode b_M_find 195 = .ok (.iconst 1, 1) := by decide +kernel
theorem d_M_find_196 : decode b_M_find 196 = .ok (.isub, 1) := by decide +kernel
theorem d_M_find_197 : decode b_M_find 197 = .ok (.istore 5, 2) := by decide +kernel
theorem d_M_find_199 : decode b_M_find 199 = .ok (.iload 5, 2) := by decide +kernel
theorem d_M_find_201 : decode b_M_find 201 = .ok (.ifCond .lt 23, 3) := by decide +kernel
theorem d_M_find_204 : decode b_M_find 204 = .ok (.aload_n 0, 1) := by decide +kernel
theorem d_M_find_205 : decode b_M_find 205 = .ok (.getfield 35, 3) := by decide +kernel
theorem d_M_find_208 : decode b_M_find 208 = .ok (.iload 5, 2) := by decide +kernel
theorem d_M_find_210 : decode b_M_find 210 = .ok (.baload, 1) := by decide +kernel
theorem d_M_find_211 : decode b_M_find 211 = .ok (.ifCond .ne 13, 3) := by decide +kernel
theorem d_M_find_214 : decode b_M_find 214 = .ok (.aload_n 0, 1) := by decide +kernel
theorem d_M_find_215 : decode b_M_find 215 = .ok (.getfield 35, 3) := by decide +kernel
theorem d_M_find_218 : decode b_M_find 218 = .ok (.iload 5, 2) := by decide +kernel
theorem d_M_find_220 : decode b_M_find 220 = .ok (.iconst 1, 1) := by decide +kernel
theorem d_M_find_221 : decode b_M_find 221 = .ok (.bastore, 1) := by decide +kernel
theorem d_M_find_222 : decode b_M_find 222 = .ok (.iconst 1, 1) := by decide +kernel
theorem d_M_find_223 : decode b_M_find 223 = .ok (.istore_n 2, 1) := by decide +kernel
theorem d_M_find_224 : decode b_M_find 224 = .ok (.iinc 4 1, 3) := by decide +kernel
theorem d_M_find_227 : decode b_M_find 227 = .ok (.goto (-64), 3) := by decide +kernel
theorem d_M_find_230 : decode b_M_find 230 = .ok (.iinc 3 1, 3) := by decide +kernel
theorem d_M_find_233 : decode b_M_find 233 = .ok (.goto (-99), 3) := by decide +kernel
theorem d_M_find_236 : decode b_M_find 236 = .ok (.goto (-110), 3) := by decide +kernel
theorem d_M_find_239 : decode b_M_find 239 = .ok (.iconst 0, 1) := by decide +kernel
theorem d_M_find_240 : decode b_M_find 240 = .ok (.istore_n 3, 1) := by decide +kernel
theorem d_M_find_241 : decode b_M_find 241 = .ok (.iconst 0, 1) := by decide +kernel
theorem d_M_find_242 : decode b_M_find 242 = .ok (.istore 4, 2) := by decide +kernel
theorem d_M_find_244 : decode b_M_find 244 = .ok (.iload 4, 2) := by decide +kernel
theorem d_M_find_246 : decode b_M_find 246 = .ok (.aload_n 0, 1) := by decide +kernel
theorem d_M_find_247 : decode b_M_find 247 = .ok (.getfield 45, 3) := by decide +kernel
theorem d_M_find_250 : decode b_M_find 250 = .ok (.if_icmp .ge 27, 3) := by decide +kernel
theorem d_M_find_253 : decode b_M_find 253 = .ok (.aload_n 0, 1) := by decide +kernel
theorem d_M_find_254 : decode b_M_find 254 = .ok (.getfield 35, 3) := by decide +kernel
theorem d_M_find_257 : decode b_M_find 257 = .ok (.iload 4, 2) := by decide +kernel
theorem d_M_find_259 : decode b_M_find 259 = .ok (.baload, 1) := by decide +kernel
theorem d_M_find_260 : decode b_M_find 260 = .ok (.ifCond .eq 9, 3) := by decide +kernel
theorem d_M_find_263 : decode b_M_find 263 = .ok (.iload_n 3, 1) := by decide +kernel
theorem d_M_find_264 : decode b_M_find 264 = .ok (.iconst 1, 1) := by decide +kernel
theorem d_M_find_265 : decode b_M_find 265 = .ok (.iadd, 1) := by decide +kernel
theorem d_M_find_266 : decode b_M_find 266 = .ok (.goto 4, 3) := by decide +kernel
theorem d_M_find_269 : decode b_M_find 269 = .ok (.iload_n 3, 1) := by decide +kernel
theorem d_M_find_270 : decode b_M_find 270 = .ok (.istore_n 3, 1) := by decide +kernel
theorem d_M_find_271 : decode b_M_find 271 = .ok (.iinc 4 1, 3) := by decide +kernel
theorem d_M_find_274 : decode b_M_find 274 = .ok (.goto (-30), 3) := by decide +kernel
theorem d_M_find_277 : decode b_M_find 277 = .ok (.iload_n 3, 1) := by decide +kernel
theorem d_M_find_278 : decode b_M_find 278 = .ok (.ireturn, 1) := by decide +kernel
theorem d_M_clear_0 : decode b_M_clear 0 = .ok (.aload_n 0, 1) := by decide +kernel
theorem d_M_clear_1 : decode b_M_clear 1 = .ok (.iconst 0, 1) := by decide +kernel
theorem d_M_clear_2 : decode b_M_clear 2 = .ok (.putfield 41, 3) := by decide +kernel
theorem d_M_clear_5 : decode b_M_clear 5 = .ok (.aload_n 0, 1) := by decide +kernel
theorem d_M_clear_6 : decode b_M_clear 6 = .ok (.dup, 1) := by decide +kernel
theorem d_M_clear_7 : decode b_M_clear 7 = .ok (.getfield 66, 3) := by decide +kernel
theorem d_M_clear_10 : decode b_M_clear 10 = .ok (.iconst 1, 1) := by decide +kernel
theorem d_M_clear_11 : decode b_M_clear 11 = .ok (.iadd, 1) := by decide +kernel
theorem d_M_clear_12 : decode b_M_clear 12 = .ok (.putfield 66, 3) := by decide +kernel
theorem d_M_clear_15 : decode b_M_clear 15 = .ok (.aload_n 0, 1) := by decide +kernel
theorem d_M_clear_16 : decode b_M_clear 16 = .ok (.iconst 0, 1) := by decide +kernel
theorem d_M_clear_17 : decode b_M_clear 17 = .ok (.invokevirtual 69, 3) := by decide +kernel
theorem d_M_clear_20 : decode b_M_clear 20 = .ok (.istore_n 1, 1) := by decide +kernel
theorem d_M_clear_21 : decode b_M_clear 21 = .ok (.aload_n 0, 1) := by decide +kernel
theorem d_M_clear_22 : decode b_M_clear 22 = .ok (.getfield 63, 3) := by decide +kernel
theorem d_M_clear_25 : decode b_M_clear 25 = .ok (.istore_n 2, 1) := by decide +kernel
theorem d_M_clear_26 : decode b_M_clear 26 = .ok (.iconst 0, 1) := by decide +kernel
theorem d_M_clear_27 : decode b_M_clear 27 = .ok (.istore_n 3, 1) := by decide +kernel
theorem d_M_clear_28 : decode b_M_clear 28 = .ok (.iload_n 3, 1) := by decide +kernel
theorem d_M_clear_29 : decode b_M_clear 29 = .ok (.aload_n 0, 1) := by decide +kernel
theorem d_M_clear_30 : decode b_M_clear 30 = .ok (.getfield 45, 3) := by decide +kernel
theorem d_M_clear_33 : decode b_M_clear 33 = .ok (.if_icmp .ge 85, 3) := by decide +kernel
theorem d_M_clear_36 : decode b_M_clear 36 = .ok (.aload_n 0, 1) := by decide +kernel
theorem d_M_clear_37 : decode b_M_clear 37 = .ok (.getfield 38, 3) := by decide +kernel
theorem d_M_clear_40 : decode b_M_clear 40 = .ok (.iload_n 3, 1) := by decide +kernel
theorem d_M_clear_41 : decode b_M_clear 41 = .ok (.aload_n 0, 1) := by decide +kernel
theorem d_M_clear_42 : decode b_M_clear 42 = .ok (.getfield 35, 3) := by decide +kernel
theorem d_M_clear_45 : decode b_M_clear 45 = .ok (.iload_n 3, 1) := by decide +kernel
theorem d_M_clear_46 : decode b_M_clear 46 = .ok (.baload, 1) := by decide +kernel
theorem d_M_clear_47 : decode b_M_clear 47 = .ok (.bastore, 1) := by decide +kernel
theorem d_M_clear_48 : decode b_M_clear 48 = .ok (.aload_n 0, 1) := by decide +kernel
theorem d_M_clear_49 : decode b_M_clear 49 = .ok (.getfield 7, 3) := by decide +kernel
theorem d_M_clear_52 : decode b_M_clear 52 = .ok (.iload_n 3, 1) := by decide +kernel
theorem d_M_clear_53 : decode b_M_clear 53 = .ok (.baload, 1) := by decide +kernel
theorem d_M_clear_54 : decode b_M_clear 54 = .ok (.ifCond .eq 58, 3) := by decide +kernel
theorem d_M_clear_57 : decode b_M_clear 57 = .ok (.aload_n 0, 1) := by decide +kernel
theorem d_M_clear_58 : decode b_M_clear 58 = .ok (.getfield 13, 3) := by decide +kernel
theorem d_M_clear_61 : decode b_M_clear 61 = .ok (.iload_n 3, 1) := by decide +kernel
theorem d_M_clear_62 : decode b_M_clear 62 = .ok (.iaload, 1) := by decide +kernel
theorem d_M_clear_63 : decode b_M_clear 63 = .ok (.iconst 2, 1) := by decide +kernel
theorem d_M_clear_64 : decode b_M_clear 64 = .ok (.if_icmp .ne 48, 3) := by decide +kernel
theorem d_M_clear_67 : decode b_M_clear 67 = .ok (.aload_n 0, 1) := by decide +kernel
theorem d_M_clear_68 : decode b_M_clear 68 = .ok (.getfield 26, 3) := by decide +kernel
theorem d_M_clear_71 : decode b_M_clear 71 = .ok (.iload_n 3, 1) := by decide +kernel
theorem d_M_clear_72 : decode b_M_clear 72 = .ok (.baload, 1) := by decide +kernel
theorem d_M_clear_73 : decode b_M_clear 73 = .ok (.ifCond .ne 39, 3) := by decide +kernel
theorem d_M_clear_76 : decode b_M_clear 76 = .ok (.aload_n 0, 1) := by decide +kernel
theorem d_M_clear_77 : decode b_M_clear 77 = .ok (.getfield 35, 3) := by decide +kernel
theorem d_M_clear_80 : decode b_M_clear 80 = .ok (.iload_n 3, 1) := by decide +kernel
theorem d_M_clear_81 : decode b_M_clear 81 = .ok (.baload, 1) := by decide +kernel
theorem d_M_clear_82 : decode b_M_clear 82 = .ok (.ifCond .ne 30, 3) := by decide +kernel
theorem d_M_clear_85 : decode b_M_clear 85 = .ok (.aload_n 0, 1) := by decide +kernel
theorem d_M_clear_86 : decode b_M_clear 86 = .ok (.getfield 26, 3) := by decide +kernel
theorem d_M_clear_89 : decode b_M_clear 89 = .ok (.iload_n 3, 1) := by decide +kernel
theorem d_M_clear_90 : decode b_M_clear 90 = .ok (.iconst 1, 1) := by decide +kernel
theorem d_M_clear_91 : decode b_M_clear 91 = .ok (.bastore, 1) := by decide +kernel
theorem d_M_clear_92 : decode b_M_clear 92 = .ok (.aload_n 0, 1) := by decide +kernel
theorem d_M_clear_93 : decode b_M_clear 93 = .ok (.getfield 32, 3) := by decide +kernel
theorem d_M_clear_96 : decode b_M_clear 96 = .ok (.aload_n 0, 1) := by decide +kernel
theorem d_M_clear_97 : decode b_M_clear 97 = .ok (.getfield 63, 3) := by decide +kernel
theorem d_M_clear_100 : decode b_M_clear 100 = .ok (.iload_n 3, 1) := by decide +kernel
theorem d_M_clear_101 : decode b_M_clear 101 = .ok (.iastore, 1) := by decide +kernel
theorem d_M_clear_102 : decode b_M_clear 102 = .ok (.aload_n 0, 1) := by decide +kernel
theorem d_M_clear_103 : decode b_M_clear 103 = .ok (.dup, 1) := by decide +kernel
theorem d_M_clear_104 : decode b_M_clear 104 = .ok (.getfield 63, 3) := by decide +kernel
theorem d_M_clear_107 : decode b_M_clear 107 = .ok (.iconst 1, 1) := by decide +kernel
theorem d_M_clear_108 : decode b_M_clear 108 = .ok (.iadd, 1) := by decide +kernel
theorem d_M_clear_109 : decode b_M_clear 109 = .ok (.putfield 63, 3) := by decide +kernel
theorem d_M_clear_112 : decode b_M_clear 112 = .ok (.iinc 3 1, 3) := by decide +kernel
theorem d_M_clear_115 : decode b_M_clear 115 = .ok (.goto (-87), 3) := by decide +kernel
theorem d_M_clear_118 : decode b_M_clear 118 = .ok (.aload_n 0, 1) := by decide +kernel
theorem d_M_clear_119 : decode b_M_clear 119 = .ok (.iconst 0, 1) := by decide +kernel
theorem d_M_clear_120 : decode b_M_clear 120 = .ok (.invokevirtual 69, 3) := by decide +kernel
theorem d_M_clear_123 : decode b_M_clear 123 = .ok (.istore_n 3, 1) := by decide +kernel
theorem d_M_clear_124 : decode b_M_clear 124 = .ok (.iconst 0, 1) := by decide +kernel
theorem d_M_clear_125 : decode b_M_clear 125 = .ok (.istore 4, 2) := by decide +kernel
theorem d_M_clear_127 : decode b_M_clear 127 = .ok (.iload 4, 2) := by decide +kernel
theorem d_M_clear_129 : decode b_M_clear 129 = .ok (.aload_n 0, 1) := by decide +kernel
theorem d_M_clear_130 : decode b_M_clear 130 = .ok (.getfield 45, 3) := by decide +kernel
theorem d_M_clear_133 : decode b_M_clear 133 = .ok (.if_icmp .ge 96, 3) := by decide +kernel
theorem d_M_clear_136 : decode b_M_clear 136 = .ok (.aload_n 0, 1) := by decide +kernel
theorem d_M_clear_137 : decode b_M_clear 137 = .ok (.getfield 35, 3) := by decide +kernel
theorem d_M_clear_140 : decode b_M_clear 140 = .ok (.iload 4, 2) := by decide +kernel
theorem d_M_clear_142 : decode b_M_clear 142 = .ok (.baload, 1) := by decide +kernel
theorem d_M_clear_143 : decode b_M_clear 143 = .ok (.ifCond .eq 31, 3) := by decide +kernel
theorem d_M_clear_146 : decode b_M_clear 146 = .ok (.aload_n 0, 1) := by decide +kernel
theorem d_M_clear_147 : decode b_M_clear 147 = .ok (.getfield 13, 3) := by decide +kernel
theorem d_M_clear_150 : decode b_M_clear 150 = .ok (.iload 4, 2) := by decide +kernel
theorem d_M_clear_152 : decode b_M_clear 152 = .ok (.iaload, 1) := by decide +kernel
theorem d_M_clear_153 : decode b_M_clear 153 = .ok (.iconst 1, 1) := by decide +kernel
theorem d_M_clear_154 : decode b_M_clear 154 = .ok (.if_icmp .ne 20, 3) := by decide +kernel
theorem d_M_clear_157 : decode b_M_clear 157 = .ok (.aload_n 0, 1) := by decide +kernel
theorem d_M_clear_158 : decode b_M_clear 158 = .ok (.getfield 20, 3) := by decide +kernel
theorem d_M_clear_161 : decode b_M_clear 161 = .ok (.bipush 12, 2) := by decide +kernel
theorem d_M_clear_163 : decode b_M_clear 163 = .ok (.iload 4, 2) := by decide +kernel
theorem d_M_clear_165 : decode b_M_clear 165 = .ok (.imul, 1) := by decide +kernel
theorem d_M_clear_166 : decode b_M_clear 166 = .ok (.iaload, 1) := by decide +kernel
theorem d_M_clear_167 : decode b_M_clear 167 = .ok (.ifCond .le 7, 3) := by decide +kernel
theorem d_M_clear_170 : decode b_M_clear 170 = .ok (.iconst 1, 1) := by decide +kernel
theorem d_M_clear_171 : decode b_M_clear 171 = .ok (.goto 4, 3) := by decide +kernel
theorem d_M_clear_174 : decode b_M_clear 174 = .ok (.iconst 0, 1) := by decide +kernel
theorem d_M_clear_175 : decode b_M_clear 175 = .ok (.istore 5, 2) := by decide +kernel
theorem d_M_clear_177 : decode b_M_clear 177 = .ok (.iload 5, 2) := by decide +kernel
theorem d_M_clear_179 : decode b_M_clear 179 = .ok (.ifCond .eq 44, 3) := by decide +kernel
theorem d_M_clear_182 : decode b_M_clear 182 = .ok (.aload_n 0, 1) := by decide +kernel
theorem d_M_clear_183 : decode b_M_clear 183 = .ok (.getfield 38, 3) := by decide +kernel
theorem d_M_clear_186 : decode b_M_clear 186 = .ok (.aload_n 0, 1) := by decide +kernel
theorem d_M_clear_187 : decode b_M_clear 187 = .ok (.getfield 20, 3) := by decide +kernel
theorem d_M_clear_190 : decode b_M_clear 190 = .ok (.bipush 12, 2) := by decide +kernel
theorem d_M_clear_192 : decode b_M_clear 192 = .ok (.iload 4, 2) := by decide +kernel
theorem d_M_clear_194 : decode b_M_clear 194 = .ok (.imul, 1) := by decide +kernel
theorem d_M_clear_195 : decode b_M_clear 195 = .ok (.iaload, 1) := by decide +kernel
theorem d_M_clear_196 : decode b_M_clear 196 = .ok (.iconst 1, 1) := by decide +kernel
theorem d_M_clear_197 : decode b_M_clear 197 = .ok (.isub, 1) := by decide +kernel
theorem d_M_clear_198 : decode b_M_clear 198 = .ok (.baload, 1) := by decide +kernel
theorem d_M_clear_199 : decode b_M_clear 199 = .ok (.ifCond .ne 24, 3) := by decide +kernel
theorem d_M_clear_202 : decode b_M_clear 202 = .ok (.aload_n 0, 1) := by decide +kernel
theorem d_M_clear_203 : decode b_M_clear 203 = .ok (.getfield 20, 3) := by decide +kernel
theorem d_M_clear_206 : decode b_M_clear 206 = .ok (.bipush 12, 2) := by decide +kernel
theorem d_M_clear_208 : decode b_M_clear 208 = .ok (.iload 4, 2) := by decide +kernel
theorem d_M_clear_210 : decode b_M_clear 210 = .ok (.imul, 1) := by decide +kernel
theorem d_M_clear_211 : decode b_M_clear 211 = .ok (.iconst 0, 1) := by decide +kernel
theorem d_M_clear_212 : decode b_M_clear 212 = .ok (.iastore, 1) := by decide +kernel
theorem d_M_clear_213 : decode b_M_clear 213 = .ok (.aload_n 0, 1) := by decide +kernel
theorem d_M_clear_214 : decode b_M_clear 214 = .ok (.dup, 1) := by decide +kernel
theorem d_M_clear_215 : decode b_M_clear 215 = .ok (.getfield 73, 3) := by decide +kernel
theorem d_M_clear_218 : decode b_M_clear 218 = .ok (.iconst 1, 1) := by decide +kernel
theorem d_M_clear_219 : decode b_M_clear 219 = .ok (.iadd, 1) := by decide +kernel
theorem d_M_clear_220 : decode b_M_clear 220 = .ok (.putfield 73, 3) := by decide +kernel
theorem d_M_clear_223 : decode b_M_clear 223 = .ok (.iinc 4 1, 3) := by decide +kernel
theorem d_M_clear_226 : decode b_M_clear 226 = .ok (.goto (-99), 3) := by decide +kernel
theorem d_M_clear_229 : decode b_M_clear 229 = .ok (.aload_n 0, 1) := by decide +kernel
theorem d_M_clear_230 : decode b_M_clear 230 = .ok (.getfield 63, 3) := by decide +kernel
theorem d_M_clear_233 : decode b_M_clear 233 = .ok (.iload_n 2, 1) := by decide +kernel
theorem d_M_clear_234 : decode b_M_clear 234 = .ok (.isub, 1) := by decide +kernel
theorem d_M_clear_235 : decode b_M_clear 235 = .ok (.ireturn, 1) := by decide +kernel
theorem d_M_take_0 : decode b_M_take 0 = .ok (.aload_n 0, 1) := by decide +kernel
theorem d_M_take_1 : decode b_M_take 1 = .ok (.iconst 0, 1) := by decide +kernel
theorem d_M_take_2 : decode b_M_take 2 = .ok (.putfield 41, 3) := by decide +kernel
theorem d_M_take_5 : decode b_M_take 5 = .ok (.aload_n 0, 1) := by decide +kernel
theorem d_M_take_6 : decode b_M_take 6 = .ok (.getfield 63, 3) := by decide +kernel
theorem d_M_take_9 : decode b_M_take 9 = .ok (.ifCond .ne 5, 3) := by decide +kernel
theorem d_M_take_12 : decode b_M_take 12 = .ok (.iconst (-1), 1) := by decide +kernel
theorem d_M_take_13 : decode b_M_take 13 = .ok (.ireturn, 1) := by decide +kernel
theorem d_M_take_14 : decode b_M_take 14 = .ok (.aload_n 0, 1) := by decide +kernel
theorem d_M_take_15 : decode b_M_take 15 = .ok (.getfield 32, 3) := by decide +kernel
theorem d_M_take_18 : decode b_M_take 18 = .ok (.iconst 0, 1) := by decide +kernel
theorem d_M_take_19 : decode b_M_take 19 = .ok (.iaload, 1) := by decide +kernel
theorem d_M_take_20 : decode b_M_take 20 = .ok (.istore_n 1, 1) := by decide +kernel
theorem d_M_take_21 : decode b_M_take 21 = .ok (.aload_n 0, 1) := by decide +kernel
theorem d_M_take_22 : decode b_M_take 22 = .ok (.dup, 1) := by decide +kernel
theorem d_M_take_23 : decode b_M_take 23 = .ok (.getfield 63, 3) := by decide +kernel
theorem d_M_take_26 : decode b_M_take 26 = .ok (.iconst 1, 1) := by decide +kernel
theorem d_M_take_27 : decode b_M_take 27 = .ok (.isub, 1) := by decide +kernel
theorem d_M_take_28 : decode b_M_take 28 = .ok (.putfield 63, 3) := by decide +kernel
theorem d_M_take_31 : decode b_M_take 31 = .ok (.iconst 0, 1) := by decide +kernel
theorem d_M_take_32 : decode b_M_take 32 = .ok (.istore_n 2, 1) := by decide +kernel
theorem d_M_take_33 : decode b_M_take 33 = .ok (.iload_n 2, 1) := by decide +kernel
theorem d_M_take_34 : decode b_M_take 34 = .ok (.aload_n 0, 1) := by decide +kernel
theorem d_M_take_35 : decode b_M_take 35 = .ok (.getfield 63, 3) := by decide +kernel
theorem d_M_take_38 : decode b_M_take 38 = .ok (.if_icmp .ge 23, 3) := by decide +kernel
theorem d_M_take_41 : decode b_M_take 41 = .ok (.aload_n 0, 1) := by decide +kernel
theorem d_M_take_42 : decode b_M_take 42 = .ok (.getfield 32, 3) := by decide +kernel
theorem d_M_take_45 : decode b_M_take 45 = .ok (.iload_n 2, 1) := by decide +kernel
theorem d_M_take_46 : decode b_M_take 46 = .ok (.aload_n 0, 1) := by decide +kernel
theorem d_M_take_47 : decode b_M_take 47 = .ok (.getfield 32, 3) := by decide +kernel
theorem d_M_take_50 : decode b_M_take 50 = .ok (.iload_n 2, 1) := by decide +kernel
theorem d_M_take_51 : decode b_M_take 51 = .ok (.iconst 1, 1) := by decide +kernel
theorem d_M_take_52 : decode b_M_take 52 = .ok (.iadd, 1) := by decide +kernel
theorem d_M_take_53 : decode b_M_take 53 = .ok (.iaload, 1) := by decide +kernel
theorem d_M_take_54 : decode b_M_take 54 = .ok (.iastore, 1) := by decide +kernel
theorem d_M_take_55 : decode b_M_take 55 = .ok (.iinc 2 1, 3) := by decide +kernel
theorem d_M_take_58 : decode b_M_take 58 = .ok (.goto (-25), 3) := by decide +kernel
theorem d_M_take_61 : decode b_M_take 61 = .ok (.aload_n 0, 1) := by decide +kernel
theorem d_M_take_62 : decode b_M_take 62 = .ok (.getfield 13, 3) := by decide +kernel
theorem d_M_take_65 : decode b_M_take 65 = .ok (.iload_n 1, 1) := by decide +kernel
theorem d_M_take_66 : decode b_M_take 66 = .ok (.iconst 0, 1) := by decide +kernel
theorem d_M_take_67 : decode b_M_take 67 = .ok (.iastore, 1) := by decide +kernel
theorem d_M_take_68 : decode b_M_take 68 = .ok (.iload_n 1, 1) := by decide +kernel
theorem d_M_take_69 : decode b_M_take 69 = .ok (.ireturn, 1) := by decide +kernel
theorem d_M_queued_0 : decode b_M_queued 0 = .ok (.aload_n 0, 1) := by decide +kernel
theorem d_M_queued_1 : decode b_M_queued 1 = .ok (.iload_n 1, 1) := by decide +kernel
theorem d_M_queued_2 : decode b_M_queued 2 = .ok (.ifCond .lt 7, 3) := by decide +kernel
theorem d_M_queued_5 : decode b_M_queued 5 = .ok (.iconst 1, 1) := by decide +kernel
theorem d_M_queued_6 : decode b_M_queued 6 = .ok (.goto 4, 3) := by decide +kernel
theorem d_M_queued_9 : decode b_M_queued 9 = .ok (.iconst 0, 1) := by decide +kernel
theorem d_M_queued_10 : decode b_M_queued 10 = .ok (.iconst 1, 1) := by decide +kernel
theorem d_M_queued_11 : decode b_M_queued 11 = .ok (.invokevirtual 52, 3) := by decide +kernel
theorem d_M_queued_14 : decode b_M_queued 14 = .ok (.ifCond .ne 5, 3) := by decide +kernel
theorem d_M_queued_17 : decode b_M_queued 17 = .ok (.iconst 0, 1) := by decide +kernel
theorem d_M_queued_18 : decode b_M_queued 18 = .ok (.ireturn, 1) := by decide +kernel
theorem d_M_queued_19 : decode b_M_queued 19 = .ok (.iload_n 1, 1) := by decide +kernel
theorem d_M_queued_20 : decode b_M_queued 20 = .ok (.aload_n 0, 1) := by decide +kernel
theorem d_M_queued_21 : decode b_M_queued 21 = .ok (.getfield 63, 3) := by decide +kernel
theorem d_M_queued_24 : decode b_M_queued 24 = .ok (.if_icmp .ge 12, 3) := by decide +kernel
theorem d_M_queued_27 : decode b_M_queued 27 = .ok (.aload_n 0, 1) := by decide +kernel
theorem d_M_queued_28 : decode b_M_queued 28 = .ok (.getfield 32, 3) := by decide +kernel
theorem d_M_queued_31 : decode b_M_queued 31 = .ok (.iload_n 1, 1) := by decide +kernel
theorem d_M_queued_32 : decode b_M_queued 32 = .ok (.iaload, 1) := by decide +kernel
theorem d_M_queued_33 : decode b_M_queued 33 = .ok (.goto 4, 3) := by decide +kernel
theorem d_M_queued_36 : decode b_M_queued 36 = .ok (.iconst (-1), 1) := by decide +kernel
theorem d_M_queued_37 : decode b_M_queued 37 = .ok (.ireturn, 1) := by decide +kernel
theorem d_M_sweep_0 : decode b_M_sweep 0 = .ok (.aload_n 0, 1) := by decide +kernel
theorem d_M_sweep_1 : decode b_M_sweep 1 = .ok (.iconst 0, 1) := by decide +kernel
theorem d_M_sweep_2 : decode b_M_sweep 2 = .ok (.putfield 41, 3) := by decide +kernel
theorem d_M_sweep_5 : decode b_M_sweep 5 = .ok (.aload_n 0, 1) := by decide +kernel
theorem d_M_sweep_6 : decode b_M_sweep 6 = .ok (.iconst 1, 1) := by decide +kernel
theorem d_M_sweep_7 : decode b_M_sweep 7 = .ok (.invokevirtual 69, 3) := by decide +kernel
theorem d_M_sweep_10 : decode b_M_sweep 10 = .ok (.istore_n 1, 1) := by decide +kernel
theorem d_M_sweep_11 : decode b_M_sweep 11 = .ok (.iconst 0, 1) := by decide +kernel
theorem d_M_sweep_12 : decode b_M_sweep 12 = .ok (.istore_n 2, 1) := by decide +kernel
theorem d_M_sweep_13 : decode b_M_sweep 13 = .ok (.iconst 0, 1) := by decide +kernel
theorem d_M_sweep_14 : decode b_M_sweep 14 = .ok (.istore_n 3, 1) := by decide +kernel
theorem d_M_sweep_15 : decode b_M_sweep 15 = .ok (.iload_n 3, 1) := by decide +kernel
theorem d_M_sweep_16 : decode b_M_sweep 16 = .ok (.aload_n 0, 1) := by decide +kernel
theorem d_M_sweep_17 : decode b_M_sweep 17 = .ok (.getfield 45, 3) := by decide +kernel
theorem d_M_sweep_20 : decode b_M_sweep 20 = .ok (.if_icmp .ge 64, 3) := by decide +kernel
theorem d_M_sweep_23 : decode b_M_sweep 23 = .ok (.aload_n 0, 1) := by decide +kernel
theorem d_M_sweep_24 : decode b_M_sweep 24 = .ok (.getfield 7, 3) := by decide +kernel
theorem d_M_sweep_27 : decode b_M_sweep 27 = .ok (.iload_n 3, 1) := by decide +kernel
theorem d_M_sweep_28 : decode b_M_sweep 28 = .ok (.baload, 1) := by decide +kernel
theorem d_M_sweep_29 : decode b_M_sweep 29 = .ok (.ifCond .eq 18, 3) := by decide +kernel
theorem d_M_sweep_32 : decode b_M_sweep 32 = .ok (.aload_n 0, 1) := by decide +kernel
theorem d_M_sweep_33 : decode b_M_sweep 33 = .ok (.getfield 35, 3) := by decide +kernel
theorem d_M_sweep_36 : decode b_M_sweep 36 = .ok (.iload_n 3, 1) := by decide +kernel
theorem d_M_sweep_37 : decode b_M_sweep 37 = .ok (.baload, 1) := by decide +kernel
theorem d_M_sweep_38 : decode b_M_sweep 38 = .ok (.ifCond .ne 9, 3) := by decide +kernel
theorem d_M_sweep_41 : decode b_M_sweep 41 = .ok (.iload_n 2, 1) := by decide +kernel
theorem d_M_sweep_42 : decode b_M_sweep 42 = .ok (.iconst 1, 1) := by decide +kernel
theorem d_M_sweep_43 : decode b_M_sweep 43 = .ok (.iadd, 1) := by decide +kernel
theorem d_M_sweep_44 : decode b_M_sweep 44 = .ok (.goto 4, 3) := by decide +kernel
theorem d_M_sweep_47 : decode b_M_sweep 47 = .ok (.iload_n 2, 1) := by decide +kernel
theorem d_M_sweep_48 : decode b_M_sweep 48 = .ok (.istore_n 2, 1) := by decide +kernel
theorem d_M_sweep_49 : decode b_M_sweep 49 = .ok (.aload_n 0, 1) := by decide +kernel
theorem d_M_sweep_50 : decode b_M_sweep 50 = .ok (.getfield 7, 3) := by decide +kernel
theorem d_M_sweep_53 : decode b_M_sweep 53 = .ok (.iload_n 3, 1) := by decide +kernel
theorem d_M_sweep_54 : decode b_M_sweep 54 = .ok (.aload_n 0, 1) := by decide +kernel
theorem d_M_sweep_55 : decode b_M_sweep 55 = .ok (.getfield 7, 3) := by decide +kernel
theorem d_M_sweep_58 : decode b_M_sweep 58 = .ok (.iload_n 3, 1) := by decide +kernel
theorem d_M_sweep_59 : decode b_M_sweep 59 = .ok (.baload, 1) := by decide +kernel
theorem d_M_sweep_60 : decode b_M_sweep 60 = .ok (.ifCond .eq 16, 3) := by decide +kernel
theorem d_M_sweep_63 : decode b_M_sweep 63 = .ok (.aload_n 0, 1) := by decide +kernel
theorem d_M_sweep_64 : decode b_M_sweep 64 = .ok (.getfield 35, 3) := by decide +kernel
theorem d_M_sweep_67 : decode b_M_sweep 67 = .ok (.iload_n 3, 1) := by decide +kernel
theorem d_M_sweep_68 : decode b_M_sweep 68 = .ok (.baload, 1) := by decide +kernel
theorem d_M_sweep_69 : decode b_M_sweep 69 = .ok (.ifCond .eq 7, 3) := by decide +kernel
theorem d_M_sweep_72 : decode b_M_sweep 72 = .ok (.iconst 1, 1) := by decide +kernel
theorem d_M_sweep_73 : decode b_M_sweep 73 = .ok (.goto 4, 3) := by decide +kernel
theorem d_M_sweep_76 : decode b_M_sweep 76 = .ok (.iconst 0, 1) := by decide +kernel
theorem d_M_sweep_77 : decode b_M_sweep 77 = .ok (.bastore, 1) := by decide +kernel
theorem d_M_sweep_78 : decode b_M_sweep 78 = .ok (.iinc 3 1, 3) := by decide +kernel
theorem d_M_sweep_81 : decode b_M_sweep 81 = .ok (.goto (-66), 3) := by decide +kernel
theorem d_M_sweep_84 : decode b_M_sweep 84 = .ok (.iload_n 2, 1) := by decide +kernel
theorem d_M_sweep_85 : decode b_M_sweep 85 = .ok (.ireturn, 1) := by decide +kernel
theorem d_M_identity_0 : decode b_M_identity 0 = .ok (.aload_n 0, 1) := by decide +kernel
theorem d_M_identity_1 : decode b_M_identity 1 = .ok (.aload_n 0, 1) := by decide +kernel
theorem d_M_identity_2 : decode b_M_identity 2 = .ok (.iload_n 1, 1) := by decide +kernel
theorem d_M_identity_3 : decode b_M_identity 3 = .ok (.invokevirtual 48, 3) := by decide +kernel
theorem d_M_identity_6 : decode b_M_identity 6 = .ok (.iconst 1, 1) := by decide +kernel
theorem d_M_identity_7 : decode b_M_identity 7 = .ok (.invokevirtual 52, 3) := by decide +kernel
theorem d_M_identity_10 : decode b_M_identity 10 = .ok (.ifCond .ne 5, 3) := by decide +kernel
theorem d_M_identity_13 : decode b_M_identity 13 = .ok (.iconst 0, 1) := by decide +kernel
theorem d_M_identity_14 : decode b_M_identity 14 = .ok (.ireturn, 1) := by decide +kernel
theorem d_M_identity_15 : decode b_M_identity 15 = .ok (.aload_n 0, 1) := by decide +kernel
theorem d_M_identity_16 : decode b_M_identity 16 = .ok (.getfield 23, 3) := by decide +kernel
theorem d_M_identity_19 : decode b_M_identity 19 = .ok (.iload_n 1, 1) := by decide +kernel
theorem d_M_identity_20 : decode b_M_identity 20 = .ok (.iaload, 1) := by decide +kernel
theorem d_M_identity_21 : decode b_M_identity 21 = .ok (.ifCond .ne 23, 3) := by decide +kernel
theorem d_M_identity_24 : decode b_M_identity 24 = .ok (.aload_n 0, 1) := by decide +kernel
theorem d_M_identity_25 : decode b_M_identity 25 = .ok (.dup, 1) := by decide +kernel
theorem d_M_identity_26 : decode b_M_identity 26 = .ok (.getfield 76, 3) := by decide +kernel
theorem d_M_identity_29 : decode b_M_identity 29 = .ok (.iconst 1, 1) := by decide +kernel
theorem d_M_identity_30 : decode b_M_identity 30 = .ok (.iadd, 1) := by decide +kernel
theorem d_M_identity_31 : decode b_M_identity 31 = .ok (.putfield 76, 3) := by decide +kernel
theorem d_M_identity_34 : decode b_M_identity 34 = .ok (.aload_n 0, 1) := by decide +kernel
theorem d_M_identity_35 : decode b_M_identity 35 = .ok (.getfield 23, 3) := by decide +kernel
theorem d_M_identity_38 : decode b_M_identity 38 = .ok (.iload_n 1, 1) := by decide +kernel
theorem d_M_identity_39 : decode b_M_identity 39 = .ok (.aload_n 0, 1) := by decide +kernel
theorem d_M_identity_40 : decode b_M_identity 40 = .ok (.getfield 76, 3) := by decide +kernel
theorem d_M_identity_43 : decode b_M_identity 43 = .ok (.iastore, 1) := by decide +kernel
theorem d_M_identity_44 : decode b_M_identity 44 = .ok (.aload_n 0, 1) := by decide +kernel
theorem d_M_identity_45 : decode b_M_identity 45 = .ok (.getfield 23, 3) := by decide +kernel
theorem d_M_identity_48 : decode b_M_identity 48 = .ok (.iload_n 1, 1) := by decide +kernel
theorem d_M_identity_49 : decode b_M_identity 49 = .ok (.iaload, 1) := by decide +kernel
theorem d_M_identity_50 : decode b_M_identity 50 = .ok (.iconst 1, 1) := by decide +kernel
theorem d_M_identity_51 : decode b_M_identity 51 = .ok (.isub, 1) := by decide +kernel
theorem d_M_identity_52 : decode b_M_identity 52 = .ok (.ireturn, 1) := by decide +kernel
theorem d_M_about_0 : decode b_M_about 0 = .ok (.aload_n 0, 1) := by decide +kernel
theorem d_M_about_1 : decode b_M_about 1 = .ok (.aload_n 0, 1) := by decide +kernel
theorem d_M_about_2 : decode b_M_about 2 = .ok (.iload_n 1, 1) := by decide +kernel
theorem d_M_about_3 : decode b_M_about 3 = .ok (.invokevirtual 48, 3) := by decide +kernel
theorem d_M_about_6 : decode b_M_about 6 = .ok (.iload_n 2, 1) := by decide +kernel
theorem d_M_about_7 : decode b_M_about 7 = .ok (.ifCond .lt 12, 3) := by decide +kernel
theorem d_M_about_10 : decode b_M_about 10 = .ok (.iload_n 2, 1) := by decide +kernel
theorem d_M_about_11 : decode b_M_about 11 = .ok (.iconst 3, 1) := by decide +kernel
theorem d_M_about_12 : decode b_M_about 12 = .ok (.if_icmp .gt 7, 3) := by decide +kernel
theorem d_M_about_15 : decode b_M_about 15 = .ok (.iconst 1, 1) := by decide +kernel
theorem d_M_about_16 : decode b_M_about 16 = .ok (.goto 4, 3) := by decide +kernel
theorem d_M_about_19 : decode b_M_about 19 = .ok (.iconst 0, 1) := by decide +kernel
theorem d_M_about_20 : decode b_M_about 20 = .ok (.invokevirtual 52, 3) := by decide +kernel
theorem d_M_about_23 : decode b_M_about 23 = .ok (.ifCond .ne 5, 3) := by decide +kernel
theorem d_M_about_26 : decode b_M_about 26 = .ok (.iconst 0, 1) := by decide +kernel
theorem d_M_about_27 : decode b_M_about 27 = .ok (.ireturn, 1) := by decide +kernel
theorem d_M_about_28 : decode b_M_about 28 = .ok (.iload_n 2, 1) := by decide +kernel
theorem d_M_about_29 : decode b_M_about 29 = .ok (.iconst 2, 1) := by decide +kernel
theorem d_M_about_30 : decode b_M_about 30 = .ok (.if_icmp .ge 23, 3) := by decide +kernel
theorem d_M_about_33 : decode b_M_about 33 = .ok (.iload_n 2, 1) := by decide +kernel
theorem d_M_about_34 : decode b_M_about 34 = .ok (.ifCond .ne 12, 3) := by decide +kernel
theorem d_M_about_37 : decode b_M_about 37 = .ok (.aload_n 0, 1) := by decide +kernel
theorem d_M_about_38 : decode b_M_about 38 = .ok (.getfield 13, 3) := by decide +kernel
theorem d_M_about_41 : decode b_M_about 41 = .ok (.iload_n 1, 1) := by decide +kernel
theorem d_M_about_42 : decode b_M_about 42 = .ok (.iaload, 1) := by decide +kernel
theorem d_M_about_43 : decode b_M_about 43 = .ok (.goto 9, 3) := by decide +kernel
theorem d_M_about_46 : decode b_M_about 46 = .ok (.aload_n 0, 1) := by decide +kernel
theorem d_M_about_47 : decode b_M_about 47 = .ok (.getfield 17, 3) := by decide +kernel
theorem d_M_about_50 : decode b_M_about 50 = .ok (.iload_n 1, 1) := by decide +kernel
theorem d_M_about_51 : decode b_M_about 51 = .ok (.iaload, 1) := by decide +kernel
theorem d_M_about_52 : decode b_M_about 52 = .ok (.ireturn, 1) := by decide +kernel
theorem d_M_about_53 : decode b_M_about 53 = .ok (.aload_n 0, 1) := by decide +kernel
theorem d_M_about_54 : decode b_M_about 54 = .ok (.iload_n 2, 1) := by decide +kernel
theorem d_M_about_55 : decode b_M_about 55 = .ok (.iconst 3, 1) := by decide +kernel
theorem d_M_about_56 : decode b_M_about 56 = .ok (.if_icmp .ne 7, 3) := by decide +kernel
theorem d_M_about_59 : decode b_M_about 59 = .ok (.iconst 1, 1) := by decide +kernel
theorem d_M_about_60 : decode b_M_about 60 = .ok (.goto 4, 3) := by decide +kernel
theorem d_M_about_63 : decode b_M_about 63 = .ok (.iconst 0, 1) := by decide +kernel
theorem d_M_about_64 : decode b_M_about 64 = .ok (.invokevirtual 69, 3) := by decide +kernel
theorem d_M_about_67 : decode b_M_about 67 = .ok (.istore_n 3, 1) := by decide +kernel
theorem d_M_about_68 : decode b_M_about 68 = .ok (.aload_n 0, 1) := by decide +kernel
theorem d_M_about_69 : decode b_M_about 69 = .ok (.getfield 35, 3) := by decide +kernel
theorem d_M_about_72 : decode b_M_about 72 = .ok (.iload_n 1, 1) := by decide +kernel
theorem d_M_about_73 : decode b_M_about 73 = .ok (.baload, 1) := by decide +kernel
theorem d_M_about_74 : decode b_M_about 74 = .ok (.ifCond .eq 7, 3) := by decide +kernel
theorem d_M_about_77 : decode b_M_about 77 = .ok (.iconst 1, 1) := by decide +kernel
theorem d_M_about_78 : decode b_M_about 78 = .ok (.goto 4, 3) := by decide +kernel
theorem d_M_about_81 : decode b_M_about 81 = .ok (.iconst 0, 1) := by decide +kernel
theorem d_M_about_82 : decode b_M_about 82 = .ok (.ireturn, 1) := by decide +kernel
theorem d_M_many_0 : decode b_M_many 0 = .ok (.iconst 0, 1) := by decide +kernel
theorem d_M_many_1 : decode b_M_many 1 = .ok (.istore_n 1, 1) := by decide +kernel
theorem d_M_many_2 : decode b_M_many 2 = .ok (.iconst 0, 1) := by decide +kernel
theorem d_M_many_3 : decode b_M_many 3 = .ok (.istore_n 2, 1) := by decide +kernel
theorem d_M_many_4 : decode b_M_many 4 = .ok (.iload_n 2, 1) := by decide +kernel
theorem d_M_many_5 : decode b_M_many 5 = .ok (.aload_n 0, 1) := by decide +kernel
theorem d_M_many_6 : decode b_M_many 6 = .ok (.getfield 45, 3) := by decide +kernel
theorem d_M_many_9 : decode b_M_many 9 = .ok (.if_icmp .ge 26, 3) := by decide +kernel
theorem d_M_many_12 : decode b_M_many 12 = .ok (.aload_n 0, 1) := by decide +kernel
theorem d_M_many_13 : decode b_M_many 13 = .ok (.getfield 7, 3) := by decide +kernel
theorem d_M_many_16 : decode b_M_many 16 = .ok (.iload_n 2, 1) := by decide +kernel
theorem d_M_many_17 : decode b_M_many 17 = .ok (.baload, 1) := by decide +kernel
theorem d_M_many_18 : decode b_M_many 18 = .ok (.ifCond .eq 9, 3) := by decide +kernel
theorem d_M_many_21 : decode b_M_many 21 = .ok (.iload_n 1, 1) := by decide +kernel
theorem d_M_many_22 : decode b_M_many 22 = .ok (.iconst 1, 1) := by decide +kernel
theorem d_M_many_23 : decode b_M_many 23 = .ok (.iadd, 1) := by decide +kernel
theorem d_M_many_24 : decode b_M_many 24 = .ok (.goto 4, 3) := by decide +kernel
theorem d_M_many_27 : decode b_M_many 27 = .ok (.iload_n 1, 1) := by decide +kernel
theorem d_M_many_28 : decode b_M_many 28 = .ok (.istore_n 1, 1) := by decide +kernel
theorem d_M_many_29 : decode b_M_many 29 = .ok (.iinc 2 1, 3) := by decide +kernel
theorem d_M_many_32 : decode b_M_many 32 = .ok (.goto (-28), 3) := by decide +kernel
theorem d_M_many_35 : decode b_M_many 35 = .ok (.iload_n 1, 1) := by decide +kernel
theorem d_M_many_36 : decode b_M_many 36 = .ok (.ireturn, 1) := by decide +kernel
theorem d_M_waiting_0 : decode b_M_waiting 0 = .ok (.iconst 0, 1) := by decide +kernel
theorem d_M_waiting_1 : decode b_M_waiting 1 = .ok (.istore_n 1, 1) := by decide +kernel
theorem d_M_waiting_2 : decode b_M_waiting 2 = .ok (.iconst 0, 1) := by decide +kernel
theorem d_M_waiting_3 : decode b_M_waiting 3 = .ok (.istore_n 2, 1) := by decide +kernel
theorem d_M_waiting_4 : decode b_M_waiting 4 = .ok (.iload_n 2, 1) := by decide +kernel
theorem d_M_waiting_5 : decode b_M_waiting 5 = .ok (.aload_n 0, 1) := by decide +kernel
theorem d_M_waiting_6 : decode b_M_waiting 6 = .ok (.getfield 45, 3) := by decide +kernel
theorem d_M_waiting_9 : decode b_M_waiting 9 = .ok (.if_icmp .ge 45, 3) := by decide +kernel
theorem d_M_waiting_12 : decode b_M_waiting 12 = .ok (.aload_n 0, 1) := by decide +kernel
theorem d_M_waiting_13 : decode b_M_waiting 13 = .ok (.getfield 7, 3) := by decide +kernel
theorem d_M_waiting_16 : decode b_M_waiting 16 = .ok (.iload_n 2, 1) := by decide +kernel
theorem d_M_waiting_17 : decode b_M_waiting 17 = .ok (.baload, 1) := by decide +kernel
theorem d_M_waiting_18 : decode b_M_waiting 18 = .ok (.ifCond .eq 28, 3) := by decide +kernel
theorem d_M_waiting_21 : decode b_M_waiting 21 = .ok (.aload_n 0, 1) := by decide +kernel
theorem d_M_waiting_22 : decode b_M_waiting 22 = .ok (.getfield 13, 3) := by decide +kernel
theorem d_M_waiting_25 : decode b_M_waiting 25 = .ok (.iload_n 2, 1) := by decide +kernel
theorem d_M_waiting_26 : decode b_M_waiting 26 = .ok (.iaload, 1) := by decide +kernel
theorem d_M_waiting_27 : decode b_M_waiting 27 = .ok (.iconst 2, 1) := by decide +kernel
theorem d_M_waiting_28 : decode b_M_waiting 28 = .ok (.if_icmp .ne 18, 3) := by decide +kernel
theorem d_M_waiting_31 : decode b_M_waiting 31 = .ok (.aload_n 0, 1) := by decide +kernel
theorem d_M_waiting_32 : decode b_M_waiting 32 = .ok (.getfield 26, 3) := by decide +kernel
theorem d_M_waiting_35 : decode b_M_waiting 35 = .ok (.iload_n 2, 1) := by decide +kernel
theorem d_M_waiting_36 : decode b_M_waiting 36 = .ok (.baload, 1) := by decide +kernel
theorem d_M_waiting_37 : decode b_M_waiting 37 = .ok (.ifCond .ne 9, 3) := by decide +kernel
theorem d_M_waiting_40 : decode b_M_waiting 40 = .ok (.iload_n 1, 1) := by decide +kernel
theorem d_M_waiting_41 : decode b_M_waiting 41 = .ok (.iconst 1, 1) := by decide +kernel
theorem d_M_waiting_42 : decode b_M_waiting 42 = .ok (.iadd, 1) := by decide +kernel
theorem d_M_waiting_43 : decode b_M_waiting 43 = .ok (.goto 4, 3) := by decide +kernel
theorem d_M_waiting_46 : decode b_M_waiting 46 = .ok (.iload_n 1, 1) := by decide +kernel
theorem d_M_waiting_47 : decode b_M_waiting 47 = .ok (.istore_n 1, 1) := by decide +kernel
theorem d_M_waiting_48 : decode b_M_waiting 48 = .ok (.iinc 2 1, 3) := by decide +kernel
theorem d_M_waiting_51 : decode b_M_waiting 51 = .ok (.goto (-47), 3) := by decide +kernel
theorem d_M_waiting_54 : decode b_M_waiting 54 = .ok (.iload_n 1, 1) := by decide +kernel
theorem d_M_waiting_55 : decode b_M_waiting 55 = .ok (.ireturn, 1) := by decide +kernel
theorem d_M_count_0 : decode b_M_count 0 = .ok (.aload_n 0, 1) := by decide +kernel
theorem d_M_count_1 : decode b_M_count 1 = .ok (.iload_n 1, 1) := by decide +kernel
theorem d_M_count_2 : decode b_M_count 2 = .ok (.ifCond .lt 13, 3) := by decide +kernel
theorem d_M_count_5 : decode b_M_count 5 = .ok (.iload_n 1, 1) := by decide +kernel
theorem d_M_count_6 : decode b_M_count 6 = .ok (.bipush 8, 2) := by decide +kernel
theorem d_M_count_8 : decode b_M_count 8 = .ok (.if_icmp .gt 7, 3) := by decide +kernel
theorem d_M_count_11 : decode b_M_count 11 = .ok (.iconst 1, 1) := by decide +kernel
theorem d_M_count_12 : decode b_M_count 12 = .ok (.goto 4, 3) := by decide +kernel
theorem d_M_count_15 : decode b_M_count 15 = .ok (.iconst 0, 1) := by decide +kernel
theorem d_M_count_16 : decode b_M_count 16 = .ok (.iconst 1, 1) := by decide +kernel
theorem d_M_count_17 : decode b_M_count 17 = .ok (.invokevirtual 52, 3) := by decide +kernel
theorem d_M_count_20 : decode b_M_count 20 = .ok (.ifCond .ne 5, 3) := by decide +kernel
theorem d_M_count_23 : decode b_M_count 23 = .ok (.iconst 0, 1) := by decide +kernel
theorem d_M_count_24 : decode b_M_count 24 = .ok (.ireturn, 1) := by decide +kernel
theorem d_M_count_25 : decode b_M_count 25 = .ok (.iload_n 1, 1) := by decide +kernel
theorem d_M_count_26 : decode b_M_count 26 = .ok (.tableswitch 88 0 7 #[46, 51, 57, 63, 68, 73, 78, 83], 46) := by decide +kernel
theorem d_M_count_72 : decode b_M_count 72 = .ok (.aload_n 0, 1) := by decide +kernel
theorem d_M_count_73 : decode b_M_count 73 = .ok (.invokevirtual 79, 3) := by decide +kernel
theorem d_M_count_76 : decode b_M_count 76 = .ok (.ireturn, 1) := by decide +kernel
theorem d_M_count_77 : decode b_M_count 77 = .ok (.aload_n 0, 1) := by decide +kernel
theorem d_M_count_78 : decode b_M_count 78 = .ok (.iconst 0, 1) := by decide +kernel
theorem d_M_count_79 : decode b_M_count 79 = .ok (.invokevirtual 69, 3) := by decide +kernel
theorem d_M_count_82 : decode b_M_count 82 = .ok (.ireturn, 1) := by decide +kernel
theorem d_M_count_83 : decode b_M_count 83 = .ok (.aload_n 0, 1) := by decide +kernel
theorem d_M_count_84 : decode b_M_count 84 = .ok (.iconst 1, 1) := by decide +kernel
theorem d_M_count_85 : decode b_M_count 85 = .ok (.invokevirtual 69, 3) := by decide +kernel
theorem d_M_count_88 : decode b_M_count 88 = .ok (.ireturn, 1) := by decide +kernel
theorem d_M_count_89 : decode b_M_count 89 = .ok (.aload_n 0, 1) := by decide +kernel
theorem d_M_count_90 : decode b_M_count 90 = .ok (.getfield 63, 3) := by decide +kernel
theorem d_M_count_93 : decode b_M_count 93 = .ok (.ireturn, 1) := by decide +kernel
theorem d_M_count_94 : decode b_M_count 94 = .ok (.aload_n 0, 1) := by decide +kernel
theorem d_M_count_95 : decode b_M_count 95 = .ok (.invokevirtual 83, 3) := by decide +kernel
theorem d_M_count_98 : decode b_M_count 98 = .ok (.ireturn, 1) := by decide +kernel
theorem d_M_count_99 : decode b_M_count 99 = .ok (.aload_n 0, 1) := by decide +kernel
theorem d_M_count_100 : decode b_M_count 100 = .ok (.getfield 73, 3) := by decide +kernel
theorem d_M_count_103 : decode b_M_count 103 = .ok (.ireturn, 1) := by decide +kernel
theorem d_M_count_104 : decode b_M_count 104 = .ok (.aload_n 0, 1) := by decide +kernel
theorem d_M_count_105 : decode b_M_count 105 = .ok (.getfield 66, 3) := by decide +kernel
theorem d_M_count_108 : decode b_M_count 108 = .ok (.ireturn, 1) := by decide +kernel
theorem d_M_count_109 : decode b_M_count 109 = .ok (.aload_n 0, 1) := by decide +kernel
theorem d_M_count_110 : decode b_M_count 110 = .ok (.getfield 76, 3) := by decide +kernel
theorem d_M_count_113 : decode b_M_count 113 = .ok (.ireturn, 1) := by decide +kernel
theorem d_M_count_114 : decode b_M_count 114 = .ok (.aload_n 0, 1) := by decide +kernel
theorem d_M_count_115 : decode b_M_count 115 = .ok (.getfield 45, 3) := by decide +kernel
theorem d_M_count_118 : decode b_M_count 118 = .ok (.ireturn, 1) := by decide +kernel
end
section
/-! Part 02: the base. Word lists over one table of good words; contracts that only read (kR), that write the world (Met over kB), that throw (kM); their calls. -/
-- ===== the words =====
/-- the tables' words that hold at every later state of the run -/
def kT : List Cond := lw_tbl.filter goodWord
theorem kT_tbl {w : Cond} (h : w ∈ kT) : w ∈ lw_tbl := (List.mem_filter.mp h).1
theorem kT_ok {w : Cond} (h : w ∈ kT) : (w.onTables && w.keeps) = true ∨ ∃ ty, w = .arrayClass ty := good_of_word (List.mem_filter.mp h).2
theorem kT_of {w : Cond} (i : Nat) (h : lw_tbl[i]? = some w) (hg : goodWord w = true) : w ∈ kT := List.mem_filter.mpr ⟨List.mem_of_getElem? h, hg⟩
theorem kG {Ts : List Cond} {cy : Cond} (hs : ∀ w ∈ kT, w ∈ Ts) (h : cy ∈ kT) : GoodIn Ts (cy :: kT) := fun w hw => by
  rcases List.mem_cons.mp hw with rfl | hw
  · exact ⟨hs _ h, kT_ok h⟩
  · exact ⟨hs _ hw, kT_ok hw⟩
theorem kGV {Ts : List Cond} {cy : Cond} {own : String} {idx : Nat} {C : String} {y : MethodName} (hs : ∀ w ∈ kT, w ∈ Ts) (h1 : Cond.methodLink own idx y ∈ kT) (h2 : Cond.instanceMethod y ∈ kT) (h3 : Cond.selects C y y ∈ kT) (h4 : Cond.initialized C ∈ kT) (h : cy ∈ kT) : GoodIn Ts (wsV own idx C y (cy :: kT)) := by
  intro w hw
  rcases List.mem_append.mp hw with hw | hw
  · have hk : w ∈ kT := by
      simp only [List.mem_cons, List.not_mem_nil, or_false] at hw
      rcases hw with rfl | rfl | rfl | rfl <;> assumption
    exact ⟨hs _ hk, kT_ok hk⟩
  · exact kG hs h w hw
theorem kGS {Ts : List Cond} {cy : Cond} {own : String} {idx : Nat} {y : MethodName} (hs : ∀ w ∈ kT, w ∈ Ts) (h1 : Cond.methodLink own idx y ∈ kT) (h2 : Cond.static y ∈ kT) (h4 : Cond.initialized y.cls ∈ kT) (h : cy ∈ kT) : GoodIn Ts (va_wsS own idx y (cy :: kT)) := by
  intro w hw
  rcases List.mem_append.mp hw with hw | hw
  · have hk : w ∈ kT := by
      simp only [List.mem_cons, List.not_mem_nil, or_false] at hw
      rcases hw with rfl | rfl | rfl <;> assumption
    exact ⟨hs _ hk, kT_ok hk⟩
  · exact kG hs h w hw
/-- the words of other kinds that a throw needs, and that stay where the tables grow warmer -/
def kNk : Cond → Bool
  | .castable _ _ => true
  | .declares _ => true
  | .stringRef _ _ _ => true
  | _ => false
def kNs : List Cond := lw_tbl.filter kNk
def kN (U : State) : Prop := ∀ w ∈ kNs, va_Nw w U
theorem kN_of {w : Cond} (i : Nat) (h : lw_tbl[i]? = some w) (hg : kNk w = true) : w ∈ kNs := List.mem_filter.mpr ⟨List.mem_of_getElem? h, hg⟩
theorem kN_str {own tx : String} {k : Nat} {A A' : Array Value} {u U : State} (hv : U.vm = u.vm) (h : (Cond.stringRef own k tx).before A u = true) : (Cond.stringRef own k tx).before A' U = true := by
  simp only [Cond.before, Cond.holds, Cond.value, State.names, State.poolOf?, State.resolvedAt?, hv] at h ⊢
  exact h
theorem kNk_same {w : Cond} (hk : kNk w = true) {A A' : Array Value} {u U : State} (hv : U.vm = u.vm) (h : w.before A u = true) : w.before A' U = true := by
  cases w <;> first | exact va_tabs rfl hv.symm h | exact kN_str hv h | cases hk
theorem kN.warm {s U : State} (hW : s.WarmedH U.vm) (h : kN s) : kN U := by
  intro w hw
  have h1 := h w hw
  have h2 := (List.mem_filter.mp hw).2
  cases w <;> first | exact va_Nw.warmC hW h1 | exact va_Nw.warmD hW h1 | exact kN_str (u := s.setVm U.vm) (A := #[]) rfl (Cond.stringRef_warmed hW h1) | cases h2
theorem kN.same {u U : State} (hv : U.vm = u.vm) (h : kN u) : kN U := fun w hw => kNk_same (List.mem_filter.mp hw).2 hv (h w hw)
theorem kN.use {s : State} {args : Array Value} (h : kN s) {w : Cond} (hw : w ∈ kNs) : w.before args s = true := kNk_same (List.mem_filter.mp hw).2 rfl (h w hw)
theorem kN.at {s : State} {args : Array Value} (h : ∀ w ∈ lw_tbl, w.before args s = true) : kN s := fun w hw => kNk_same (List.mem_filter.mp hw).2 rfl (h w (List.mem_filter.mp hw).1)
theorem kS1 {cx : Cond} : ∀ w ∈ kT, w ∈ cx :: kT := fun _ h => List.mem_cons_of_mem _ h
-- ===== a method's start and end =====
/-- the world ws lies in the heap of sz cells -/
def kP (D : va_G) (cl : List vw_C) (tys : List (ClassId × FieldType)) (ws : va_W) (sz : Nat) (U : State) : Prop := U.heap.size = sz ∧ va_P D cl ws U.heap ∧ va_K D cl tys U ∧ va_D (fun _ => True) ws
/-- the world u lies there behind it -/
def kB (D : va_G) (cl : List vw_C) (tys : List (ClassId × FieldType)) (A : Nat → Prop) (u : va_W) (t : State) : Prop := va_P D cl u t.heap ∧ va_K D cl tys t ∧ va_D A u
/-- Throwable's two statics, at cells that A doesn't name -/
def kZ (A : Nat → Prop) (U : State) (H : Heap) : Prop := vx_Zq Bundle.tN "UNASSIGNED_STACK" Bundle.steD A U H ∧ vx_Zq Bundle.tN "SUPPRESSED_SENTINEL" Bundle.listD A U H ∧ kN U
/-- it answers rv and has changed nothing -/
def kQr (rv : Option Value) : Array Value → State → Outcome → State → Prop := fun _ st o t => o = .returned rv ∧ t.heap = st.heap
/-- it threw a plain object of class E, and no cell that was there has changed -/
def kQt (E : String) (mc ms : Nat) : Array Value → State → Outcome → State → Prop := fun _ st o t => ∃ (x : Addr) (cell : Cell), o = .threw x ∧ st.WarmedH t.vm ∧ st.sameButNew ({ t with vm := st.vm } : State) [] mc ms ∧ t.heap[x]? = some cell ∧ cell.vm = .none ∧ st.vm.findClass E = some cell.cls
/-- a contract of a road that ends in a throw -/
def kM (l : Launch) (y : MethodName) (ws : List Cond) (rm : Room) (Pc : Array Value → State → Prop) (E : String) (mc ms : Nat) : Prop := MetFree l y (headSpec ws rm) Pc (fun _ _ _ _ _ => True) (kQt E mc ms)
/-- the end of a walk that throws -/
def kMQ (below : List Frame) (E : String) (a : Array Value) (s : State) (mc ms : Nat) : State → Prop := fun t => ∃ o, t.status = .running ∧ Ended t below o ∧ kQt E mc ms a s o t
theorem kP_blind {D : va_G} {cl : List vw_C} {tys : List (ClassId × FieldType)} {ws : va_W} {sz : Nat} {av : List Value} : FrameBlind (va_Pc av (kP D cl tys ws sz)) := fun a U g mk q => by
  obtain ⟨q0, q1, qP, qK, qD⟩ := q
  exact ⟨q0, q1, qP, va_K.moved (u := U) (U := U.calling g mk a) (Vm.Alike.refl U.vm) qK, qD⟩
theorem kPZ_blind {D : va_G} {cl : List vw_C} {tys : List (ClassId × FieldType)} {ws : va_W} {sz : Nat} {av : List Value} {A : Nat → Prop} : FrameBlind (va_Pc av (fun U => kP D cl tys ws sz U ∧ kZ A U U.heap)) := fun a U g mk q => by
  obtain ⟨q0, ⟨q1, qP, qK, qD⟩, z1, z2, z3⟩ := q
  exact ⟨q0, ⟨q1, qP, va_K.moved (u := U) (U := U.calling g mk a) (Vm.Alike.refl U.vm) qK, qD⟩, vx_Zq.moved (u := U) (U := U.calling g mk a) (Vm.Alike.refl U.vm) z1, vx_Zq.moved (u := U) (U := U.calling g mk a) (Vm.Alike.refl U.vm) z2, kN.same (u := U) (U := U.calling g mk a) rfl z3⟩
theorem kP_at {D : va_G} {cl : List vw_C} {tys : List (ClassId × FieldType)} {ws : va_W} {A : Nat → Prop} {s : State} {H : Heap} (hK : va_K D cl tys s) (hP : va_P D cl ws H) (hD : va_D A ws) (U : State) (hU : U.heap = H) (hW : s.WarmedH U.vm) : kP D cl tys ws H.size U := ⟨by rw [hU], by rw [hU]; exact hP, va_K.moved hW.alike hK, hD.weaken (fun _ _ _ _ => trivial)⟩
theorem kZ.at {A B : Nat → Prop} {s : State} {H : Heap} {locs : List Loc} (hZ : kZ A s s.heap) (hS : va_S A s.heap H locs) (hAB : ∀ q, B q → A q) (U : State) (hU : U.heap = H) (hW : s.WarmedH U.vm) : kZ B U U.heap := by
  rw [hU]
  exact ⟨vx_Zq.moved hW.alike ((hZ.1.kept (fun a h1 h2 => hS.2.1 a h1 h2)).narrow hAB), vx_Zq.moved hW.alike ((hZ.2.1.kept (fun a h1 h2 => hS.2.1 a h1 h2)).narrow hAB), hZ.2.2.warm hW⟩
theorem kA_free {A : Nat → Prop} {ws : va_W} {H0 H : Heap} {locs : List Loc} (hD : va_D A ws) (hS : va_S A H0 H locs) (hA : ∀ q, H0.size ≤ q → A q) : ∀ q, va_A ws H.size q → A q := fun q h => by
  rcases h with ⟨k, e, h⟩ | h
  · exact hD.2 k (q, e) h
  · exact hA q (Nat.le_trans hS.1 h)
section KB
variable {p : Program} {l : Launch} {e : Env} {R : Room} {s : State} {m : MethodId} {args : Array Value} {below : List Frame} {meth : Method} {c : Code} {H : Heap} {locs : List Loc} {cells slots : Nat} {Q : State → Prop}
variable {pc : Nat} {ls : Array Slot} {rest st0 : List Value} {a : Array Value} {A : Nat → Prop} {D : va_G} {cl : List vw_C} {tys : List (ClassId × FieldType)} {ws : va_W} {mc ms : Nat}
-- ===== calls =====
/-- behind a call that only read -/
theorem kc_R {rv : Option Value} (hr : va_Run p l e R s m args below meth c H locs cells slots 0 0 (F0 m pc ls st0) rest (kQr rv a) (fun _ => False))
    (kk : W p l e R s m args below meth c H locs cells slots Q (F0 m (pc + 3) ls (rv.toList ++ rest))) : W p l e R s m args below meth c H locs cells slots Q (F0 m pc ls st0) := by
  intro T hT X
  obtain ⟨v, st₀, t, T', L, h0, X', hL, e1, e2, ⟨hv, hh⟩, st⟩ := hr T hT X
  cases hv
  obtain ⟨t2, a1, b1⟩ := kk T' (by rw [e1, hh, h0]) (Stand.forget X' (fun q h => (hL q h).elim))
  exact ⟨t2, st t2 a1, b1⟩
/-- behind a call that answered an int and changed the world -/
theorem kc_i {post : Int32 → va_W → Prop} (hr : va_Run p l e R s m args below meth c H locs cells slots mc ms (F0 m pc ls st0) rest (va_Qi post (kB D cl tys (va_A ws H.size)) (va_A ws H.size) a) (va_A ws H.size)) (hD : va_D A ws) (hS : va_S A s.heap H locs) (hA : ∀ q, s.heap.size ≤ q → A q)
    (kk : ∀ (r : Int32) (u : va_W) (H1 : Heap) (locs1 : List Loc), post r u → va_P D cl u H1 → va_D A u → va_S A s.heap H1 locs1 → H.size ≤ H1.size → W p l e R s m args below meth c H1 locs1 (cells + mc) (slots + ms) Q (F0 m (pc + 3) ls (.int r :: rest))) : W p l e R s m args below meth c H locs cells slots Q (F0 m pc ls st0) := by
  have hF := kA_free hD hS hA
  refine va_calli hr hS (fun q _ h => hF q h) hF (fun r u t H1 locs1 ht hvm hw hB hz1 hk1 hS1 => ?_)
  obtain ⟨hP1, hK1, hD1⟩ := hB
  rw [ht] at hP1
  exact kk r u H1 locs1 hw hP1 (hD1.weaken (fun _ q _ h => hF q.1 h)) hS1 hz1
/-- .. that answered nothing -/
theorem kc_v {post : va_W → Prop} (hr : va_Run p l e R s m args below meth c H locs cells slots mc ms (F0 m pc ls st0) rest (va_Qv post (kB D cl tys (va_A ws H.size)) (va_A ws H.size) a) (va_A ws H.size)) (hD : va_D A ws) (hS : va_S A s.heap H locs) (hA : ∀ q, s.heap.size ≤ q → A q)
    (kk : ∀ (u : va_W) (H1 : Heap) (locs1 : List Loc), post u → va_P D cl u H1 → va_D A u → va_S A s.heap H1 locs1 → H.size ≤ H1.size → W p l e R s m args below meth c H1 locs1 (cells + mc) (slots + ms) Q (F0 m (pc + 3) ls rest)) : W p l e R s m args below meth c H locs cells slots Q (F0 m pc ls st0) := by
  have hF := kA_free hD hS hA
  refine va_callv hr hS (fun q _ h => hF q h) hF (fun u t H1 locs1 ht hvm hw hB hz1 hk1 hS1 => ?_)
  obtain ⟨hP1, hK1, hD1⟩ := hB
  rw [ht] at hP1
  exact kk u H1 locs1 hw hP1 (hD1.weaken (fun _ q _ h => hF q.1 h)) hS1 hz1
-- ===== throws =====
/-- a contract of a throwing road out of a walk -/
theorem kM.ofW {y : MethodName} {wl wl' : List Cond} {rm : Room} {Pc : Array Value → State → Prop} {E : String} {cc : ByteArray} {maxL : Nat} {ret : Option FieldType}
    (hy : plainName y.cls = true) (hw : wl = Cond.code y cc maxL ret :: wl')
    (body : ∀ p e s m args below meth c s₁, BodyLoose p l y (headSpec wl rm) cc maxL ret e s m args below meth c s₁ → c.maxLocals = maxL → Pc args s →
      W p l e (headSpec wl rm).room s m args below meth c s.heap [] 0 0 (kMQ below E args s mc ms) (entryFrame m args maxL)) : kM l y wl rm Pc E mc ms := by
  refine MetFree.of_bodyS (code := cc) (maxLocals := maxL) (ret := ret) hy ?_ ?_
  · intro args s m h hn
    obtain ⟨meth, c, h1, h2, h3, h4, h5, h6, -, -⟩ := Cond.code_spec hn (atoms_spec (ws := wl) h _ (by rw [hw]; exact List.mem_cons_self))
    exact ⟨meth, c, h1, h2, h3, h4, h5, h6⟩
  · intro p e s m args below meth c s₁ B hml hP _
    have hh0 : s₁.heap = s.heap := by rw [B.state]; rfl
    obtain ⟨t, a1, o, b1, b2, b3⟩ := body p e s m args below meth c s₁ B hml hP s₁ hh0 (Stand.of_body B)
    exact ⟨t, o, a1, b1, b2, b3⟩
/-- no handler in a method whose word is 'code' -/
theorem kNoH {x : MethodName} {S : Spec} {code : ByteArray} {maxLocals : Nat} {ret : Option FieldType} {s₁ : State} (B : BodyLoose p l x S code maxLocals ret e s m args below meth c s₁) (hc : (Cond.code x code maxLocals ret).before args s = true) (q : Nat) : ∀ x ∈ c.exceptionTable.toList, covers x q = false := covers_of_empty (B.noHandlers hc) q
/-- the words of a throw out of the table -/
def kAt (w : Cond) : Bool := goodWord w || kNk w
theorem kOA {own E : String} {ic : Nat} {names : List String} (hin : ∀ w ∈ (Bundle.ownAtoms own ic E names).filter vx_no, w ∈ lw_tbl ∧ kAt w = true) (hts : ∀ w ∈ kT, w.before args s = true) (hZ : kZ A s s.heap) : ∀ w ∈ Bundle.ownAtoms own ic E names, w.before args s = true := by
  refine vx_own (fun w hw => ?_) (vx_isRefq hZ.1.1) (vx_isRefq hZ.2.1.1) hZ.1.2.word hZ.2.1.2.word
  obtain ⟨h1, h2⟩ := hin w hw
  simp only [kAt, Bool.or_eq_true] at h2
  rcases h2 with h2 | h2
  · exact hts w (List.mem_filter.mpr ⟨h1, h2⟩)
  · exact hZ.2.2.use (List.mem_filter.mpr ⟨h1, h2⟩)
/-- 'throw new E("text")' in a method that has changed nothing and has no handler there: one cell of six slots -/
theorem kt_own {cc : ByteArray} {nL : Nat} {own E text : String} {names : List String} {ik is ic : Nat} (hx : p.tables.exec = Jvm.exec) (hb : c.code = cc) (hml : c.maxLocals = nL) (hown : s.vm.findClass own = some m.cls) (htr : l.stackTraces = false)
    (hcls : Bundle.fit E = true) (hnames : ∀ n ∈ names, Bundle.fit n = true) (hk : (Cond.classLink own ik E).before args s = true) (hini : (Cond.initialized E).before args s = true) (hs : (Cond.stringRef own is text).before args s = true)
    (h : ∀ w ∈ Bundle.ownAtoms own ic E names, w.before args s = true) (hsize : ls.size = nL)
    (d0 : decode cc pc = .ok (.new ik, 3)) (d3 : decode cc (pc + 3) = .ok (.dup, 1)) (d4 : decode cc (pc + 4) = .ok (.ldc is, 2)) (d6 : decode cc (pc + 6) = .ok (.invokespecial ic, 3)) (d9 : decode cc (pc + 9) = .ok (.athrow, 1))
    (hout : ∀ x ∈ c.exceptionTable.toList, covers x (pc + 9) = false) (hf : names.length + 3 < R.frames) (hl : 13 * (names.length + 1) + 44 ≤ R.locals) (hc1 : 1 ≤ R.cells) (hs6 : 6 ≤ R.slots) (hlocks : meth.locks = false) :
    W p l e R s m args below meth c s.heap [] 0 0 (kMQ below E args s 1 6) (F0 m pc ls []) := by
  intro T hT X
  subst hb
  have hins : (Cond.instantiable E 6).before args s = true := h _ (by simp [Bundle.ownAtoms])
  have htr' : e.platform.stackTraces = false := by rw [X.admits.platform]; exact htr
  obtain ⟨vm₁, cX, kX, hfX, hkX, -, -, X₁, st1⟩ := X.newCold hx (own := own) (C := E) (index := ik) (n := 6) hown hk hins hini (g := F0 m pc ls []) rfl d0 (by omega) (by omega)
  generalize hTe : (T.setVm vm₁).pushCell { cls := cX, slots := kX.instanceTypes.map defaultValue, vm := .none } = T1 at X₁ st1
  have hcellA : T1.heap[T.heap.size]? = some (freshCell cX kX) := by rw [← hTe]; exact State.heap_pushCell_size _ _
  obtain ⟨-, -, -, sa, -, -, -, -, -, hev⟩ := Cond.stringRef_spec hown hs
  obtain ⟨U, hsteps, hrun, hend, hW, hsame, ce, hce, K⟩ := X₁.ctorThrowS hx htr' (own := own) (cls := E) (names := names) (ic := ic) hown hcls hnames h (fun y hy => by cases hy) hfX hkX hcellA (by rw [hT]; exact Nat.le_refl _) (msg := .ref sa) rfl
    (g := F0 m (pc + 6) ls [.ref sa, .ref T.heap.size, .ref T.heap.size]) rfl (hsize.trans hml.symm) rfl rfl (rest := []) rfl d6 d9 hout hf (by simp [JFrame.monitorRoom, Value.category]; omega) hlocks
  refine ⟨U, ?_, .threw T.heap.size, hrun, hend, T.heap.size, ce, rfl, hW, by simpa using hsame, hce, K.vm, K.cls⟩
  refine st1 _ ?_
  show Steps p.tables e below (T1.setTop { method := m, pc := pc + 3, locals := ls, stack := [.ref T.heap.size], locked := none }) _
  jvm_step X₁.here [X₁.here.top, hx, d3, Value.category]
  exact X₁.ldcString hx (own := own) (text := text) (index := is) (a := sa) hown hs hev (g := F0 m (pc + 4) ls [.ref T.heap.size, .ref T.heap.size]) rfl d4 _ hsteps
/-- what a call comes to whose callee throws -/
def kt_Run (p : Program) (l : Launch) (e : Env) (R : Room) (s : State) (m : MethodId) (args : Array Value) (below : List Frame) (meth : Method) (c : Code) (H : Heap) (locs : List Loc) (cells slots mc ms : Nat) (g : JFrame) (rest : List Value) (E : String) : Prop :=
  ∀ T : State, T.heap = H → Stand p l e R s m args below meth c T locs cells slots → ∃ (x : Addr) (cell : Cell) (T' : State), Stand p l e R s m args below meth c T' locs (cells + mc) (slots + ms) ∧ H.size ≤ T'.heap.size ∧ (∀ (q : Addr) (d : Cell), H[q]? = some d → T'.heap[q]? = some d) ∧ T'.heap[x]? = some cell ∧ cell.vm = .none ∧ s.vm.findClass E = some cell.cls ∧
      ∀ target, Steps p.tables e below ((T'.setTop { g with stack := rest }).pushFrame (.throwing x)) target → Steps p.tables e below (T.setTop g) target
theorem kt_callV {y : MethodName} {cc bytes : ByteArray} {nL maxL n index : Nat} {ret : Option FieldType} {wl Ts : List Cond} {rm : Room} {Pc : Array Value → State → Prop} {E own C : String} {b : Addr} {As : List Value} {g : JFrame}
    (S : CallFix p m c cc nL s args Ts own) (hM : kM l y wl rm Pc E mc ms) (cw : CallW R s args own C index y bytes maxL ret wl rm mc ms n) (hp : PreV s H C b Pc As)
    (hg : g.method = m) (hn : As.length = n) (hsize : g.locals.size = nL) (hstack : g.stack = As.reverse ++ .ref b :: rest) (hW : 2 * g.monitorRoom + (rest.map fun v => v.category).sum ≤ 8) (hdg : decode cc g.pc = .ok (.invokevirtual index, 3)) (hf : cells + mc ≤ R.cells ∧ slots + ms ≤ R.slots) :
    kt_Run p l e R s m args below meth c H locs cells slots mc ms g rest E := by
  obtain ⟨⟨hrc, hrs, hfr, hlo, hws, hcw, hcode, hini, hy, hlen, hl⟩, hinst, hsel⟩ := cw
  obtain ⟨hx, hb, hml, ho, -⟩ := S
  obtain ⟨hbl, ⟨cellB, hcB, hoB, hclB⟩, hPc⟩ := hp
  subst hb
  intro T hT X
  obtain ⟨mk, methM, hnamed, hmethM, hstM, habM⟩ := Cond.instanceMethod_spec hinst
  obtain ⟨methM', cM, hmethM', -, -, -, -, -, -, hsigM⟩ := Cond.code_spec hnamed hcode
  cases hmethM.symm.trans hmethM'
  obtain ⟨c2, r2, m2, q1, q2, q3, q4, kP, hkP, hkPi⟩ := Cond.selects_spec hsel
  cases hclB.symm.trans q1
  cases (State.methodFound?_of_named hnamed hy).symm.trans q2
  cases hnamed.symm.trans q3
  have hselP : selectMethod e.platform s.vm cellB.cls mk = .method mk := by rw [Launch.admits_selectMethod X.admits]; exact q4
  obtain ⟨vm₁, X₁, hstep₁⟩ := X.invokevirtual hx ho hl hnamed hmethM hstM hkP hkPi hy (a := b) (cell := cellB) (by rw [hT]; exact hcB) (fun z h => by rw [h] at hoB; cases hoB) hselP hmethM habM hkP hkPi (g := g) hg (argsL := As) (rest := rest) (hn.trans (hlen _ hsigM)) hstack hdg
  have hPU : Pc (Value.ref b :: As).toArray (T.setVm vm₁) := hPc (T.setVm vm₁) hT X₁.warmed
  generalize hUe : T.setVm vm₁ = U at X₁ hstep₁ hPU
  have hUh : U.heap = H := by rw [← hUe]; exact hT
  generalize hge : ({ g with stack := rest } : JFrame) = g' at hstep₁
  have hg' : g'.method = m := by rw [← hge]; exact hg
  have hdg' : decode c.code g'.pc = .ok (.invokevirtual index, 3) := by rw [← hge]; exact hdg
  have hsz' : g'.locals.size = c.maxLocals := by rw [← hge]; exact hsize.trans hml.symm
  have hW' : 2 * g'.monitorRoom + (g'.stack.map fun v => v.category).sum ≤ 8 := by rw [← hge]; exact hW
  have hn1 : U.methodNamed? y = some mk := X₁.named hnamed
  have h1 : (headSpec wl rm).pre.before (Value.ref b :: As).toArray U = true := atoms_intro fun w hw => hws w hw _ _ X₁.warmed
  have h2 := hws _ hcw (Value.ref b :: As).toArray U X₁.warmed
  have h3 : (Cond.initialized y.cls).before (Value.ref b :: As).toArray U = true := word_at X₁.warmed (Or.inl (by first | rfl | simp [Cond.onTables, Cond.keeps, Cond.steady])) hini
  obtain ⟨methY, cY, hmY, hcY, -, hlY, -, -, -, -⟩ := Cond.code_spec hn1 h2
  obtain ⟨kY, hkY, -⟩ := className_of_methodNamed hn1
  have hinitY : kY.init = .initialized := Cond.initialized_spec (findClass_of_methodNamed hn1) hkY h3
  have h : At U g'.method c below := by rw [hg']; exact X₁.here
  have happ : (headSpec wl rm).appliesLoose y e.platform (U.calling g' mk (Value.ref b :: As).toArray) = true :=
    Spec.appliesLoose_calling (g := g') h hdg' hn1 hkY hinitY
      (X₁.room_calling (g := g') (R' := (headSpec wl rm).room) hsz' hmY hcY (show rm.frames + 1 ≤ R.frames from hfr) (by rw [hlY]; show _ + rm.locals ≤ _; omega) (by show cells + rm.cells ≤ _; rw [hrc]; exact hf.1) (by show slots + rm.slots ≤ _; rw [hrs]; exact hf.2)) h1
  obtain ⟨mid, hmid⟩ := h.above
  have hfrm : (U.setTop g').frames = (.java g' :: mid) ++ below := by rw [State.frames_setTop' g' h.top, hmid]; rfl
  obtain ⟨o, s₂, hsteps, -, hend, hq⟩ := Steps.callFree hM p X₁.admits X₁.cas X₁.clock (acts := []) hfrm happ (hbl _ _ _ _ hPU) trivial
  have hq : kQt E mc ms (Value.ref b :: As).toArray (U.calling g' mk (Value.ref b :: As).toArray) o s₂ := hq
  obtain ⟨x, cell, rfl, hW₂, ⟨e2, q2, q3, q4, q5, q6⟩, hcx, hcv, hcc⟩ := hq
  rw [State.frames_setTop' g' h.top] at hend
  have hf₂ : s₂.frames = .throwing x :: .java g' :: U.frames.tail := hend
  have e3 : s₂ = ({ (U.calling g' mk (Value.ref b :: As).toArray).setFrames s₂.frames with heap := s₂.heap, slotsUsed := s₂.slotsUsed } : State).setVm s₂.vm := by
    have : s₂ = ({ s₂ with vm := (U.calling g' mk (Value.ref b :: As).toArray).vm } : State).setVm s₂.vm := rfl
    rw [e2] at this
    exact this
  have hWU : U.WarmedH s₂.vm := hW₂
  obtain ⟨g₀, hg0⟩ := Option.isSome_iff_exists.mp h.top
  obtain ⟨r, hr⟩ := State.topJava?_eq_some.mp hg0
  have hs₂ : s₂ = ((({ U with heap := s₂.heap, slotsUsed := s₂.slotsUsed } : State).setVm s₂.vm).setTop g').pushFrame (.throwing x) := by
    have hr' : (({ U with heap := s₂.heap, slotsUsed := s₂.slotsUsed } : State).setVm s₂.vm).frames = .java g₀ :: r := hr
    refine e3.trans ?_
    rw [hf₂, State.calling_eq h.top, State.setFrames_setFrames, State.pushFrame, State.frames_setTop _ hr', State.setTop_of_frames _ hr', State.setFrames_setFrames, hr]
    rfl
  have hsame : U.sameButNew ({ U with heap := s₂.heap, slotsUsed := s₂.slotsUsed } : State) [] mc ms := by
    refine ⟨?_, q2, q3, q4, q5, q6⟩
    obtain ⟨t, ht, -⟩ := State.frames_cons hr
    show ({ U with heap := s₂.heap, slotsUsed := s₂.slotsUsed } : State) = { U.setFrames U.frames with heap := s₂.heap, slotsUsed := s₂.slotsUsed }
    rw [State.setFrames_self ht]
  have hkeep : ∀ (q : Addr) (d : Cell), H[q]? = some d → s₂.heap[q]? = some d := by
    intro q d hd
    obtain ⟨c', hc1, hc2, hc3, hc4⟩ := q6 q d (by show U.heap[q]? = some d; rw [hUh]; exact hd)
    have hsl : c'.slots = d.slots := Array.ext_getElem? (fun i => hc4 i (by simp))
    have : c' = d := by rw [hc2, hsl]
    rw [← this]
    exact hc1
  have hXs := X₁.same.trans (hsame.setVm s.vm)
  rw [List.append_nil] at hXs
  subst hg'
  refine ⟨x, cell, ({ U with heap := s₂.heap, slotsUsed := s₂.slotsUsed } : State).setVm s₂.vm, ⟨X₁.admits, X₁.cas, X₁.clock, X₁.frames, X₁.room, X₁.hears, X₁.method, X₁.code, (X₁.here.setHeapUsed s₂.heap s₂.slotsUsed).setVm hWU.alike, X₁.tail, State.WarmedH.trans X₁.warmed hWU, X₁.limits, X₁.bytes, hXs⟩,
    by rw [← hUh]; exact q2, hkeep, hcx, hcv, ?_, fun target hrest => ?_⟩
  · have : U.vm.findClass E = some cell.cls := hcc
    rw [X₁.warmed.alike.findClass] at this
    exact this
  · refine hstep₁ _ fun acts => ?_
    rw [doInvoke_state]
    refine hsteps.trans ?_
    rw [hs₂]
    exact hrest
/-- the callee throws, and this method passes it on -/
theorem kt_prop {E : String} (hr : kt_Run p l e R s m args below meth c s.heap [] 0 0 mc ms (F0 m pc ls st0) rest E) (hout : ∀ x ∈ c.exceptionTable.toList, covers x pc = false) (hlocks : meth.locks = false) :
    W p l e R s m args below meth c s.heap [] 0 0 (kMQ below E args s mc ms) (F0 m pc ls st0) := by
  intro T hT X
  obtain ⟨x, cell, T', X', hz, hk, hcx, hcv, hcc, st⟩ := hr T hT X
  obtain ⟨hwalk, hrun, hend, hW, hsame⟩ := X'.leaveThrown x (g := F0 m pc ls rest) rfl rfl rfl hout hlocks
  exact ⟨_, st _ hwalk, .threw x, hrun, hend, x, cell, rfl, hW, by simpa using hsame, hcx, hcv, hcc⟩
-- ===== handlers =====
/-- the search in the table: it finds the handler at hpc, and the tables grow only warmer -/
def kf_To (e : Env) (s : State) (f : JFrame) (a : Addr) (t : List ExceptionTableEntry) (hpc : Nat) (s0 : State) : Prop := ∃ vm' : Vm, s0.WarmedH vm' ∧ ∀ (Q : Handler → Pre) (E : CtlPost) (d : Bool) (acts : List Action), wp (findHandler.go f a t) Q E e d acts s ↔ Q (.found hpc) d acts (s.setVm vm')
/-- a row that takes it -/
theorem kf_hit {S : State} {f : JFrame} {x : Addr} {en : ExceptionTableEntry} {t : List ExceptionTableEntry} {own name E : String} {cell : Cell} (hpl : e.platform.magicAccessors = ({} : Platform).magicAccessors) (hown : s.vm.findClass own = some f.method.cls) (hW : s.WarmedH S.vm)
    (hcov : covers en f.pc = true) (h0 : en.catchType ≠ 0) (hlink : (Cond.classLink own en.catchType name).before args s = true) (hcast : (Cond.castable E name).before args s = true) (hcell : S.heap[x]? = some cell) (hvm : cell.vm = .none) (hE : s.vm.findClass E = some cell.cls) : kf_To e S f x (en :: t) en.handlerPc s := by
  obtain ⟨c', hc', hcl⟩ := Cond.classLink_spec hown hlink e.platform hpl
  obtain ⟨c3, t3, w1, w2, w3⟩ := Cond.castable_spec hcast
  cases hE.symm.trans w1
  cases hc'.symm.trans w2
  obtain ⟨dk, _, _, kt, hd, _, _, _, _, hkt, _, hopen⟩ := hcl.here
  have hl := hW.classLinks hcl
  have hal := hW.alike
  obtain ⟨k1, hk1⟩ := Vm.classAt_of_findClass hE
  refine ⟨S.vm.noted f.method.cls en.catchType (.cls c'), hW.noted hd hopen (State.rightAt_cls hcl), fun Q E' d acts => ?_⟩
  obtain ⟨ha, ht⟩ := (resolveClass_links e.toSetting hl).op (op := VmOp.resolveClass f.method.cls en.catchType) rfl
  have hal2 : s.vm.Alike (S.vm.noted f.method.cls en.catchType (.cls c')) := hal.trans ((Vm.Alike.refl S.vm).noted _ _ _)
  obtain ⟨k1', hk1', -⟩ := hal2.2.2 _ _ hk1
  obtain ⟨k2', hk2', -⟩ := hal2.2.2 _ _ hkt
  have hfit : (S.vm.noted f.method.cls en.catchType (.cls c')).assignable cell.cls c' = true := by rw [hal2.assignable]; exact w3
  have hobj : ∀ k, cell.vm ≠ .statics k := fun k hk => by rw [hvm] at hk; cases hk
  simp only [covers] at hcov
  simp [findHandler.go, hcov, h0, ha, ht, hcell, hobj, hk1', hk2', hfit, VmOp.dirties, VmOp.acts]
/-- a row that doesn't -/
theorem kf_miss {S : State} {f : JFrame} {x : Addr} {en : ExceptionTableEntry} {t : List ExceptionTableEntry} {own name E : String} {cell : Cell} {hpc : Nat} (hpl : e.platform.magicAccessors = ({} : Platform).magicAccessors) (hown : s.vm.findClass own = some f.method.cls) (hW : s.WarmedH S.vm)
    (hcov : covers en f.pc = true) (h0 : en.catchType ≠ 0) (hlink : (Cond.classLink own en.catchType name).before args s = true) (hno : ∀ cn, s.vm.findClass name = some cn → s.vm.assignable cell.cls cn = false) (hcell : S.heap[x]? = some cell) (hvm : cell.vm = .none) (hE : s.vm.findClass E = some cell.cls)
    (kk : ∀ S' : State, s.WarmedH S'.vm → S'.heap = S.heap → kf_To e S' f x t hpc s) : kf_To e S f x (en :: t) hpc s := by
  obtain ⟨c', hc', hcl⟩ := Cond.classLink_spec hown hlink e.platform hpl
  obtain ⟨dk, _, _, kt, hd, _, _, _, _, hkt, _, hopen⟩ := hcl.here
  have hl := hW.classLinks hcl
  have hal := hW.alike
  obtain ⟨k1, hk1⟩ := Vm.classAt_of_findClass hE
  have hW2 := hW.noted hd hopen (State.rightAt_cls hcl)
  obtain ⟨vm', hvm', hgo⟩ := kk (S.setVm (S.vm.noted f.method.cls en.catchType (.cls c'))) hW2 rfl
  refine ⟨vm', hvm', fun Q E' d acts => ?_⟩
  obtain ⟨ha, ht⟩ := (resolveClass_links e.toSetting hl).op (op := VmOp.resolveClass f.method.cls en.catchType) rfl
  have hal2 : s.vm.Alike (S.vm.noted f.method.cls en.catchType (.cls c')) := hal.trans ((Vm.Alike.refl S.vm).noted _ _ _)
  obtain ⟨k1', hk1', -⟩ := hal2.2.2 _ _ hk1
  obtain ⟨k2', hk2', -⟩ := hal2.2.2 _ _ hkt
  have hfit : (S.vm.noted f.method.cls en.catchType (.cls c')).assignable cell.cls c' = false := by rw [hal2.assignable]; exact hno c' hc'
  have hobj : ∀ k, cell.vm ≠ .statics k := fun k hk => by rw [hvm] at hk; cases hk
  simp only [covers] at hcov
  have hgo' := hgo Q E' d acts
  rw [← show (S.setVm (S.vm.noted f.method.cls en.catchType (.cls c'))).setVm vm' = S.setVm vm' from rfl]
  rw [← hgo']
  simp [findHandler.go, hcov, h0, ha, ht, hcell, hobj, hk1', hk2', hfit, VmOp.dirties, VmOp.acts]
/-- the callee throws, and this method's handler at hpc takes it -/
theorem kt_catch {E : String} {hpc : Nat} (hr : kt_Run p l e R s m args below meth c H locs cells slots mc ms (F0 m pc ls st0) rest E)
    (hfind : ∀ (S : State) (x : Addr) (cell : Cell), s.WarmedH S.vm → S.heap[x]? = some cell → cell.vm = .none → s.vm.findClass E = some cell.cls → kf_To e S (F0 m pc ls rest) x c.exceptionTable.toList hpc s)
    (kk : ∀ (x : Addr) (H1 : Heap), H.size ≤ H1.size → (∀ (q : Addr) (d : Cell), H[q]? = some d → H1[q]? = some d) → W p l e R s m args below meth c H1 locs (cells + mc) (slots + ms) Q (F0 m hpc ls [.ref x])) : W p l e R s m args below meth c H locs cells slots Q (F0 m pc ls st0) := by
  intro T hT X
  obtain ⟨x, cell, T', X', hz, hk, hcx, hcv, hcc, st⟩ := hr T hT X
  obtain ⟨vm', hW', hgo⟩ := hfind ((T'.setTop (F0 m pc ls rest)).pushFrame (.throwing x)) x cell X'.warmed hcx hcv hcc
  obtain ⟨t, a1, b1⟩ := kk x T'.heap hz hk (T'.setVm vm') rfl (X'.noted hW')
  refine ⟨t, st t ?_, b1⟩
  have h : At T' (F0 m pc ls rest).method c below := X'.here
  obtain ⟨hgo', hw⟩ := h.throwing x
  refine Steps.head hgo' hw ?_
  rw [stepThread_throwing (frames_entered h.top _)]
  have hstep : (stepThrowing e ((T'.setTop (F0 m pc ls rest)).pushFrame (.throwing x)) x (.java (F0 m pc ls rest) :: T'.frames.tail)).Is ((((T'.setTop (F0 m pc ls rest)).pushFrame (.throwing x)).setVm vm').setFrames (.java (F0 m hpc ls [.ref x]) :: T'.frames.tail)) [] := by
    simp only [stepThrowing, searchFrame, vmDo]
    generalize hres : Sem.go _ e false [] ((T'.setTop (F0 m pc ls rest)).pushFrame (.throwing x)) = res
    obtain ⟨as, rfl, ha⟩ := Sem.eq_ok_of hres (a := Handler.found hpc) (s' := ((T'.setTop (F0 m pc ls rest)).pushFrame (.throwing x)).setVm vm') (acts' := []) (by
      have hm : ((T'.setTop (F0 m pc ls rest)).pushFrame (.throwing x)).vm.method? (F0 m pc ls rest).method = some meth := X'.method'
      simp [W.findHandler_eq hm X'.code, hgo])
    exact ⟨rfl, ha⟩
  rw [hstep.1]
  obtain ⟨g₀, hg⟩ := Option.isSome_iff_exists.mp h.top
  obtain ⟨r, hr0⟩ := State.topJava?_eq_some.mp hg
  have hr' : (T'.setVm vm').frames = .java g₀ :: r := hr0
  have hsv : ∀ (u : State) (F G : List Frame), ((u.setFrames F).setVm vm').setFrames G = (u.setVm vm').setFrames G := fun u F G => by
    have h1 : (u.setFrames F).setVm vm' = (u.setVm vm').setFrames F := rfl
    rw [h1, State.setFrames_setFrames]
  rw [State.setTop_of_frames _ hr'] at a1
  rw [hr0, List.tail_cons, State.pushFrame, hsv, State.setTop_of_frames _ hr0, hsv]
  exact a1
end KB
end
section
/-! Part 03: which words are in the table, and where. -/
set_option maxRecDepth 100000 in
theorem m_ini_L : (Cond.initialized R_L) ∈ kT := kT_of 22 rfl rfl
set_option maxRecDepth 100000 in
theorem m_ini_K : (Cond.initialized R_K) ∈ kT := kT_of 23 rfl rfl
set_option maxRecDepth 100000 in
theorem m_ini_S : (Cond.initialized R_S) ∈ kT := kT_of 24 rfl rfl
set_option maxRecDepth 100000 in
theorem m_ini_M : (Cond.initialized R_M) ∈ kT := kT_of 25 rfl rfl
set_option maxRecDepth 100000 in
theorem m_ini_Exception : (Cond.initialized "java/lang/Exception") ∈ kT := kT_of 27 rfl rfl
set_option maxRecDepth 100000 in
theorem m_ini_RuntimeException : (Cond.initialized "java/lang/RuntimeException") ∈ kT := kT_of 28 rfl rfl
set_option maxRecDepth 100000 in
theorem m_ini_IllegalArgumentException : (Cond.initialized "java/lang/IllegalArgumentException") ∈ kT := kT_of 29 rfl rfl
set_option maxRecDepth 100000 in
theorem m_ini_IllegalStateException : (Cond.initialized "java/lang/IllegalStateException") ∈ kT := kT_of 30 rfl rfl
set_option maxRecDepth 100000 in
theorem m_ini_T : (Cond.initialized R_T) ∈ kT := kT_of 31 rfl rfl
set_option maxRecDepth 100000 in
theorem m_ini_NoSuchElementException : (Cond.initialized "java/util/NoSuchElementException") ∈ kT := kT_of 32 rfl rfl
set_option maxRecDepth 100000 in
theorem m_L_8 : (Cond.classLink R_L 8 "WillKeeper") ∈ kT := kT_of 33 rfl rfl
set_option maxRecDepth 100000 in
theorem m_ins_K : (Cond.instantiable R_K 12) ∈ kT := kT_of 34 rfl rfl
set_option maxRecDepth 100000 in
theorem m_L_42 : (Cond.methodLink R_L 42 y_K_init) ∈ kT := kT_of 35 rfl rfl
set_option maxRecDepth 100000 in
theorem m_im_K_init : (Cond.instanceMethod y_K_init) ∈ kT := kT_of 36 rfl rfl
set_option maxRecDepth 100000 in
theorem m_code_K_init : k_K_init ∈ kT := kT_of 37 rfl rfl
set_option maxRecDepth 100000 in
theorem m_K_1 : (Cond.methodLink R_K 1 objectInit) ∈ kT := kT_of 38 rfl rfl
set_option maxRecDepth 100000 in
theorem m_im_obj : (Cond.instanceMethod objectInit) ∈ kT := kT_of 39 rfl rfl
set_option maxRecDepth 100000 in
theorem m_code_obj : (Cond.code objectInit ⟨#[0xb1]⟩ 1 none) ∈ kT := kT_of 40 rfl rfl
set_option maxRecDepth 100000 in
theorem m_K_9 : (Cond.classLink R_K 9 "WillKeeper$Thing") ∈ kT := kT_of 41 rfl rfl
set_option maxRecDepth 100000 in
theorem m_K_22 : (Cond.classLink R_K 22 "WillKeeper$Search") ∈ kT := kT_of 43 rfl rfl
set_option maxRecDepth 100000 in
theorem m_ins_S : (Cond.instantiable R_S 3) ∈ kT := kT_of 44 rfl rfl
set_option maxRecDepth 100000 in
theorem m_K_24 : (Cond.methodLink R_K 24 y_S_init) ∈ kT := kT_of 45 rfl rfl
set_option maxRecDepth 100000 in
theorem m_im_S_init : (Cond.instanceMethod y_S_init) ∈ kT := kT_of 46 rfl rfl
set_option maxRecDepth 100000 in
theorem m_code_S_init : k_S_init ∈ kT := kT_of 47 rfl rfl
set_option maxRecDepth 100000 in
theorem m_S_3 : (Cond.methodLink R_S 3 objectInit) ∈ kT := kT_of 48 rfl rfl
set_option maxRecDepth 100000 in
theorem m_S_9 : (Cond.fieldLink R_S 9 "WillKeeper$Search" "found" "[Z") ∈ kT := kT_of 49 rfl rfl
set_option maxRecDepth 100000 in
theorem m_S_15 : (Cond.fieldLink R_S 15 "WillKeeper$Search" "order" "[I") ∈ kT := kT_of 50 rfl rfl
set_option maxRecDepth 100000 in
theorem m_S_19 : (Cond.fieldLink R_S 19 "WillKeeper$Search" "size" "I") ∈ kT := kT_of 51 rfl rfl
set_option maxRecDepth 100000 in
theorem m_K_125 : (Cond.fieldLink R_K 125 "WillKeeper$Search" "size" "I") ∈ kT := kT_of 52 rfl rfl
set_option maxRecDepth 100000 in
theorem m_arr_int : (Cond.arrayClass .int) ∈ kT := kT_of 60 rfl rfl
set_option maxRecDepth 100000 in
theorem m_arr_boolean : (Cond.arrayClass .boolean) ∈ kT := kT_of 61 rfl rfl
set_option maxRecDepth 100000 in
theorem m_K_11 : (Cond.fieldLink R_K 11 "WillKeeper" "things" "[LWillKeeper$Thing;") ∈ kT := kT_of 62 rfl rfl
set_option maxRecDepth 100000 in
theorem m_K_15 : (Cond.fieldLink R_K 15 "WillKeeper" "roots" "[I") ∈ kT := kT_of 63 rfl rfl
set_option maxRecDepth 100000 in
theorem m_K_19 : (Cond.fieldLink R_K 19 "WillKeeper" "queue" "[I") ∈ kT := kT_of 64 rfl rfl
set_option maxRecDepth 100000 in
theorem m_K_95 : (Cond.fieldLink R_K 95 "WillKeeper" "queueStart" "I") ∈ kT := kT_of 65 rfl rfl
set_option maxRecDepth 100000 in
theorem m_K_143 : (Cond.fieldLink R_K 143 "WillKeeper" "queueEnd" "I") ∈ kT := kT_of 66 rfl rfl
set_option maxRecDepth 100000 in
theorem m_K_25 : (Cond.fieldLink R_K 25 "WillKeeper" "before" "LWillKeeper$Search;") ∈ kT := kT_of 67 rfl rfl
set_option maxRecDepth 100000 in
theorem m_K_29 : (Cond.fieldLink R_K 29 "WillKeeper" "now" "LWillKeeper$Search;") ∈ kT := kT_of 68 rfl rfl
set_option maxRecDepth 100000 in
theorem m_K_43 : (Cond.fieldLink R_K 43 "WillKeeper" "made" "I") ∈ kT := kT_of 69 rfl rfl
set_option maxRecDepth 100000 in
theorem m_K_55 : (Cond.fieldLink R_K 55 "WillKeeper" "present" "I") ∈ kT := kT_of 70 rfl rfl
set_option maxRecDepth 100000 in
theorem m_K_131 : (Cond.fieldLink R_K 131 "WillKeeper" "forgotten" "I") ∈ kT := kT_of 71 rfl rfl
set_option maxRecDepth 100000 in
theorem m_K_85 : (Cond.fieldLink R_K 85 "WillKeeper" "clearings" "I") ∈ kT := kT_of 72 rfl rfl
set_option maxRecDepth 100000 in
theorem m_K_120 : (Cond.fieldLink R_K 120 "WillKeeper" "identities" "I") ∈ kT := kT_of 73 rfl rfl
set_option maxRecDepth 100000 in
theorem m_L_66 : (Cond.methodLink R_L 66 y_K_clear) ∈ kT := kT_of 99 rfl rfl
set_option maxRecDepth 100000 in
theorem m_im_K_clear : (Cond.instanceMethod y_K_clear) ∈ kT := kT_of 100 rfl rfl
set_option maxRecDepth 100000 in
theorem m_sel_K_clear : (Cond.selects R_K y_K_clear y_K_clear) ∈ kT := kT_of 101 rfl rfl
set_option maxRecDepth 100000 in
theorem m_code_K_clear : k_K_clear ∈ kT := kT_of 102 rfl rfl
set_option maxRecDepth 100000 in
theorem m_K_74 : (Cond.methodLink R_K 74 y_K_searchReached) ∈ kT := kT_of 103 rfl rfl
set_option maxRecDepth 100000 in
theorem m_im_K_searchReached : (Cond.instanceMethod y_K_searchReached) ∈ kT := kT_of 105 rfl rfl
set_option maxRecDepth 100000 in
theorem m_code_K_searchReached : k_K_searchReached ∈ kT := kT_of 106 rfl rfl
set_option maxRecDepth 100000 in
theorem m_K_154 : (Cond.methodLink R_K 154 y_S_forgetAll) ∈ kT := kT_of 107 rfl rfl
set_option maxRecDepth 100000 in
theorem m_im_S_forgetAll : (Cond.instanceMethod y_S_forgetAll) ∈ kT := kT_of 108 rfl rfl
set_option maxRecDepth 100000 in
theorem m_sel_S_forgetAll : (Cond.selects R_S y_S_forgetAll y_S_forgetAll) ∈ kT := kT_of 109 rfl rfl
set_option maxRecDepth 100000 in
theorem m_code_S_forgetAll : k_S_forgetAll ∈ kT := kT_of 110 rfl rfl
set_option maxRecDepth 100000 in
theorem m_K_157 : (Cond.methodLink R_K 157 y_K_addRootsAndQueue) ∈ kT := kT_of 111 rfl rfl
set_option maxRecDepth 100000 in
theorem m_im_K_addRootsAndQueue : (Cond.instanceMethod y_K_addRootsAndQueue) ∈ kT := kT_of 113 rfl rfl
set_option maxRecDepth 100000 in
theorem m_code_K_addRootsAndQueue : k_K_addRootsAndQueue ∈ kT := kT_of 114 rfl rfl
set_option maxRecDepth 100000 in
theorem m_K_164 : (Cond.methodLink R_K 164 y_S_add) ∈ kT := kT_of 115 rfl rfl
set_option maxRecDepth 100000 in
theorem m_im_S_add : (Cond.instanceMethod y_S_add) ∈ kT := kT_of 116 rfl rfl
set_option maxRecDepth 100000 in
theorem m_sel_S_add : (Cond.selects R_S y_S_add y_S_add) ∈ kT := kT_of 117 rfl rfl
set_option maxRecDepth 100000 in
theorem m_code_S_add : k_S_add ∈ kT := kT_of 118 rfl rfl
set_option maxRecDepth 100000 in
theorem m_K_88 : (Cond.methodLink R_K 88 y_K_queueSize) ∈ kT := kT_of 119 rfl rfl
set_option maxRecDepth 100000 in
theorem m_im_K_queueSize : (Cond.instanceMethod y_K_queueSize) ∈ kT := kT_of 121 rfl rfl
set_option maxRecDepth 100000 in
theorem m_code_K_queueSize : k_K_queueSize ∈ kT := kT_of 122 rfl rfl
set_option maxRecDepth 100000 in
theorem m_K_91 : (Cond.methodLink R_K 91 y_K_queuePlace) ∈ kT := kT_of 123 rfl rfl
set_option maxRecDepth 100000 in
theorem m_im_K_queuePlace : (Cond.instanceMethod y_K_queuePlace) ∈ kT := kT_of 125 rfl rfl
set_option maxRecDepth 100000 in
theorem m_code_K_queuePlace : k_K_queuePlace ∈ kT := kT_of 126 rfl rfl
set_option maxRecDepth 100000 in
theorem m_K_160 : (Cond.methodLink R_K 160 y_K_followFields) ∈ kT := kT_of 127 rfl rfl
set_option maxRecDepth 100000 in
theorem m_im_K_followFields : (Cond.instanceMethod y_K_followFields) ∈ kT := kT_of 129 rfl rfl
set_option maxRecDepth 100000 in
theorem m_code_K_followFields : k_K_followFields ∈ kT := kT_of 130 rfl rfl
set_option maxRecDepth 100000 in
theorem m_K_167 : (Cond.methodLink R_K 167 y_S_at) ∈ kT := kT_of 131 rfl rfl
set_option maxRecDepth 100000 in
theorem m_im_S_at : (Cond.instanceMethod y_S_at) ∈ kT := kT_of 132 rfl rfl
set_option maxRecDepth 100000 in
theorem m_sel_S_at : (Cond.selects R_S y_S_at y_S_at) ∈ kT := kT_of 133 rfl rfl
set_option maxRecDepth 100000 in
theorem m_code_S_at : k_S_at ∈ kT := kT_of 134 rfl rfl
set_option maxRecDepth 100000 in
theorem m_K_98 : (Cond.methodLink R_K 98 y_K_thingOrNull) ∈ kT := kT_of 135 rfl rfl
set_option maxRecDepth 100000 in
theorem m_im_K_thingOrNull : (Cond.instanceMethod y_K_thingOrNull) ∈ kT := kT_of 137 rfl rfl
set_option maxRecDepth 100000 in
theorem m_code_K_thingOrNull : k_K_thingOrNull ∈ kT := kT_of 138 rfl rfl
set_option maxRecDepth 100000 in
theorem m_K_170 : (Cond.methodLink R_K 170 y_T_hasWeakField) ∈ kT := kT_of 139 rfl rfl
set_option maxRecDepth 100000 in
theorem m_im_T_hasWeakField : (Cond.instanceMethod y_T_hasWeakField) ∈ kT := kT_of 140 rfl rfl
set_option maxRecDepth 100000 in
theorem m_sel_T_hasWeakField : (Cond.selects R_T y_T_hasWeakField y_T_hasWeakField) ∈ kT := kT_of 141 rfl rfl
set_option maxRecDepth 100000 in
theorem m_code_T_hasWeakField : k_T_hasWeakField ∈ kT := kT_of 142 rfl rfl
set_option maxRecDepth 100000 in
theorem m_T_26 : (Cond.methodLink R_T 26 y_T_hasField) ∈ kT := kT_of 143 rfl rfl
set_option maxRecDepth 100000 in
theorem m_im_T_hasField : (Cond.instanceMethod y_T_hasField) ∈ kT := kT_of 144 rfl rfl
set_option maxRecDepth 100000 in
theorem m_sel_T_hasField : (Cond.selects R_T y_T_hasField y_T_hasField) ∈ kT := kT_of 145 rfl rfl
set_option maxRecDepth 100000 in
theorem m_code_T_hasField : k_T_hasField ∈ kT := kT_of 146 rfl rfl
set_option maxRecDepth 100000 in
theorem m_K_78 : (Cond.methodLink R_K 78 y_K_queueUnreached) ∈ kT := kT_of 147 rfl rfl
set_option maxRecDepth 100000 in
theorem m_im_K_queueUnreached : (Cond.instanceMethod y_K_queueUnreached) ∈ kT := kT_of 149 rfl rfl
set_option maxRecDepth 100000 in
theorem m_code_K_queueUnreached : k_K_queueUnreached ∈ kT := kT_of 150 rfl rfl
set_option maxRecDepth 100000 in
theorem m_K_150 : (Cond.methodLink R_K 150 y_T_waitsForQueue) ∈ kT := kT_of 151 rfl rfl
set_option maxRecDepth 100000 in
theorem m_im_T_waitsForQueue : (Cond.instanceMethod y_T_waitsForQueue) ∈ kT := kT_of 152 rfl rfl
set_option maxRecDepth 100000 in
theorem m_sel_T_waitsForQueue : (Cond.selects R_T y_T_waitsForQueue y_T_waitsForQueue) ∈ kT := kT_of 153 rfl rfl
set_option maxRecDepth 100000 in
theorem m_code_T_waitsForQueue : k_T_waitsForQueue ∈ kT := kT_of 154 rfl rfl
set_option maxRecDepth 100000 in
theorem m_K_110 : (Cond.methodLink R_K 110 y_S_has) ∈ kT := kT_of 155 rfl rfl
set_option maxRecDepth 100000 in
theorem m_im_S_has : (Cond.instanceMethod y_S_has) ∈ kT := kT_of 156 rfl rfl
set_option maxRecDepth 100000 in
theorem m_sel_S_has : (Cond.selects R_S y_S_has y_S_has) ∈ kT := kT_of 157 rfl rfl
set_option maxRecDepth 100000 in
theorem m_code_S_has : k_S_has ∈ kT := kT_of 158 rfl rfl
set_option maxRecDepth 100000 in
theorem m_K_173 : (Cond.methodLink R_K 173 y_K_putInQueue) ∈ kT := kT_of 159 rfl rfl
set_option maxRecDepth 100000 in
theorem m_im_K_putInQueue : (Cond.instanceMethod y_K_putInQueue) ∈ kT := kT_of 161 rfl rfl
set_option maxRecDepth 100000 in
theorem m_code_K_putInQueue : k_K_putInQueue ∈ kT := kT_of 162 rfl rfl
set_option maxRecDepth 100000 in
theorem m_K_82 : (Cond.methodLink R_K 82 y_K_forgetUnreached) ∈ kT := kT_of 163 rfl rfl
set_option maxRecDepth 100000 in
theorem m_im_K_forgetUnreached : (Cond.instanceMethod y_K_forgetUnreached) ∈ kT := kT_of 165 rfl rfl
set_option maxRecDepth 100000 in
theorem m_code_K_forgetUnreached : k_K_forgetUnreached ∈ kT := kT_of 166 rfl rfl
set_option maxRecDepth 100000 in
theorem m_L_70 : (Cond.methodLink R_L 70 y_K_take) ∈ kT := kT_of 167 rfl rfl
set_option maxRecDepth 100000 in
theorem m_im_K_take : (Cond.instanceMethod y_K_take) ∈ kT := kT_of 168 rfl rfl
set_option maxRecDepth 100000 in
theorem m_sel_K_take : (Cond.selects R_K y_K_take y_K_take) ∈ kT := kT_of 169 rfl rfl
set_option maxRecDepth 100000 in
theorem m_code_K_take : k_K_take ∈ kT := kT_of 170 rfl rfl
set_option maxRecDepth 100000 in
theorem m_L_78 : (Cond.methodLink R_L 78 y_K_sweep) ∈ kT := kT_of 171 rfl rfl
set_option maxRecDepth 100000 in
theorem m_im_K_sweep : (Cond.instanceMethod y_K_sweep) ∈ kT := kT_of 172 rfl rfl
set_option maxRecDepth 100000 in
theorem m_sel_K_sweep : (Cond.selects R_K y_K_sweep y_K_sweep) ∈ kT := kT_of 173 rfl rfl
set_option maxRecDepth 100000 in
theorem m_code_K_sweep : k_K_sweep ∈ kT := kT_of 174 rfl rfl
set_option maxRecDepth 100000 in
theorem m_K_107 : (Cond.methodLink R_K 107 y_K_searchKept) ∈ kT := kT_of 175 rfl rfl
set_option maxRecDepth 100000 in
theorem m_im_K_searchKept : (Cond.instanceMethod y_K_searchKept) ∈ kT := kT_of 177 rfl rfl
set_option maxRecDepth 100000 in
theorem m_code_K_searchKept : k_K_searchKept ∈ kT := kT_of 178 rfl rfl
set_option maxRecDepth 100000 in
theorem m_L_46 : (Cond.methodLink R_L 46 y_L_make) ∈ kT := kT_of 179 rfl rfl
set_option maxRecDepth 100000 in
theorem m_st_L_make : (Cond.static y_L_make) ∈ kT := kT_of 180 rfl rfl
set_option maxRecDepth 100000 in
theorem m_code_L_make : k_L_make ∈ kT := kT_of 181 rfl rfl
set_option maxRecDepth 100000 in
theorem m_L_13 : (Cond.classLink R_L 13 "java/lang/IllegalArgumentException") ∈ kT := kT_of 182 rfl rfl
set_option maxRecDepth 100000 in
theorem m_L_15 : (Cond.classLink R_L 15 "java/lang/IllegalStateException") ∈ kT := kT_of 183 rfl rfl
set_option maxRecDepth 100000 in
theorem m_L_7 : (Cond.methodLink R_L 7 y_K_make) ∈ kT := kT_of 184 rfl rfl
set_option maxRecDepth 100000 in
theorem m_im_K_make : (Cond.instanceMethod y_K_make) ∈ kT := kT_of 185 rfl rfl
set_option maxRecDepth 100000 in
theorem m_sel_K_make : (Cond.selects R_K y_K_make y_K_make) ∈ kT := kT_of 186 rfl rfl
set_option maxRecDepth 100000 in
theorem m_code_K_make : k_K_make ∈ kT := kT_of 187 rfl rfl
set_option maxRecDepth 100000 in
theorem m_K_32 : (Cond.classLink R_K 32 "java/lang/IllegalArgumentException") ∈ kT := kT_of 188 rfl rfl
set_option maxRecDepth 100000 in
theorem m_cast_IllegalArgumentException : (Cond.castable "java/lang/IllegalArgumentException" "java/lang/IllegalArgumentException") ∈ kNs := kN_of 190 rfl rfl
set_option maxRecDepth 100000 in
theorem m_str_K_34 : (Cond.stringRef R_K 34 "no such kind") ∈ kNs := kN_of 229 rfl rfl
set_option maxRecDepth 100000 in
theorem m_arr_byte : (Cond.arrayClass .byte) ∈ kT := kT_of 255 rfl rfl
set_option maxRecDepth 100000 in
theorem m_str_K_39 : (Cond.stringRef R_K 39 "no such number of fields") ∈ kNs := kN_of 256 rfl rfl
set_option maxRecDepth 100000 in
theorem m_str_K_41 : (Cond.stringRef R_K 41 "a weak object needs a field") ∈ kNs := kN_of 257 rfl rfl
set_option maxRecDepth 100000 in
theorem m_K_47 : (Cond.classLink R_K 47 "java/lang/IllegalStateException") ∈ kT := kT_of 258 rfl rfl
set_option maxRecDepth 100000 in
theorem m_cast_IllegalStateException : (Cond.castable "java/lang/IllegalStateException" "java/lang/IllegalStateException") ∈ kNs := kN_of 260 rfl rfl
set_option maxRecDepth 100000 in
theorem m_str_K_49 : (Cond.stringRef R_K 49 "no more objects can be made") ∈ kNs := kN_of 267 rfl rfl
set_option maxRecDepth 100000 in
theorem m_ins_T : (Cond.instantiable R_T 4) ∈ kT := kT_of 274 rfl rfl
set_option maxRecDepth 100000 in
theorem m_K_52 : (Cond.methodLink R_K 52 y_T_init) ∈ kT := kT_of 275 rfl rfl
set_option maxRecDepth 100000 in
theorem m_im_T_init : (Cond.instanceMethod y_T_init) ∈ kT := kT_of 276 rfl rfl
set_option maxRecDepth 100000 in
theorem m_code_T_init : k_T_init ∈ kT := kT_of 277 rfl rfl
set_option maxRecDepth 100000 in
theorem m_T_3 : (Cond.methodLink R_T 3 objectInit) ∈ kT := kT_of 278 rfl rfl
set_option maxRecDepth 100000 in
theorem m_T_15 : (Cond.fieldLink R_T 15 "WillKeeper$Thing" "fields" "[I") ∈ kT := kT_of 279 rfl rfl
set_option maxRecDepth 100000 in
theorem m_K_66 : (Cond.fieldLink R_K 66 "WillKeeper$Thing" "fields" "[I") ∈ kT := kT_of 280 rfl rfl
set_option maxRecDepth 100000 in
theorem m_T_9 : (Cond.fieldLink R_T 9 "WillKeeper$Thing" "kind" "I") ∈ kT := kT_of 281 rfl rfl
set_option maxRecDepth 100000 in
theorem m_K_102 : (Cond.fieldLink R_K 102 "WillKeeper$Thing" "kind" "I") ∈ kT := kT_of 282 rfl rfl
set_option maxRecDepth 100000 in
theorem m_T_19 : (Cond.fieldLink R_T 19 "WillKeeper$Thing" "everQueued" "Z") ∈ kT := kT_of 283 rfl rfl
set_option maxRecDepth 100000 in
theorem m_K_146 : (Cond.fieldLink R_K 146 "WillKeeper$Thing" "everQueued" "Z") ∈ kT := kT_of 284 rfl rfl
set_option maxRecDepth 100000 in
theorem m_T_23 : (Cond.fieldLink R_T 23 "WillKeeper$Thing" "identityNumber" "I") ∈ kT := kT_of 285 rfl rfl
set_option maxRecDepth 100000 in
theorem m_K_117 : (Cond.fieldLink R_K 117 "WillKeeper$Thing" "identityNumber" "I") ∈ kT := kT_of 286 rfl rfl
set_option maxRecDepth 100000 in
theorem m_L_56 : (Cond.methodLink R_L 56 y_L_set) ∈ kT := kT_of 296 rfl rfl
set_option maxRecDepth 100000 in
theorem m_st_L_set : (Cond.static y_L_set) ∈ kT := kT_of 297 rfl rfl
set_option maxRecDepth 100000 in
theorem m_code_L_set : k_L_set ∈ kT := kT_of 298 rfl rfl
set_option maxRecDepth 100000 in
theorem m_L_21 : (Cond.classLink R_L 21 "java/util/NoSuchElementException") ∈ kT := kT_of 299 rfl rfl
set_option maxRecDepth 100000 in
theorem m_L_17 : (Cond.methodLink R_L 17 y_K_set) ∈ kT := kT_of 300 rfl rfl
set_option maxRecDepth 100000 in
theorem m_im_K_set : (Cond.instanceMethod y_K_set) ∈ kT := kT_of 301 rfl rfl
set_option maxRecDepth 100000 in
theorem m_sel_K_set : (Cond.selects R_K y_K_set y_K_set) ∈ kT := kT_of 302 rfl rfl
set_option maxRecDepth 100000 in
theorem m_code_K_set : k_K_set ∈ kT := kT_of 303 rfl rfl
set_option maxRecDepth 100000 in
theorem m_K_58 : (Cond.methodLink R_K 58 y_K_thingWithField) ∈ kT := kT_of 304 rfl rfl
set_option maxRecDepth 100000 in
theorem m_im_K_thingWithField : (Cond.instanceMethod y_K_thingWithField) ∈ kT := kT_of 306 rfl rfl
set_option maxRecDepth 100000 in
theorem m_code_K_thingWithField : k_K_thingWithField ∈ kT := kT_of 307 rfl rfl
set_option maxRecDepth 100000 in
theorem m_K_114 : (Cond.methodLink R_K 114 y_K_thingThere) ∈ kT := kT_of 308 rfl rfl
set_option maxRecDepth 100000 in
theorem m_im_K_thingThere : (Cond.instanceMethod y_K_thingThere) ∈ kT := kT_of 310 rfl rfl
set_option maxRecDepth 100000 in
theorem m_code_K_thingThere : k_K_thingThere ∈ kT := kT_of 311 rfl rfl
set_option maxRecDepth 100000 in
theorem m_K_69 : (Cond.classLink R_K 69 "java/util/NoSuchElementException") ∈ kT := kT_of 312 rfl rfl
set_option maxRecDepth 100000 in
theorem m_cast_NoSuchElementException : (Cond.castable "java/util/NoSuchElementException" "java/util/NoSuchElementException") ∈ kNs := kN_of 314 rfl rfl
set_option maxRecDepth 100000 in
theorem m_str_K_136 : (Cond.stringRef R_K 136 "no such object") ∈ kNs := kN_of 321 rfl rfl
set_option maxRecDepth 100000 in
theorem m_K_138 : (Cond.methodLink R_K 138 y_T_hasField) ∈ kT := kT_of 328 rfl rfl
set_option maxRecDepth 100000 in
theorem m_str_K_141 : (Cond.stringRef R_K 141 "no such field") ∈ kNs := kN_of 329 rfl rfl
set_option maxRecDepth 100000 in
theorem m_K_62 : (Cond.methodLink R_K 62 y_K_needThingOrNone) ∈ kT := kT_of 330 rfl rfl
set_option maxRecDepth 100000 in
theorem m_im_K_needThingOrNone : (Cond.instanceMethod y_K_needThingOrNone) ∈ kT := kT_of 332 rfl rfl
set_option maxRecDepth 100000 in
theorem m_code_K_needThingOrNone : k_K_needThingOrNone ∈ kT := kT_of 333 rfl rfl
set_option maxRecDepth 100000 in
theorem m_L_60 : (Cond.methodLink R_L 60 y_L_get) ∈ kT := kT_of 334 rfl rfl
set_option maxRecDepth 100000 in
theorem m_st_L_get : (Cond.static y_L_get) ∈ kT := kT_of 335 rfl rfl
set_option maxRecDepth 100000 in
theorem m_code_L_get : k_L_get ∈ kT := kT_of 336 rfl rfl
set_option maxRecDepth 100000 in
theorem m_L_23 : (Cond.methodLink R_L 23 y_K_get) ∈ kT := kT_of 337 rfl rfl
set_option maxRecDepth 100000 in
theorem m_im_K_get : (Cond.instanceMethod y_K_get) ∈ kT := kT_of 338 rfl rfl
set_option maxRecDepth 100000 in
theorem m_sel_K_get : (Cond.selects R_K y_K_get y_K_get) ∈ kT := kT_of 339 rfl rfl
set_option maxRecDepth 100000 in
theorem m_code_K_get : k_K_get ∈ kT := kT_of 340 rfl rfl
set_option maxRecDepth 100000 in
theorem m_L_63 : (Cond.methodLink R_L 63 y_L_root) ∈ kT := kT_of 341 rfl rfl
set_option maxRecDepth 100000 in
theorem m_st_L_root : (Cond.static y_L_root) ∈ kT := kT_of 342 rfl rfl
set_option maxRecDepth 100000 in
theorem m_code_L_root : k_L_root ∈ kT := kT_of 343 rfl rfl
set_option maxRecDepth 100000 in
theorem m_L_26 : (Cond.methodLink R_L 26 y_K_root) ∈ kT := kT_of 344 rfl rfl
set_option maxRecDepth 100000 in
theorem m_im_K_root : (Cond.instanceMethod y_K_root) ∈ kT := kT_of 345 rfl rfl
set_option maxRecDepth 100000 in
theorem m_sel_K_root : (Cond.selects R_K y_K_root y_K_root) ∈ kT := kT_of 346 rfl rfl
set_option maxRecDepth 100000 in
theorem m_code_K_root : k_K_root ∈ kT := kT_of 347 rfl rfl
set_option maxRecDepth 100000 in
theorem m_str_K_71 : (Cond.stringRef R_K 71 "no such root") ∈ kNs := kN_of 348 rfl rfl
set_option maxRecDepth 100000 in
theorem m_L_74 : (Cond.methodLink R_L 74 y_L_queued) ∈ kT := kT_of 349 rfl rfl
set_option maxRecDepth 100000 in
theorem m_st_L_queued : (Cond.static y_L_queued) ∈ kT := kT_of 350 rfl rfl
set_option maxRecDepth 100000 in
theorem m_code_L_queued : k_L_queued ∈ kT := kT_of 351 rfl rfl
set_option maxRecDepth 100000 in
theorem m_L_29 : (Cond.methodLink R_L 29 y_K_queued) ∈ kT := kT_of 352 rfl rfl
set_option maxRecDepth 100000 in
theorem m_im_K_queued : (Cond.instanceMethod y_K_queued) ∈ kT := kT_of 353 rfl rfl
set_option maxRecDepth 100000 in
theorem m_sel_K_queued : (Cond.selects R_K y_K_queued y_K_queued) ∈ kT := kT_of 354 rfl rfl
set_option maxRecDepth 100000 in
theorem m_code_K_queued : k_K_queued ∈ kT := kT_of 355 rfl rfl
set_option maxRecDepth 100000 in
theorem m_str_K_105 : (Cond.stringRef R_K 105 "no such place in the queue") ∈ kNs := kN_of 356 rfl rfl
set_option maxRecDepth 100000 in
theorem m_L_82 : (Cond.methodLink R_L 82 y_L_identity) ∈ kT := kT_of 357 rfl rfl
set_option maxRecDepth 100000 in
theorem m_st_L_identity : (Cond.static y_L_identity) ∈ kT := kT_of 358 rfl rfl
set_option maxRecDepth 100000 in
theorem m_code_L_identity : k_L_identity ∈ kT := kT_of 359 rfl rfl
set_option maxRecDepth 100000 in
theorem m_L_33 : (Cond.methodLink R_L 33 y_K_identity) ∈ kT := kT_of 360 rfl rfl
set_option maxRecDepth 100000 in
theorem m_im_K_identity : (Cond.instanceMethod y_K_identity) ∈ kT := kT_of 361 rfl rfl
set_option maxRecDepth 100000 in
theorem m_sel_K_identity : (Cond.selects R_K y_K_identity y_K_identity) ∈ kT := kT_of 362 rfl rfl
set_option maxRecDepth 100000 in
theorem m_code_K_identity : k_K_identity ∈ kT := kT_of 363 rfl rfl
set_option maxRecDepth 100000 in
theorem m_L_85 : (Cond.methodLink R_L 85 y_L_about) ∈ kT := kT_of 364 rfl rfl
set_option maxRecDepth 100000 in
theorem m_st_L_about : (Cond.static y_L_about) ∈ kT := kT_of 365 rfl rfl
set_option maxRecDepth 100000 in
theorem m_code_L_about : k_L_about ∈ kT := kT_of 366 rfl rfl
set_option maxRecDepth 100000 in
theorem m_L_36 : (Cond.methodLink R_L 36 y_K_about) ∈ kT := kT_of 367 rfl rfl
set_option maxRecDepth 100000 in
theorem m_im_K_about : (Cond.instanceMethod y_K_about) ∈ kT := kT_of 368 rfl rfl
set_option maxRecDepth 100000 in
theorem m_sel_K_about : (Cond.selects R_K y_K_about y_K_about) ∈ kT := kT_of 369 rfl rfl
set_option maxRecDepth 100000 in
theorem m_code_K_about : k_K_about ∈ kT := kT_of 370 rfl rfl
set_option maxRecDepth 100000 in
theorem m_str_K_123 : (Cond.stringRef R_K 123 "nothing is told under this number") ∈ kNs := kN_of 371 rfl rfl
set_option maxRecDepth 100000 in
theorem m_L_88 : (Cond.methodLink R_L 88 y_L_count) ∈ kT := kT_of 372 rfl rfl
set_option maxRecDepth 100000 in
theorem m_st_L_count : (Cond.static y_L_count) ∈ kT := kT_of 373 rfl rfl
set_option maxRecDepth 100000 in
theorem m_code_L_count : k_L_count ∈ kT := kT_of 374 rfl rfl
set_option maxRecDepth 100000 in
theorem m_L_39 : (Cond.methodLink R_L 39 y_K_count) ∈ kT := kT_of 375 rfl rfl
set_option maxRecDepth 100000 in
theorem m_im_K_count : (Cond.instanceMethod y_K_count) ∈ kT := kT_of 376 rfl rfl
set_option maxRecDepth 100000 in
theorem m_sel_K_count : (Cond.selects R_K y_K_count y_K_count) ∈ kT := kT_of 377 rfl rfl
set_option maxRecDepth 100000 in
theorem m_code_K_count : k_K_count ∈ kT := kT_of 378 rfl rfl
set_option maxRecDepth 100000 in
theorem m_K_128 : (Cond.methodLink R_K 128 y_K_waitingFinals) ∈ kT := kT_of 379 rfl rfl
set_option maxRecDepth 100000 in
theorem m_im_K_waitingFinals : (Cond.instanceMethod y_K_waitingFinals) ∈ kT := kT_of 381 rfl rfl
set_option maxRecDepth 100000 in
theorem m_code_K_waitingFinals : k_K_waitingFinals ∈ kT := kT_of 382 rfl rfl
set_option maxRecDepth 100000 in
theorem m_str_K_134 : (Cond.stringRef R_K 134 "nothing is counted under this number") ∈ kNs := kN_of 383 rfl rfl
set_option maxRecDepth 100000 in
theorem m_L_43 : (Cond.classLink R_L 43 "WillKeeperModel") ∈ kT := kT_of 384 rfl rfl
set_option maxRecDepth 100000 in
theorem m_ins_M : (Cond.instantiable R_M 16) ∈ kT := kT_of 385 rfl rfl
set_option maxRecDepth 100000 in
theorem m_L_45 : (Cond.methodLink R_L 45 y_M_init) ∈ kT := kT_of 386 rfl rfl
set_option maxRecDepth 100000 in
theorem m_im_M_init : (Cond.instanceMethod y_M_init) ∈ kT := kT_of 387 rfl rfl
set_option maxRecDepth 100000 in
theorem m_code_M_init : k_M_init ∈ kT := kT_of 388 rfl rfl
set_option maxRecDepth 100000 in
theorem m_M_1 : (Cond.methodLink R_M 1 objectInit) ∈ kT := kT_of 389 rfl rfl
set_option maxRecDepth 100000 in
theorem m_M_41 : (Cond.fieldLink R_M 41 "WillKeeperModel" "thrown" "I") ∈ kT := kT_of 390 rfl rfl
set_option maxRecDepth 100000 in
theorem m_M_45 : (Cond.fieldLink R_M 45 "WillKeeperModel" "made" "I") ∈ kT := kT_of 391 rfl rfl
set_option maxRecDepth 100000 in
theorem m_M_7 : (Cond.fieldLink R_M 7 "WillKeeperModel" "there" "[Z") ∈ kT := kT_of 392 rfl rfl
set_option maxRecDepth 100000 in
theorem m_M_13 : (Cond.fieldLink R_M 13 "WillKeeperModel" "kinds" "[I") ∈ kT := kT_of 393 rfl rfl
set_option maxRecDepth 100000 in
theorem m_M_17 : (Cond.fieldLink R_M 17 "WillKeeperModel" "sizes" "[I") ∈ kT := kT_of 394 rfl rfl
set_option maxRecDepth 100000 in
theorem m_M_20 : (Cond.fieldLink R_M 20 "WillKeeperModel" "fields" "[I") ∈ kT := kT_of 395 rfl rfl
set_option maxRecDepth 100000 in
theorem m_M_23 : (Cond.fieldLink R_M 23 "WillKeeperModel" "identities" "[I") ∈ kT := kT_of 396 rfl rfl
set_option maxRecDepth 100000 in
theorem m_M_26 : (Cond.fieldLink R_M 26 "WillKeeperModel" "wasQueued" "[Z") ∈ kT := kT_of 397 rfl rfl
set_option maxRecDepth 100000 in
theorem m_M_29 : (Cond.fieldLink R_M 29 "WillKeeperModel" "roots" "[I") ∈ kT := kT_of 398 rfl rfl
set_option maxRecDepth 100000 in
theorem m_M_63 : (Cond.fieldLink R_M 63 "WillKeeperModel" "queued" "I") ∈ kT := kT_of 399 rfl rfl
set_option maxRecDepth 100000 in
theorem m_M_32 : (Cond.fieldLink R_M 32 "WillKeeperModel" "queue" "[I") ∈ kT := kT_of 400 rfl rfl
set_option maxRecDepth 100000 in
theorem m_M_66 : (Cond.fieldLink R_M 66 "WillKeeperModel" "clearings" "I") ∈ kT := kT_of 401 rfl rfl
set_option maxRecDepth 100000 in
theorem m_M_73 : (Cond.fieldLink R_M 73 "WillKeeperModel" "forgotten" "I") ∈ kT := kT_of 402 rfl rfl
set_option maxRecDepth 100000 in
theorem m_M_76 : (Cond.fieldLink R_M 76 "WillKeeperModel" "given" "I") ∈ kT := kT_of 403 rfl rfl
set_option maxRecDepth 100000 in
theorem m_M_35 : (Cond.fieldLink R_M 35 "WillKeeperModel" "found" "[Z") ∈ kT := kT_of 404 rfl rfl
set_option maxRecDepth 100000 in
theorem m_M_38 : (Cond.fieldLink R_M 38 "WillKeeperModel" "before" "[Z") ∈ kT := kT_of 405 rfl rfl
set_option maxRecDepth 100000 in
theorem m_L_52 : (Cond.methodLink R_L 52 y_M_thrown) ∈ kT := kT_of 439 rfl rfl
set_option maxRecDepth 100000 in
theorem m_im_M_thrown : (Cond.instanceMethod y_M_thrown) ∈ kT := kT_of 440 rfl rfl
set_option maxRecDepth 100000 in
theorem m_sel_M_thrown : (Cond.selects R_M y_M_thrown y_M_thrown) ∈ kT := kT_of 441 rfl rfl
set_option maxRecDepth 100000 in
theorem m_code_M_thrown : k_M_thrown ∈ kT := kT_of 442 rfl rfl
set_option maxRecDepth 100000 in
theorem m_L_51 : (Cond.methodLink R_L 51 y_M_make) ∈ kT := kT_of 443 rfl rfl
set_option maxRecDepth 100000 in
theorem m_im_M_make : (Cond.instanceMethod y_M_make) ∈ kT := kT_of 444 rfl rfl
set_option maxRecDepth 100000 in
theorem m_sel_M_make : (Cond.selects R_M y_M_make y_M_make) ∈ kT := kT_of 445 rfl rfl
set_option maxRecDepth 100000 in
theorem m_code_M_make : k_M_make ∈ kT := kT_of 446 rfl rfl
set_option maxRecDepth 100000 in
theorem m_M_52 : (Cond.methodLink R_M 52 y_M_goes) ∈ kT := kT_of 447 rfl rfl
set_option maxRecDepth 100000 in
theorem m_im_M_goes : (Cond.instanceMethod y_M_goes) ∈ kT := kT_of 449 rfl rfl
set_option maxRecDepth 100000 in
theorem m_code_M_goes : k_M_goes ∈ kT := kT_of 450 rfl rfl
set_option maxRecDepth 100000 in
theorem m_L_59 : (Cond.methodLink R_L 59 y_M_set) ∈ kT := kT_of 451 rfl rfl
set_option maxRecDepth 100000 in
theorem m_im_M_set : (Cond.instanceMethod y_M_set) ∈ kT := kT_of 452 rfl rfl
set_option maxRecDepth 100000 in
theorem m_sel_M_set : (Cond.selects R_M y_M_set y_M_set) ∈ kT := kT_of 453 rfl rfl
set_option maxRecDepth 100000 in
theorem m_code_M_set : k_M_set ∈ kT := kT_of 454 rfl rfl
set_option maxRecDepth 100000 in
theorem m_M_56 : (Cond.methodLink R_M 56 y_M_isField) ∈ kT := kT_of 455 rfl rfl
set_option maxRecDepth 100000 in
theorem m_im_M_isField : (Cond.instanceMethod y_M_isField) ∈ kT := kT_of 457 rfl rfl
set_option maxRecDepth 100000 in
theorem m_code_M_isField : k_M_isField ∈ kT := kT_of 458 rfl rfl
set_option maxRecDepth 100000 in
theorem m_M_48 : (Cond.methodLink R_M 48 y_M_isThere) ∈ kT := kT_of 459 rfl rfl
set_option maxRecDepth 100000 in
theorem m_im_M_isThere : (Cond.instanceMethod y_M_isThere) ∈ kT := kT_of 461 rfl rfl
set_option maxRecDepth 100000 in
theorem m_code_M_isThere : k_M_isThere ∈ kT := kT_of 462 rfl rfl
set_option maxRecDepth 100000 in
theorem m_M_60 : (Cond.methodLink R_M 60 y_M_isOrNone) ∈ kT := kT_of 463 rfl rfl
set_option maxRecDepth 100000 in
theorem m_im_M_isOrNone : (Cond.instanceMethod y_M_isOrNone) ∈ kT := kT_of 465 rfl rfl
set_option maxRecDepth 100000 in
theorem m_code_M_isOrNone : k_M_isOrNone ∈ kT := kT_of 466 rfl rfl
set_option maxRecDepth 100000 in
theorem m_L_62 : (Cond.methodLink R_L 62 y_M_get) ∈ kT := kT_of 467 rfl rfl
set_option maxRecDepth 100000 in
theorem m_im_M_get : (Cond.instanceMethod y_M_get) ∈ kT := kT_of 468 rfl rfl
set_option maxRecDepth 100000 in
theorem m_sel_M_get : (Cond.selects R_M y_M_get y_M_get) ∈ kT := kT_of 469 rfl rfl
set_option maxRecDepth 100000 in
theorem m_code_M_get : k_M_get ∈ kT := kT_of 470 rfl rfl
set_option maxRecDepth 100000 in
theorem m_L_65 : (Cond.methodLink R_L 65 y_M_root) ∈ kT := kT_of 471 rfl rfl
set_option maxRecDepth 100000 in
theorem m_im_M_root : (Cond.instanceMethod y_M_root) ∈ kT := kT_of 472 rfl rfl
set_option maxRecDepth 100000 in
theorem m_sel_M_root : (Cond.selects R_M y_M_root y_M_root) ∈ kT := kT_of 473 rfl rfl
set_option maxRecDepth 100000 in
theorem m_code_M_root : k_M_root ∈ kT := kT_of 474 rfl rfl
set_option maxRecDepth 100000 in
theorem m_L_69 : (Cond.methodLink R_L 69 y_M_clear) ∈ kT := kT_of 475 rfl rfl
set_option maxRecDepth 100000 in
theorem m_im_M_clear : (Cond.instanceMethod y_M_clear) ∈ kT := kT_of 476 rfl rfl
set_option maxRecDepth 100000 in
theorem m_sel_M_clear : (Cond.selects R_M y_M_clear y_M_clear) ∈ kT := kT_of 477 rfl rfl
set_option maxRecDepth 100000 in
theorem m_code_M_clear : k_M_clear ∈ kT := kT_of 478 rfl rfl
set_option maxRecDepth 100000 in
theorem m_M_69 : (Cond.methodLink R_M 69 y_M_find) ∈ kT := kT_of 479 rfl rfl
set_option maxRecDepth 100000 in
theorem m_im_M_find : (Cond.instanceMethod y_M_find) ∈ kT := kT_of 481 rfl rfl
set_option maxRecDepth 100000 in
theorem m_code_M_find : k_M_find ∈ kT := kT_of 482 rfl rfl
set_option maxRecDepth 100000 in
theorem m_L_73 : (Cond.methodLink R_L 73 y_M_take) ∈ kT := kT_of 483 rfl rfl
set_option maxRecDepth 100000 in
theorem m_im_M_take : (Cond.instanceMethod y_M_take) ∈ kT := kT_of 484 rfl rfl
set_option maxRecDepth 100000 in
theorem m_sel_M_take : (Cond.selects R_M y_M_take y_M_take) ∈ kT := kT_of 485 rfl rfl
set_option maxRecDepth 100000 in
theorem m_code_M_take : k_M_take ∈ kT := kT_of 486 rfl rfl
set_option maxRecDepth 100000 in
theorem m_L_77 : (Cond.methodLink R_L 77 y_M_queued) ∈ kT := kT_of 487 rfl rfl
set_option maxRecDepth 100000 in
theorem m_im_M_queued : (Cond.instanceMethod y_M_queued) ∈ kT := kT_of 488 rfl rfl
set_option maxRecDepth 100000 in
theorem m_sel_M_queued : (Cond.selects R_M y_M_queued y_M_queued) ∈ kT := kT_of 489 rfl rfl
set_option maxRecDepth 100000 in
theorem m_code_M_queued : k_M_queued ∈ kT := kT_of 490 rfl rfl
set_option maxRecDepth 100000 in
theorem m_L_81 : (Cond.methodLink R_L 81 y_M_sweep) ∈ kT := kT_of 491 rfl rfl
set_option maxRecDepth 100000 in
theorem m_im_M_sweep : (Cond.instanceMethod y_M_sweep) ∈ kT := kT_of 492 rfl rfl
set_option maxRecDepth 100000 in
theorem m_sel_M_sweep : (Cond.selects R_M y_M_sweep y_M_sweep) ∈ kT := kT_of 493 rfl rfl
set_option maxRecDepth 100000 in
theorem m_code_M_sweep : k_M_sweep ∈ kT := kT_of 494 rfl rfl
set_option maxRecDepth 100000 in
theorem m_L_84 : (Cond.methodLink R_L 84 y_M_identity) ∈ kT := kT_of 495 rfl rfl
set_option maxRecDepth 100000 in
theorem m_im_M_identity : (Cond.instanceMethod y_M_identity) ∈ kT := kT_of 496 rfl rfl
set_option maxRecDepth 100000 in
theorem m_sel_M_identity : (Cond.selects R_M y_M_identity y_M_identity) ∈ kT := kT_of 497 rfl rfl
set_option maxRecDepth 100000 in
theorem m_code_M_identity : k_M_identity ∈ kT := kT_of 498 rfl rfl
set_option maxRecDepth 100000 in
theorem m_L_87 : (Cond.methodLink R_L 87 y_M_about) ∈ kT := kT_of 499 rfl rfl
set_option maxRecDepth 100000 in
theorem m_im_M_about : (Cond.instanceMethod y_M_about) ∈ kT := kT_of 500 rfl rfl
set_option maxRecDepth 100000 in
theorem m_sel_M_about : (Cond.selects R_M y_M_about y_M_about) ∈ kT := kT_of 501 rfl rfl
set_option maxRecDepth 100000 in
theorem m_code_M_about : k_M_about ∈ kT := kT_of 502 rfl rfl
set_option maxRecDepth 100000 in
theorem m_L_90 : (Cond.methodLink R_L 90 y_M_count) ∈ kT := kT_of 503 rfl rfl
set_option maxRecDepth 100000 in
theorem m_im_M_count : (Cond.instanceMethod y_M_count) ∈ kT := kT_of 504 rfl rfl
set_option maxRecDepth 100000 in
theorem m_sel_M_count : (Cond.selects R_M y_M_count y_M_count) ∈ kT := kT_of 505 rfl rfl
set_option maxRecDepth 100000 in
theorem m_code_M_count : k_M_count ∈ kT := kT_of 506 rfl rfl
set_option maxRecDepth 100000 in
theorem m_M_79 : (Cond.methodLink R_M 79 y_M_many) ∈ kT := kT_of 507 rfl rfl
set_option maxRecDepth 100000 in
theorem m_im_M_many : (Cond.instanceMethod y_M_many) ∈ kT := kT_of 509 rfl rfl
set_option maxRecDepth 100000 in
theorem m_code_M_many : k_M_many ∈ kT := kT_of 510 rfl rfl
set_option maxRecDepth 100000 in
theorem m_M_83 : (Cond.methodLink R_M 83 y_M_waiting) ∈ kT := kT_of 511 rfl rfl
set_option maxRecDepth 100000 in
theorem m_im_M_waiting : (Cond.instanceMethod y_M_waiting) ∈ kT := kT_of 513 rfl rfl
set_option maxRecDepth 100000 in
theorem m_code_M_waiting : k_M_waiting ∈ kT := kT_of 514 rfl rfl
set_option maxRecDepth 100000 in
theorem m_arr_long : (Cond.arrayClass .long) ∈ kT := kT_of 515 rfl rfl
theorem m_sel_K_searchReached : (Cond.selects R_K y_K_searchReached y_K_searchReached) ∈ kT := kT_of 0 rfl rfl
theorem m_sel_K_addRootsAndQueue : (Cond.selects R_K y_K_addRootsAndQueue y_K_addRootsAndQueue) ∈ kT := kT_of 1 rfl rfl
theorem m_sel_K_queueSize : (Cond.selects R_K y_K_queueSize y_K_queueSize) ∈ kT := kT_of 2 rfl rfl
theorem m_sel_K_queuePlace : (Cond.selects R_K y_K_queuePlace y_K_queuePlace) ∈ kT := kT_of 3 rfl rfl
theorem m_sel_K_followFields : (Cond.selects R_K y_K_followFields y_K_followFields) ∈ kT := kT_of 4 rfl rfl
theorem m_sel_K_thingOrNull : (Cond.selects R_K y_K_thingOrNull y_K_thingOrNull) ∈ kT := kT_of 5 rfl rfl
theorem m_sel_K_queueUnreached : (Cond.selects R_K y_K_queueUnreached y_K_queueUnreached) ∈ kT := kT_of 6 rfl rfl
theorem m_sel_K_putInQueue : (Cond.selects R_K y_K_putInQueue y_K_putInQueue) ∈ kT := kT_of 7 rfl rfl
theorem m_sel_K_forgetUnreached : (Cond.selects R_K y_K_forgetUnreached y_K_forgetUnreached) ∈ kT := kT_of 8 rfl rfl
theorem m_sel_K_searchKept : (Cond.selects R_K y_K_searchKept y_K_searchKept) ∈ kT := kT_of 9 rfl rfl
theorem m_sel_K_thingWithField : (Cond.selects R_K y_K_thingWithField y_K_thingWithField) ∈ kT := kT_of 11 rfl rfl
theorem m_sel_K_thingThere : (Cond.selects R_K y_K_thingThere y_K_thingThere) ∈ kT := kT_of 12 rfl rfl
theorem m_sel_K_needThingOrNone : (Cond.selects R_K y_K_needThingOrNone y_K_needThingOrNone) ∈ kT := kT_of 13 rfl rfl
theorem m_sel_K_waitingFinals : (Cond.selects R_K y_K_waitingFinals y_K_waitingFinals) ∈ kT := kT_of 14 rfl rfl
theorem m_sel_M_goes : (Cond.selects R_M y_M_goes y_M_goes) ∈ kT := kT_of 15 rfl rfl
theorem m_sel_M_isField : (Cond.selects R_M y_M_isField y_M_isField) ∈ kT := kT_of 16 rfl rfl
theorem m_sel_M_isThere : (Cond.selects R_M y_M_isThere y_M_isThere) ∈ kT := kT_of 17 rfl rfl
theorem m_sel_M_isOrNone : (Cond.selects R_M y_M_isOrNone y_M_isOrNone) ∈ kT := kT_of 18 rfl rfl
theorem m_sel_M_find : (Cond.selects R_M y_M_find y_M_find) ∈ kT := kT_of 19 rfl rfl
theorem m_sel_M_many : (Cond.selects R_M y_M_many y_M_many) ∈ kT := kT_of 20 rfl rfl
theorem m_sel_M_waiting : (Cond.selects R_M y_M_waiting y_M_waiting) ∈ kT := kT_of 21 rfl rfl
set_option maxRecDepth 100000 in
theorem i_K : ∀ w ∈ u_ws R_K F_K 12, w ∈ kT := by
  intro w h
  obtain ⟨k, hk, rfl⟩ := List.mem_map.mp h
  have hk := List.mem_range.mp hk
  match k, hk with
  | 0, _ => exact kT_of 74 rfl rfl
  | 1, _ => exact kT_of 76 rfl rfl
  | 2, _ => exact kT_of 78 rfl rfl
  | 3, _ => exact kT_of 80 rfl rfl
  | 4, _ => exact kT_of 82 rfl rfl
  | 5, _ => exact kT_of 84 rfl rfl
  | 6, _ => exact kT_of 86 rfl rfl
  | 7, _ => exact kT_of 88 rfl rfl
  | 8, _ => exact kT_of 90 rfl rfl
  | 9, _ => exact kT_of 92 rfl rfl
  | 10, _ => exact kT_of 94 rfl rfl
  | 11, _ => exact kT_of 96 rfl rfl
  | n + 12, h => exact absurd h (by omega)
set_option maxRecDepth 100000 in
theorem i_S : ∀ w ∈ u_ws R_S F_S 3, w ∈ kT := by
  intro w h
  obtain ⟨k, hk, rfl⟩ := List.mem_map.mp h
  have hk := List.mem_range.mp hk
  match k, hk with
  | 0, _ => exact kT_of 53 rfl rfl
  | 1, _ => exact kT_of 55 rfl rfl
  | 2, _ => exact kT_of 57 rfl rfl
  | n + 3, h => exact absurd h (by omega)
set_option maxRecDepth 100000 in
theorem i_T : ∀ w ∈ u_ws R_T F_T 4, w ∈ kT := by
  intro w h
  obtain ⟨k, hk, rfl⟩ := List.mem_map.mp h
  have hk := List.mem_range.mp hk
  match k, hk with
  | 0, _ => exact kT_of 287 rfl rfl
  | 1, _ => exact kT_of 289 rfl rfl
  | 2, _ => exact kT_of 291 rfl rfl
  | 3, _ => exact kT_of 293 rfl rfl
  | n + 4, h => exact absurd h (by omega)
set_option maxRecDepth 100000 in
theorem i_M : ∀ w ∈ u_ws R_M F_M 16, w ∈ kT := by
  intro w h
  obtain ⟨k, hk, rfl⟩ := List.mem_map.mp h
  have hk := List.mem_range.mp hk
  match k, hk with
  | 0, _ => exact kT_of 406 rfl rfl
  | 1, _ => exact kT_of 408 rfl rfl
  | 2, _ => exact kT_of 410 rfl rfl
  | 3, _ => exact kT_of 412 rfl rfl
  | 4, _ => exact kT_of 414 rfl rfl
  | 5, _ => exact kT_of 416 rfl rfl
  | 6, _ => exact kT_of 418 rfl rfl
  | 7, _ => exact kT_of 420 rfl rfl
  | 8, _ => exact kT_of 422 rfl rfl
  | 9, _ => exact kT_of 424 rfl rfl
  | 10, _ => exact kT_of 426 rfl rfl
  | 11, _ => exact kT_of 428 rfl rfl
  | 12, _ => exact kT_of 430 rfl rfl
  | 13, _ => exact kT_of 432 rfl rfl
  | 14, _ => exact kT_of 434 rfl rfl
  | 15, _ => exact kT_of 436 rfl rfl
  | n + 16, h => exact absurd h (by omega)
abbrev w_K_init : List Cond := k_K_init :: kT
abbrev w_K_make : List Cond := k_K_make :: kT
abbrev w_K_set : List Cond := k_K_set :: kT
abbrev w_K_get : List Cond := k_K_get :: kT
abbrev w_K_root : List Cond := k_K_root :: kT
abbrev w_K_clear : List Cond := k_K_clear :: kT
abbrev w_K_take : List Cond := k_K_take :: kT
abbrev w_K_queued : List Cond := k_K_queued :: kT
abbrev w_K_sweep : List Cond := k_K_sweep :: kT
abbrev w_K_identity : List Cond := k_K_identity :: kT
abbrev w_K_about : List Cond := k_K_about :: kT
abbrev w_K_count : List Cond := k_K_count :: kT
abbrev w_K_thingOrNull : List Cond := k_K_thingOrNull :: kT
abbrev w_K_thingThere : List Cond := k_K_thingThere :: kT
abbrev w_K_thingWithField : List Cond := k_K_thingWithField :: kT
abbrev w_K_needThingOrNone : List Cond := k_K_needThingOrNone :: kT
abbrev w_K_queueSize : List Cond := k_K_queueSize :: kT
abbrev w_K_queuePlace : List Cond := k_K_queuePlace :: kT
abbrev w_K_putInQueue : List Cond := k_K_putInQueue :: kT
abbrev w_K_waitingFinals : List Cond := k_K_waitingFinals :: kT
abbrev w_K_searchReached : List Cond := k_K_searchReached :: kT
abbrev w_K_searchKept : List Cond := k_K_searchKept :: kT
abbrev w_K_addRootsAndQueue : List Cond := k_K_addRootsAndQueue :: kT
abbrev w_K_followFields : List Cond := k_K_followFields :: kT
abbrev w_K_queueUnreached : List Cond := k_K_queueUnreached :: kT
abbrev w_K_forgetUnreached : List Cond := k_K_forgetUnreached :: kT
abbrev w_T_init : List Cond := k_T_init :: kT
abbrev w_T_hasField : List Cond := k_T_hasField :: kT
abbrev w_T_hasWeakField : List Cond := k_T_hasWeakField :: kT
abbrev w_T_waitsForQueue : List Cond := k_T_waitsForQueue :: kT
abbrev w_S_init : List Cond := k_S_init :: kT
abbrev w_S_forgetAll : List Cond := k_S_forgetAll :: kT
abbrev w_S_add : List Cond := k_S_add :: kT
abbrev w_S_has : List Cond := k_S_has :: kT
abbrev w_S_at : List Cond := k_S_at :: kT
abbrev w_L_make : List Cond := k_L_make :: kT
abbrev w_L_set : List Cond := k_L_set :: kT
abbrev w_L_get : List Cond := k_L_get :: kT
abbrev w_L_root : List Cond := k_L_root :: kT
abbrev w_L_queued : List Cond := k_L_queued :: kT
abbrev w_L_identity : List Cond := k_L_identity :: kT
abbrev w_L_about : List Cond := k_L_about :: kT
abbrev w_L_count : List Cond := k_L_count :: kT
abbrev w_M_init : List Cond := k_M_init :: kT
abbrev w_M_thrown : List Cond := k_M_thrown :: kT
abbrev w_M_goes : List Cond := k_M_goes :: kT
abbrev w_M_isThere : List Cond := k_M_isThere :: kT
abbrev w_M_isOrNone : List Cond := k_M_isOrNone :: kT
abbrev w_M_isField : List Cond := k_M_isField :: kT
abbrev w_M_make : List Cond := k_M_make :: kT
abbrev w_M_set : List Cond := k_M_set :: kT
abbrev w_M_get : List Cond := k_M_get :: kT
abbrev w_M_root : List Cond := k_M_root :: kT
abbrev w_M_find : List Cond := k_M_find :: kT
abbrev w_M_clear : List Cond := k_M_clear :: kT
abbrev w_M_take : List Cond := k_M_take :: kT
abbrev w_M_queued : List Cond := k_M_queued :: kT
abbrev w_M_sweep : List Cond := k_M_sweep :: kT
abbrev w_M_identity : List Cond := k_M_identity :: kT
abbrev w_M_about : List Cond := k_M_about :: kT
abbrev w_M_many : List Cond := k_M_many :: kT
abbrev w_M_waiting : List Cond := k_M_waiting :: kT
abbrev w_M_count : List Cond := k_M_count :: kT
end
section
/-! Part 03: the world. Cells 0-9: the keeper, its arrays, its two searches; 10-20: the model and its arrays; 21: the law's out; from 22 on: thing k at 22 + 2k, its fields at 23 + 2k. -/
abbrev SR : Type := (Nat → Int32) × (Nat → Int32) × Int32
abbrev TH : Type := Int32 × Int32 × Int32 × Nat × (Nat → Int32)
def wL (N : Nat) (ad : Nat → Nat) (c : Nat → va_E) : va_W := (List.range N).map (fun i => (ad i, c i))
theorem wl_len {N : Nat} {ad : Nat → Nat} {c : Nat → va_E} : (wL N ad c).length = N := by simp [wL]
theorem wl_get {N : Nat} {ad : Nat → Nat} {c : Nat → va_E} {i : Nat} (h : i < N) : (wL N ad c)[i]? = some (ad i, c i) := by simp [wL, h]
theorem wl_at {N : Nat} {ad : Nat → Nat} {c : Nat → va_E} {i : Nat} {e : va_E} (h : i < N) (hc : c i = e) : (wL N ad c)[i]? = some (ad i, e) := by rw [wl_get h, hc]
theorem wl_none {N : Nat} {ad : Nat → Nat} {c : Nat → va_E} {i : Nat} (h : ¬ i < N) : (wL N ad c)[i]? = none := by simp [wL]; omega
theorem wl_set {N : Nat} {ad : Nat → Nat} {c : Nat → va_E} {i : Nat} {e : va_E} : (wL N ad c).set i (ad i, e) = wL N ad (va_up c i e) := by
  apply List.ext_getElem?
  intro j
  by_cases hj : j < N
  · rw [wl_get hj]
    by_cases hji : j = i
    · subst hji
      rw [List.getElem?_set_self (by rw [wl_len]; exact hj)]
      simp [va_up]
    · rw [List.getElem?_set_ne (fun h => hji h.symm), wl_get hj]
      simp [va_up, hji]
  · rw [wl_none hj]
    by_cases hji : j = i
    · subst hji
      rw [List.getElem?_eq_none (by rw [List.length_set, wl_len]; omega)]
    · rw [List.getElem?_set_ne (fun h => hji h.symm), wl_none hj]
theorem wl_push {N : Nat} {ad : Nat → Nat} {c : Nat → va_E} {q : Nat} {e : va_E} : wL N ad c ++ [(q, e)] = wL (N + 1) (va_up ad N q) (va_up c N e) := by
  apply List.ext_getElem?
  intro j
  by_cases hj : j < N
  · rw [List.getElem?_append_left (by rw [wl_len]; exact hj), wl_get hj, wl_get (by omega)]
    simp [va_up, Nat.ne_of_lt hj]
  · rw [List.getElem?_append_right (by rw [wl_len]; omega), wl_len]
    by_cases hjn : j = N
    · subst hjn
      rw [wl_get (by omega)]
      simp [va_up]
    · rw [wl_none (by omega), List.getElem?_eq_none (by simp; omega)]
theorem wl_congr {N : Nat} {ad ad' : Nat → Nat} {c c' : Nat → va_E} (ha : ∀ i, i < N → ad i = ad' i) (hc : ∀ i, i < N → c i = c' i) : wL N ad c = wL N ad' c' := by
  apply List.ext_getElem?
  intro j
  by_cases hj : j < N
  · rw [wl_get hj, wl_get hj, ha j hj, hc j hj]
  · rw [wl_none hj, wl_none hj]
theorem va_up_s {α : Type} {f : Nat → α} {k : Nat} {v : α} : va_up f k v k = v := by simp [va_up]
theorem va_up_n {α : Type} {f : Nat → α} {k j : Nat} {v : α} (h : j ≠ k) : va_up f k v j = f j := by simp [va_up, h]
theorem va_up_same {α : Type} {f : Nat → α} {k : Nat} {v : α} (h : f k = v) : va_up f k v = f := by
  funext j
  by_cases hj : j = k
  · subst hj; rw [va_up_s, h]
  · rw [va_up_n hj]

/-- a search's three cells laid over c -/
def sUp (ty : Nat → ClassId) (ad : Nat → Nat) (c : Nat → va_E) (i j k : Nat) (S : SR) : Nat → va_E := fun x => if x = i then .inr (1, [.ref (ad j), .ref (ad k), .int S.2.2]) else if x = j then .inl (ty 1, 300, .inl S.1) else if x = k then .inl (ty 0, 300, .inl S.2.1) else c x
section SW
variable {ty : Nat → ClassId} {ad : Nat → Nat} {c : Nat → va_E} {i j k N : Nat} {S : SR}
theorem sw_o (hi : i < N) : (wL N ad (sUp ty ad c i j k S))[i]? = some (ad i, .inr (1, [.ref (ad j), .ref (ad k), .int S.2.2])) := wl_at hi (by simp [sUp])
theorem sw_f (hj : j < N) (hji : j ≠ i) : (wL N ad (sUp ty ad c i j k S))[j]? = some (ad j, .inl (ty 1, 300, .inl S.1)) := wl_at hj (by simp [sUp, hji])
theorem sw_r (hk : k < N) (hki : k ≠ i) (hkj : k ≠ j) : (wL N ad (sUp ty ad c i j k S))[k]? = some (ad k, .inl (ty 0, 300, .inl S.2.1)) := wl_at hk (by simp [sUp, hki, hkj])
theorem sw_so {v : Int32} : (wL N ad (sUp ty ad c i j k S)).set i (ad i, .inr (1, [.ref (ad j), .ref (ad k), .int v])) = wL N ad (sUp ty ad c i j k (S.1, S.2.1, v)) := by
  rw [wl_set]; congr 1; funext x; by_cases h1 : x = i <;> simp [va_up, sUp, h1]
theorem sw_sf {f : Nat → Int32} (hji : j ≠ i) : (wL N ad (sUp ty ad c i j k S)).set j (ad j, .inl (ty 1, 300, .inl f)) = wL N ad (sUp ty ad c i j k (f, S.2.1, S.2.2)) := by
  rw [wl_set]; congr 1; funext x; by_cases h1 : x = j
  · subst h1; simp [va_up, sUp, hji]
  · simp [va_up, sUp, h1]
theorem sw_sr {f : Nat → Int32} (hki : k ≠ i) (hkj : k ≠ j) : (wL N ad (sUp ty ad c i j k S)).set k (ad k, .inl (ty 0, 300, .inl f)) = wL N ad (sUp ty ad c i j k (S.1, f, S.2.2)) := by
  rw [wl_set]; congr 1; funext x; by_cases h1 : x = k
  · subst h1; simp [va_up, sUp, hki, hkj]
  · simp [va_up, sUp, h1]
theorem sUp_up {S' : SR} : sUp ty ad (sUp ty ad c i j k S) i j k S' = sUp ty ad c i j k S' := by
  funext x; simp only [sUp]; split
  · rfl
  · split
    · rfl
    · split <;> rfl
theorem sUp_same (hi : c i = .inr (1, [.ref (ad j), .ref (ad k), .int S.2.2])) (hj : c j = .inl (ty 1, 300, .inl S.1)) (hk : c k = .inl (ty 0, 300, .inl S.2.1)) : sUp ty ad c i j k S = c := by
  funext x; simp only [sUp]; split
  · rename_i h; subst h; exact hi.symm
  · split
    · rename_i h; subst h; exact hj.symm
    · split
      · rename_i h; subst h; exact hk.symm
      · rfl
end SW
def thf (ad : Nat → Nat) (th : Nat → Bool) : Nat → Option Nat := fun k => if th k then some (ad (22 + 2 * k)) else none
/-- thing k's two cells -/
def tc (ty : Nat → ClassId) (ad : Nat → Nat) (T : Nat → TH) (i : Nat) : va_E := if i % 2 = 0 then .inr (2, [.ref (ad (i + 23)), .int (T (i / 2)).1, .int (T (i / 2)).2.1, .int (T (i / 2)).2.2.1]) else .inl (ty 0, (T (i / 2)).2.2.2.1, .inl (T (i / 2)).2.2.2.2)

def gc (ty : Nat → ClassId) (ad : Nat → Nat) (f : Nat → Int32) (th : Nat → Bool) (rt qu : Nat → Int32) (b w : SR) (T : Nat → TH) (g : Nat → Int32) (a : Nat → Nat → Int32) (o : Nat → Int64) : Nat → va_E
  | 0 => .inr (0, [.ref (ad 1), .ref (ad 2), .ref (ad 3), .int (f 3), .int (f 4), .ref (ad 4), .ref (ad 7), .int (f 7), .int (f 8), .int (f 9), .int (f 10), .int (f 11)])
  | 1 => .inl (ty 2, 300, .inr (.inr (.inr (.inr (thf ad th)))))
  | 2 => .inl (ty 0, 16, .inl rt)
  | 3 => .inl (ty 0, 300, .inl qu)
  | 4 => .inr (1, [.ref (ad 5), .ref (ad 6), .int b.2.2])
  | 5 => .inl (ty 1, 300, .inl b.1)
  | 6 => .inl (ty 0, 300, .inl b.2.1)
  | 7 => .inr (1, [.ref (ad 8), .ref (ad 9), .int w.2.2])
  | 8 => .inl (ty 1, 300, .inl w.1)
  | 9 => .inl (ty 0, 300, .inl w.2.1)
  | 10 => .inr (3, [.int (g 0), .int (g 1), .ref (ad 11), .ref (ad 12), .ref (ad 13), .ref (ad 14), .ref (ad 15), .ref (ad 16), .ref (ad 17), .int (g 9), .ref (ad 18), .int (g 11), .int (g 12), .int (g 13), .ref (ad 19), .ref (ad 20)])
  | 11 => .inl (ty 1, 300, .inl (a 2))
  | 12 => .inl (ty 0, 300, .inl (a 3))
  | 13 => .inl (ty 0, 300, .inl (a 4))
  | 14 => .inl (ty 0, 3600, .inl (a 5))
  | 15 => .inl (ty 0, 300, .inl (a 6))
  | 16 => .inl (ty 1, 300, .inl (a 7))
  | 17 => .inl (ty 0, 16, .inl (a 8))
  | 18 => .inl (ty 0, 300, .inl (a 10))
  | 19 => .inl (ty 1, 300, .inl (a 14))
  | 20 => .inl (ty 1, 300, .inl (a 15))
  | 21 => .inl (ty 3, 1, .inr (.inl o))
  | i + 22 => tc ty ad T i
abbrev gW (n : Nat) (ty : Nat → ClassId) (ad : Nat → Nat) (f : Nat → Int32) (th : Nat → Bool) (rt qu : Nat → Int32) (b w : SR) (T : Nat → TH) (g : Nat → Int32) (a : Nat → Nat → Int32) (o : Nat → Int64) : va_W := wL (22 + 2 * n) ad (gc ty ad f th rt qu b w T g a o)
theorem gx {c c' : Nat → va_E} (h : ∀ i, i < 22 → c i = c' i) (hp : ∀ i, c (i + 22) = c' (i + 22)) : c = c' := by
  funext i
  by_cases hi : i < 22
  · exact h i hi
  · obtain ⟨j, rfl⟩ : ∃ j, i = j + 22 := ⟨i - 22, by omega⟩
    exact hp j
theorem g22 {P : Nat → Prop} (h0 : P 0) (h1 : P 1) (h2 : P 2) (h3 : P 3) (h4 : P 4) (h5 : P 5) (h6 : P 6) (h7 : P 7) (h8 : P 8) (h9 : P 9) (h10 : P 10) (h11 : P 11) (h12 : P 12) (h13 : P 13) (h14 : P 14) (h15 : P 15) (h16 : P 16) (h17 : P 17) (h18 : P 18) (h19 : P 19) (h20 : P 20) (h21 : P 21) : ∀ i, i < 22 → P i := by
  intro i hi
  match i, hi with
  | 0, _ => exact h0
  | 1, _ => exact h1
  | 2, _ => exact h2
  | 3, _ => exact h3
  | 4, _ => exact h4
  | 5, _ => exact h5
  | 6, _ => exact h6
  | 7, _ => exact h7
  | 8, _ => exact h8
  | 9, _ => exact h9
  | 10, _ => exact h10
  | 11, _ => exact h11
  | 12, _ => exact h12
  | 13, _ => exact h13
  | 14, _ => exact h14
  | 15, _ => exact h15
  | 16, _ => exact h16
  | 17, _ => exact h17
  | 18, _ => exact h18
  | 19, _ => exact h19
  | 20, _ => exact h20
  | 21, _ => exact h21
  | n + 22, h => exact absurd h (by omega)
section GW
variable {n : Nat} {ty : Nat → ClassId} {ad : Nat → Nat} {f : Nat → Int32} {th : Nat → Bool} {rt qu : Nat → Int32} {b w : SR} {T : Nat → TH} {g : Nat → Int32} {a : Nat → Nat → Int32} {o : Nat → Int64}
theorem gw_0 : (gW n ty ad f th rt qu b w T g a o)[0]? = some (ad 0, .inr (0, [.ref (ad 1), .ref (ad 2), .ref (ad 3), .int (f 3), .int (f 4), .ref (ad 4), .ref (ad 7), .int (f 7), .int (f 8), .int (f 9), .int (f 10), .int (f 11)])) := wl_at (by omega) rfl
theorem gw_1 : (gW n ty ad f th rt qu b w T g a o)[1]? = some (ad 1, .inl (ty 2, 300, .inr (.inr (.inr (.inr (thf ad th)))))) := wl_at (by omega) rfl
theorem gw_2 : (gW n ty ad f th rt qu b w T g a o)[2]? = some (ad 2, .inl (ty 0, 16, .inl rt)) := wl_at (by omega) rfl
theorem gw_3 : (gW n ty ad f th rt qu b w T g a o)[3]? = some (ad 3, .inl (ty 0, 300, .inl qu)) := wl_at (by omega) rfl
theorem gw_4 : (gW n ty ad f th rt qu b w T g a o)[4]? = some (ad 4, .inr (1, [.ref (ad 5), .ref (ad 6), .int b.2.2])) := wl_at (by omega) rfl
theorem gw_5 : (gW n ty ad f th rt qu b w T g a o)[5]? = some (ad 5, .inl (ty 1, 300, .inl b.1)) := wl_at (by omega) rfl
theorem gw_6 : (gW n ty ad f th rt qu b w T g a o)[6]? = some (ad 6, .inl (ty 0, 300, .inl b.2.1)) := wl_at (by omega) rfl
theorem gw_7 : (gW n ty ad f th rt qu b w T g a o)[7]? = some (ad 7, .inr (1, [.ref (ad 8), .ref (ad 9), .int w.2.2])) := wl_at (by omega) rfl
theorem gw_8 : (gW n ty ad f th rt qu b w T g a o)[8]? = some (ad 8, .inl (ty 1, 300, .inl w.1)) := wl_at (by omega) rfl
theorem gw_9 : (gW n ty ad f th rt qu b w T g a o)[9]? = some (ad 9, .inl (ty 0, 300, .inl w.2.1)) := wl_at (by omega) rfl
theorem gw_10 : (gW n ty ad f th rt qu b w T g a o)[10]? = some (ad 10, .inr (3, [.int (g 0), .int (g 1), .ref (ad 11), .ref (ad 12), .ref (ad 13), .ref (ad 14), .ref (ad 15), .ref (ad 16), .ref (ad 17), .int (g 9), .ref (ad 18), .int (g 11), .int (g 12), .int (g 13), .ref (ad 19), .ref (ad 20)])) := wl_at (by omega) rfl
theorem gw_11 : (gW n ty ad f th rt qu b w T g a o)[11]? = some (ad 11, .inl (ty 1, 300, .inl (a 2))) := wl_at (by omega) rfl
theorem gw_12 : (gW n ty ad f th rt qu b w T g a o)[12]? = some (ad 12, .inl (ty 0, 300, .inl (a 3))) := wl_at (by omega) rfl
theorem gw_13 : (gW n ty ad f th rt qu b w T g a o)[13]? = some (ad 13, .inl (ty 0, 300, .inl (a 4))) := wl_at (by omega) rfl
theorem gw_14 : (gW n ty ad f th rt qu b w T g a o)[14]? = some (ad 14, .inl (ty 0, 3600, .inl (a 5))) := wl_at (by omega) rfl
theorem gw_15 : (gW n ty ad f th rt qu b w T g a o)[15]? = some (ad 15, .inl (ty 0, 300, .inl (a 6))) := wl_at (by omega) rfl
theorem gw_16 : (gW n ty ad f th rt qu b w T g a o)[16]? = some (ad 16, .inl (ty 1, 300, .inl (a 7))) := wl_at (by omega) rfl
theorem gw_17 : (gW n ty ad f th rt qu b w T g a o)[17]? = some (ad 17, .inl (ty 0, 16, .inl (a 8))) := wl_at (by omega) rfl
theorem gw_18 : (gW n ty ad f th rt qu b w T g a o)[18]? = some (ad 18, .inl (ty 0, 300, .inl (a 10))) := wl_at (by omega) rfl
theorem gw_19 : (gW n ty ad f th rt qu b w T g a o)[19]? = some (ad 19, .inl (ty 1, 300, .inl (a 14))) := wl_at (by omega) rfl
theorem gw_20 : (gW n ty ad f th rt qu b w T g a o)[20]? = some (ad 20, .inl (ty 1, 300, .inl (a 15))) := wl_at (by omega) rfl
theorem gw_21 : (gW n ty ad f th rt qu b w T g a o)[21]? = some (ad 21, .inl (ty 3, 1, .inr (.inl o))) := wl_at (by omega) rfl
theorem gw_T {k : Nat} (hk : k < n) : (gW n ty ad f th rt qu b w T g a o)[22 + 2 * k]? = some (ad (22 + 2 * k), .inr (2, [.ref (ad (23 + 2 * k)), .int (T k).1, .int (T k).2.1, .int (T k).2.2.1])) := wl_at (by omega) (by rw [Nat.add_comm 22 (2 * k)]; show tc ty ad T (2 * k) = _; simp [tc, show 2 * k % 2 = 0 by omega, show 2 * k / 2 = k by omega, Nat.add_comm])
theorem gw_F {k : Nat} (hk : k < n) : (gW n ty ad f th rt qu b w T g a o)[23 + 2 * k]? = some (ad (23 + 2 * k), .inl (ty 0, (T k).2.2.2.1, .inl (T k).2.2.2.2)) := wl_at (by omega) (by rw [show 23 + 2 * k = (2 * k + 1) + 22 by omega]; show tc ty ad T (2 * k + 1) = _; simp [tc, show (2 * k + 1) % 2 = 1 by omega, show (2 * k + 1) / 2 = k by omega])
theorem gw_sK3 {v : Int32} : (gW n ty ad f th rt qu b w T g a o).set 0 (ad 0, .inr (0, [.ref (ad 1), .ref (ad 2), .ref (ad 3), .int v, .int (f 4), .ref (ad 4), .ref (ad 7), .int (f 7), .int (f 8), .int (f 9), .int (f 10), .int (f 11)])) = gW n ty ad (upd f 3 v) th rt qu b w T g a o := by rw [wl_set]; congr 1; exact gx (g22 (P := fun i => va_up _ _ _ i = gc _ _ _ _ _ _ _ _ _ _ _ _ i) rfl rfl rfl rfl rfl rfl rfl rfl rfl rfl rfl rfl rfl rfl rfl rfl rfl rfl rfl rfl rfl rfl) (fun i => by rw [va_up_n (by omega)]; rfl)
theorem gw_sK4 {v : Int32} : (gW n ty ad f th rt qu b w T g a o).set 0 (ad 0, .inr (0, [.ref (ad 1), .ref (ad 2), .ref (ad 3), .int (f 3), .int v, .ref (ad 4), .ref (ad 7), .int (f 7), .int (f 8), .int (f 9), .int (f 10), .int (f 11)])) = gW n ty ad (upd f 4 v) th rt qu b w T g a o := by rw [wl_set]; congr 1; exact gx (g22 (P := fun i => va_up _ _ _ i = gc _ _ _ _ _ _ _ _ _ _ _ _ i) rfl rfl rfl rfl rfl rfl rfl rfl rfl rfl rfl rfl rfl rfl rfl rfl rfl rfl rfl rfl rfl rfl) (fun i => by rw [va_up_n (by omega)]; rfl)
theorem gw_sK7 {v : Int32} : (gW n ty ad f th rt qu b w T g a o).set 0 (ad 0, .inr (0, [.ref (ad 1), .ref (ad 2), .ref (ad 3), .int (f 3), .int (f 4), .ref (ad 4), .ref (ad 7), .int v, .int (f 8), .int (f 9), .int (f 10), .int (f 11)])) = gW n ty ad (upd f 7 v) th rt qu b w T g a o := by rw [wl_set]; congr 1; exact gx (g22 (P := fun i => va_up _ _ _ i = gc _ _ _ _ _ _ _ _ _ _ _ _ i) rfl rfl rfl rfl rfl rfl rfl rfl rfl rfl rfl rfl rfl rfl rfl rfl rfl rfl rfl rfl rfl rfl) (fun i => by rw [va_up_n (by omega)]; rfl)
theorem gw_sK8 {v : Int32} : (gW n ty ad f th rt qu b w T g a o).set 0 (ad 0, .inr (0, [.ref (ad 1), .ref (ad 2), .ref (ad 3), .int (f 3), .int (f 4), .ref (ad 4), .ref (ad 7), .int (f 7), .int v, .int (f 9), .int (f 10), .int (f 11)])) = gW n ty ad (upd f 8 v) th rt qu b w T g a o := by rw [wl_set]; congr 1; exact gx (g22 (P := fun i => va_up _ _ _ i = gc _ _ _ _ _ _ _ _ _ _ _ _ i) rfl rfl rfl rfl rfl rfl rfl rfl rfl rfl rfl rfl rfl rfl rfl rfl rfl rfl rfl rfl rfl rfl) (fun i => by rw [va_up_n (by omega)]; rfl)
theorem gw_sK9 {v : Int32} : (gW n ty ad f th rt qu b w T g a o).set 0 (ad 0, .inr (0, [.ref (ad 1), .ref (ad 2), .ref (ad 3), .int (f 3), .int (f 4), .ref (ad 4), .ref (ad 7), .int (f 7), .int (f 8), .int v, .int (f 10), .int (f 11)])) = gW n ty ad (upd f 9 v) th rt qu b w T g a o := by rw [wl_set]; congr 1; exact gx (g22 (P := fun i => va_up _ _ _ i = gc _ _ _ _ _ _ _ _ _ _ _ _ i) rfl rfl rfl rfl rfl rfl rfl rfl rfl rfl rfl rfl rfl rfl rfl rfl rfl rfl rfl rfl rfl rfl) (fun i => by rw [va_up_n (by omega)]; rfl)
theorem gw_sK10 {v : Int32} : (gW n ty ad f th rt qu b w T g a o).set 0 (ad 0, .inr (0, [.ref (ad 1), .ref (ad 2), .ref (ad 3), .int (f 3), .int (f 4), .ref (ad 4), .ref (ad 7), .int (f 7), .int (f 8), .int (f 9), .int v, .int (f 11)])) = gW n ty ad (upd f 10 v) th rt qu b w T g a o := by rw [wl_set]; congr 1; exact gx (g22 (P := fun i => va_up _ _ _ i = gc _ _ _ _ _ _ _ _ _ _ _ _ i) rfl rfl rfl rfl rfl rfl rfl rfl rfl rfl rfl rfl rfl rfl rfl rfl rfl rfl rfl rfl rfl rfl) (fun i => by rw [va_up_n (by omega)]; rfl)
theorem gw_sK11 {v : Int32} : (gW n ty ad f th rt qu b w T g a o).set 0 (ad 0, .inr (0, [.ref (ad 1), .ref (ad 2), .ref (ad 3), .int (f 3), .int (f 4), .ref (ad 4), .ref (ad 7), .int (f 7), .int (f 8), .int (f 9), .int (f 10), .int v])) = gW n ty ad (upd f 11 v) th rt qu b w T g a o := by rw [wl_set]; congr 1; exact gx (g22 (P := fun i => va_up _ _ _ i = gc _ _ _ _ _ _ _ _ _ _ _ _ i) rfl rfl rfl rfl rfl rfl rfl rfl rfl rfl rfl rfl rfl rfl rfl rfl rfl rfl rfl rfl rfl rfl) (fun i => by rw [va_up_n (by omega)]; rfl)
theorem gw_sth {i : Nat} : (gW n ty ad f th rt qu b w T g a o).set 1 (ad 1, .inl (ty 2, 300, .inr (.inr (.inr (.inr (va_up (thf ad th) i none)))))) = gW n ty ad f (va_up th i false) rt qu b w T g a o := by
  have h : va_up (thf ad th) i none = thf ad (va_up th i false) := by
    funext k; by_cases hk : k = i <;> simp [va_up, thf, hk]
  rw [h]; rw [wl_set]; congr 1; exact gx (g22 (P := fun i => va_up _ _ _ i = gc _ _ _ _ _ _ _ _ _ _ _ _ i) rfl rfl rfl rfl rfl rfl rfl rfl rfl rfl rfl rfl rfl rfl rfl rfl rfl rfl rfl rfl rfl rfl) (fun i => by rw [va_up_n (by omega)]; rfl)
theorem gw_srt {r : Nat → Int32} : (gW n ty ad f th rt qu b w T g a o).set 2 (ad 2, .inl (ty 0, 16, .inl r)) = gW n ty ad f th r qu b w T g a o := by rw [wl_set]; congr 1; exact gx (g22 (P := fun i => va_up _ _ _ i = gc _ _ _ _ _ _ _ _ _ _ _ _ i) rfl rfl rfl rfl rfl rfl rfl rfl rfl rfl rfl rfl rfl rfl rfl rfl rfl rfl rfl rfl rfl rfl) (fun i => by rw [va_up_n (by omega)]; rfl)
theorem gw_squ {r : Nat → Int32} : (gW n ty ad f th rt qu b w T g a o).set 3 (ad 3, .inl (ty 0, 300, .inl r)) = gW n ty ad f th rt r b w T g a o := by rw [wl_set]; congr 1; exact gx (g22 (P := fun i => va_up _ _ _ i = gc _ _ _ _ _ _ _ _ _ _ _ _ i) rfl rfl rfl rfl rfl rfl rfl rfl rfl rfl rfl rfl rfl rfl rfl rfl rfl rfl rfl rfl rfl rfl) (fun i => by rw [va_up_n (by omega)]; rfl)
theorem gw_sb {S : SR} : sUp ty ad (gc ty ad f th rt qu b w T g a o) 4 5 6 S = gc ty ad f th rt qu S w T g a o := gx (g22 (P := fun i => sUp _ _ _ _ _ _ _ i = gc _ _ _ _ _ _ _ _ _ _ _ _ i) rfl rfl rfl rfl rfl rfl rfl rfl rfl rfl rfl rfl rfl rfl rfl rfl rfl rfl rfl rfl rfl rfl) (fun i => by simp only [sUp]; rw [if_neg (by omega), if_neg (by omega), if_neg (by omega)]; rfl)
theorem gw_sw {S : SR} : sUp ty ad (gc ty ad f th rt qu b w T g a o) 7 8 9 S = gc ty ad f th rt qu b S T g a o := gx (g22 (P := fun i => sUp _ _ _ _ _ _ _ i = gc _ _ _ _ _ _ _ _ _ _ _ _ i) rfl rfl rfl rfl rfl rfl rfl rfl rfl rfl rfl rfl rfl rfl rfl rfl rfl rfl rfl rfl rfl rfl) (fun i => by simp only [sUp]; rw [if_neg (by omega), if_neg (by omega), if_neg (by omega)]; rfl)
theorem tp_T {k : Nat} {v1 v2 v3 : Int32} (i : Nat) : va_up (gc ty ad f th rt qu b w T g a o) (22 + 2 * k) (.inr (2, [.ref (ad (23 + 2 * k)), .int v1, .int v2, .int v3])) (i + 22) = gc ty ad f th rt qu b w (va_up T k (v1, v2, v3, (T k).2.2.2)) g a o (i + 22) := by
  show va_up _ _ _ _ = tc ty ad (va_up T k (v1, v2, v3, (T k).2.2.2)) i
  by_cases hi : i = 2 * k
  · subst hi
    rw [Nat.add_comm 22 (2 * k), va_up_s]
    simp [tc, va_up, show 2 * k % 2 = 0 by omega, show 2 * k / 2 = k by omega, Nat.add_comm]
  · rw [va_up_n (by omega)]
    show tc ty ad T i = _
    unfold tc
    by_cases h2 : i % 2 = 0
    · rw [if_pos h2, if_pos h2, va_up_n (by omega)]
    · rw [if_neg h2, if_neg h2]
      by_cases hk : i / 2 = k
      · rw [hk, va_up_s]
      · rw [va_up_n hk]
theorem tp_F {k N : Nat} {r : Nat → Int32} (i : Nat) : va_up (gc ty ad f th rt qu b w T g a o) (23 + 2 * k) (.inl (ty 0, N, .inl r)) (i + 22) = gc ty ad f th rt qu b w (va_up T k ((T k).1, (T k).2.1, (T k).2.2.1, N, r)) g a o (i + 22) := by
  show va_up _ _ _ _ = tc ty ad (va_up T k ((T k).1, (T k).2.1, (T k).2.2.1, N, r)) i
  by_cases hi : i = 2 * k + 1
  · subst hi
    rw [show 2 * k + 1 + 22 = 23 + 2 * k by omega, va_up_s]
    simp [tc, va_up, show (2 * k + 1) % 2 = 1 by omega, show (2 * k + 1) / 2 = k by omega]
  · rw [va_up_n (by omega)]
    show tc ty ad T i = _
    unfold tc
    by_cases h2 : i % 2 = 0
    · rw [if_pos h2, if_pos h2]
      by_cases hk : i / 2 = k
      · rw [hk, va_up_s]
      · rw [va_up_n hk]
    · rw [if_neg h2, if_neg h2, va_up_n (by omega)]
theorem gw_sT {k : Nat} {v1 v2 v3 : Int32} : (gW n ty ad f th rt qu b w T g a o).set (22 + 2 * k) (ad (22 + 2 * k), .inr (2, [.ref (ad (23 + 2 * k)), .int v1, .int v2, .int v3])) = gW n ty ad f th rt qu b w (va_up T k (v1, v2, v3, (T k).2.2.2)) g a o := by rw [wl_set]; congr 1; exact gx (fun i hi => by rw [va_up_n (by omega)]; revert i hi; exact g22 (P := fun i => gc _ _ _ _ _ _ _ _ _ _ _ _ i = gc _ _ _ _ _ _ _ _ _ _ _ _ i) rfl rfl rfl rfl rfl rfl rfl rfl rfl rfl rfl rfl rfl rfl rfl rfl rfl rfl rfl rfl rfl rfl) (fun i => tp_T i)
theorem gw_sF {k N : Nat} {r : Nat → Int32} : (gW n ty ad f th rt qu b w T g a o).set (23 + 2 * k) (ad (23 + 2 * k), .inl (ty 0, N, .inl r)) = gW n ty ad f th rt qu b w (va_up T k ((T k).1, (T k).2.1, (T k).2.2.1, N, r)) g a o := by rw [wl_set]; congr 1; exact gx (fun i hi => by rw [va_up_n (by omega)]; revert i hi; exact g22 (P := fun i => gc _ _ _ _ _ _ _ _ _ _ _ _ i = gc _ _ _ _ _ _ _ _ _ _ _ _ i) rfl rfl rfl rfl rfl rfl rfl rfl rfl rfl rfl rfl rfl rfl rfl rfl rfl rfl rfl rfl rfl rfl) (fun i => tp_F i)
theorem gw_sM0 {v : Int32} : (gW n ty ad f th rt qu b w T g a o).set 10 (ad 10, .inr (3, [.int v, .int (g 1), .ref (ad 11), .ref (ad 12), .ref (ad 13), .ref (ad 14), .ref (ad 15), .ref (ad 16), .ref (ad 17), .int (g 9), .ref (ad 18), .int (g 11), .int (g 12), .int (g 13), .ref (ad 19), .ref (ad 20)])) = gW n ty ad f th rt qu b w T (upd g 0 v) a o := by rw [wl_set]; congr 1; exact gx (g22 (P := fun i => va_up _ _ _ i = gc _ _ _ _ _ _ _ _ _ _ _ _ i) rfl rfl rfl rfl rfl rfl rfl rfl rfl rfl rfl rfl rfl rfl rfl rfl rfl rfl rfl rfl rfl rfl) (fun i => by rw [va_up_n (by omega)]; rfl)
theorem gw_sM1 {v : Int32} : (gW n ty ad f th rt qu b w T g a o).set 10 (ad 10, .inr (3, [.int (g 0), .int v, .ref (ad 11), .ref (ad 12), .ref (ad 13), .ref (ad 14), .ref (ad 15), .ref (ad 16), .ref (ad 17), .int (g 9), .ref (ad 18), .int (g 11), .int (g 12), .int (g 13), .ref (ad 19), .ref (ad 20)])) = gW n ty ad f th rt qu b w T (upd g 1 v) a o := by rw [wl_set]; congr 1; exact gx (g22 (P := fun i => va_up _ _ _ i = gc _ _ _ _ _ _ _ _ _ _ _ _ i) rfl rfl rfl rfl rfl rfl rfl rfl rfl rfl rfl rfl rfl rfl rfl rfl rfl rfl rfl rfl rfl rfl) (fun i => by rw [va_up_n (by omega)]; rfl)
theorem gw_sM9 {v : Int32} : (gW n ty ad f th rt qu b w T g a o).set 10 (ad 10, .inr (3, [.int (g 0), .int (g 1), .ref (ad 11), .ref (ad 12), .ref (ad 13), .ref (ad 14), .ref (ad 15), .ref (ad 16), .ref (ad 17), .int v, .ref (ad 18), .int (g 11), .int (g 12), .int (g 13), .ref (ad 19), .ref (ad 20)])) = gW n ty ad f th rt qu b w T (upd g 9 v) a o := by rw [wl_set]; congr 1; exact gx (g22 (P := fun i => va_up _ _ _ i = gc _ _ _ _ _ _ _ _ _ _ _ _ i) rfl rfl rfl rfl rfl rfl rfl rfl rfl rfl rfl rfl rfl rfl rfl rfl rfl rfl rfl rfl rfl rfl) (fun i => by rw [va_up_n (by omega)]; rfl)
theorem gw_sM11 {v : Int32} : (gW n ty ad f th rt qu b w T g a o).set 10 (ad 10, .inr (3, [.int (g 0), .int (g 1), .ref (ad 11), .ref (ad 12), .ref (ad 13), .ref (ad 14), .ref (ad 15), .ref (ad 16), .ref (ad 17), .int (g 9), .ref (ad 18), .int v, .int (g 12), .int (g 13), .ref (ad 19), .ref (ad 20)])) = gW n ty ad f th rt qu b w T (upd g 11 v) a o := by rw [wl_set]; congr 1; exact gx (g22 (P := fun i => va_up _ _ _ i = gc _ _ _ _ _ _ _ _ _ _ _ _ i) rfl rfl rfl rfl rfl rfl rfl rfl rfl rfl rfl rfl rfl rfl rfl rfl rfl rfl rfl rfl rfl rfl) (fun i => by rw [va_up_n (by omega)]; rfl)
theorem gw_sM12 {v : Int32} : (gW n ty ad f th rt qu b w T g a o).set 10 (ad 10, .inr (3, [.int (g 0), .int (g 1), .ref (ad 11), .ref (ad 12), .ref (ad 13), .ref (ad 14), .ref (ad 15), .ref (ad 16), .ref (ad 17), .int (g 9), .ref (ad 18), .int (g 11), .int v, .int (g 13), .ref (ad 19), .ref (ad 20)])) = gW n ty ad f th rt qu b w T (upd g 12 v) a o := by rw [wl_set]; congr 1; exact gx (g22 (P := fun i => va_up _ _ _ i = gc _ _ _ _ _ _ _ _ _ _ _ _ i) rfl rfl rfl rfl rfl rfl rfl rfl rfl rfl rfl rfl rfl rfl rfl rfl rfl rfl rfl rfl rfl rfl) (fun i => by rw [va_up_n (by omega)]; rfl)
theorem gw_sM13 {v : Int32} : (gW n ty ad f th rt qu b w T g a o).set 10 (ad 10, .inr (3, [.int (g 0), .int (g 1), .ref (ad 11), .ref (ad 12), .ref (ad 13), .ref (ad 14), .ref (ad 15), .ref (ad 16), .ref (ad 17), .int (g 9), .ref (ad 18), .int (g 11), .int (g 12), .int v, .ref (ad 19), .ref (ad 20)])) = gW n ty ad f th rt qu b w T (upd g 13 v) a o := by rw [wl_set]; congr 1; exact gx (g22 (P := fun i => va_up _ _ _ i = gc _ _ _ _ _ _ _ _ _ _ _ _ i) rfl rfl rfl rfl rfl rfl rfl rfl rfl rfl rfl rfl rfl rfl rfl rfl rfl rfl rfl rfl rfl rfl) (fun i => by rw [va_up_n (by omega)]; rfl)
theorem gw_sa2 {r : Nat → Int32} : (gW n ty ad f th rt qu b w T g a o).set 11 (ad 11, .inl (ty 1, 300, .inl r)) = gW n ty ad f th rt qu b w T g (va_up a 2 r) o := by rw [wl_set]; congr 1; exact gx (g22 (P := fun i => va_up _ _ _ i = gc _ _ _ _ _ _ _ _ _ _ _ _ i) rfl rfl rfl rfl rfl rfl rfl rfl rfl rfl rfl rfl rfl rfl rfl rfl rfl rfl rfl rfl rfl rfl) (fun i => by rw [va_up_n (by omega)]; rfl)
theorem gw_sa3 {r : Nat → Int32} : (gW n ty ad f th rt qu b w T g a o).set 12 (ad 12, .inl (ty 0, 300, .inl r)) = gW n ty ad f th rt qu b w T g (va_up a 3 r) o := by rw [wl_set]; congr 1; exact gx (g22 (P := fun i => va_up _ _ _ i = gc _ _ _ _ _ _ _ _ _ _ _ _ i) rfl rfl rfl rfl rfl rfl rfl rfl rfl rfl rfl rfl rfl rfl rfl rfl rfl rfl rfl rfl rfl rfl) (fun i => by rw [va_up_n (by omega)]; rfl)
theorem gw_sa4 {r : Nat → Int32} : (gW n ty ad f th rt qu b w T g a o).set 13 (ad 13, .inl (ty 0, 300, .inl r)) = gW n ty ad f th rt qu b w T g (va_up a 4 r) o := by rw [wl_set]; congr 1; exact gx (g22 (P := fun i => va_up _ _ _ i = gc _ _ _ _ _ _ _ _ _ _ _ _ i) rfl rfl rfl rfl rfl rfl rfl rfl rfl rfl rfl rfl rfl rfl rfl rfl rfl rfl rfl rfl rfl rfl) (fun i => by rw [va_up_n (by omega)]; rfl)
theorem gw_sa5 {r : Nat → Int32} : (gW n ty ad f th rt qu b w T g a o).set 14 (ad 14, .inl (ty 0, 3600, .inl r)) = gW n ty ad f th rt qu b w T g (va_up a 5 r) o := by rw [wl_set]; congr 1; exact gx (g22 (P := fun i => va_up _ _ _ i = gc _ _ _ _ _ _ _ _ _ _ _ _ i) rfl rfl rfl rfl rfl rfl rfl rfl rfl rfl rfl rfl rfl rfl rfl rfl rfl rfl rfl rfl rfl rfl) (fun i => by rw [va_up_n (by omega)]; rfl)
theorem gw_sa6 {r : Nat → Int32} : (gW n ty ad f th rt qu b w T g a o).set 15 (ad 15, .inl (ty 0, 300, .inl r)) = gW n ty ad f th rt qu b w T g (va_up a 6 r) o := by rw [wl_set]; congr 1; exact gx (g22 (P := fun i => va_up _ _ _ i = gc _ _ _ _ _ _ _ _ _ _ _ _ i) rfl rfl rfl rfl rfl rfl rfl rfl rfl rfl rfl rfl rfl rfl rfl rfl rfl rfl rfl rfl rfl rfl) (fun i => by rw [va_up_n (by omega)]; rfl)
theorem gw_sa7 {r : Nat → Int32} : (gW n ty ad f th rt qu b w T g a o).set 16 (ad 16, .inl (ty 1, 300, .inl r)) = gW n ty ad f th rt qu b w T g (va_up a 7 r) o := by rw [wl_set]; congr 1; exact gx (g22 (P := fun i => va_up _ _ _ i = gc _ _ _ _ _ _ _ _ _ _ _ _ i) rfl rfl rfl rfl rfl rfl rfl rfl rfl rfl rfl rfl rfl rfl rfl rfl rfl rfl rfl rfl rfl rfl) (fun i => by rw [va_up_n (by omega)]; rfl)
theorem gw_sa8 {r : Nat → Int32} : (gW n ty ad f th rt qu b w T g a o).set 17 (ad 17, .inl (ty 0, 16, .inl r)) = gW n ty ad f th rt qu b w T g (va_up a 8 r) o := by rw [wl_set]; congr 1; exact gx (g22 (P := fun i => va_up _ _ _ i = gc _ _ _ _ _ _ _ _ _ _ _ _ i) rfl rfl rfl rfl rfl rfl rfl rfl rfl rfl rfl rfl rfl rfl rfl rfl rfl rfl rfl rfl rfl rfl) (fun i => by rw [va_up_n (by omega)]; rfl)
theorem gw_sa10 {r : Nat → Int32} : (gW n ty ad f th rt qu b w T g a o).set 18 (ad 18, .inl (ty 0, 300, .inl r)) = gW n ty ad f th rt qu b w T g (va_up a 10 r) o := by rw [wl_set]; congr 1; exact gx (g22 (P := fun i => va_up _ _ _ i = gc _ _ _ _ _ _ _ _ _ _ _ _ i) rfl rfl rfl rfl rfl rfl rfl rfl rfl rfl rfl rfl rfl rfl rfl rfl rfl rfl rfl rfl rfl rfl) (fun i => by rw [va_up_n (by omega)]; rfl)
theorem gw_sa14 {r : Nat → Int32} : (gW n ty ad f th rt qu b w T g a o).set 19 (ad 19, .inl (ty 1, 300, .inl r)) = gW n ty ad f th rt qu b w T g (va_up a 14 r) o := by rw [wl_set]; congr 1; exact gx (g22 (P := fun i => va_up _ _ _ i = gc _ _ _ _ _ _ _ _ _ _ _ _ i) rfl rfl rfl rfl rfl rfl rfl rfl rfl rfl rfl rfl rfl rfl rfl rfl rfl rfl rfl rfl rfl rfl) (fun i => by rw [va_up_n (by omega)]; rfl)
theorem gw_sa15 {r : Nat → Int32} : (gW n ty ad f th rt qu b w T g a o).set 20 (ad 20, .inl (ty 1, 300, .inl r)) = gW n ty ad f th rt qu b w T g (va_up a 15 r) o := by rw [wl_set]; congr 1; exact gx (g22 (P := fun i => va_up _ _ _ i = gc _ _ _ _ _ _ _ _ _ _ _ _ i) rfl rfl rfl rfl rfl rfl rfl rfl rfl rfl rfl rfl rfl rfl rfl rfl rfl rfl rfl rfl rfl rfl) (fun i => by rw [va_up_n (by omega)]; rfl)
theorem gw_so {r : Nat → Int64} : (gW n ty ad f th rt qu b w T g a o).set 21 (ad 21, .inl (ty 3, 1, .inr (.inl r))) = gW n ty ad f th rt qu b w T g a r := by rw [wl_set]; congr 1; exact gx (g22 (P := fun i => va_up _ _ _ i = gc _ _ _ _ _ _ _ _ _ _ _ _ i) rfl rfl rfl rfl rfl rfl rfl rfl rfl rfl rfl rfl rfl rfl rfl rfl rfl rfl rfl rfl rfl rfl) (fun i => by rw [va_up_n (by omega)]; rfl)
end GW
end
section
/-! Part 04: the methods as functions, in the order of their own tests. -/
def it {α : Type} (F : Nat → α → α) : Nat → α → α
  | 0, x => x
  | n + 1, x => F n (it F n x)
def sHas (S : SR) (x : Int32) : Int32 := if x < 0 then 0 else if 300 ≤ x then 0 else if S.1 x.toNatClampNeg = 0 then 0 else 1
def sAt (S : SR) (x : Int32) : Int32 := if x < 0 then (-1) else if S.2.2 ≤ x then (-1) else if 300 ≤ x then (-1) else S.2.1 x.toNatClampNeg
def sAdd (S : SR) (x : Int32) : SR := if x < 0 then S else if 300 ≤ x then S else if S.1 x.toNatClampNeg = 0 then (if S.2.2 < 0 then S else if S.2.2 < 300 then (upd S.1 x.toNatClampNeg 1, upd S.2.1 S.2.2.toNatClampNeg x, S.2.2 + 1) else S) else S
/-- the first i places are 0 -/
def zf (i : Nat) (f : Nat → Int32) : Nat → Int32 := fun j => if j < i then 0 else f j
theorem zf_s {i : Nat} {f : Nat → Int32} : upd (zf i f) i 0 = zf (i + 1) f := by
  funext j
  by_cases h : j = i
  · subst h; simp [upd, zf]
  · have h2 : (j < i + 1) = (j < i) := by apply propext; omega
    simp [upd, zf, h, h2]
theorem zf_0 {f : Nat → Int32} : zf 0 f = f := by funext j; simp [zf]
def sFg (S : SR) : SR := (zf 300 S.1, S.2.1, 0)
def tHasF (len : Nat) (x : Int32) : Int32 := if x < 0 then 0 else if nI len ≤ x then 0 else 1
def tHasW (v1 : Int32) (len : Nat) : Int32 := if v1 = 1 then (if tHasF len 0 = 0 then 0 else 1) else 0
def tWait (v1 v2 : Int32) : Int32 := if v1 = 2 then (if v2 = 0 then 1 else 0) else 0
theorem kin {x M : Int32} {N : Nat} (h0 : ¬ x < 0) (h1 : ¬ M ≤ x) (hM : M.toInt = N) : vp_in x N := by
  rw [vp_in_iff]
  simp only [Int32.lt_iff_toInt_lt, Int32.le_iff_toInt_le] at h0 h1
  have : (0 : Int32).toInt = 0 := rfl
  omega
theorem kin2 {x M : Int32} {N : Nat} (h0 : ¬ x < 0) (h1 : x < M) (hM : M.toInt = N) : vp_in x N := by
  rw [vp_in_iff]
  simp only [Int32.lt_iff_toInt_lt] at h0 h1
  have : (0 : Int32).toInt = 0 := rfl
  omega
theorem kb1 : vp_nar .boolean 1 = 1 := by decide
theorem kb0 : vp_nar .boolean 0 = 0 := by decide
theorem k300 {k : Nat} (h : k < 300) : ¬ (300 : Int32) ≤ nI k := nI_ge (b := 300) h (by omega)
theorem l300 {k : Nat} (h : k < 300) : nI k < (300 : Int32) := nI_lt (b := 300) h (by omega)
theorem kw_P {D : va_G} {cl : List vw_C} {ws ws' : va_W} {H : Heap} (h : ws = ws') (hP : va_P D cl ws H) : va_P D cl ws' H := h ▸ hP
theorem kw_D {A : Nat → Prop} {ws ws' : va_W} (h : ws = ws') (hD : va_D A ws) : va_D A ws' := h ▸ hD
def tOr (ad : Nat → Nat) (th : Nat → Bool) (x : Int32) : Value := if x < 0 then .null else if 300 ≤ x then .null else va_rf (thf ad th x.toNatClampNeg)
def kQp (f qu : Nat → Int32) (x : Int32) : Int32 := if x < 0 then (-1) else if x < f 4 - f 3 then (if f 3 + x < 0 then (-1) else if 300 ≤ f 3 + x then (-1) else qu (f 3 + x).toNatClampNeg) else (-1)
def addRQ (f rt qu : Nat → Int32) (S : SR) : SR := it (fun i S => sAdd S (kQp f qu (nI i))) (f 4 - f 3).toNatClampNeg (it (fun i S => sAdd S (rt i)) 16 S)
abbrev kFs (ad : Nat → Nat) (f : Nat → Int32) : List Value := [.ref (ad 1), .ref (ad 2), .ref (ad 3), .int (f 3), .int (f 4), .ref (ad 4), .ref (ad 7), .int (f 7), .int (f 8), .int (f 9), .int (f 10), .int (f 11)]
theorem kth_t {ad : Nat → Nat} {th : Nat → Bool} {i : Nat} (h : th i = true) : va_rf (thf ad th i) = .ref (ad (22 + 2 * i)) := by simp [thf, h, va_rf]
theorem kth_f {ad : Nat → Nat} {th : Nat → Bool} {i : Nat} (h : ¬ th i = true) : va_rf (thf ad th i) = .null := by simp [thf, h, va_rf]
theorem kcl_le {x : Int32} : x ≤ nI x.toNatClampNeg := by
  by_cases h : x < 0
  · exact Int32.le_trans (Int32.le_of_lt h) (nI_pos' (by have := x.toNatClampNeg_lt; omega))
  · obtain ⟨j, hj, rfl⟩ := nI_of h
    rw [nI_clamp hj]
    exact Int32.le_refl _
theorem kcl_lt {x : Int32} {i : Nat} (h : i < x.toNatClampNeg) : ¬ x ≤ nI i := by
  by_cases h0 : x < 0
  · exfalso
    have h1 : x.toInt < 0 := by simpa [Int32.lt_iff_toInt_lt] using h0
    have : x.toNatClampNeg = 0 := by show x.toInt.toNat = 0; omega
    omega
  · obtain ⟨j, hj, rfl⟩ := nI_of h0
    rw [nI_clamp hj] at h
    exact nI_ge h hj
theorem sUp_n {ty : Nat → ClassId} {ad : Nat → Nat} {c : Nat → va_E} {si sj sk x : Nat} {S : SR} {e : va_E} (h1 : x ≠ si) (h2 : x ≠ sj) (h3 : x ≠ sk) (h : c x = e := by rfl) : sUp ty ad c si sj sk S x = e := by simp [sUp, h1, h2, h3, h]
theorem gs_n {ty : Nat → ClassId} {ad : Nat → Nat} {c : Nat → va_E} {N si sj sk x : Nat} {S : SR} {e : va_E} (h1 : x ≠ si) (h2 : x ≠ sj) (h3 : x ≠ sk) (h : (wL N ad c)[x]? = some (ad x, e)) : (wL N ad (sUp ty ad c si sj sk S))[x]? = some (ad x, e) := by
  have hx : x < N := by
    rcases Nat.lt_or_ge x N with q | q
    · exact q
    · rw [wl_none (by omega)] at h; cases h
  rw [wl_get hx] at h ⊢
  simp only [sUp, h1, h2, h3, if_false]
  exact h
theorem gi_T {n k : Nat} (h : k < n) : 22 + 2 * k < 22 + 2 * n := by omega
theorem gi_F {n k : Nat} (h : k < n) : 23 + 2 * k < 22 + 2 * n := by omega
section GC
variable {ty : Nat → ClassId} {ad : Nat → Nat} {f : Nat → Int32} {th : Nat → Bool} {rt qu : Nat → Int32} {b w : SR} {T : Nat → TH} {g : Nat → Int32} {a : Nat → Nat → Int32} {o : Nat → Int64}
theorem gc_T {k : Nat} : gc ty ad f th rt qu b w T g a o (22 + 2 * k) = .inr (2, [.ref (ad (23 + 2 * k)), .int (T k).1, .int (T k).2.1, .int (T k).2.2.1]) := by
  rw [Nat.add_comm 22 (2 * k)]; show tc ty ad T (2 * k) = _; simp [tc, show 2 * k % 2 = 0 by omega, show 2 * k / 2 = k by omega, Nat.add_comm]
theorem gc_F {k : Nat} : gc ty ad f th rt qu b w T g a o (23 + 2 * k) = .inl (ty 0, (T k).2.2.2.1, .inl (T k).2.2.2.2) := by
  rw [show 23 + 2 * k = (2 * k + 1) + 22 by omega]; show tc ty ad T (2 * k + 1) = _; simp [tc, show (2 * k + 1) % 2 = 1 by omega, show (2 * k + 1) / 2 = k by omega]
end GC
theorem it_s {α : Type} {F : Nat → α → α} {i : Nat} {x : α} : it F (i + 1) x = F i (it F i x) := rfl
def tOk (th : Nat → Bool) (x : Int32) : Bool := if x < 0 then false else if 300 ≤ x then false else th x.toNatClampNeg
theorem tOk_k {th : Nat → Bool} {x : Int32} (h : tOk th x = true) : ∃ k : Nat, k < 300 ∧ x = nI k ∧ th k = true := by
  unfold tOk at h
  split at h
  · cases h
  · split at h
    · cases h
    · rename_i h0 h1
      obtain ⟨j, hj, rfl⟩ := nI_of h0
      rw [nI_clamp hj] at h
      refine ⟨j, ?_, rfl, h⟩
      rcases Nat.lt_or_ge j 300 with q | q
      · exact q
      · exact absurd (nI_le (a := 300) q hj) h1
theorem tOk_i {th : Nat → Bool} {k : Nat} (hk : k < 300) (h : th k = true) : tOk th (nI k) = true := by
  unfold tOk
  rw [if_neg (nI_pos (by omega)), if_neg (k300 hk), nI_clamp (by omega)]
  exact h
theorem tOr_t {ad : Nat → Nat} {th : Nat → Bool} {k : Nat} (hk : k < 300) (h : th k = true) : tOr ad th (nI k) = .ref (ad (22 + 2 * k)) := by
  unfold tOr
  rw [if_neg (nI_pos (by omega)), if_neg (k300 hk), nI_clamp (by omega)]
  exact kth_t h
theorem tOr_tt {ad : Nat → Nat} {th : Nat → Bool} {k : Nat} {x : Int32} (he : x = nI k) (hk : k < 300) (h : th k = true) : tOr ad th x = .ref (ad (22 + 2 * k)) := by rw [he]; exact tOr_t hk h
theorem sHas_1 {S : SR} {x : Int32} (h : ¬ sHas S x = 0) : sHas S x = 1 := by
  unfold sHas at h ⊢
  split
  · rename_i q; exact absurd (by rw [if_pos q]) h
  · rename_i q; rw [if_neg q] at h
    split
    · rename_i q; exact absurd (by rw [if_pos q]) h
    · rename_i q; rw [if_neg q] at h
      split
      · rename_i q; exact absurd (by rw [if_pos q]) h
      · rfl
theorem tOr_f {ad : Nat → Nat} {th : Nat → Bool} {x : Int32} (h : ¬ tOk th x = true) : tOr ad th x = .null := by
  unfold tOk at h
  unfold tOr
  split
  · rfl
  · rw [if_neg (by assumption)] at h
    split
    · rfl
    · rw [if_neg (by assumption)] at h
      exact kth_f h
def fst (t : TH) (wk : Int32) : Nat := if wk = 0 then (if tHasW t.1 t.2.2.2.1 = 0 then 0 else 1) else 0
def fJ (t : TH) (wk : Int32) (j : Nat) (S : SR) : SR := if j < fst t wk then S else sAdd S (t.2.2.2.2 j)
def fB (th : Nat → Bool) (T : Nat → TH) (wk : Int32) (S : SR) (x : Int32) : SR := if tOk th x = true then it (fJ (T x.toNatClampNeg) wk) (T x.toNatClampNeg).2.2.2.1 S else S
def fO (th : Nat → Bool) (T : Nat → TH) (wk : Int32) (i : Nat) (S : SR) : SR := if S.2.2 ≤ nI i then S else fB th T wk S (sAt S (nI i))
def fF (th : Nat → Bool) (T : Nat → TH) (wk : Int32) (S : SR) : SR := it (fO th T wk) 300 S
theorem fO_stay {th : Nat → Bool} {T : Nat → TH} {wk : Int32} {S : SR} {i : Nat} (h : (it (fO th T wk) i S).2.2 ≤ nI i) (hi : i ≤ 300) : it (fO th T wk) i S = it (fO th T wk) 300 S := by
  have key : ∀ d, i + d ≤ 300 → it (fO th T wk) (i + d) S = it (fO th T wk) i S := by
    intro d
    induction d with
    | zero => intro _; rfl
    | succ d ih =>
      intro hd
      rw [show i + (d + 1) = (i + d) + 1 by omega, it_s, ih (by omega), fO, if_pos]
      exact Int32.le_trans h (nI_le (by omega) (by omega))
  have := key (300 - i) (by omega)
  rw [show i + (300 - i) = 300 by omega] at this
  exact this.symm
def kA (th : Nat → Bool) (T : Nat → TH) (i : Nat) (S : SR) : SR := if th i = true then (if tWait (T i).1 (T i).2.1 = 0 then S else sAdd S (nI i)) else S
def sReach (f : Nat → Int32) (th : Nat → Bool) (rt qu : Nat → Int32) (T : Nat → TH) (S : SR) : SR := fF th T 0 (addRQ f rt qu (sFg S))
def sKept (f : Nat → Int32) (th : Nat → Bool) (rt qu : Nat → Int32) (T : Nat → TH) (S : SR) : SR := fF th T 1 (it (kA th T) 300 (addRQ f rt qu (sFg S)))
theorem tHasF_t {len j : Nat} (h : j < len) (hl : len < 2 ^ 31) : tHasF len (nI j) = 1 := by
  unfold tHasF
  rw [if_neg (nI_pos (by omega)), if_neg (nI_ge h hl)]
theorem tHasW_pos {v : Int32} {len : Nat} (h : ¬ tHasW v len = 0) : 0 < len := by
  rcases Nat.eq_zero_or_pos len with q | q
  · subst q
    exfalso; apply h; unfold tHasW tHasF; split
    · decide
    · rfl
  · exact q
theorem kin0 {v : Int32} {len : Nat} (h : ¬ tHasW v len = 0) : vp_in 0 len := by
  have h0 : 0 < len := by
    rcases Nat.eq_zero_or_pos len with q | q
    · subst q
      exfalso; apply h; unfold tHasW tHasF; split
      · decide
      · rfl
    · exact q
  unfold vp_in
  rw [sb_cl0]
  intro q
  rcases q with q | q
  · exact absurd q (by decide)
  · omega
def kWt (th : Nat → Bool) (T : Nat → TH) (i : Nat) (c : Int32) : Int32 := if th i = true then (if tWait (T i).1 (T i).2.1 = 0 then c else c + 1) else c
def kPut (qu f : Nat → Int32) (T : Nat → TH) (k : Nat) (x : Int32) : (Nat → Int32) × (Nat → Int32) × (Nat → TH) := if f 4 < 0 then (qu, f, T) else if f 4 < 300 then (upd qu (f 4).toNatClampNeg x, upd f 4 (f 4 + 1), va_up T k ((T k).1, 1, (T k).2.2.1, (T k).2.2.2)) else (qu, f, T)
def qU (th : Nat → Bool) (b : SR) (i : Nat) (X : (Nat → Int32) × (Nat → Int32) × (Nat → TH) × Int32) : (Nat → Int32) × (Nat → Int32) × (Nat → TH) × Int32 := if th i = true then (if tWait (X.2.2.1 i).1 (X.2.2.1 i).2.1 = 0 then X else if sHas b (nI i) = 0 then ((kPut X.1 X.2.1 X.2.2.1 i (nI i)).1, (kPut X.1 X.2.1 X.2.2.1 i (nI i)).2.1, (kPut X.1 X.2.1 X.2.2.1 i (nI i)).2.2, X.2.2.2 + 1) else X) else X
def fU (th : Nat → Bool) (b w : SR) (i : Nat) (Y : (Nat → TH) × (Nat → Int32)) : (Nat → TH) × (Nat → Int32) := if th i = true then (if tHasW (Y.1 i).1 (Y.1 i).2.2.2.1 = 0 then Y else if sHas w (nI i) = 0 then Y else if (Y.1 i).2.2.2.2 0 = -1 then Y else if sHas b ((Y.1 i).2.2.2.2 0) = 0 then (va_up Y.1 i ((Y.1 i).1, (Y.1 i).2.1, (Y.1 i).2.2.1, (Y.1 i).2.2.2.1, upd (Y.1 i).2.2.2.2 0 (-1)), upd Y.2 9 (Y.2 9 + 1)) else Y) else Y
def sW (w : SR) (i : Nat) (V : (Nat → Bool) × Int32) : (Nat → Bool) × Int32 := if V.1 i = true then (if sHas w (nI i) = 0 then (va_up V.1 i false, V.2 + 1) else V) else V
theorem sHas_01 (S : SR) (x : Int32) : sHas S x = if sHas S x = 0 then 0 else 1 := by
  unfold sHas
  split
  · rfl
  · split
    · rfl
    · split <;> simp
theorem kPut_12 {qu f : Nat → Int32} {T : Nat → TH} {k : Nat} {x : Int32} (h : ∀ k, (T k).2.2.2.1 ≤ 12) : ∀ j, ((kPut qu f T k x).2.2 j).2.2.2.1 ≤ 12 := by
  intro j
  unfold kPut
  split
  · exact h j
  · split
    · by_cases hj : j = k
      · subst hj; simp only [va_up_s]; exact h j
      · simp only [va_up_n hj]; exact h j
    · exact h j
theorem qU_12 {th : Nat → Bool} {b : SR} {n : Nat} {X : (Nat → Int32) × (Nat → Int32) × (Nat → TH) × Int32} (h : ∀ k, (X.2.2.1 k).2.2.2.1 ≤ 12) : ∀ j, ((it (qU th b) n X).2.2.1 j).2.2.2.1 ≤ 12 := by
  induction n with
  | zero => exact h
  | succ n ih =>
    rw [it_s]
    unfold qU
    split
    · split
      · exact ih
      · split
        · exact kPut_12 ih
        · exact ih
    · exact ih
end
section
/-! Part 05: Search and Thing: what each method answers and does. -/
set_option maxHeartbeats 4000000 in
set_option maxRecDepth 100000 in
/-- has(x) -/
theorem c_S_has (l : Launch) (D : va_G) (ty : Nat → ClassId) (ad : Nat → Nat) (sz : Nat) (N : Nat) (c : Nat → va_E) (si sj sk : Nat) (S : SR) (hi : si < N) (hj : sj < N) (hk : sk < N) (hji : sj ≠ si) (hki : sk ≠ si) (hkj : sk ≠ sj) (x : Int32) : Met l y_S_has w_S_has ({ frames := 0, cells := 0, slots := 0, locals := 0 }) (va_Pc [.ref (ad si), .int x] (kP D kCl (kTy ty) (wL N ad (sUp ty ad c si sj sk S)) sz)) (kQr (some (.int (sHas S x)))) 0 0 (fun _ => False) := by
  refine Met.ofW (cc := b_S_has) (maxL := 2) (ret := (some .boolean)) (by decide) rfl ?_
  intro p e s m args below meth cd s₁ B hml hv
  obtain ⟨rfl, hsz, hP, hK, hD0⟩ := hv
  have hx := B.exec
  have hb := B.bytes
  have hr := B.returns
  have hts := atoms_spec (ws := w_S_has) B.pre
  have hown : s.vm.findClass R_S = some m.cls := findClass_of_methodNamed B.named
  have hlocks := B.notSynchronized
  subst hsz
  have hD := hD0
  have hl := lv_entry ([.ref (ad si), .int x]) (n := 2) (Nat.le_of_ble_eq_true rfl)
  rw [lg_entry_eq]
  generalize (lg_sl ([.ref (ad si), .int x]) ++ List.replicate (2 - (lg_sl ([.ref (ad si), .int x])).length) Slot.unset).toArray = ls at hl ⊢
  have hl : lv_has ls 2 [(0, .ref (ad si)), (1, .int x)] := hl
  refine lv_iload_n hx hb d_S_has_0 rfl (lv_at hl 1 rfl) ?_
  refine lv_if_lt (tgt := 26) hx hb d_S_has_1 (by decide) (fun c_1 => ?_) (fun c_1 => ?_)
  · refine lv_iconst (v := 0) hx hb d_S_has_26 (by decide) ?_
    have hv : sHas S x = 0 := by simp [sHas, c_1]
    exact W.zret (v := 0) hx hb hr rfl (fun t ht hW => ⟨by rw [hv], ht⟩) (fun q hq => by cases hq) d_S_has_27
  · refine lv_iload_n hx hb d_S_has_4 rfl (lv_at hl 1 rfl) ?_
    refine lv_aload_n hx hb d_S_has_5 rfl (lv_at hl 0 rfl) ?_
    refine va_get (D := D) (ci := 1) (v := .ref (ad sj)) (C := R_S) (T := F_S) (N := 3) hx hb hts (fun w h => kS1 w (i_S w h)) hown hK hP si (sw_o (S := S) hi) rfl 0 (by decide) (hts _ (kS1 _ m_S_9)) (fun _ h9 => h9) rfl d_S_has_6 ?_
    refine va_alen (v := 300) hx hb hK hP sj 1 (sw_f (S := S) hj hji) rfl rfl d_S_has_9 ?_
    refine lv_icmp_ge (tgt := 26) hx hb d_S_has_10 (by decide) (fun c_10 => ?_) (fun c_10 => ?_)
    · refine lv_iconst (v := 0) hx hb d_S_has_26 (by decide) ?_
      have hv : sHas S x = 0 := by simp [sHas, c_1, c_10]
      exact W.zret (v := 0) hx hb hr rfl (fun t ht hW => ⟨by rw [hv], ht⟩) (fun q hq => by cases hq) d_S_has_27
    · refine lv_aload_n hx hb d_S_has_13 rfl (lv_at hl 0 rfl) ?_
      refine va_get (D := D) (ci := 1) (v := .ref (ad sj)) (C := R_S) (T := F_S) (N := 3) hx hb hts (fun w h => kS1 w (i_S w h)) hown hK hP si (sw_o (S := S) hi) rfl 0 (by decide) (hts _ (kS1 _ m_S_9)) (fun _ h9 => h9) rfl d_S_has_14 ?_
      refine lv_iload_n hx hb d_S_has_17 rfl (lv_at hl 1 rfl) ?_
      refine va_zald (f := S.1) hx hb hK hP sj 1 (sw_f (S := S) hj hji) rfl (kin c_1 c_10 rfl) d_S_has_18 ?_
      refine lv_if_eq (tgt := 26) hx hb d_S_has_19 (by decide) (fun c_19 => ?_) (fun c_19 => ?_)
      · refine lv_iconst (v := 0) hx hb d_S_has_26 (by decide) ?_
        have hv : sHas S x = 0 := by simp [sHas, c_1, c_10, c_19]
        exact W.zret (v := 0) hx hb hr rfl (fun t ht hW => ⟨by rw [hv], ht⟩) (fun q hq => by cases hq) d_S_has_27
      · refine lv_iconst (v := 1) hx hb d_S_has_22 (by decide) ?_
        refine lv_goto (tgt := 27) hx hb d_S_has_23 (by decide) ?_
        have hv : sHas S x = 1 := by simp [sHas, c_1, c_10, c_19]
        exact W.zret (v := 1) hx hb hr rfl (fun t ht hW => ⟨by rw [hv], ht⟩) (fun q hq => by cases hq) d_S_has_27
set_option maxHeartbeats 4000000 in
set_option maxRecDepth 100000 in
/-- at(x) -/
theorem c_S_at (l : Launch) (D : va_G) (ty : Nat → ClassId) (ad : Nat → Nat) (sz : Nat) (N : Nat) (c : Nat → va_E) (si sj sk : Nat) (S : SR) (hi : si < N) (hj : sj < N) (hk : sk < N) (hji : sj ≠ si) (hki : sk ≠ si) (hkj : sk ≠ sj) (x : Int32) : Met l y_S_at w_S_at ({ frames := 0, cells := 0, slots := 0, locals := 0 }) (va_Pc [.ref (ad si), .int x] (kP D kCl (kTy ty) (wL N ad (sUp ty ad c si sj sk S)) sz)) (kQr (some (.int (sAt S x)))) 0 0 (fun _ => False) := by
  refine Met.ofW (cc := b_S_at) (maxL := 2) (ret := (some .int)) (by decide) rfl ?_
  intro p e s m args below meth cd s₁ B hml hv
  obtain ⟨rfl, hsz, hP, hK, hD0⟩ := hv
  have hx := B.exec
  have hb := B.bytes
  have hr := B.returns
  have hts := atoms_spec (ws := w_S_at) B.pre
  have hown : s.vm.findClass R_S = some m.cls := findClass_of_methodNamed B.named
  have hlocks := B.notSynchronized
  subst hsz
  have hD := hD0
  have hl := lv_entry ([.ref (ad si), .int x]) (n := 2) (Nat.le_of_ble_eq_true rfl)
  rw [lg_entry_eq]
  generalize (lg_sl ([.ref (ad si), .int x]) ++ List.replicate (2 - (lg_sl ([.ref (ad si), .int x])).length) Slot.unset).toArray = ls at hl ⊢
  have hl : lv_has ls 2 [(0, .ref (ad si)), (1, .int x)] := hl
  refine lv_iload_n hx hb d_S_at_0 rfl (lv_at hl 1 rfl) ?_
  refine lv_if_lt (tgt := 30) hx hb d_S_at_1 (by decide) (fun c_1 => ?_) (fun c_1 => ?_)
  · refine lv_iconst (v := (-1)) hx hb d_S_at_30 (by decide) ?_
    have hv : sAt S x = (-1) := by simp [sAt, c_1]
    exact W.iret (v := (-1)) hx hb hr (fun t ht hW => ⟨by rw [hv], ht⟩) (fun q hq => by cases hq) d_S_at_31
  · refine lv_iload_n hx hb d_S_at_4 rfl (lv_at hl 1 rfl) ?_
    refine lv_aload_n hx hb d_S_at_5 rfl (lv_at hl 0 rfl) ?_
    refine va_get (D := D) (ci := 1) (v := .int S.2.2) (C := R_S) (T := F_S) (N := 3) hx hb hts (fun w h => kS1 w (i_S w h)) hown hK hP si (sw_o (S := S) hi) rfl 2 (by decide) (hts _ (kS1 _ m_S_19)) (fun _ h9 => h9) rfl d_S_at_6 ?_
    refine lv_icmp_ge (tgt := 30) hx hb d_S_at_9 (by decide) (fun c_9 => ?_) (fun c_9 => ?_)
    · refine lv_iconst (v := (-1)) hx hb d_S_at_30 (by decide) ?_
      have hv : sAt S x = (-1) := by simp [sAt, c_1, c_9]
      exact W.iret (v := (-1)) hx hb hr (fun t ht hW => ⟨by rw [hv], ht⟩) (fun q hq => by cases hq) d_S_at_31
    · refine lv_iload_n hx hb d_S_at_12 rfl (lv_at hl 1 rfl) ?_
      refine lv_aload_n hx hb d_S_at_13 rfl (lv_at hl 0 rfl) ?_
      refine va_get (D := D) (ci := 1) (v := .ref (ad sk)) (C := R_S) (T := F_S) (N := 3) hx hb hts (fun w h => kS1 w (i_S w h)) hown hK hP si (sw_o (S := S) hi) rfl 1 (by decide) (hts _ (kS1 _ m_S_15)) (fun _ h9 => h9) rfl d_S_at_14 ?_
      refine va_alen (v := 300) hx hb hK hP sk 0 (sw_r (S := S) hk hki hkj) rfl rfl d_S_at_17 ?_
      refine lv_icmp_ge (tgt := 30) hx hb d_S_at_18 (by decide) (fun c_18 => ?_) (fun c_18 => ?_)
      · refine lv_iconst (v := (-1)) hx hb d_S_at_30 (by decide) ?_
        have hv : sAt S x = (-1) := by simp [sAt, c_1, c_9, c_18]
        exact W.iret (v := (-1)) hx hb hr (fun t ht hW => ⟨by rw [hv], ht⟩) (fun q hq => by cases hq) d_S_at_31
      · refine lv_aload_n hx hb d_S_at_21 rfl (lv_at hl 0 rfl) ?_
        refine va_get (D := D) (ci := 1) (v := .ref (ad sk)) (C := R_S) (T := F_S) (N := 3) hx hb hts (fun w h => kS1 w (i_S w h)) hown hK hP si (sw_o (S := S) hi) rfl 1 (by decide) (hts _ (kS1 _ m_S_15)) (fun _ h9 => h9) rfl d_S_at_22 ?_
        refine lv_iload_n hx hb d_S_at_25 rfl (lv_at hl 1 rfl) ?_
        refine va_iald (f := S.2.1) hx hb hK hP sk 0 (sw_r (S := S) hk hki hkj) rfl (kin c_1 c_18 rfl) d_S_at_26 ?_
        refine lv_goto (tgt := 31) hx hb d_S_at_27 (by decide) ?_
        have hv : sAt S x = S.2.1 x.toNatClampNeg := by simp [sAt, c_1, c_9, c_18]
        exact W.iret (v := S.2.1 x.toNatClampNeg) hx hb hr (fun t ht hW => ⟨by rw [hv], ht⟩) (fun q hq => by cases hq) d_S_at_31
set_option maxHeartbeats 4000000 in
set_option maxRecDepth 100000 in
/-- add(x) -/
theorem c_S_add (l : Launch) (D : va_G) (ty : Nat → ClassId) (ad : Nat → Nat) (sz : Nat) (N : Nat) (c : Nat → va_E) (si sj sk : Nat) (S : SR) (hi : si < N) (hj : sj < N) (hk : sk < N) (hji : sj ≠ si) (hki : sk ≠ si) (hkj : sk ≠ sj) (x : Int32) : Met l y_S_add w_S_add ({ frames := 0, cells := 0, slots := 0, locals := 0 }) (va_Pc [.ref (ad si), .int x] (kP D kCl (kTy ty) (wL N ad (sUp ty ad c si sj sk S)) sz)) (va_Qv (fun u9 : va_W => u9 = (wL N ad (sUp ty ad c si sj sk (sAdd S x)))) (kB D kCl (kTy ty) (va_A (wL N ad (sUp ty ad c si sj sk S)) sz)) (va_A (wL N ad (sUp ty ad c si sj sk S)) sz)) 0 0 (va_A (wL N ad (sUp ty ad c si sj sk S)) sz) := by
  refine Met.ofW (cc := b_S_add) (maxL := 2) (ret := none) (by decide) rfl ?_
  intro p e s m args below meth cd s₁ B hml hv
  obtain ⟨rfl, hsz, hP, hK, hD0⟩ := hv
  have hx := B.exec
  have hb := B.bytes
  have hr := B.returns
  have hts := atoms_spec (ws := w_S_add) B.pre
  have hown : s.vm.findClass R_S = some m.cls := findClass_of_methodNamed B.named
  have hlocks := B.notSynchronized
  subst hsz
  have hD := hD0.self (sz := s.heap.size)
  generalize hAe : va_A (wL N ad (sUp ty ad c si sj sk S)) s.heap.size = A at hD ⊢
  have hA : ∀ q : Nat, s.heap.size ≤ q → A q := fun q h => by rw [← hAe]; exact Or.inr h
  have hS : va_S A s.heap s.heap [] := va_S.rf
  have hl := lv_entry ([.ref (ad si), .int x]) (n := 2) (Nat.le_of_ble_eq_true rfl)
  rw [lg_entry_eq]
  generalize (lg_sl ([.ref (ad si), .int x]) ++ List.replicate (2 - (lg_sl ([.ref (ad si), .int x])).length) Slot.unset).toArray = ls at hl ⊢
  have hl : lv_has ls 2 [(0, .ref (ad si)), (1, .int x)] := hl
  refine lv_iload_n hx hb d_S_add_0 rfl (lv_at hl 1 rfl) ?_
  refine lv_if_lt (tgt := 41) hx hb d_S_add_1 (by decide) (fun c_1 => ?_) (fun c_1 => ?_)
  · have hu : (wL N ad (sUp ty ad c si sj sk S) : va_W) = wL N ad (sUp ty ad c si sj sk (sAdd S x)) := by simp [sAdd, kb1, c_1]
    exact W.vret hx hb hr (fun t ht hW => ⟨⟨_, rfl, hu, by rw [ht]; exact hP, va_K.moved hW.alike hK, hD⟩, hS.F ht⟩) hS.2.2 d_S_add_41
  · refine lv_iload_n hx hb d_S_add_4 rfl (lv_at hl 1 rfl) ?_
    refine lv_aload_n hx hb d_S_add_5 rfl (lv_at hl 0 rfl) ?_
    refine va_get (D := D) (ci := 1) (v := .ref (ad sj)) (C := R_S) (T := F_S) (N := 3) hx hb hts (fun w h => kS1 w (i_S w h)) hown hK hP si (sw_o (S := S) hi) rfl 0 (by decide) (hts _ (kS1 _ m_S_9)) (fun _ h9 => h9) rfl d_S_add_6 ?_
    refine va_alen (v := 300) hx hb hK hP sj 1 (sw_f (S := S) hj hji) rfl rfl d_S_add_9 ?_
    refine lv_icmp_ge (tgt := 41) hx hb d_S_add_10 (by decide) (fun c_10 => ?_) (fun c_10 => ?_)
    · have hu : (wL N ad (sUp ty ad c si sj sk S) : va_W) = wL N ad (sUp ty ad c si sj sk (sAdd S x)) := by simp [sAdd, kb1, c_1, c_10]
      exact W.vret hx hb hr (fun t ht hW => ⟨⟨_, rfl, hu, by rw [ht]; exact hP, va_K.moved hW.alike hK, hD⟩, hS.F ht⟩) hS.2.2 d_S_add_41
    · refine lv_aload_n hx hb d_S_add_13 rfl (lv_at hl 0 rfl) ?_
      refine va_get (D := D) (ci := 1) (v := .ref (ad sj)) (C := R_S) (T := F_S) (N := 3) hx hb hts (fun w h => kS1 w (i_S w h)) hown hK hP si (sw_o (S := S) hi) rfl 0 (by decide) (hts _ (kS1 _ m_S_9)) (fun _ h9 => h9) rfl d_S_add_14 ?_
      refine lv_iload_n hx hb d_S_add_17 rfl (lv_at hl 1 rfl) ?_
      refine va_zald (f := S.1) hx hb hK hP sj 1 (sw_f (S := S) hj hji) rfl (kin c_1 c_10 rfl) d_S_add_18 ?_
      refine lv_if_ne (tgt := 41) hx hb d_S_add_19 (by decide) (fun c_19 => ?_) (fun c_19 => ?_)
      · have hu : (wL N ad (sUp ty ad c si sj sk S) : va_W) = wL N ad (sUp ty ad c si sj sk (sAdd S x)) := by simp [sAdd, kb1, c_1, c_10, c_19]
        exact W.vret hx hb hr (fun t ht hW => ⟨⟨_, rfl, hu, by rw [ht]; exact hP, va_K.moved hW.alike hK, hD⟩, hS.F ht⟩) hS.2.2 d_S_add_41
      · refine lv_aload_n hx hb d_S_add_22 rfl (lv_at hl 0 rfl) ?_
        refine va_get (D := D) (ci := 1) (v := .int S.2.2) (C := R_S) (T := F_S) (N := 3) hx hb hts (fun w h => kS1 w (i_S w h)) hown hK hP si (sw_o (S := S) hi) rfl 2 (by decide) (hts _ (kS1 _ m_S_19)) (fun _ h9 => h9) rfl d_S_add_23 ?_
        refine lv_if_lt (tgt := 41) hx hb d_S_add_26 (by decide) (fun c_26 => ?_) (fun c_26 => ?_)
        · have hu : (wL N ad (sUp ty ad c si sj sk S) : va_W) = wL N ad (sUp ty ad c si sj sk (sAdd S x)) := by simp [sAdd, kb1, c_1, c_10, c_19, c_26]
          exact W.vret hx hb hr (fun t ht hW => ⟨⟨_, rfl, hu, by rw [ht]; exact hP, va_K.moved hW.alike hK, hD⟩, hS.F ht⟩) hS.2.2 d_S_add_41
        · refine lv_aload_n hx hb d_S_add_29 rfl (lv_at hl 0 rfl) ?_
          refine va_get (D := D) (ci := 1) (v := .int S.2.2) (C := R_S) (T := F_S) (N := 3) hx hb hts (fun w h => kS1 w (i_S w h)) hown hK hP si (sw_o (S := S) hi) rfl 2 (by decide) (hts _ (kS1 _ m_S_19)) (fun _ h9 => h9) rfl d_S_add_30 ?_
          refine lv_aload_n hx hb d_S_add_33 rfl (lv_at hl 0 rfl) ?_
          refine va_get (D := D) (ci := 1) (v := .ref (ad sk)) (C := R_S) (T := F_S) (N := 3) hx hb hts (fun w h => kS1 w (i_S w h)) hown hK hP si (sw_o (S := S) hi) rfl 1 (by decide) (hts _ (kS1 _ m_S_15)) (fun _ h9 => h9) rfl d_S_add_34 ?_
          refine va_alen (v := 300) hx hb hK hP sk 0 (sw_r (S := S) hk hki hkj) rfl rfl d_S_add_37 ?_
          refine lv_icmp_lt (tgt := 42) hx hb d_S_add_38 (by decide) (fun c_38 => ?_) (fun c_38 => ?_)
          · refine lv_aload_n hx hb d_S_add_42 rfl (lv_at hl 0 rfl) ?_
            refine va_get (D := D) (ci := 1) (v := .ref (ad sj)) (C := R_S) (T := F_S) (N := 3) hx hb hts (fun w h => kS1 w (i_S w h)) hown hK hP si (sw_o (S := S) hi) rfl 0 (by decide) (hts _ (kS1 _ m_S_9)) (fun _ h9 => h9) rfl d_S_add_43 ?_
            refine lv_iload_n hx hb d_S_add_46 rfl (lv_at hl 1 rfl) ?_
            refine lv_iconst (v := 1) hx hb d_S_add_47 (by decide) ?_
            refine va_zast (f := S.1) hx hb hK hP hD hS sj 1 (sw_f (S := S) hj hji) rfl (kin c_1 c_10 rfl) d_S_add_48 (fun H locs hP hD hS => ?_)
            have hP := kw_P (sw_sf (S := S) (f := upd S.1 x.toNatClampNeg (vp_nar .boolean 1)) hji) hP
            have hD := kw_D (sw_sf (S := S) (f := upd S.1 x.toNatClampNeg (vp_nar .boolean 1)) hji) hD
            refine lv_aload_n hx hb d_S_add_49 rfl (lv_at hl 0 rfl) ?_
            refine va_get (D := D) (ci := 1) (v := .ref (ad sk)) (C := R_S) (T := F_S) (N := 3) hx hb hts (fun w h => kS1 w (i_S w h)) hown hK hP si (sw_o (S := (upd S.1 x.toNatClampNeg (vp_nar .boolean 1), S.2.1, S.2.2)) hi) rfl 1 (by decide) (hts _ (kS1 _ m_S_15)) (fun _ h9 => h9) rfl d_S_add_50 ?_
            refine lv_aload_n hx hb d_S_add_53 rfl (lv_at hl 0 rfl) ?_
            refine va_get (D := D) (ci := 1) (v := .int S.2.2) (C := R_S) (T := F_S) (N := 3) hx hb hts (fun w h => kS1 w (i_S w h)) hown hK hP si (sw_o (S := (upd S.1 x.toNatClampNeg (vp_nar .boolean 1), S.2.1, S.2.2)) hi) rfl 2 (by decide) (hts _ (kS1 _ m_S_19)) (fun _ h9 => h9) rfl d_S_add_54 ?_
            refine lv_iload_n hx hb d_S_add_57 rfl (lv_at hl 1 rfl) ?_
            refine va_iast (f := S.2.1) hx hb hK hP hD hS sk 0 (sw_r (S := (upd S.1 x.toNatClampNeg (vp_nar .boolean 1), S.2.1, S.2.2)) hk hki hkj) rfl (kin2 c_26 c_38 rfl) d_S_add_58 (fun H locs hP hD hS => ?_)
            have hP := kw_P (sw_sr (S := (upd S.1 x.toNatClampNeg (vp_nar .boolean 1), S.2.1, S.2.2)) (f := upd S.2.1 S.2.2.toNatClampNeg x) hki hkj) hP
            have hD := kw_D (sw_sr (S := (upd S.1 x.toNatClampNeg (vp_nar .boolean 1), S.2.1, S.2.2)) (f := upd S.2.1 S.2.2.toNatClampNeg x) hki hkj) hD
            refine lv_aload_n hx hb d_S_add_59 rfl (lv_at hl 0 rfl) ?_
            refine lv_dup hx hb d_S_add_60 rfl ?_
            refine va_get (D := D) (ci := 1) (v := .int S.2.2) (C := R_S) (T := F_S) (N := 3) hx hb hts (fun w h => kS1 w (i_S w h)) hown hK hP si (sw_o (S := (upd S.1 x.toNatClampNeg (vp_nar .boolean 1), upd S.2.1 S.2.2.toNatClampNeg x, S.2.2)) hi) rfl 2 (by decide) (hts _ (kS1 _ m_S_19)) (fun _ h9 => h9) rfl d_S_add_61 ?_
            refine lv_iconst (v := 1) hx hb d_S_add_64 (by decide) ?_
            refine lv_iadd hx hb d_S_add_65 ?_
            refine va_put (D := D) (ci := 1) (v := .int (S.2.2 + 1)) (ty := .int) (C := R_S) (T := F_S) (N := 3) hx hb hts (fun w h => kS1 w (i_S w h)) tt_S tt_S_ok n_S hown hK hP hD hS si (sw_o (S := (upd S.1 x.toNatClampNeg (vp_nar .boolean 1), upd S.2.1 S.2.2.toNatClampNeg x, S.2.2)) hi) rfl 2 (by decide) (hts _ (kS1 _ m_S_19)) (fun _ h9 => h9) rfl (by decide +kernel) rfl rfl (Nat.le_of_ble_eq_true rfl) d_S_add_66 (fun H locs hP hD hS => ?_)
            have hP := kw_P (sw_so (S := (upd S.1 x.toNatClampNeg (vp_nar .boolean 1), upd S.2.1 S.2.2.toNatClampNeg x, S.2.2)) (v := S.2.2 + 1)) hP
            have hD := kw_D (sw_so (S := (upd S.1 x.toNatClampNeg (vp_nar .boolean 1), upd S.2.1 S.2.2.toNatClampNeg x, S.2.2)) (v := S.2.2 + 1)) hD
            have hu : (wL N ad (sUp ty ad c si sj sk (upd S.1 x.toNatClampNeg (vp_nar .boolean 1), upd S.2.1 S.2.2.toNatClampNeg x, S.2.2 + 1)) : va_W) = wL N ad (sUp ty ad c si sj sk (sAdd S x)) := by simp [sAdd, kb1, c_1, c_10, c_19, c_26, c_38]
            exact W.vret hx hb hr (fun t ht hW => ⟨⟨_, rfl, hu, by rw [ht]; exact hP, va_K.moved hW.alike hK, hD⟩, hS.F ht⟩) hS.2.2 d_S_add_69
          · have hu : (wL N ad (sUp ty ad c si sj sk S) : va_W) = wL N ad (sUp ty ad c si sj sk (sAdd S x)) := by simp [sAdd, kb1, c_1, c_10, c_19, c_26, c_38]
            exact W.vret hx hb hr (fun t ht hW => ⟨⟨_, rfl, hu, by rw [ht]; exact hP, va_K.moved hW.alike hK, hD⟩, hS.F ht⟩) hS.2.2 d_S_add_41
set_option maxHeartbeats 4000000 in
set_option maxRecDepth 100000 in
/-- forgetAll() -/
theorem c_S_forgetAll (l : Launch) (D : va_G) (ty : Nat → ClassId) (ad : Nat → Nat) (sz : Nat) (N : Nat) (c : Nat → va_E) (si sj sk : Nat) (S : SR) (hi : si < N) (hj : sj < N) (hk : sk < N) (hji : sj ≠ si) (hki : sk ≠ si) (hkj : sk ≠ sj) : Met l y_S_forgetAll w_S_forgetAll ({ frames := 0, cells := 0, slots := 0, locals := 0 }) (va_Pc [.ref (ad si)] (kP D kCl (kTy ty) (wL N ad (sUp ty ad c si sj sk S)) sz)) (va_Qv (fun u9 : va_W => u9 = (wL N ad (sUp ty ad c si sj sk (sFg S)))) (kB D kCl (kTy ty) (va_A (wL N ad (sUp ty ad c si sj sk S)) sz)) (va_A (wL N ad (sUp ty ad c si sj sk S)) sz)) 0 0 (va_A (wL N ad (sUp ty ad c si sj sk S)) sz) := by
  refine Met.ofW (cc := b_S_forgetAll) (maxL := 2) (ret := none) (by decide) rfl ?_
  intro p e s m args below meth cd s₁ B hml hv
  obtain ⟨rfl, hsz, hP, hK, hD0⟩ := hv
  have hx := B.exec
  have hb := B.bytes
  have hr := B.returns
  have hts := atoms_spec (ws := w_S_forgetAll) B.pre
  have hown : s.vm.findClass R_S = some m.cls := findClass_of_methodNamed B.named
  have hlocks := B.notSynchronized
  subst hsz
  have hD := hD0.self (sz := s.heap.size)
  generalize hAe : va_A (wL N ad (sUp ty ad c si sj sk S)) s.heap.size = A at hD ⊢
  have hA : ∀ q : Nat, s.heap.size ≤ q → A q := fun q h => by rw [← hAe]; exact Or.inr h
  have hS : va_S A s.heap s.heap [] := va_S.rf
  have hl := lv_entry ([.ref (ad si)]) (n := 2) (Nat.le_of_ble_eq_true rfl)
  rw [lg_entry_eq]
  generalize (lg_sl ([.ref (ad si)]) ++ List.replicate (2 - (lg_sl ([.ref (ad si)])).length) Slot.unset).toArray = ls at hl ⊢
  have hl : lv_has ls 2 [(0, .ref (ad si))] := hl
  refine lv_iconst (v := 0) hx hb d_S_forgetAll_0 (by decide) ?_
  refine lv_istore_n (lv' := [(1, .int 0), (0, .ref (ad si))]) hx hb d_S_forgetAll_1 rfl hl (by decide) rfl (fun ls hl => ?_)
  have L1 : ∀ (Q : State → Prop) (rem i : Nat) (H : Heap) (locs : List Loc) (ls : Array Slot), i + rem = 300 → va_P D kCl (wL N ad (sUp ty ad c si sj sk (zf i S.1, S.2.1, S.2.2))) H → va_D A (wL N ad (sUp ty ad c si sj sk (zf i S.1, S.2.1, S.2.2))) → va_S A s.heap H locs → lv_has ls 2 [(0, .ref (ad si)), (1, .int (nI i))] → (∀ (H : Heap) (locs : List Loc) (ls : Array Slot), va_P D kCl (wL N ad (sUp ty ad c si sj sk (zf 300 S.1, S.2.1, S.2.2))) H → va_D A (wL N ad (sUp ty ad c si sj sk (zf 300 S.1, S.2.1, S.2.2))) → va_S A s.heap H locs → lv_has ls 2 [(0, .ref (ad si)), (1, .int (nI 300))] → W p l e (headSpec w_S_forgetAll ({ frames := 0, cells := 0, slots := 0, locals := 0 })).room s m ([.ref (ad si)] : List Value).toArray below meth cd H locs 0 0 Q (F0 m 24 ls [])) → W p l e (headSpec w_S_forgetAll ({ frames := 0, cells := 0, slots := 0, locals := 0 })).room s m ([.ref (ad si)] : List Value).toArray below meth cd H locs 0 0 Q (F0 m 2 ls []) := by
    intro Q rem
    induction rem with
    | zero =>
      intro i H locs ls hir_i hP hD hS hl kx
      obtain rfl : 300 = i := by omega
      refine lv_iload_n hx hb d_S_forgetAll_2 rfl (lv_at hl 1 rfl) ?_
      refine lv_aload_n hx hb d_S_forgetAll_3 rfl (lv_at hl 0 rfl) ?_
      refine va_get (D := D) (ci := 1) (v := .ref (ad sj)) (C := R_S) (T := F_S) (N := 3) hx hb hts (fun w h => kS1 w (i_S w h)) hown hK hP si (sw_o (S := (zf 300 S.1, S.2.1, S.2.2)) hi) rfl 0 (by decide) (hts _ (kS1 _ m_S_9)) (fun _ h9 => h9) rfl d_S_forgetAll_4 ?_
      refine va_alen (v := 300) hx hb hK hP sj 1 (sw_f (S := (zf 300 S.1, S.2.1, S.2.2)) hj hji) rfl rfl d_S_forgetAll_7 ?_
      refine lv_icmp_ge (tgt := 24) hx hb d_S_forgetAll_8 (by decide) (fun c_8' => ?_) (fun c_8' => absurd (nI_le (a := 300) (b := 300) (Nat.le_refl _) (by omega)) c_8')
      exact kx _ _ ls hP hD hS hl
    | succ rem ih =>
      intro i H locs ls hir_i hP hD hS hl kx
      have hlt_i : i < 300 := by omega
      refine lv_iload_n hx hb d_S_forgetAll_2 rfl (lv_at hl 1 rfl) ?_
      refine lv_aload_n hx hb d_S_forgetAll_3 rfl (lv_at hl 0 rfl) ?_
      refine va_get (D := D) (ci := 1) (v := .ref (ad sj)) (C := R_S) (T := F_S) (N := 3) hx hb hts (fun w h => kS1 w (i_S w h)) hown hK hP si (sw_o (S := (zf i S.1, S.2.1, S.2.2)) hi) rfl 0 (by decide) (hts _ (kS1 _ m_S_9)) (fun _ h9 => h9) rfl d_S_forgetAll_4 ?_
      refine va_alen (v := 300) hx hb hK hP sj 1 (sw_f (S := (zf i S.1, S.2.1, S.2.2)) hj hji) rfl rfl d_S_forgetAll_7 ?_
      refine lv_icmp_ge (tgt := 24) hx hb d_S_forgetAll_8 (by decide) (fun c_8' => absurd c_8' (nI_ge (b := 300) hlt_i (by omega))) (fun c_8' => ?_)
      refine lv_aload_n hx hb d_S_forgetAll_11 rfl (lv_at hl 0 rfl) ?_
      refine va_get (D := D) (ci := 1) (v := .ref (ad sj)) (C := R_S) (T := F_S) (N := 3) hx hb hts (fun w h => kS1 w (i_S w h)) hown hK hP si (sw_o (S := (zf i S.1, S.2.1, S.2.2)) hi) rfl 0 (by decide) (hts _ (kS1 _ m_S_9)) (fun _ h9 => h9) rfl d_S_forgetAll_12 ?_
      refine lv_iload_n hx hb d_S_forgetAll_15 rfl (lv_at hl 1 rfl) ?_
      refine lv_iconst (v := 0) hx hb d_S_forgetAll_16 (by decide) ?_
      refine va_zast (f := zf i S.1) hx hb hK hP hD hS sj 1 (sw_f (S := (zf i S.1, S.2.1, S.2.2)) hj hji) rfl (vp_in_nI hlt_i (by omega)) d_S_forgetAll_17 (fun H locs hP hD hS => ?_)
      rw [nI_clamp (n := i) (by omega)] at hP hD
      have hP := kw_P (sw_sf (S := (zf i S.1, S.2.1, S.2.2)) (f := upd (zf i S.1) i (vp_nar .boolean 0)) hji) hP
      have hD := kw_D (sw_sf (S := (zf i S.1, S.2.1, S.2.2)) (f := upd (zf i S.1) i (vp_nar .boolean 0)) hji) hD
      refine lv_iinc (v := nI i + 1) (lv' := [(1, .int (nI i + 1)), (0, .ref (ad si))]) hx hb d_S_forgetAll_18 hl (k := 1) rfl rfl (by decide) rfl (fun ls hl => ?_)
      refine lv_goto (tgt := 2) hx hb d_S_forgetAll_21 (by decide) ?_
      have hl := lv_sub (l' := [(0, .ref (ad si)), (1, .int (nI i + 1))]) hl [1, 0] rfl
      have hqq9 : (.int (nI i + 1) : Value) = .int (nI (i + 1)) := by rw [nI_1]
      rw [hqq9] at hl
      have hE : (wL N ad (sUp ty ad c si sj sk (upd (zf i S.1) i (vp_nar .boolean 0), S.2.1, S.2.2)) : va_W) = wL N ad (sUp ty ad c si sj sk (zf (i + 1) S.1, S.2.1, S.2.2)) := by rw [kb0, zf_s]
      have hP := kw_P hE hP
      have hD := kw_D hE hD
      exact ih (i + 1) _ _ ls (by omega) hP hD hS hl kx
  have hl := lv_sub (l' := [(0, .ref (ad si)), (1, .int 0)]) hl [1, 0] rfl
  have hqq9 : (.int 0 : Value) = .int (nI 0) := by rw [nI_0]
  rw [hqq9] at hl
  refine L1 _ (300 - 0) 0 _ _ ls (by omega) hP hD hS hl (fun H locs ls hP hD hS hl => ?_)
  refine lv_aload_n hx hb d_S_forgetAll_24 rfl (lv_at hl 0 rfl) ?_
  refine lv_iconst (v := 0) hx hb d_S_forgetAll_25 (by decide) ?_
  refine va_put (D := D) (ci := 1) (v := .int 0) (ty := .int) (C := R_S) (T := F_S) (N := 3) hx hb hts (fun w h => kS1 w (i_S w h)) tt_S tt_S_ok n_S hown hK hP hD hS si (sw_o (S := (zf 300 S.1, S.2.1, S.2.2)) hi) rfl 2 (by decide) (hts _ (kS1 _ m_S_19)) (fun _ h9 => h9) rfl (by decide +kernel) rfl rfl (Nat.le_of_ble_eq_true rfl) d_S_forgetAll_26 (fun H locs hP hD hS => ?_)
  have hP := kw_P (sw_so (S := (zf 300 S.1, S.2.1, S.2.2)) (v := 0)) hP
  have hD := kw_D (sw_so (S := (zf 300 S.1, S.2.1, S.2.2)) (v := 0)) hD
  have hu : (wL N ad (sUp ty ad c si sj sk (zf 300 S.1, S.2.1, 0)) : va_W) = wL N ad (sUp ty ad c si sj sk (sFg S)) := by simp [sFg]
  exact W.vret hx hb hr (fun t ht hW => ⟨⟨_, rfl, hu, by rw [ht]; exact hP, va_K.moved hW.alike hK, hD⟩, hS.F ht⟩) hS.2.2 d_S_forgetAll_29
set_option maxHeartbeats 4000000 in
set_option maxRecDepth 100000 in
/-- hasField(x) -/
theorem c_T_hasField (l : Launch) (D : va_G) (ty : Nat → ClassId) (ad : Nat → Nat) (sz : Nat) (N : Nat) (c : Nat → va_E) (i j : Nat) (v1 v2 v3 : Int32) (len : Nat) (r : Nat → Int32) (hi : i < N) (hj : j < N) (hT : c i = .inr (2, [.ref (ad j), .int v1, .int v2, .int v3])) (hF : c j = .inl (ty 0, len, .inl r)) (x : Int32) : Met l y_T_hasField w_T_hasField ({ frames := 0, cells := 0, slots := 0, locals := 0 }) (va_Pc [.ref (ad i), .int x] (kP D kCl (kTy ty) (wL N ad c) sz)) (kQr (some (.int (tHasF len x)))) 0 0 (fun _ => False) := by
  refine Met.ofW (cc := b_T_hasField) (maxL := 2) (ret := (some .boolean)) (by decide) rfl ?_
  intro p e s m args below meth cd s₁ B hml hv
  obtain ⟨rfl, hsz, hP, hK, hD0⟩ := hv
  have hx := B.exec
  have hb := B.bytes
  have hr := B.returns
  have hts := atoms_spec (ws := w_T_hasField) B.pre
  have hown : s.vm.findClass R_T = some m.cls := findClass_of_methodNamed B.named
  have hlocks := B.notSynchronized
  subst hsz
  have hD := hD0
  have hl := lv_entry ([.ref (ad i), .int x]) (n := 2) (Nat.le_of_ble_eq_true rfl)
  rw [lg_entry_eq]
  generalize (lg_sl ([.ref (ad i), .int x]) ++ List.replicate (2 - (lg_sl ([.ref (ad i), .int x])).length) Slot.unset).toArray = ls at hl ⊢
  have hl : lv_has ls 2 [(0, .ref (ad i)), (1, .int x)] := hl
  refine lv_iload_n hx hb d_T_hasField_0 rfl (lv_at hl 1 rfl) ?_
  refine lv_if_lt (tgt := 17) hx hb d_T_hasField_1 (by decide) (fun c_1 => ?_) (fun c_1 => ?_)
  · refine lv_iconst (v := 0) hx hb d_T_hasField_17 (by decide) ?_
    have hv : tHasF len x = 0 := by simp [tHasF, c_1]
    exact W.zret (v := 0) hx hb hr rfl (fun t ht hW => ⟨by rw [hv], ht⟩) (fun q hq => by cases hq) d_T_hasField_18
  · refine lv_iload_n hx hb d_T_hasField_4 rfl (lv_at hl 1 rfl) ?_
    refine lv_aload_n hx hb d_T_hasField_5 rfl (lv_at hl 0 rfl) ?_
    refine va_get (D := D) (ci := 2) (v := .ref (ad j)) (C := R_T) (T := F_T) (N := 4) hx hb hts (fun w h => kS1 w (i_T w h)) hown hK hP i (wl_at hi hT) rfl 0 (by decide) (hts _ (kS1 _ m_T_15)) (fun _ h9 => h9) rfl d_T_hasField_6 ?_
    refine va_alen (v := nI len) hx hb hK hP j 0 (wl_at hj hF) rfl rfl d_T_hasField_9 ?_
    refine lv_icmp_ge (tgt := 17) hx hb d_T_hasField_10 (by decide) (fun c_10 => ?_) (fun c_10 => ?_)
    · refine lv_iconst (v := 0) hx hb d_T_hasField_17 (by decide) ?_
      have hv : tHasF len x = 0 := by simp [tHasF, c_1, c_10]
      exact W.zret (v := 0) hx hb hr rfl (fun t ht hW => ⟨by rw [hv], ht⟩) (fun q hq => by cases hq) d_T_hasField_18
    · refine lv_iconst (v := 1) hx hb d_T_hasField_13 (by decide) ?_
      refine lv_goto (tgt := 18) hx hb d_T_hasField_14 (by decide) ?_
      have hv : tHasF len x = 1 := by simp [tHasF, c_1, c_10]
      exact W.zret (v := 1) hx hb hr rfl (fun t ht hW => ⟨by rw [hv], ht⟩) (fun q hq => by cases hq) d_T_hasField_18
set_option maxHeartbeats 4000000 in
set_option maxRecDepth 100000 in
/-- hasWeakField() -/
theorem c_T_hasWeakField (l : Launch) (D : va_G) (ty : Nat → ClassId) (ad : Nat → Nat) (sz : Nat) (N : Nat) (c : Nat → va_E) (i j : Nat) (v1 v2 v3 : Int32) (len : Nat) (r : Nat → Int32) (hi : i < N) (hj : j < N) (hT : c i = .inr (2, [.ref (ad j), .int v1, .int v2, .int v3])) (hF : c j = .inl (ty 0, len, .inl r)) : Met l y_T_hasWeakField w_T_hasWeakField ({ frames := 1, cells := 0, slots := 0, locals := 21 }) (va_Pc [.ref (ad i)] (kP D kCl (kTy ty) (wL N ad c) sz)) (kQr (some (.int (tHasW v1 len)))) 0 0 (fun _ => False) := by
  refine Met.ofW (cc := b_T_hasWeakField) (maxL := 1) (ret := (some .boolean)) (by decide) rfl ?_
  intro p e s m args below meth cd s₁ B hml hv
  obtain ⟨rfl, hsz, hP, hK, hD0⟩ := hv
  have hx := B.exec
  have hb := B.bytes
  have hr := B.returns
  have hts := atoms_spec (ws := w_T_hasWeakField) B.pre
  have hown : s.vm.findClass R_T = some m.cls := findClass_of_methodNamed B.named
  have hlocks := B.notSynchronized
  subst hsz
  have hD := hD0
  have hl := lv_entry ([.ref (ad i)]) (n := 1) (Nat.le_of_ble_eq_true rfl)
  rw [lg_entry_eq]
  generalize (lg_sl ([.ref (ad i)]) ++ List.replicate (1 - (lg_sl ([.ref (ad i)])).length) Slot.unset).toArray = ls at hl ⊢
  have hl : lv_has ls 1 [(0, .ref (ad i))] := hl
  refine lv_aload_n hx hb d_T_hasWeakField_0 rfl (lv_at hl 0 rfl) ?_
  refine va_get (D := D) (ci := 2) (v := .int v1) (C := R_T) (T := F_T) (N := 4) hx hb hts (fun w h => kS1 w (i_T w h)) hown hK hP i (wl_at hi hT) rfl 1 (by decide) (hts _ (kS1 _ m_T_9)) (fun _ h9 => h9) rfl d_T_hasWeakField_1 ?_
  refine lv_iconst (v := 1) hx hb d_T_hasWeakField_4 (by decide) ?_
  refine lv_icmp_ne (tgt := 20) hx hb d_T_hasWeakField_5 (by decide) (fun c_5 => ?_) (fun c_5 => ?_)
  · refine lv_iconst (v := 0) hx hb d_T_hasWeakField_20 (by decide) ?_
    have hv : tHasW v1 len = 0 := by simp [tHasW, c_5]
    exact W.zret (v := 0) hx hb hr rfl (fun t ht hW => ⟨by rw [hv], ht⟩) (fun q hq => by cases hq) d_T_hasWeakField_21
  · refine lv_aload_n hx hb d_T_hasWeakField_8 rfl (lv_at hl 0 rfl) ?_
    refine lv_iconst (v := 0) hx hb d_T_hasWeakField_9 (by decide) ?_
    refine kc_R (va_runV (As := [.int 0]) (rest := []) ⟨hx, hb, hml, hown, hts⟩ (c_T_hasField l D ty ad _ N c i j v1 v2 v3 len r hi hj hT hF 0) (cwV 1 hts (kGV kS1 m_T_26 m_im_T_hasField m_sel_T_hasField m_ini_T m_code_T_hasField) rfl rfl rfl (by decide +kernel) ⟨Nat.le_of_ble_eq_true rfl, Nat.le_of_ble_eq_true rfl⟩) ⟨kP_blind, va_recv hK hP (ci := 2) (q0 := i) rfl (wl_at hi hT), fun U hU hW => ⟨rfl, kP_at hK hP hD U hU hW⟩⟩ rfl rfl hl.1 rfl (lv_room (Nat.le_of_ble_eq_true rfl)) d_T_hasWeakField_10 ⟨Nat.le_of_ble_eq_true rfl, Nat.le_of_ble_eq_true rfl⟩) ?_
    refine lv_if_eq (tgt := 20) hx hb d_T_hasWeakField_13 (by decide) (fun c_13 => ?_) (fun c_13 => ?_)
    · refine lv_iconst (v := 0) hx hb d_T_hasWeakField_20 (by decide) ?_
      have hv : tHasW v1 len = 0 := by simp [tHasW, c_5, c_13]
      exact W.zret (v := 0) hx hb hr rfl (fun t ht hW => ⟨by rw [hv], ht⟩) (fun q hq => by cases hq) d_T_hasWeakField_21
    · refine lv_iconst (v := 1) hx hb d_T_hasWeakField_16 (by decide) ?_
      refine lv_goto (tgt := 21) hx hb d_T_hasWeakField_17 (by decide) ?_
      have hv : tHasW v1 len = 1 := by simp [tHasW, c_5, c_13]
      exact W.zret (v := 1) hx hb hr rfl (fun t ht hW => ⟨by rw [hv], ht⟩) (fun q hq => by cases hq) d_T_hasWeakField_21
set_option maxHeartbeats 4000000 in
set_option maxRecDepth 100000 in
/-- waitsForQueue() -/
theorem c_T_waitsForQueue (l : Launch) (D : va_G) (ty : Nat → ClassId) (ad : Nat → Nat) (sz : Nat) (N : Nat) (c : Nat → va_E) (i j : Nat) (v1 v2 v3 : Int32) (len : Nat) (r : Nat → Int32) (hi : i < N) (hj : j < N) (hT : c i = .inr (2, [.ref (ad j), .int v1, .int v2, .int v3])) (hF : c j = .inl (ty 0, len, .inl r)) : Met l y_T_waitsForQueue w_T_waitsForQueue ({ frames := 0, cells := 0, slots := 0, locals := 0 }) (va_Pc [.ref (ad i)] (kP D kCl (kTy ty) (wL N ad c) sz)) (kQr (some (.int (tWait v1 v2)))) 0 0 (fun _ => False) := by
  refine Met.ofW (cc := b_T_waitsForQueue) (maxL := 1) (ret := (some .boolean)) (by decide) rfl ?_
  intro p e s m args below meth cd s₁ B hml hv
  obtain ⟨rfl, hsz, hP, hK, hD0⟩ := hv
  have hx := B.exec
  have hb := B.bytes
  have hr := B.returns
  have hts := atoms_spec (ws := w_T_waitsForQueue) B.pre
  have hown : s.vm.findClass R_T = some m.cls := findClass_of_methodNamed B.named
  have hlocks := B.notSynchronized
  subst hsz
  have hD := hD0
  have hl := lv_entry ([.ref (ad i)]) (n := 1) (Nat.le_of_ble_eq_true rfl)
  rw [lg_entry_eq]
  generalize (lg_sl ([.ref (ad i)]) ++ List.replicate (1 - (lg_sl ([.ref (ad i)])).length) Slot.unset).toArray = ls at hl ⊢
  have hl : lv_has ls 1 [(0, .ref (ad i))] := hl
  refine lv_aload_n hx hb d_T_waitsForQueue_0 rfl (lv_at hl 0 rfl) ?_
  refine va_get (D := D) (ci := 2) (v := .int v1) (C := R_T) (T := F_T) (N := 4) hx hb hts (fun w h => kS1 w (i_T w h)) hown hK hP i (wl_at hi hT) rfl 1 (by decide) (hts _ (kS1 _ m_T_9)) (fun _ h9 => h9) rfl d_T_waitsForQueue_1 ?_
  refine lv_iconst (v := 2) hx hb d_T_waitsForQueue_4 (by decide) ?_
  refine lv_icmp_ne (tgt := 19) hx hb d_T_waitsForQueue_5 (by decide) (fun c_5 => ?_) (fun c_5 => ?_)
  · refine lv_iconst (v := 0) hx hb d_T_waitsForQueue_19 (by decide) ?_
    have hv : tWait v1 v2 = 0 := by simp [tWait, c_5]
    exact W.zret (v := 0) hx hb hr rfl (fun t ht hW => ⟨by rw [hv], ht⟩) (fun q hq => by cases hq) d_T_waitsForQueue_20
  · refine lv_aload_n hx hb d_T_waitsForQueue_8 rfl (lv_at hl 0 rfl) ?_
    refine va_get (D := D) (ci := 2) (v := .int v2) (C := R_T) (T := F_T) (N := 4) hx hb hts (fun w h => kS1 w (i_T w h)) hown hK hP i (wl_at hi hT) rfl 2 (by decide) (hts _ (kS1 _ m_T_19)) (fun _ h9 => h9) rfl d_T_waitsForQueue_9 ?_
    refine lv_if_ne (tgt := 19) hx hb d_T_waitsForQueue_12 (by decide) (fun c_12 => ?_) (fun c_12 => ?_)
    · refine lv_iconst (v := 0) hx hb d_T_waitsForQueue_19 (by decide) ?_
      have hv : tWait v1 v2 = 0 := by simp [tWait, c_5, c_12]
      exact W.zret (v := 0) hx hb hr rfl (fun t ht hW => ⟨by rw [hv], ht⟩) (fun q hq => by cases hq) d_T_waitsForQueue_20
    · refine lv_iconst (v := 1) hx hb d_T_waitsForQueue_15 (by decide) ?_
      refine lv_goto (tgt := 20) hx hb d_T_waitsForQueue_16 (by decide) ?_
      have hv : tWait v1 v2 = 1 := by simp [tWait, c_5, c_12]
      exact W.zret (v := 1) hx hb hr rfl (fun t ht hW => ⟨by rw [hv], ht⟩) (fun q hq => by cases hq) d_T_waitsForQueue_20
end
section
/-! Part 06: the keeper's reads. -/
set_option maxHeartbeats 4000000 in
set_option maxRecDepth 100000 in
/-- thingOrNull(x) -/
theorem c_K_thingOrNull (l : Launch) (D : va_G) (ty : Nat → ClassId) (ad : Nat → Nat) (sz : Nat) (N : Nat) (c : Nat → va_E) (f : Nat → Int32) (hN : 4 ≤ N) (h0 : c 0 = .inr (0, kFs ad f)) (th : Nat → Bool) (h1 : c 1 = .inl (ty 2, 300, .inr (.inr (.inr (.inr (thf ad th)))))) (x : Int32) : Met l y_K_thingOrNull w_K_thingOrNull ({ frames := 0, cells := 0, slots := 0, locals := 0 }) (va_Pc [.ref (ad 0), .int x] (kP D kCl (kTy ty) (wL N ad c) sz)) (kQr (some (tOr ad th x))) 0 0 (fun _ => False) := by
  refine Met.ofW (cc := b_K_thingOrNull) (maxL := 2) (ret := (some (.object "WillKeeper$Thing"))) (by decide) rfl ?_
  intro p e s m args below meth cd s₁ B hml hv
  obtain ⟨rfl, hsz, hP, hK, hD0⟩ := hv
  have hx := B.exec
  have hb := B.bytes
  have hr := B.returns
  have hts := atoms_spec (ws := w_K_thingOrNull) B.pre
  have hown : s.vm.findClass R_K = some m.cls := findClass_of_methodNamed B.named
  have hlocks := B.notSynchronized
  subst hsz
  have hD := hD0
  have hl := lv_entry ([.ref (ad 0), .int x]) (n := 2) (Nat.le_of_ble_eq_true rfl)
  rw [lg_entry_eq]
  generalize (lg_sl ([.ref (ad 0), .int x]) ++ List.replicate (2 - (lg_sl ([.ref (ad 0), .int x])).length) Slot.unset).toArray = ls at hl ⊢
  have hl : lv_has ls 2 [(0, .ref (ad 0)), (1, .int x)] := hl
  have hN0 : 0 < N := by omega
  have hN1 : 1 < N := by omega
  have hN3 : 3 < N := by omega
  refine lv_iload_n hx hb d_K_thingOrNull_0 rfl (lv_at hl 1 rfl) ?_
  refine lv_if_lt (tgt := 22) hx hb d_K_thingOrNull_1 (by decide) (fun c_1 => ?_) (fun c_1 => ?_)
  · refine lv_null hx hb d_K_thingOrNull_22 ?_
    have hv : tOr ad th x = .null := by simp [tOr, c_1]
    exact W.aret (v := .null) hx hb hr (Or.inl ⟨_, rfl⟩) (Or.inl rfl) (fun t ht hW => ⟨by rw [hv], ht⟩) (fun q hq => by cases hq) d_K_thingOrNull_23
  · refine lv_iload_n hx hb d_K_thingOrNull_4 rfl (lv_at hl 1 rfl) ?_
    refine lv_aload_n hx hb d_K_thingOrNull_5 rfl (lv_at hl 0 rfl) ?_
    refine va_get (D := D) (ci := 0) (v := .ref (ad 1)) (C := R_K) (T := F_K) (N := 12) hx hb hts (fun w h => kS1 w (i_K w h)) hown hK hP 0 (wl_at hN0 h0) rfl 0 (by decide) (hts _ (kS1 _ m_K_11)) (fun _ h9 => h9) rfl d_K_thingOrNull_6 ?_
    refine va_alen (v := 300) hx hb hK hP 1 2 (wl_at hN1 h1) rfl rfl d_K_thingOrNull_9 ?_
    refine lv_icmp_ge (tgt := 22) hx hb d_K_thingOrNull_10 (by decide) (fun c_10 => ?_) (fun c_10 => ?_)
    · refine lv_null hx hb d_K_thingOrNull_22 ?_
      have hv : tOr ad th x = .null := by simp [tOr, c_1, c_10]
      exact W.aret (v := .null) hx hb hr (Or.inl ⟨_, rfl⟩) (Or.inl rfl) (fun t ht hW => ⟨by rw [hv], ht⟩) (fun q hq => by cases hq) d_K_thingOrNull_23
    · refine lv_aload_n hx hb d_K_thingOrNull_13 rfl (lv_at hl 0 rfl) ?_
      refine va_get (D := D) (ci := 0) (v := .ref (ad 1)) (C := R_K) (T := F_K) (N := 12) hx hb hts (fun w h => kS1 w (i_K w h)) hown hK hP 0 (wl_at hN0 h0) rfl 0 (by decide) (hts _ (kS1 _ m_K_11)) (fun _ h9 => h9) rfl d_K_thingOrNull_14 ?_
      refine lv_iload_n hx hb d_K_thingOrNull_17 rfl (lv_at hl 1 rfl) ?_
      refine va_aldq (f := thf ad th) hx hb hK hP 1 2 (wl_at hN1 h1) rfl (kin c_1 c_10 rfl) d_K_thingOrNull_18 ?_
      refine lv_goto (tgt := 23) hx hb d_K_thingOrNull_19 (by decide) ?_
      have hv : tOr ad th x = va_rf ((thf ad th) x.toNatClampNeg) := by simp [tOr, c_1, c_10]
      exact W.aret (v := va_rf ((thf ad th) x.toNatClampNeg)) hx hb hr (Or.inl ⟨_, rfl⟩) (va_rf_or _) (fun t ht hW => ⟨by rw [hv], ht⟩) (fun q hq => by cases hq) d_K_thingOrNull_23
set_option maxHeartbeats 4000000 in
set_option maxRecDepth 100000 in
/-- queueSize() -/
theorem c_K_queueSize (l : Launch) (D : va_G) (ty : Nat → ClassId) (ad : Nat → Nat) (sz : Nat) (N : Nat) (c : Nat → va_E) (f : Nat → Int32) (hN : 4 ≤ N) (h0 : c 0 = .inr (0, kFs ad f)) : Met l y_K_queueSize w_K_queueSize ({ frames := 0, cells := 0, slots := 0, locals := 0 }) (va_Pc [.ref (ad 0)] (kP D kCl (kTy ty) (wL N ad c) sz)) (kQr (some (.int (f 4 - f 3)))) 0 0 (fun _ => False) := by
  refine Met.ofW (cc := b_K_queueSize) (maxL := 1) (ret := (some .int)) (by decide) rfl ?_
  intro p e s m args below meth cd s₁ B hml hv
  obtain ⟨rfl, hsz, hP, hK, hD0⟩ := hv
  have hx := B.exec
  have hb := B.bytes
  have hr := B.returns
  have hts := atoms_spec (ws := w_K_queueSize) B.pre
  have hown : s.vm.findClass R_K = some m.cls := findClass_of_methodNamed B.named
  have hlocks := B.notSynchronized
  subst hsz
  have hD := hD0
  have hl := lv_entry ([.ref (ad 0)]) (n := 1) (Nat.le_of_ble_eq_true rfl)
  rw [lg_entry_eq]
  generalize (lg_sl ([.ref (ad 0)]) ++ List.replicate (1 - (lg_sl ([.ref (ad 0)])).length) Slot.unset).toArray = ls at hl ⊢
  have hl : lv_has ls 1 [(0, .ref (ad 0))] := hl
  have hN0 : 0 < N := by omega
  have hN1 : 1 < N := by omega
  have hN3 : 3 < N := by omega
  refine lv_aload_n hx hb d_K_queueSize_0 rfl (lv_at hl 0 rfl) ?_
  refine va_get (D := D) (ci := 0) (v := .int (f 4)) (C := R_K) (T := F_K) (N := 12) hx hb hts (fun w h => kS1 w (i_K w h)) hown hK hP 0 (wl_at hN0 h0) rfl 4 (by decide) (hts _ (kS1 _ m_K_143)) (fun _ h9 => h9) rfl d_K_queueSize_1 ?_
  refine lv_aload_n hx hb d_K_queueSize_4 rfl (lv_at hl 0 rfl) ?_
  refine va_get (D := D) (ci := 0) (v := .int (f 3)) (C := R_K) (T := F_K) (N := 12) hx hb hts (fun w h => kS1 w (i_K w h)) hown hK hP 0 (wl_at hN0 h0) rfl 3 (by decide) (hts _ (kS1 _ m_K_95)) (fun _ h9 => h9) rfl d_K_queueSize_5 ?_
  refine lv_isub hx hb d_K_queueSize_8 ?_
  have hv : f 4 - f 3 = (f 4) - (f 3) := by simp []
  exact W.iret (v := (f 4) - (f 3)) hx hb hr (fun t ht hW => ⟨by rw [hv], ht⟩) (fun q hq => by cases hq) d_K_queueSize_9
set_option maxHeartbeats 4000000 in
set_option maxRecDepth 100000 in
/-- queuePlace(x) -/
theorem c_K_queuePlace (l : Launch) (D : va_G) (ty : Nat → ClassId) (ad : Nat → Nat) (sz : Nat) (N : Nat) (c : Nat → va_E) (f : Nat → Int32) (hN : 4 ≤ N) (h0 : c 0 = .inr (0, kFs ad f)) (qu : Nat → Int32) (h3 : c 3 = .inl (ty 0, 300, .inl qu)) (x : Int32) : Met l y_K_queuePlace w_K_queuePlace ({ frames := 1, cells := 0, slots := 0, locals := 20 }) (va_Pc [.ref (ad 0), .int x] (kP D kCl (kTy ty) (wL N ad c) sz)) (kQr (some (.int (kQp f qu x)))) 0 0 (fun _ => False) := by
  refine Met.ofW (cc := b_K_queuePlace) (maxL := 3) (ret := (some .int)) (by decide) rfl ?_
  intro p e s m args below meth cd s₁ B hml hv
  obtain ⟨rfl, hsz, hP, hK, hD0⟩ := hv
  have hx := B.exec
  have hb := B.bytes
  have hr := B.returns
  have hts := atoms_spec (ws := w_K_queuePlace) B.pre
  have hown : s.vm.findClass R_K = some m.cls := findClass_of_methodNamed B.named
  have hlocks := B.notSynchronized
  subst hsz
  have hD := hD0
  have hl := lv_entry ([.ref (ad 0), .int x]) (n := 3) (Nat.le_of_ble_eq_true rfl)
  rw [lg_entry_eq]
  generalize (lg_sl ([.ref (ad 0), .int x]) ++ List.replicate (3 - (lg_sl ([.ref (ad 0), .int x])).length) Slot.unset).toArray = ls at hl ⊢
  have hl : lv_has ls 3 [(0, .ref (ad 0)), (1, .int x)] := hl
  have hN0 : 0 < N := by omega
  have hN1 : 1 < N := by omega
  have hN3 : 3 < N := by omega
  refine lv_iload_n hx hb d_K_queuePlace_0 rfl (lv_at hl 1 rfl) ?_
  refine lv_if_lt (tgt := 12) hx hb d_K_queuePlace_1 (by decide) (fun c_1 => ?_) (fun c_1 => ?_)
  · refine lv_iconst (v := (-1)) hx hb d_K_queuePlace_12 (by decide) ?_
    have hv : kQp f qu x = (-1) := by simp [kQp, c_1]
    exact W.iret (v := (-1)) hx hb hr (fun t ht hW => ⟨by rw [hv], ht⟩) (fun q hq => by cases hq) d_K_queuePlace_13
  · refine lv_iload_n hx hb d_K_queuePlace_4 rfl (lv_at hl 1 rfl) ?_
    refine lv_aload_n hx hb d_K_queuePlace_5 rfl (lv_at hl 0 rfl) ?_
    refine kc_R (va_runV (As := []) (rest := [.int x]) ⟨hx, hb, hml, hown, hts⟩ (c_K_queueSize l D ty ad _ N c f hN h0) (cwV 0 hts (kGV kS1 m_K_88 m_im_K_queueSize m_sel_K_queueSize m_ini_K m_code_K_queueSize) rfl rfl rfl (by decide +kernel) ⟨Nat.le_of_ble_eq_true rfl, Nat.le_of_ble_eq_true rfl⟩) ⟨kP_blind, va_recv hK hP (ci := 0) (q0 := 0) rfl (wl_at hN0 h0), fun U hU hW => ⟨rfl, kP_at hK hP hD U hU hW⟩⟩ rfl rfl hl.1 rfl (lv_room (Nat.le_of_ble_eq_true rfl)) d_K_queuePlace_6 ⟨Nat.le_of_ble_eq_true rfl, Nat.le_of_ble_eq_true rfl⟩) ?_
    refine lv_icmp_lt (tgt := 14) hx hb d_K_queuePlace_9 (by decide) (fun c_9 => ?_) (fun c_9 => ?_)
    · refine lv_aload_n hx hb d_K_queuePlace_14 rfl (lv_at hl 0 rfl) ?_
      refine va_get (D := D) (ci := 0) (v := .int (f 3)) (C := R_K) (T := F_K) (N := 12) hx hb hts (fun w h => kS1 w (i_K w h)) hown hK hP 0 (wl_at hN0 h0) rfl 3 (by decide) (hts _ (kS1 _ m_K_95)) (fun _ h9 => h9) rfl d_K_queuePlace_15 ?_
      refine lv_iload_n hx hb d_K_queuePlace_18 rfl (lv_at hl 1 rfl) ?_
      refine lv_iadd hx hb d_K_queuePlace_19 ?_
      refine lv_istore_n (lv' := [(2, .int ((f 3) + x)), (0, .ref (ad 0)), (1, .int x)]) hx hb d_K_queuePlace_20 rfl hl (by decide) rfl (fun ls hl => ?_)
      refine lv_iload_n hx hb d_K_queuePlace_21 rfl (lv_at hl 0 rfl) ?_
      refine lv_if_lt (tgt := 43) hx hb d_K_queuePlace_22 (by decide) (fun c_22 => ?_) (fun c_22 => ?_)
      · refine lv_iconst (v := (-1)) hx hb d_K_queuePlace_43 (by decide) ?_
        have hv : kQp f qu x = (-1) := by simp [kQp, c_1, c_9, c_22]
        exact W.iret (v := (-1)) hx hb hr (fun t ht hW => ⟨by rw [hv], ht⟩) (fun q hq => by cases hq) d_K_queuePlace_44
      · refine lv_iload_n hx hb d_K_queuePlace_25 rfl (lv_at hl 0 rfl) ?_
        refine lv_aload_n hx hb d_K_queuePlace_26 rfl (lv_at hl 1 rfl) ?_
        refine va_get (D := D) (ci := 0) (v := .ref (ad 3)) (C := R_K) (T := F_K) (N := 12) hx hb hts (fun w h => kS1 w (i_K w h)) hown hK hP 0 (wl_at hN0 h0) rfl 2 (by decide) (hts _ (kS1 _ m_K_19)) (fun _ h9 => h9) rfl d_K_queuePlace_27 ?_
        refine va_alen (v := 300) hx hb hK hP 3 0 (wl_at hN3 h3) rfl rfl d_K_queuePlace_30 ?_
        refine lv_icmp_ge (tgt := 43) hx hb d_K_queuePlace_31 (by decide) (fun c_31 => ?_) (fun c_31 => ?_)
        · refine lv_iconst (v := (-1)) hx hb d_K_queuePlace_43 (by decide) ?_
          have hv : kQp f qu x = (-1) := by simp [kQp, c_1, c_9, c_22, c_31]
          exact W.iret (v := (-1)) hx hb hr (fun t ht hW => ⟨by rw [hv], ht⟩) (fun q hq => by cases hq) d_K_queuePlace_44
        · refine lv_aload_n hx hb d_K_queuePlace_34 rfl (lv_at hl 1 rfl) ?_
          refine va_get (D := D) (ci := 0) (v := .ref (ad 3)) (C := R_K) (T := F_K) (N := 12) hx hb hts (fun w h => kS1 w (i_K w h)) hown hK hP 0 (wl_at hN0 h0) rfl 2 (by decide) (hts _ (kS1 _ m_K_19)) (fun _ h9 => h9) rfl d_K_queuePlace_35 ?_
          refine lv_iload_n hx hb d_K_queuePlace_38 rfl (lv_at hl 0 rfl) ?_
          refine va_iald (f := qu) hx hb hK hP 3 0 (wl_at hN3 h3) rfl (kin c_22 c_31 rfl) d_K_queuePlace_39 ?_
          refine lv_goto (tgt := 44) hx hb d_K_queuePlace_40 (by decide) ?_
          have hv : kQp f qu x = qu (((f 3) + x).toNatClampNeg) := by simp [kQp, c_1, c_9, c_22, c_31]
          exact W.iret (v := qu (((f 3) + x).toNatClampNeg)) hx hb hr (fun t ht hW => ⟨by rw [hv], ht⟩) (fun q hq => by cases hq) d_K_queuePlace_44
    · refine lv_iconst (v := (-1)) hx hb d_K_queuePlace_12 (by decide) ?_
      have hv : kQp f qu x = (-1) := by simp [kQp, c_1, c_9]
      exact W.iret (v := (-1)) hx hb hr (fun t ht hW => ⟨by rw [hv], ht⟩) (fun q hq => by cases hq) d_K_queuePlace_13
end
section
/-! Part 07: the searches. -/
set_option maxHeartbeats 4000000 in
set_option maxRecDepth 100000 in
/-- addRootsAndQueue(search) -/
theorem c_K_addRootsAndQueue (l : Launch) (D : va_G) (ty : Nat → ClassId) (ad : Nat → Nat) (sz : Nat) (n : Nat) (f : Nat → Int32) (th : Nat → Bool) (rt qu : Nat → Int32) (b w : SR) (T : Nat → TH) (g : Nat → Int32) (a : Nat → Nat → Int32) (o : Nat → Int64) (si sj sk : Nat) (S : SR) (hi : 4 ≤ si ∧ si < 10) (hj : 4 ≤ sj ∧ sj < 10) (hk : 4 ≤ sk ∧ sk < 10) (hji : sj ≠ si) (hki : sk ≠ si) (hkj : sk ≠ sj) : Met l y_K_addRootsAndQueue w_K_addRootsAndQueue ({ frames := 2, cells := 0, slots := 0, locals := 42 }) (va_Pc [.ref (ad 0), .ref (ad si)] (kP D kCl (kTy ty) (wL (22 + 2 * n) ad (sUp ty ad (gc ty ad f th rt qu b w T g a o) si sj sk S)) sz)) (va_Qv (fun u9 : va_W => u9 = (wL (22 + 2 * n) ad (sUp ty ad (gc ty ad f th rt qu b w T g a o) si sj sk (addRQ f rt qu S)))) (kB D kCl (kTy ty) (va_A (wL (22 + 2 * n) ad (sUp ty ad (gc ty ad f th rt qu b w T g a o) si sj sk S)) sz)) (va_A (wL (22 + 2 * n) ad (sUp ty ad (gc ty ad f th rt qu b w T g a o) si sj sk S)) sz)) 0 0 (va_A (wL (22 + 2 * n) ad (sUp ty ad (gc ty ad f th rt qu b w T g a o) si sj sk S)) sz) := by
  refine Met.ofW (cc := b_K_addRootsAndQueue) (maxL := 4) (ret := none) (by decide) rfl ?_
  intro p e s m args below meth cd s₁ B hml hv
  obtain ⟨rfl, hsz, hP, hK, hD0⟩ := hv
  have hx := B.exec
  have hb := B.bytes
  have hr := B.returns
  have hts := atoms_spec (ws := w_K_addRootsAndQueue) B.pre
  have hown : s.vm.findClass R_K = some m.cls := findClass_of_methodNamed B.named
  have hlocks := B.notSynchronized
  subst hsz
  have hD := hD0.self (sz := s.heap.size)
  generalize hAe : va_A (wL (22 + 2 * n) ad (sUp ty ad (gc ty ad f th rt qu b w T g a o) si sj sk S)) s.heap.size = A at hD ⊢
  have hA : ∀ q : Nat, s.heap.size ≤ q → A q := fun q h => by rw [← hAe]; exact Or.inr h
  have hS : va_S A s.heap s.heap [] := va_S.rf
  have hl := lv_entry ([.ref (ad 0), .ref (ad si)]) (n := 4) (Nat.le_of_ble_eq_true rfl)
  rw [lg_entry_eq]
  generalize (lg_sl ([.ref (ad 0), .ref (ad si)]) ++ List.replicate (4 - (lg_sl ([.ref (ad 0), .ref (ad si)])).length) Slot.unset).toArray = ls at hl ⊢
  have hl : lv_has ls 4 [(0, .ref (ad 0)), (1, .ref (ad si))] := hl
  refine lv_iconst (v := 0) hx hb d_K_addRootsAndQueue_0 (by decide) ?_
  refine lv_istore_n (lv' := [(2, .int 0), (0, .ref (ad 0)), (1, .ref (ad si))]) hx hb d_K_addRootsAndQueue_1 rfl hl (by decide) rfl (fun ls hl => ?_)
  have L1 : ∀ (Q : State → Prop) (rem i : Nat) (H : Heap) (locs : List Loc) (ls : Array Slot), i + rem = 16 → va_P D kCl (wL (22 + 2 * n) ad (sUp ty ad (gc ty ad f th rt qu b w T g a o) si sj sk (it (fun i S => sAdd S (rt i)) i S))) H → va_D A (wL (22 + 2 * n) ad (sUp ty ad (gc ty ad f th rt qu b w T g a o) si sj sk (it (fun i S => sAdd S (rt i)) i S))) → va_S A s.heap H locs → lv_has ls 4 [(0, .ref (ad 0)), (1, .ref (ad si)), (2, .int (nI i))] → (∀ (H : Heap) (locs : List Loc) (ls : Array Slot), va_P D kCl (wL (22 + 2 * n) ad (sUp ty ad (gc ty ad f th rt qu b w T g a o) si sj sk (it (fun i S => sAdd S (rt i)) 16 S))) H → va_D A (wL (22 + 2 * n) ad (sUp ty ad (gc ty ad f th rt qu b w T g a o) si sj sk (it (fun i S => sAdd S (rt i)) 16 S))) → va_S A s.heap H locs → lv_has ls 4 [(0, .ref (ad 0)), (1, .ref (ad si)), (2, .int (nI 16))] → W p l e (headSpec w_K_addRootsAndQueue ({ frames := 2, cells := 0, slots := 0, locals := 42 })).room s m ([.ref (ad 0), .ref (ad si)] : List Value).toArray below meth cd H locs 0 0 Q (F0 m 27 ls [])) → W p l e (headSpec w_K_addRootsAndQueue ({ frames := 2, cells := 0, slots := 0, locals := 42 })).room s m ([.ref (ad 0), .ref (ad si)] : List Value).toArray below meth cd H locs 0 0 Q (F0 m 2 ls []) := by
    intro Q rem
    induction rem with
    | zero =>
      intro i H locs ls hir_i hP hD hS hl kx
      obtain rfl : 16 = i := by omega
      refine lv_iload_n hx hb d_K_addRootsAndQueue_2 rfl (lv_at hl 2 rfl) ?_
      refine lv_aload_n hx hb d_K_addRootsAndQueue_3 rfl (lv_at hl 0 rfl) ?_
      refine va_get (D := D) (ci := 0) (v := .ref (ad 2)) (C := R_K) (T := F_K) (N := 12) hx hb hts (fun w h => kS1 w (i_K w h)) hown hK hP 0 (gs_n (by omega) (by omega) (by omega) (gw_0)) rfl 1 (by decide) (hts _ (kS1 _ m_K_15)) (fun _ h9 => h9) rfl d_K_addRootsAndQueue_4 ?_
      refine va_alen (v := 16) hx hb hK hP 2 0 (gs_n (by omega) (by omega) (by omega) (gw_2)) rfl rfl d_K_addRootsAndQueue_7 ?_
      refine lv_icmp_ge (tgt := 27) hx hb d_K_addRootsAndQueue_8 (by decide) (fun c_8' => ?_) (fun c_8' => absurd (nI_le (a := 16) (b := 16) (Nat.le_refl _) (by omega)) c_8')
      exact kx _ _ ls hP hD hS hl
    | succ rem ih =>
      intro i H locs ls hir_i hP hD hS hl kx
      have hlt_i : i < 16 := by omega
      refine lv_iload_n hx hb d_K_addRootsAndQueue_2 rfl (lv_at hl 2 rfl) ?_
      refine lv_aload_n hx hb d_K_addRootsAndQueue_3 rfl (lv_at hl 0 rfl) ?_
      refine va_get (D := D) (ci := 0) (v := .ref (ad 2)) (C := R_K) (T := F_K) (N := 12) hx hb hts (fun w h => kS1 w (i_K w h)) hown hK hP 0 (gs_n (by omega) (by omega) (by omega) (gw_0)) rfl 1 (by decide) (hts _ (kS1 _ m_K_15)) (fun _ h9 => h9) rfl d_K_addRootsAndQueue_4 ?_
      refine va_alen (v := 16) hx hb hK hP 2 0 (gs_n (by omega) (by omega) (by omega) (gw_2)) rfl rfl d_K_addRootsAndQueue_7 ?_
      refine lv_icmp_ge (tgt := 27) hx hb d_K_addRootsAndQueue_8 (by decide) (fun c_8' => absurd c_8' (nI_ge (b := 16) hlt_i (by omega))) (fun c_8' => ?_)
      refine lv_aload_n hx hb d_K_addRootsAndQueue_11 rfl (lv_at hl 1 rfl) ?_
      refine lv_aload_n hx hb d_K_addRootsAndQueue_12 rfl (lv_at hl 0 rfl) ?_
      refine va_get (D := D) (ci := 0) (v := .ref (ad 2)) (C := R_K) (T := F_K) (N := 12) hx hb hts (fun w h => kS1 w (i_K w h)) hown hK hP 0 (gs_n (by omega) (by omega) (by omega) (gw_0)) rfl 1 (by decide) (hts _ (kS1 _ m_K_15)) (fun _ h9 => h9) rfl d_K_addRootsAndQueue_13 ?_
      refine lv_iload_n hx hb d_K_addRootsAndQueue_16 rfl (lv_at hl 2 rfl) ?_
      refine va_iald (f := rt) hx hb hK hP 2 0 (gs_n (by omega) (by omega) (by omega) (gw_2)) rfl (vp_in_nI hlt_i (by omega)) d_K_addRootsAndQueue_17 ?_
      rw [nI_clamp (n := i) (by omega)]
      refine kc_v (va_runV (As := [.int (rt i)]) (rest := []) ⟨hx, hb, hml, hown, hts⟩ (c_S_add l D ty ad _ (22 + 2 * n) (gc ty ad f th rt qu b w T g a o) si sj sk (it (fun i S => sAdd S (rt i)) i S) (by omega) (by omega) (by omega) hji hki hkj (rt i)) (cwV 1 hts (kGV kS1 m_K_164 m_im_S_add m_sel_S_add m_ini_S m_code_S_add) rfl rfl rfl (by decide +kernel) ⟨Nat.le_of_ble_eq_true rfl, Nat.le_of_ble_eq_true rfl⟩) ⟨kP_blind, va_recv hK hP (ci := 1) (q0 := si) rfl (sw_o (S := it (fun i S => sAdd S (rt i)) i S) (by omega)), fun U hU hW => ⟨rfl, kP_at hK hP hD U hU hW⟩⟩ rfl rfl hl.1 rfl (lv_room (Nat.le_of_ble_eq_true rfl)) d_K_addRootsAndQueue_18 ⟨Nat.le_of_ble_eq_true rfl, Nat.le_of_ble_eq_true rfl⟩) hD hS hA (fun u H locs hu hP hD hS hz => ?_)
      subst hu
      refine lv_iinc (v := nI i + 1) (lv' := [(2, .int (nI i + 1)), (0, .ref (ad 0)), (1, .ref (ad si))]) hx hb d_K_addRootsAndQueue_21 hl (k := 2) rfl rfl (by decide) rfl (fun ls hl => ?_)
      refine lv_goto (tgt := 2) hx hb d_K_addRootsAndQueue_24 (by decide) ?_
      have hl := lv_sub (l' := [(0, .ref (ad 0)), (1, .ref (ad si)), (2, .int (nI i + 1))]) hl [1, 2, 0] rfl
      have hqq9 : (.int (nI i + 1) : Value) = .int (nI (i + 1)) := by rw [nI_1]
      rw [hqq9] at hl
      have hE : (wL (22 + 2 * n) ad (sUp ty ad (gc ty ad f th rt qu b w T g a o) si sj sk (sAdd (it (fun i S => sAdd S (rt i)) i S) (rt i))) : va_W) = wL (22 + 2 * n) ad (sUp ty ad (gc ty ad f th rt qu b w T g a o) si sj sk (it (fun i S => sAdd S (rt i)) (i + 1) S)) := by rfl
      have hP := kw_P hE hP
      have hD := kw_D hE hD
      exact ih (i + 1) _ _ ls (by omega) hP hD hS hl kx
  have hl := lv_sub (l' := [(0, .ref (ad 0)), (1, .ref (ad si)), (2, .int 0)]) hl [1, 2, 0] rfl
  have hqq9 : (.int 0 : Value) = .int (nI 0) := by rw [nI_0]
  rw [hqq9] at hl
  refine L1 _ (16 - 0) 0 _ _ ls (by omega) hP hD hS hl (fun H locs ls hP hD hS hl => ?_)
  refine lv_aload_n hx hb d_K_addRootsAndQueue_27 rfl (lv_at hl 0 rfl) ?_
  refine kc_R (va_runV (As := []) (rest := []) ⟨hx, hb, hml, hown, hts⟩ (c_K_queueSize l D ty ad _ (22 + 2 * n) (sUp ty ad (gc ty ad f th rt qu b w T g a o) si sj sk (it (fun i S => sAdd S (rt i)) 16 S)) f (by omega) (sUp_n (by omega) (by omega) (by omega))) (cwV 0 hts (kGV kS1 m_K_88 m_im_K_queueSize m_sel_K_queueSize m_ini_K m_code_K_queueSize) rfl rfl rfl (by decide +kernel) ⟨Nat.le_of_ble_eq_true rfl, Nat.le_of_ble_eq_true rfl⟩) ⟨kP_blind, va_recv hK hP (ci := 0) (q0 := 0) rfl (gs_n (by omega) (by omega) (by omega) (gw_0)), fun U hU hW => ⟨rfl, kP_at hK hP hD U hU hW⟩⟩ rfl rfl hl.1 rfl (lv_room (Nat.le_of_ble_eq_true rfl)) d_K_addRootsAndQueue_28 ⟨Nat.le_of_ble_eq_true rfl, Nat.le_of_ble_eq_true rfl⟩) ?_
  refine lv_istore_n (lv' := [(2, .int (f 4 - f 3)), (0, .ref (ad 0)), (1, .ref (ad si))]) hx hb d_K_addRootsAndQueue_31 rfl hl (by decide) rfl (fun ls hl => ?_)
  refine lv_iconst (v := 0) hx hb d_K_addRootsAndQueue_32 (by decide) ?_
  refine lv_istore_n (lv' := [(3, .int 0), (2, .int (f 4 - f 3)), (0, .ref (ad 0)), (1, .ref (ad si))]) hx hb d_K_addRootsAndQueue_33 rfl hl (by decide) rfl (fun ls hl => ?_)
  have L2 : ∀ (Q : State → Prop) (rem i : Nat) (H : Heap) (locs : List Loc) (ls : Array Slot), i + rem = (f 4 - f 3).toNatClampNeg → va_P D kCl (wL (22 + 2 * n) ad (sUp ty ad (gc ty ad f th rt qu b w T g a o) si sj sk (it (fun i S => sAdd S (kQp f qu (nI i))) i (it (fun i S => sAdd S (rt i)) 16 S)))) H → va_D A (wL (22 + 2 * n) ad (sUp ty ad (gc ty ad f th rt qu b w T g a o) si sj sk (it (fun i S => sAdd S (kQp f qu (nI i))) i (it (fun i S => sAdd S (rt i)) 16 S)))) → va_S A s.heap H locs → lv_has ls 4 [(0, .ref (ad 0)), (1, .ref (ad si)), (2, .int (f 4 - f 3)), (3, .int (nI i))] → (∀ (H : Heap) (locs : List Loc) (ls : Array Slot), va_P D kCl (wL (22 + 2 * n) ad (sUp ty ad (gc ty ad f th rt qu b w T g a o) si sj sk (it (fun i S => sAdd S (kQp f qu (nI i))) ((f 4 - f 3).toNatClampNeg) (it (fun i S => sAdd S (rt i)) 16 S)))) H → va_D A (wL (22 + 2 * n) ad (sUp ty ad (gc ty ad f th rt qu b w T g a o) si sj sk (it (fun i S => sAdd S (kQp f qu (nI i))) ((f 4 - f 3).toNatClampNeg) (it (fun i S => sAdd S (rt i)) 16 S)))) → va_S A s.heap H locs → lv_has ls 4 [(0, .ref (ad 0)), (1, .ref (ad si)), (2, .int (f 4 - f 3)), (3, .int (nI (f 4 - f 3).toNatClampNeg))] → W p l e (headSpec w_K_addRootsAndQueue ({ frames := 2, cells := 0, slots := 0, locals := 42 })).room s m ([.ref (ad 0), .ref (ad si)] : List Value).toArray below meth cd H locs 0 0 Q (F0 m 54 ls [])) → W p l e (headSpec w_K_addRootsAndQueue ({ frames := 2, cells := 0, slots := 0, locals := 42 })).room s m ([.ref (ad 0), .ref (ad si)] : List Value).toArray below meth cd H locs 0 0 Q (F0 m 34 ls []) := by
    intro Q rem
    induction rem with
    | zero =>
      intro i H locs ls hir_i hP hD hS hl kx
      obtain rfl : (f 4 - f 3).toNatClampNeg = i := by omega
      refine lv_iload_n hx hb d_K_addRootsAndQueue_34 rfl (lv_at hl 3 rfl) ?_
      refine lv_iload_n hx hb d_K_addRootsAndQueue_35 rfl (lv_at hl 2 rfl) ?_
      refine lv_icmp_ge (tgt := 54) hx hb d_K_addRootsAndQueue_36 (by decide) (fun c_36' => ?_) (fun c_36' => absurd kcl_le c_36')
      exact kx _ _ ls hP hD hS hl
    | succ rem ih =>
      intro i H locs ls hir_i hP hD hS hl kx
      have hlt_i : i < (f 4 - f 3).toNatClampNeg := by omega
      refine lv_iload_n hx hb d_K_addRootsAndQueue_34 rfl (lv_at hl 3 rfl) ?_
      refine lv_iload_n hx hb d_K_addRootsAndQueue_35 rfl (lv_at hl 2 rfl) ?_
      refine lv_icmp_ge (tgt := 54) hx hb d_K_addRootsAndQueue_36 (by decide) (fun c_36' => absurd c_36' (kcl_lt hlt_i)) (fun c_36' => ?_)
      refine lv_aload_n hx hb d_K_addRootsAndQueue_39 rfl (lv_at hl 1 rfl) ?_
      refine lv_aload_n hx hb d_K_addRootsAndQueue_40 rfl (lv_at hl 0 rfl) ?_
      refine lv_iload_n hx hb d_K_addRootsAndQueue_41 rfl (lv_at hl 3 rfl) ?_
      refine kc_R (va_runV (As := [.int (nI i)]) (rest := [.ref (ad si)]) ⟨hx, hb, hml, hown, hts⟩ (c_K_queuePlace l D ty ad _ (22 + 2 * n) (sUp ty ad (gc ty ad f th rt qu b w T g a o) si sj sk (it (fun i S => sAdd S (kQp f qu (nI i))) i (it (fun i S => sAdd S (rt i)) 16 S))) f (by omega) (sUp_n (by omega) (by omega) (by omega)) qu (sUp_n (by omega) (by omega) (by omega)) (nI i)) (cwV 1 hts (kGV kS1 m_K_91 m_im_K_queuePlace m_sel_K_queuePlace m_ini_K m_code_K_queuePlace) rfl rfl rfl (by decide +kernel) ⟨Nat.le_of_ble_eq_true rfl, Nat.le_of_ble_eq_true rfl⟩) ⟨kP_blind, va_recv hK hP (ci := 0) (q0 := 0) rfl (gs_n (by omega) (by omega) (by omega) (gw_0)), fun U hU hW => ⟨rfl, kP_at hK hP hD U hU hW⟩⟩ rfl rfl hl.1 rfl (lv_room (Nat.le_of_ble_eq_true rfl)) d_K_addRootsAndQueue_42 ⟨Nat.le_of_ble_eq_true rfl, Nat.le_of_ble_eq_true rfl⟩) ?_
      refine kc_v (va_runV (As := [.int (kQp f qu (nI i))]) (rest := []) ⟨hx, hb, hml, hown, hts⟩ (c_S_add l D ty ad _ (22 + 2 * n) (gc ty ad f th rt qu b w T g a o) si sj sk (it (fun i S => sAdd S (kQp f qu (nI i))) i (it (fun i S => sAdd S (rt i)) 16 S)) (by omega) (by omega) (by omega) hji hki hkj (kQp f qu (nI i))) (cwV 1 hts (kGV kS1 m_K_164 m_im_S_add m_sel_S_add m_ini_S m_code_S_add) rfl rfl rfl (by decide +kernel) ⟨Nat.le_of_ble_eq_true rfl, Nat.le_of_ble_eq_true rfl⟩) ⟨kP_blind, va_recv hK hP (ci := 1) (q0 := si) rfl (sw_o (S := it (fun i S => sAdd S (kQp f qu (nI i))) i (it (fun i S => sAdd S (rt i)) 16 S)) (by omega)), fun U hU hW => ⟨rfl, kP_at hK hP hD U hU hW⟩⟩ rfl rfl hl.1 rfl (lv_room (Nat.le_of_ble_eq_true rfl)) d_K_addRootsAndQueue_45 ⟨Nat.le_of_ble_eq_true rfl, Nat.le_of_ble_eq_true rfl⟩) hD hS hA (fun u H locs hu hP hD hS hz => ?_)
      subst hu
      refine lv_iinc (v := nI i + 1) (lv' := [(3, .int (nI i + 1)), (0, .ref (ad 0)), (1, .ref (ad si)), (2, .int (f 4 - f 3))]) hx hb d_K_addRootsAndQueue_48 hl (k := 3) rfl rfl (by decide) rfl (fun ls hl => ?_)
      refine lv_goto (tgt := 34) hx hb d_K_addRootsAndQueue_51 (by decide) ?_
      have hl := lv_sub (l' := [(0, .ref (ad 0)), (1, .ref (ad si)), (2, .int (f 4 - f 3)), (3, .int (nI i + 1))]) hl [1, 2, 3, 0] rfl
      have hqq9 : (.int (nI i + 1) : Value) = .int (nI (i + 1)) := by rw [nI_1]
      rw [hqq9] at hl
      have hE : (wL (22 + 2 * n) ad (sUp ty ad (gc ty ad f th rt qu b w T g a o) si sj sk (sAdd (it (fun i S => sAdd S (kQp f qu (nI i))) i (it (fun i S => sAdd S (rt i)) 16 S)) (kQp f qu (nI i)))) : va_W) = wL (22 + 2 * n) ad (sUp ty ad (gc ty ad f th rt qu b w T g a o) si sj sk (it (fun i S => sAdd S (kQp f qu (nI i))) (i + 1) (it (fun i S => sAdd S (rt i)) 16 S))) := by rfl
      have hP := kw_P hE hP
      have hD := kw_D hE hD
      exact ih (i + 1) _ _ ls (by omega) hP hD hS hl kx
  have hl := lv_sub (l' := [(0, .ref (ad 0)), (1, .ref (ad si)), (2, .int (f 4 - f 3)), (3, .int 0)]) hl [2, 3, 1, 0] rfl
  have hqq9 : (.int 0 : Value) = .int (nI 0) := by rw [nI_0]
  rw [hqq9] at hl
  refine L2 _ ((f 4 - f 3).toNatClampNeg - 0) 0 _ _ ls (by omega) hP hD hS hl (fun H locs ls hP hD hS hl => ?_)
  have hu : (wL (22 + 2 * n) ad (sUp ty ad (gc ty ad f th rt qu b w T g a o) si sj sk (it (fun i S => sAdd S (kQp f qu (nI i))) ((f 4 - f 3).toNatClampNeg) (it (fun i S => sAdd S (rt i)) 16 S))) : va_W) = wL (22 + 2 * n) ad (sUp ty ad (gc ty ad f th rt qu b w T g a o) si sj sk (addRQ f rt qu S)) := by rfl
  exact W.vret hx hb hr (fun t ht hW => ⟨⟨_, rfl, hu, by rw [ht]; exact hP, va_K.moved hW.alike hK, hD⟩, hS.F ht⟩) hS.2.2 d_K_addRootsAndQueue_54
set_option maxHeartbeats 4000000 in
set_option maxRecDepth 100000 in
/-- followFields(search, weakToo) -/
theorem c_K_followFields (l : Launch) (D : va_G) (ty : Nat → ClassId) (ad : Nat → Nat) (sz : Nat) (n : Nat) (f : Nat → Int32) (th : Nat → Bool) (rt qu : Nat → Int32) (b w : SR) (T : Nat → TH) (g : Nat → Int32) (a : Nat → Nat → Int32) (o : Nat → Int64) (si sj sk : Nat) (S : SR) (hi : 4 ≤ si ∧ si < 10) (hj : 4 ≤ sj ∧ sj < 10) (hk : 4 ≤ sk ∧ sk < 10) (hji : sj ≠ si) (hki : sk ≠ si) (hkj : sk ≠ sj) (wk : Int32) (hn : ∀ k, th k = true → k < n) (h12 : ∀ k, (T k).2.2.2.1 ≤ 12) : Met l y_K_followFields w_K_followFields ({ frames := 2, cells := 0, slots := 0, locals := 41 }) (va_Pc [.ref (ad 0), .ref (ad si), .int wk] (kP D kCl (kTy ty) (wL (22 + 2 * n) ad (sUp ty ad (gc ty ad f th rt qu b w T g a o) si sj sk S)) sz)) (va_Qv (fun u9 : va_W => u9 = (wL (22 + 2 * n) ad (sUp ty ad (gc ty ad f th rt qu b w T g a o) si sj sk (fF th T wk S)))) (kB D kCl (kTy ty) (va_A (wL (22 + 2 * n) ad (sUp ty ad (gc ty ad f th rt qu b w T g a o) si sj sk S)) sz)) (va_A (wL (22 + 2 * n) ad (sUp ty ad (gc ty ad f th rt qu b w T g a o) si sj sk S)) sz)) 0 0 (va_A (wL (22 + 2 * n) ad (sUp ty ad (gc ty ad f th rt qu b w T g a o) si sj sk S)) sz) := by
  refine Met.ofW (cc := b_K_followFields) (maxL := 7) (ret := none) (by decide) rfl ?_
  intro p e s m args below meth cd s₁ B hml hv
  obtain ⟨rfl, hsz, hP, hK, hD0⟩ := hv
  have hx := B.exec
  have hb := B.bytes
  have hr := B.returns
  have hts := atoms_spec (ws := w_K_followFields) B.pre
  have hown : s.vm.findClass R_K = some m.cls := findClass_of_methodNamed B.named
  have hlocks := B.notSynchronized
  subst hsz
  have hD := hD0.self (sz := s.heap.size)
  generalize hAe : va_A (wL (22 + 2 * n) ad (sUp ty ad (gc ty ad f th rt qu b w T g a o) si sj sk S)) s.heap.size = A at hD ⊢
  have hA : ∀ q : Nat, s.heap.size ≤ q → A q := fun q h => by rw [← hAe]; exact Or.inr h
  have hS : va_S A s.heap s.heap [] := va_S.rf
  have hl := lv_entry ([.ref (ad 0), .ref (ad si), .int wk]) (n := 7) (Nat.le_of_ble_eq_true rfl)
  rw [lg_entry_eq]
  generalize (lg_sl ([.ref (ad 0), .ref (ad si), .int wk]) ++ List.replicate (7 - (lg_sl ([.ref (ad 0), .ref (ad si), .int wk])).length) Slot.unset).toArray = ls at hl ⊢
  have hl : lv_has ls 7 [(0, .ref (ad 0)), (1, .ref (ad si)), (2, .int wk)] := hl
  refine lv_iconst (v := 0) hx hb d_K_followFields_0 (by decide) ?_
  refine lv_istore_n (lv' := [(3, .int 0), (0, .ref (ad 0)), (1, .ref (ad si)), (2, .int wk)]) hx hb d_K_followFields_1 rfl hl (by decide) rfl (fun ls hl => ?_)
  have L1 : ∀ (Q : State → Prop) (rem i : Nat) (H : Heap) (locs : List Loc) (ls : Array Slot), i + rem = 300 → va_P D kCl (wL (22 + 2 * n) ad (sUp ty ad (gc ty ad f th rt qu b w T g a o) si sj sk (it (fO th T wk) i S))) H → va_D A (wL (22 + 2 * n) ad (sUp ty ad (gc ty ad f th rt qu b w T g a o) si sj sk (it (fO th T wk) i S))) → va_S A s.heap H locs → lv_has ls 7 [(0, .ref (ad 0)), (1, .ref (ad si)), (2, .int wk), (3, .int (nI i))] → (∀ (H : Heap) (locs : List Loc) (ls : Array Slot), va_P D kCl (wL (22 + 2 * n) ad (sUp ty ad (gc ty ad f th rt qu b w T g a o) si sj sk (it (fO th T wk) 300 S))) H → va_D A (wL (22 + 2 * n) ad (sUp ty ad (gc ty ad f th rt qu b w T g a o) si sj sk (it (fO th T wk) 300 S))) → va_S A s.heap H locs → lv_has ls 7 [(0, .ref (ad 0)), (1, .ref (ad si)), (2, .int wk)] → W p l e (headSpec w_K_followFields ({ frames := 2, cells := 0, slots := 0, locals := 41 })).room s m ([.ref (ad 0), .ref (ad si), .int wk] : List Value).toArray below meth cd H locs 0 0 Q (F0 m 94 ls [])) → W p l e (headSpec w_K_followFields ({ frames := 2, cells := 0, slots := 0, locals := 41 })).room s m ([.ref (ad 0), .ref (ad si), .int wk] : List Value).toArray below meth cd H locs 0 0 Q (F0 m 2 ls []) := by
    intro Q rem
    induction rem with
    | zero =>
      intro i H locs ls hir_i hP hD hS hl kx
      obtain rfl : 300 = i := by omega
      refine lv_iload_n hx hb d_K_followFields_2 rfl (lv_at hl 3 rfl) ?_
      refine lv_sipush (v := 300) hx hb d_K_followFields_3 (by decide) ?_
      refine lv_icmp_ge (tgt := 94) hx hb d_K_followFields_6 (by decide) (fun c_6' => ?_) (fun c_6' => absurd (nI_le (a := 300) (b := 300) (Nat.le_refl _) (by omega)) c_6')
      have hl := lv_sub (l' := [(0, .ref (ad 0)), (1, .ref (ad si)), (2, .int wk)]) hl [0, 1, 2] rfl
      exact kx _ _ ls hP hD hS hl
    | succ rem ih =>
      intro i H locs ls hir_i hP hD hS hl kx
      have hlt_i : i < 300 := by omega
      refine lv_iload_n hx hb d_K_followFields_2 rfl (lv_at hl 3 rfl) ?_
      refine lv_sipush (v := 300) hx hb d_K_followFields_3 (by decide) ?_
      refine lv_icmp_ge (tgt := 94) hx hb d_K_followFields_6 (by decide) (fun c_6' => absurd c_6' (nI_ge (b := 300) hlt_i (by omega))) (fun c_6' => ?_)
      refine lv_iload_n hx hb d_K_followFields_9 rfl (lv_at hl 3 rfl) ?_
      refine lv_aload_n hx hb d_K_followFields_10 rfl (lv_at hl 1 rfl) ?_
      refine va_get (D := D) (ci := 1) (v := .int ((it (fO th T wk) i S).2.2)) (C := R_S) (T := F_S) (N := 3) hx hb hts (fun w h => kS1 w (i_S w h)) hown hK hP si (sw_o (S := it (fO th T wk) i S) (by omega)) rfl 2 (by decide) (hts _ (kS1 _ m_K_125)) (fun _ h9 => h9) rfl d_K_followFields_11 ?_
      refine lv_icmp_ge (tgt := 94) hx hb d_K_followFields_14 (by decide) (fun c_14' => ?_) (fun c_14' => ?_)
      · have hl := lv_sub (l' := [(0, .ref (ad 0)), (1, .ref (ad si)), (2, .int wk)]) hl [0, 1, 2] rfl
        have hE : (wL (22 + 2 * n) ad (sUp ty ad (gc ty ad f th rt qu b w T g a o) si sj sk (it (fO th T wk) i S)) : va_W) = wL (22 + 2 * n) ad (sUp ty ad (gc ty ad f th rt qu b w T g a o) si sj sk (it (fO th T wk) 300 S)) := by rw [fO_stay c_14' (by omega)]
        have hP := kw_P hE hP
        have hD := kw_D hE hD
        exact kx _ _ ls hP hD hS hl
      · have c14 := c_14'
        refine lv_aload_n hx hb d_K_followFields_17 rfl (lv_at hl 0 rfl) ?_
        refine lv_aload_n hx hb d_K_followFields_18 rfl (lv_at hl 1 rfl) ?_
        refine lv_iload_n hx hb d_K_followFields_19 rfl (lv_at hl 3 rfl) ?_
        refine kc_R (va_runV (As := [.int (nI i)]) (rest := [.ref (ad 0)]) ⟨hx, hb, hml, hown, hts⟩ (c_S_at l D ty ad _ (22 + 2 * n) (gc ty ad f th rt qu b w T g a o) si sj sk (it (fO th T wk) i S) (by omega) (by omega) (by omega) hji hki hkj (nI i)) (cwV 1 hts (kGV kS1 m_K_167 m_im_S_at m_sel_S_at m_ini_S m_code_S_at) rfl rfl rfl (by decide +kernel) ⟨Nat.le_of_ble_eq_true rfl, Nat.le_of_ble_eq_true rfl⟩) ⟨kP_blind, va_recv hK hP (ci := 1) (q0 := si) rfl (sw_o (S := it (fO th T wk) i S) (by omega)), fun U hU hW => ⟨rfl, kP_at hK hP hD U hU hW⟩⟩ rfl rfl hl.1 rfl (lv_room (Nat.le_of_ble_eq_true rfl)) d_K_followFields_20 ⟨Nat.le_of_ble_eq_true rfl, Nat.le_of_ble_eq_true rfl⟩) ?_
        refine kc_R (va_runV (As := [.int (sAt (it (fO th T wk) i S) (nI i))]) (rest := []) ⟨hx, hb, hml, hown, hts⟩ (c_K_thingOrNull l D ty ad _ (22 + 2 * n) (sUp ty ad (gc ty ad f th rt qu b w T g a o) si sj sk (it (fO th T wk) i S)) f (by omega) (sUp_n (by omega) (by omega) (by omega)) th (sUp_n (by omega) (by omega) (by omega)) (sAt (it (fO th T wk) i S) (nI i))) (cwV 1 hts (kGV kS1 m_K_98 m_im_K_thingOrNull m_sel_K_thingOrNull m_ini_K m_code_K_thingOrNull) rfl rfl rfl (by decide +kernel) ⟨Nat.le_of_ble_eq_true rfl, Nat.le_of_ble_eq_true rfl⟩) ⟨kP_blind, va_recv hK hP (ci := 0) (q0 := 0) rfl (gs_n (by omega) (by omega) (by omega) (gw_0)), fun U hU hW => ⟨rfl, kP_at hK hP hD U hU hW⟩⟩ rfl rfl hl.1 rfl (lv_room (Nat.le_of_ble_eq_true rfl)) d_K_followFields_23 ⟨Nat.le_of_ble_eq_true rfl, Nat.le_of_ble_eq_true rfl⟩) ?_
        by_cases hto_23 : tOk th (sAt (it (fO th T wk) i S) (nI i)) = true
        · obtain ⟨k23, hk3_k23, he_k23, ht_k23⟩ := tOk_k hto_23
          rw [tOr_tt he_k23 hk3_k23 ht_k23]
          refine lv_astore (lv' := [(4, .ref (ad (22 + 2 * k23))), (0, .ref (ad 0)), (1, .ref (ad si)), (2, .int wk), (3, .int (nI i))]) hx hb d_K_followFields_26 hl (by decide) rfl (fun ls hl => ?_)
          refine lv_aload hx hb d_K_followFields_28 (lv_at hl 0 rfl) ?_
          refine lv_ifnonnull (tgt := 36) hx hb d_K_followFields_30 (by decide) ?_
          refine lv_iload_n hx hb d_K_followFields_36 rfl (lv_at hl 3 rfl) ?_
          refine lv_if_ne (tgt := 52) hx hb d_K_followFields_37 (by decide) (fun c_37' => ?_) (fun c_37' => ?_)
          · refine lv_iconst (v := 0) hx hb d_K_followFields_52 (by decide) ?_
            refine lv_istore (lv' := [(5, .int 0), (4, .ref (ad (22 + 2 * k23))), (0, .ref (ad 0)), (1, .ref (ad si)), (2, .int wk), (3, .int (nI i))]) hx hb d_K_followFields_53 hl (by decide) rfl (fun ls hl => ?_)
            refine lv_iload hx hb d_K_followFields_55 (lv_at hl 0 rfl) ?_
            refine lv_istore (lv' := [(6, .int 0), (5, .int 0), (4, .ref (ad (22 + 2 * k23))), (0, .ref (ad 0)), (1, .ref (ad si)), (2, .int wk), (3, .int (nI i))]) hx hb d_K_followFields_57 hl (by decide) rfl (fun ls hl => ?_)
            have L2 : ∀ (Q : State → Prop) (rem j : Nat) (H : Heap) (locs : List Loc) (ls : Array Slot), j + rem = (T k23).2.2.2.1 → fst (T k23) wk ≤ j → va_P D kCl (wL (22 + 2 * n) ad (sUp ty ad (gc ty ad f th rt qu b w T g a o) si sj sk (it (fJ (T k23) wk) j (it (fO th T wk) i S)))) H → va_D A (wL (22 + 2 * n) ad (sUp ty ad (gc ty ad f th rt qu b w T g a o) si sj sk (it (fJ (T k23) wk) j (it (fO th T wk) i S)))) → va_S A s.heap H locs → lv_has ls 7 [(0, .ref (ad 0)), (1, .ref (ad si)), (2, .int wk), (3, .int (nI i)), (4, .ref (ad (22 + 2 * k23))), (6, .int (nI j))] → (∀ (H : Heap) (locs : List Loc) (ls : Array Slot), va_P D kCl (wL (22 + 2 * n) ad (sUp ty ad (gc ty ad f th rt qu b w T g a o) si sj sk (it (fJ (T k23) wk) ((T k23).2.2.2.1) (it (fO th T wk) i S)))) H → va_D A (wL (22 + 2 * n) ad (sUp ty ad (gc ty ad f th rt qu b w T g a o) si sj sk (it (fJ (T k23) wk) ((T k23).2.2.2.1) (it (fO th T wk) i S)))) → va_S A s.heap H locs → lv_has ls 7 [(0, .ref (ad 0)), (1, .ref (ad si)), (2, .int wk), (3, .int (nI i)), (4, .ref (ad (22 + 2 * k23))), (6, .int (nI (T k23).2.2.2.1))] → W p l e (headSpec w_K_followFields ({ frames := 2, cells := 0, slots := 0, locals := 41 })).room s m ([.ref (ad 0), .ref (ad si), .int wk] : List Value).toArray below meth cd H locs 0 0 Q (F0 m 88 ls [])) → W p l e (headSpec w_K_followFields ({ frames := 2, cells := 0, slots := 0, locals := 41 })).room s m ([.ref (ad 0), .ref (ad si), .int wk] : List Value).toArray below meth cd H locs 0 0 Q (F0 m 59 ls []) := by
              intro Q rem
              induction rem with
              | zero =>
                intro j H locs ls hir_j hinv_j hP hD hS hl kx
                obtain rfl : (T k23).2.2.2.1 = j := by omega
                refine lv_iload hx hb d_K_followFields_59 (lv_at hl 5 rfl) ?_
                refine lv_aload hx hb d_K_followFields_61 (lv_at hl 4 rfl) ?_
                refine va_get (D := D) (ci := 2) (v := .ref (ad (23 + 2 * k23))) (C := R_T) (T := F_T) (N := 4) hx hb hts (fun w h => kS1 w (i_T w h)) hown hK hP (22 + 2 * k23) (gs_n (by omega) (by omega) (by omega) (gw_T (k := k23) (hn _ ht_k23))) rfl 0 (by decide) (hts _ (kS1 _ m_K_66)) (fun _ h9 => h9) rfl d_K_followFields_63 ?_
                refine va_alen (v := nI ((T k23).2.2.2.1)) hx hb hK hP (23 + 2 * k23) 0 (gs_n (by omega) (by omega) (by omega) (gw_F (k := k23) (hn _ ht_k23))) rfl rfl d_K_followFields_66 ?_
                refine lv_icmp_ge (tgt := 88) hx hb d_K_followFields_67 (by decide) (fun c_67'' => ?_) (fun c_67'' => absurd (nI_le (a := (T k23).2.2.2.1) (b := (T k23).2.2.2.1) (Nat.le_refl _) (by have := h12 k23; omega)) c_67'')
                exact kx _ _ ls hP hD hS hl
              | succ rem ih =>
                intro j H locs ls hir_j hinv_j hP hD hS hl kx
                have hlt_j : j < (T k23).2.2.2.1 := by omega
                refine lv_iload hx hb d_K_followFields_59 (lv_at hl 5 rfl) ?_
                refine lv_aload hx hb d_K_followFields_61 (lv_at hl 4 rfl) ?_
                refine va_get (D := D) (ci := 2) (v := .ref (ad (23 + 2 * k23))) (C := R_T) (T := F_T) (N := 4) hx hb hts (fun w h => kS1 w (i_T w h)) hown hK hP (22 + 2 * k23) (gs_n (by omega) (by omega) (by omega) (gw_T (k := k23) (hn _ ht_k23))) rfl 0 (by decide) (hts _ (kS1 _ m_K_66)) (fun _ h9 => h9) rfl d_K_followFields_63 ?_
                refine va_alen (v := nI ((T k23).2.2.2.1)) hx hb hK hP (23 + 2 * k23) 0 (gs_n (by omega) (by omega) (by omega) (gw_F (k := k23) (hn _ ht_k23))) rfl rfl d_K_followFields_66 ?_
                refine lv_icmp_ge (tgt := 88) hx hb d_K_followFields_67 (by decide) (fun c_67'' => absurd c_67'' (nI_ge (b := (T k23).2.2.2.1) hlt_j (by have := h12 k23; omega))) (fun c_67'' => ?_)
                refine lv_aload_n hx hb d_K_followFields_70 rfl (lv_at hl 1 rfl) ?_
                refine lv_aload hx hb d_K_followFields_71 (lv_at hl 4 rfl) ?_
                refine va_get (D := D) (ci := 2) (v := .ref (ad (23 + 2 * k23))) (C := R_T) (T := F_T) (N := 4) hx hb hts (fun w h => kS1 w (i_T w h)) hown hK hP (22 + 2 * k23) (gs_n (by omega) (by omega) (by omega) (gw_T (k := k23) (hn _ ht_k23))) rfl 0 (by decide) (hts _ (kS1 _ m_K_66)) (fun _ h9 => h9) rfl d_K_followFields_73 ?_
                refine lv_iload hx hb d_K_followFields_76 (lv_at hl 5 rfl) ?_
                refine va_iald (f := (T k23).2.2.2.2) hx hb hK hP (23 + 2 * k23) 0 (gs_n (by omega) (by omega) (by omega) (gw_F (k := k23) (hn _ ht_k23))) rfl (vp_in_nI hlt_j (by have := h12 k23; omega)) d_K_followFields_78 ?_
                rw [nI_clamp (n := j) (by have := h12 k23; omega)]
                refine kc_v (va_runV (As := [.int (((T k23).2.2.2.2) j)]) (rest := []) ⟨hx, hb, hml, hown, hts⟩ (c_S_add l D ty ad _ (22 + 2 * n) (gc ty ad f th rt qu b w T g a o) si sj sk (it (fJ (T k23) wk) j (it (fO th T wk) i S)) (by omega) (by omega) (by omega) hji hki hkj (((T k23).2.2.2.2) j)) (cwV 1 hts (kGV kS1 m_K_164 m_im_S_add m_sel_S_add m_ini_S m_code_S_add) rfl rfl rfl (by decide +kernel) ⟨Nat.le_of_ble_eq_true rfl, Nat.le_of_ble_eq_true rfl⟩) ⟨kP_blind, va_recv hK hP (ci := 1) (q0 := si) rfl (sw_o (S := it (fJ (T k23) wk) j (it (fO th T wk) i S)) (by omega)), fun U hU hW => ⟨rfl, kP_at hK hP hD U hU hW⟩⟩ rfl rfl hl.1 rfl (lv_room (Nat.le_of_ble_eq_true rfl)) d_K_followFields_79 ⟨Nat.le_of_ble_eq_true rfl, Nat.le_of_ble_eq_true rfl⟩) hD hS hA (fun u H locs hu hP hD hS hz => ?_)
                subst hu
                refine lv_iinc (v := nI j + 1) (lv' := [(6, .int (nI j + 1)), (0, .ref (ad 0)), (1, .ref (ad si)), (2, .int wk), (3, .int (nI i)), (4, .ref (ad (22 + 2 * k23)))]) hx hb d_K_followFields_82 hl (k := 5) rfl rfl (by decide) rfl (fun ls hl => ?_)
                refine lv_goto (tgt := 59) hx hb d_K_followFields_85 (by decide) ?_
                have hl := lv_sub (l' := [(0, .ref (ad 0)), (1, .ref (ad si)), (2, .int wk), (3, .int (nI i)), (4, .ref (ad (22 + 2 * k23))), (6, .int (nI j + 1))]) hl [1, 2, 3, 4, 5, 0] rfl
                have hqq9 : (.int (nI j + 1) : Value) = .int (nI (j + 1)) := by rw [nI_1]
                rw [hqq9] at hl
                have hE : (wL (22 + 2 * n) ad (sUp ty ad (gc ty ad f th rt qu b w T g a o) si sj sk (sAdd (it (fJ (T k23) wk) j (it (fO th T wk) i S)) (((T k23).2.2.2.2) j))) : va_W) = wL (22 + 2 * n) ad (sUp ty ad (gc ty ad f th rt qu b w T g a o) si sj sk (it (fJ (T k23) wk) (j + 1) (it (fO th T wk) i S))) := by rw [it_s, fJ, if_neg (by omega)]
                have hP := kw_P hE hP
                have hD := kw_D hE hD
                exact ih (j + 1) _ _ ls (by omega) (by omega) hP hD hS hl kx
            have hl := lv_sub (l' := [(0, .ref (ad 0)), (1, .ref (ad si)), (2, .int wk), (3, .int (nI i)), (4, .ref (ad (22 + 2 * k23))), (6, .int 0)]) hl [3, 4, 5, 6, 2, 0] rfl
            have hqq9 : (.int 0 : Value) = .int (nI 0) := by rw [nI_0]
            rw [hqq9] at hl
            have hE : (wL (22 + 2 * n) ad (sUp ty ad (gc ty ad f th rt qu b w T g a o) si sj sk (it (fO th T wk) i S)) : va_W) = wL (22 + 2 * n) ad (sUp ty ad (gc ty ad f th rt qu b w T g a o) si sj sk (it (fJ (T k23) wk) 0 (it (fO th T wk) i S))) := by simp [it, fJ, fst, c_6', c_14', hto_23, c_37']
            have hP := kw_P hE hP
            have hD := kw_D hE hD
            refine L2 _ ((T k23).2.2.2.1 - 0) 0 _ _ ls (by omega) (by simp [fst, c_6', c_14', hto_23, c_37']) hP hD hS hl (fun H locs ls hP hD hS hl => ?_)
            refine lv_iinc (v := nI i + 1) (lv' := [(3, .int (nI i + 1)), (0, .ref (ad 0)), (1, .ref (ad si)), (2, .int wk), (4, .ref (ad (22 + 2 * k23))), (6, .int (nI (T k23).2.2.2.1))]) hx hb d_K_followFields_88 hl (k := 3) rfl rfl (by decide) rfl (fun ls hl => ?_)
            refine lv_goto (tgt := 2) hx hb d_K_followFields_91 (by decide) ?_
            have hl := lv_sub (l' := [(0, .ref (ad 0)), (1, .ref (ad si)), (2, .int wk), (3, .int (nI i + 1))]) hl [1, 2, 3, 0] rfl
            have hqq9 : (.int (nI i + 1) : Value) = .int (nI (i + 1)) := by rw [nI_1]
            rw [hqq9] at hl
            have hE : (wL (22 + 2 * n) ad (sUp ty ad (gc ty ad f th rt qu b w T g a o) si sj sk (it (fJ (T k23) wk) ((T k23).2.2.2.1) (it (fO th T wk) i S))) : va_W) = wL (22 + 2 * n) ad (sUp ty ad (gc ty ad f th rt qu b w T g a o) si sj sk (it (fO th T wk) (i + 1) S)) := by rw [it_s, fO, if_neg c14, fB, if_pos hto_23, he_k23, nI_clamp (by omega)]
            have hP := kw_P hE hP
            have hD := kw_D hE hD
            exact ih (i + 1) _ _ ls (by omega) hP hD hS hl kx
          · refine lv_aload hx hb d_K_followFields_40 (lv_at hl 0 rfl) ?_
            refine kc_R (va_runV (As := []) (rest := []) ⟨hx, hb, hml, hown, hts⟩ (c_T_hasWeakField l D ty ad _ (22 + 2 * n) (sUp ty ad (gc ty ad f th rt qu b w T g a o) si sj sk (it (fO th T wk) i S)) (22 + 2 * k23) (23 + 2 * k23) ((T k23).1) ((T k23).2.1) ((T k23).2.2.1) ((T k23).2.2.2.1) ((T k23).2.2.2.2) (gi_T (hn _ ht_k23)) (gi_F (hn _ ht_k23)) (sUp_n (by omega) (by omega) (by omega) gc_T) (sUp_n (by omega) (by omega) (by omega) gc_F)) (cwV 0 hts (kGV kS1 m_K_170 m_im_T_hasWeakField m_sel_T_hasWeakField m_ini_T m_code_T_hasWeakField) rfl rfl rfl (by decide +kernel) ⟨Nat.le_of_ble_eq_true rfl, Nat.le_of_ble_eq_true rfl⟩) ⟨kP_blind, va_recv hK hP (ci := 2) (q0 := (22 + 2 * k23)) rfl (gs_n (by omega) (by omega) (by omega) (gw_T (k := k23) (hn _ ht_k23))), fun U hU hW => ⟨rfl, kP_at hK hP hD U hU hW⟩⟩ rfl rfl hl.1 rfl (lv_room (Nat.le_of_ble_eq_true rfl)) d_K_followFields_42 ⟨Nat.le_of_ble_eq_true rfl, Nat.le_of_ble_eq_true rfl⟩) ?_
            refine lv_if_eq (tgt := 52) hx hb d_K_followFields_45 (by decide) (fun c_45' => ?_) (fun c_45' => ?_)
            · refine lv_iconst (v := 0) hx hb d_K_followFields_52 (by decide) ?_
              refine lv_istore (lv' := [(5, .int 0), (4, .ref (ad (22 + 2 * k23))), (0, .ref (ad 0)), (1, .ref (ad si)), (2, .int wk), (3, .int (nI i))]) hx hb d_K_followFields_53 hl (by decide) rfl (fun ls hl => ?_)
              refine lv_iload hx hb d_K_followFields_55 (lv_at hl 0 rfl) ?_
              refine lv_istore (lv' := [(6, .int 0), (5, .int 0), (4, .ref (ad (22 + 2 * k23))), (0, .ref (ad 0)), (1, .ref (ad si)), (2, .int wk), (3, .int (nI i))]) hx hb d_K_followFields_57 hl (by decide) rfl (fun ls hl => ?_)
              have L2 : ∀ (Q : State → Prop) (rem j : Nat) (H : Heap) (locs : List Loc) (ls : Array Slot), j + rem = (T k23).2.2.2.1 → fst (T k23) wk ≤ j → va_P D kCl (wL (22 + 2 * n) ad (sUp ty ad (gc ty ad f th rt qu b w T g a o) si sj sk (it (fJ (T k23) wk) j (it (fO th T wk) i S)))) H → va_D A (wL (22 + 2 * n) ad (sUp ty ad (gc ty ad f th rt qu b w T g a o) si sj sk (it (fJ (T k23) wk) j (it (fO th T wk) i S)))) → va_S A s.heap H locs → lv_has ls 7 [(0, .ref (ad 0)), (1, .ref (ad si)), (2, .int wk), (3, .int (nI i)), (4, .ref (ad (22 + 2 * k23))), (6, .int (nI j))] → (∀ (H : Heap) (locs : List Loc) (ls : Array Slot), va_P D kCl (wL (22 + 2 * n) ad (sUp ty ad (gc ty ad f th rt qu b w T g a o) si sj sk (it (fJ (T k23) wk) ((T k23).2.2.2.1) (it (fO th T wk) i S)))) H → va_D A (wL (22 + 2 * n) ad (sUp ty ad (gc ty ad f th rt qu b w T g a o) si sj sk (it (fJ (T k23) wk) ((T k23).2.2.2.1) (it (fO th T wk) i S)))) → va_S A s.heap H locs → lv_has ls 7 [(0, .ref (ad 0)), (1, .ref (ad si)), (2, .int wk), (3, .int (nI i)), (4, .ref (ad (22 + 2 * k23))), (6, .int (nI (T k23).2.2.2.1))] → W p l e (headSpec w_K_followFields ({ frames := 2, cells := 0, slots := 0, locals := 41 })).room s m ([.ref (ad 0), .ref (ad si), .int wk] : List Value).toArray below meth cd H locs 0 0 Q (F0 m 88 ls [])) → W p l e (headSpec w_K_followFields ({ frames := 2, cells := 0, slots := 0, locals := 41 })).room s m ([.ref (ad 0), .ref (ad si), .int wk] : List Value).toArray below meth cd H locs 0 0 Q (F0 m 59 ls []) := by
                intro Q rem
                induction rem with
                | zero =>
                  intro j H locs ls hir_j hinv_j hP hD hS hl kx
                  obtain rfl : (T k23).2.2.2.1 = j := by omega
                  refine lv_iload hx hb d_K_followFields_59 (lv_at hl 5 rfl) ?_
                  refine lv_aload hx hb d_K_followFields_61 (lv_at hl 4 rfl) ?_
                  refine va_get (D := D) (ci := 2) (v := .ref (ad (23 + 2 * k23))) (C := R_T) (T := F_T) (N := 4) hx hb hts (fun w h => kS1 w (i_T w h)) hown hK hP (22 + 2 * k23) (gs_n (by omega) (by omega) (by omega) (gw_T (k := k23) (hn _ ht_k23))) rfl 0 (by decide) (hts _ (kS1 _ m_K_66)) (fun _ h9 => h9) rfl d_K_followFields_63 ?_
                  refine va_alen (v := nI ((T k23).2.2.2.1)) hx hb hK hP (23 + 2 * k23) 0 (gs_n (by omega) (by omega) (by omega) (gw_F (k := k23) (hn _ ht_k23))) rfl rfl d_K_followFields_66 ?_
                  refine lv_icmp_ge (tgt := 88) hx hb d_K_followFields_67 (by decide) (fun c_67'' => ?_) (fun c_67'' => absurd (nI_le (a := (T k23).2.2.2.1) (b := (T k23).2.2.2.1) (Nat.le_refl _) (by have := h12 k23; omega)) c_67'')
                  exact kx _ _ ls hP hD hS hl
                | succ rem ih =>
                  intro j H locs ls hir_j hinv_j hP hD hS hl kx
                  have hlt_j : j < (T k23).2.2.2.1 := by omega
                  refine lv_iload hx hb d_K_followFields_59 (lv_at hl 5 rfl) ?_
                  refine lv_aload hx hb d_K_followFields_61 (lv_at hl 4 rfl) ?_
                  refine va_get (D := D) (ci := 2) (v := .ref (ad (23 + 2 * k23))) (C := R_T) (T := F_T) (N := 4) hx hb hts (fun w h => kS1 w (i_T w h)) hown hK hP (22 + 2 * k23) (gs_n (by omega) (by omega) (by omega) (gw_T (k := k23) (hn _ ht_k23))) rfl 0 (by decide) (hts _ (kS1 _ m_K_66)) (fun _ h9 => h9) rfl d_K_followFields_63 ?_
                  refine va_alen (v := nI ((T k23).2.2.2.1)) hx hb hK hP (23 + 2 * k23) 0 (gs_n (by omega) (by omega) (by omega) (gw_F (k := k23) (hn _ ht_k23))) rfl rfl d_K_followFields_66 ?_
                  refine lv_icmp_ge (tgt := 88) hx hb d_K_followFields_67 (by decide) (fun c_67'' => absurd c_67'' (nI_ge (b := (T k23).2.2.2.1) hlt_j (by have := h12 k23; omega))) (fun c_67'' => ?_)
                  refine lv_aload_n hx hb d_K_followFields_70 rfl (lv_at hl 1 rfl) ?_
                  refine lv_aload hx hb d_K_followFields_71 (lv_at hl 4 rfl) ?_
                  refine va_get (D := D) (ci := 2) (v := .ref (ad (23 + 2 * k23))) (C := R_T) (T := F_T) (N := 4) hx hb hts (fun w h => kS1 w (i_T w h)) hown hK hP (22 + 2 * k23) (gs_n (by omega) (by omega) (by omega) (gw_T (k := k23) (hn _ ht_k23))) rfl 0 (by decide) (hts _ (kS1 _ m_K_66)) (fun _ h9 => h9) rfl d_K_followFields_73 ?_
                  refine lv_iload hx hb d_K_followFields_76 (lv_at hl 5 rfl) ?_
                  refine va_iald (f := (T k23).2.2.2.2) hx hb hK hP (23 + 2 * k23) 0 (gs_n (by omega) (by omega) (by omega) (gw_F (k := k23) (hn _ ht_k23))) rfl (vp_in_nI hlt_j (by have := h12 k23; omega)) d_K_followFields_78 ?_
                  rw [nI_clamp (n := j) (by have := h12 k23; omega)]
                  refine kc_v (va_runV (As := [.int (((T k23).2.2.2.2) j)]) (rest := []) ⟨hx, hb, hml, hown, hts⟩ (c_S_add l D ty ad _ (22 + 2 * n) (gc ty ad f th rt qu b w T g a o) si sj sk (it (fJ (T k23) wk) j (it (fO th T wk) i S)) (by omega) (by omega) (by omega) hji hki hkj (((T k23).2.2.2.2) j)) (cwV 1 hts (kGV kS1 m_K_164 m_im_S_add m_sel_S_add m_ini_S m_code_S_add) rfl rfl rfl (by decide +kernel) ⟨Nat.le_of_ble_eq_true rfl, Nat.le_of_ble_eq_true rfl⟩) ⟨kP_blind, va_recv hK hP (ci := 1) (q0 := si) rfl (sw_o (S := it (fJ (T k23) wk) j (it (fO th T wk) i S)) (by omega)), fun U hU hW => ⟨rfl, kP_at hK hP hD U hU hW⟩⟩ rfl rfl hl.1 rfl (lv_room (Nat.le_of_ble_eq_true rfl)) d_K_followFields_79 ⟨Nat.le_of_ble_eq_true rfl, Nat.le_of_ble_eq_true rfl⟩) hD hS hA (fun u H locs hu hP hD hS hz => ?_)
                  subst hu
                  refine lv_iinc (v := nI j + 1) (lv' := [(6, .int (nI j + 1)), (0, .ref (ad 0)), (1, .ref (ad si)), (2, .int wk), (3, .int (nI i)), (4, .ref (ad (22 + 2 * k23)))]) hx hb d_K_followFields_82 hl (k := 5) rfl rfl (by decide) rfl (fun ls hl => ?_)
                  refine lv_goto (tgt := 59) hx hb d_K_followFields_85 (by decide) ?_
                  have hl := lv_sub (l' := [(0, .ref (ad 0)), (1, .ref (ad si)), (2, .int wk), (3, .int (nI i)), (4, .ref (ad (22 + 2 * k23))), (6, .int (nI j + 1))]) hl [1, 2, 3, 4, 5, 0] rfl
                  have hqq9 : (.int (nI j + 1) : Value) = .int (nI (j + 1)) := by rw [nI_1]
                  rw [hqq9] at hl
                  have hE : (wL (22 + 2 * n) ad (sUp ty ad (gc ty ad f th rt qu b w T g a o) si sj sk (sAdd (it (fJ (T k23) wk) j (it (fO th T wk) i S)) (((T k23).2.2.2.2) j))) : va_W) = wL (22 + 2 * n) ad (sUp ty ad (gc ty ad f th rt qu b w T g a o) si sj sk (it (fJ (T k23) wk) (j + 1) (it (fO th T wk) i S))) := by rw [it_s, fJ, if_neg (by omega)]
                  have hP := kw_P hE hP
                  have hD := kw_D hE hD
                  exact ih (j + 1) _ _ ls (by omega) (by omega) hP hD hS hl kx
              have hl := lv_sub (l' := [(0, .ref (ad 0)), (1, .ref (ad si)), (2, .int wk), (3, .int (nI i)), (4, .ref (ad (22 + 2 * k23))), (6, .int 0)]) hl [3, 4, 5, 6, 2, 0] rfl
              have hqq9 : (.int 0 : Value) = .int (nI 0) := by rw [nI_0]
              rw [hqq9] at hl
              have hE : (wL (22 + 2 * n) ad (sUp ty ad (gc ty ad f th rt qu b w T g a o) si sj sk (it (fO th T wk) i S)) : va_W) = wL (22 + 2 * n) ad (sUp ty ad (gc ty ad f th rt qu b w T g a o) si sj sk (it (fJ (T k23) wk) 0 (it (fO th T wk) i S))) := by simp [it, fJ, fst, c_6', c_14', hto_23, c_37', c_45']
              have hP := kw_P hE hP
              have hD := kw_D hE hD
              refine L2 _ ((T k23).2.2.2.1 - 0) 0 _ _ ls (by omega) (by simp [fst, c_6', c_14', hto_23, c_37', c_45']) hP hD hS hl (fun H locs ls hP hD hS hl => ?_)
              refine lv_iinc (v := nI i + 1) (lv' := [(3, .int (nI i + 1)), (0, .ref (ad 0)), (1, .ref (ad si)), (2, .int wk), (4, .ref (ad (22 + 2 * k23))), (6, .int (nI (T k23).2.2.2.1))]) hx hb d_K_followFields_88 hl (k := 3) rfl rfl (by decide) rfl (fun ls hl => ?_)
              refine lv_goto (tgt := 2) hx hb d_K_followFields_91 (by decide) ?_
              have hl := lv_sub (l' := [(0, .ref (ad 0)), (1, .ref (ad si)), (2, .int wk), (3, .int (nI i + 1))]) hl [1, 2, 3, 0] rfl
              have hqq9 : (.int (nI i + 1) : Value) = .int (nI (i + 1)) := by rw [nI_1]
              rw [hqq9] at hl
              have hE : (wL (22 + 2 * n) ad (sUp ty ad (gc ty ad f th rt qu b w T g a o) si sj sk (it (fJ (T k23) wk) ((T k23).2.2.2.1) (it (fO th T wk) i S))) : va_W) = wL (22 + 2 * n) ad (sUp ty ad (gc ty ad f th rt qu b w T g a o) si sj sk (it (fO th T wk) (i + 1) S)) := by rw [it_s, fO, if_neg c14, fB, if_pos hto_23, he_k23, nI_clamp (by omega)]
              have hP := kw_P hE hP
              have hD := kw_D hE hD
              exact ih (i + 1) _ _ ls (by omega) hP hD hS hl kx
            · refine lv_iconst (v := 1) hx hb d_K_followFields_48 (by decide) ?_
              refine lv_goto (tgt := 53) hx hb d_K_followFields_49 (by decide) ?_
              refine lv_istore (lv' := [(5, .int 1), (4, .ref (ad (22 + 2 * k23))), (0, .ref (ad 0)), (1, .ref (ad si)), (2, .int wk), (3, .int (nI i))]) hx hb d_K_followFields_53 hl (by decide) rfl (fun ls hl => ?_)
              refine lv_iload hx hb d_K_followFields_55 (lv_at hl 0 rfl) ?_
              refine lv_istore (lv' := [(6, .int 1), (5, .int 1), (4, .ref (ad (22 + 2 * k23))), (0, .ref (ad 0)), (1, .ref (ad si)), (2, .int wk), (3, .int (nI i))]) hx hb d_K_followFields_57 hl (by decide) rfl (fun ls hl => ?_)
              have L2 : ∀ (Q : State → Prop) (rem j : Nat) (H : Heap) (locs : List Loc) (ls : Array Slot), j + rem = (T k23).2.2.2.1 → fst (T k23) wk ≤ j → va_P D kCl (wL (22 + 2 * n) ad (sUp ty ad (gc ty ad f th rt qu b w T g a o) si sj sk (it (fJ (T k23) wk) j (it (fO th T wk) i S)))) H → va_D A (wL (22 + 2 * n) ad (sUp ty ad (gc ty ad f th rt qu b w T g a o) si sj sk (it (fJ (T k23) wk) j (it (fO th T wk) i S)))) → va_S A s.heap H locs → lv_has ls 7 [(0, .ref (ad 0)), (1, .ref (ad si)), (2, .int wk), (3, .int (nI i)), (4, .ref (ad (22 + 2 * k23))), (6, .int (nI j))] → (∀ (H : Heap) (locs : List Loc) (ls : Array Slot), va_P D kCl (wL (22 + 2 * n) ad (sUp ty ad (gc ty ad f th rt qu b w T g a o) si sj sk (it (fJ (T k23) wk) ((T k23).2.2.2.1) (it (fO th T wk) i S)))) H → va_D A (wL (22 + 2 * n) ad (sUp ty ad (gc ty ad f th rt qu b w T g a o) si sj sk (it (fJ (T k23) wk) ((T k23).2.2.2.1) (it (fO th T wk) i S)))) → va_S A s.heap H locs → lv_has ls 7 [(0, .ref (ad 0)), (1, .ref (ad si)), (2, .int wk), (3, .int (nI i)), (4, .ref (ad (22 + 2 * k23))), (6, .int (nI (T k23).2.2.2.1))] → W p l e (headSpec w_K_followFields ({ frames := 2, cells := 0, slots := 0, locals := 41 })).room s m ([.ref (ad 0), .ref (ad si), .int wk] : List Value).toArray below meth cd H locs 0 0 Q (F0 m 88 ls [])) → W p l e (headSpec w_K_followFields ({ frames := 2, cells := 0, slots := 0, locals := 41 })).room s m ([.ref (ad 0), .ref (ad si), .int wk] : List Value).toArray below meth cd H locs 0 0 Q (F0 m 59 ls []) := by
                intro Q rem
                induction rem with
                | zero =>
                  intro j H locs ls hir_j hinv_j hP hD hS hl kx
                  obtain rfl : (T k23).2.2.2.1 = j := by omega
                  refine lv_iload hx hb d_K_followFields_59 (lv_at hl 5 rfl) ?_
                  refine lv_aload hx hb d_K_followFields_61 (lv_at hl 4 rfl) ?_
                  refine va_get (D := D) (ci := 2) (v := .ref (ad (23 + 2 * k23))) (C := R_T) (T := F_T) (N := 4) hx hb hts (fun w h => kS1 w (i_T w h)) hown hK hP (22 + 2 * k23) (gs_n (by omega) (by omega) (by omega) (gw_T (k := k23) (hn _ ht_k23))) rfl 0 (by decide) (hts _ (kS1 _ m_K_66)) (fun _ h9 => h9) rfl d_K_followFields_63 ?_
                  refine va_alen (v := nI ((T k23).2.2.2.1)) hx hb hK hP (23 + 2 * k23) 0 (gs_n (by omega) (by omega) (by omega) (gw_F (k := k23) (hn _ ht_k23))) rfl rfl d_K_followFields_66 ?_
                  refine lv_icmp_ge (tgt := 88) hx hb d_K_followFields_67 (by decide) (fun c_67'' => ?_) (fun c_67'' => absurd (nI_le (a := (T k23).2.2.2.1) (b := (T k23).2.2.2.1) (Nat.le_refl _) (by have := h12 k23; omega)) c_67'')
                  exact kx _ _ ls hP hD hS hl
                | succ rem ih =>
                  intro j H locs ls hir_j hinv_j hP hD hS hl kx
                  have hlt_j : j < (T k23).2.2.2.1 := by omega
                  refine lv_iload hx hb d_K_followFields_59 (lv_at hl 5 rfl) ?_
                  refine lv_aload hx hb d_K_followFields_61 (lv_at hl 4 rfl) ?_
                  refine va_get (D := D) (ci := 2) (v := .ref (ad (23 + 2 * k23))) (C := R_T) (T := F_T) (N := 4) hx hb hts (fun w h => kS1 w (i_T w h)) hown hK hP (22 + 2 * k23) (gs_n (by omega) (by omega) (by omega) (gw_T (k := k23) (hn _ ht_k23))) rfl 0 (by decide) (hts _ (kS1 _ m_K_66)) (fun _ h9 => h9) rfl d_K_followFields_63 ?_
                  refine va_alen (v := nI ((T k23).2.2.2.1)) hx hb hK hP (23 + 2 * k23) 0 (gs_n (by omega) (by omega) (by omega) (gw_F (k := k23) (hn _ ht_k23))) rfl rfl d_K_followFields_66 ?_
                  refine lv_icmp_ge (tgt := 88) hx hb d_K_followFields_67 (by decide) (fun c_67'' => absurd c_67'' (nI_ge (b := (T k23).2.2.2.1) hlt_j (by have := h12 k23; omega))) (fun c_67'' => ?_)
                  refine lv_aload_n hx hb d_K_followFields_70 rfl (lv_at hl 1 rfl) ?_
                  refine lv_aload hx hb d_K_followFields_71 (lv_at hl 4 rfl) ?_
                  refine va_get (D := D) (ci := 2) (v := .ref (ad (23 + 2 * k23))) (C := R_T) (T := F_T) (N := 4) hx hb hts (fun w h => kS1 w (i_T w h)) hown hK hP (22 + 2 * k23) (gs_n (by omega) (by omega) (by omega) (gw_T (k := k23) (hn _ ht_k23))) rfl 0 (by decide) (hts _ (kS1 _ m_K_66)) (fun _ h9 => h9) rfl d_K_followFields_73 ?_
                  refine lv_iload hx hb d_K_followFields_76 (lv_at hl 5 rfl) ?_
                  refine va_iald (f := (T k23).2.2.2.2) hx hb hK hP (23 + 2 * k23) 0 (gs_n (by omega) (by omega) (by omega) (gw_F (k := k23) (hn _ ht_k23))) rfl (vp_in_nI hlt_j (by have := h12 k23; omega)) d_K_followFields_78 ?_
                  rw [nI_clamp (n := j) (by have := h12 k23; omega)]
                  refine kc_v (va_runV (As := [.int (((T k23).2.2.2.2) j)]) (rest := []) ⟨hx, hb, hml, hown, hts⟩ (c_S_add l D ty ad _ (22 + 2 * n) (gc ty ad f th rt qu b w T g a o) si sj sk (it (fJ (T k23) wk) j (it (fO th T wk) i S)) (by omega) (by omega) (by omega) hji hki hkj (((T k23).2.2.2.2) j)) (cwV 1 hts (kGV kS1 m_K_164 m_im_S_add m_sel_S_add m_ini_S m_code_S_add) rfl rfl rfl (by decide +kernel) ⟨Nat.le_of_ble_eq_true rfl, Nat.le_of_ble_eq_true rfl⟩) ⟨kP_blind, va_recv hK hP (ci := 1) (q0 := si) rfl (sw_o (S := it (fJ (T k23) wk) j (it (fO th T wk) i S)) (by omega)), fun U hU hW => ⟨rfl, kP_at hK hP hD U hU hW⟩⟩ rfl rfl hl.1 rfl (lv_room (Nat.le_of_ble_eq_true rfl)) d_K_followFields_79 ⟨Nat.le_of_ble_eq_true rfl, Nat.le_of_ble_eq_true rfl⟩) hD hS hA (fun u H locs hu hP hD hS hz => ?_)
                  subst hu
                  refine lv_iinc (v := nI j + 1) (lv' := [(6, .int (nI j + 1)), (0, .ref (ad 0)), (1, .ref (ad si)), (2, .int wk), (3, .int (nI i)), (4, .ref (ad (22 + 2 * k23)))]) hx hb d_K_followFields_82 hl (k := 5) rfl rfl (by decide) rfl (fun ls hl => ?_)
                  refine lv_goto (tgt := 59) hx hb d_K_followFields_85 (by decide) ?_
                  have hl := lv_sub (l' := [(0, .ref (ad 0)), (1, .ref (ad si)), (2, .int wk), (3, .int (nI i)), (4, .ref (ad (22 + 2 * k23))), (6, .int (nI j + 1))]) hl [1, 2, 3, 4, 5, 0] rfl
                  have hqq9 : (.int (nI j + 1) : Value) = .int (nI (j + 1)) := by rw [nI_1]
                  rw [hqq9] at hl
                  have hE : (wL (22 + 2 * n) ad (sUp ty ad (gc ty ad f th rt qu b w T g a o) si sj sk (sAdd (it (fJ (T k23) wk) j (it (fO th T wk) i S)) (((T k23).2.2.2.2) j))) : va_W) = wL (22 + 2 * n) ad (sUp ty ad (gc ty ad f th rt qu b w T g a o) si sj sk (it (fJ (T k23) wk) (j + 1) (it (fO th T wk) i S))) := by rw [it_s, fJ, if_neg (by omega)]
                  have hP := kw_P hE hP
                  have hD := kw_D hE hD
                  exact ih (j + 1) _ _ ls (by omega) (by omega) hP hD hS hl kx
              have hl := lv_sub (l' := [(0, .ref (ad 0)), (1, .ref (ad si)), (2, .int wk), (3, .int (nI i)), (4, .ref (ad (22 + 2 * k23))), (6, .int 1)]) hl [3, 4, 5, 6, 2, 0] rfl
              have hqq9 : (.int 1 : Value) = .int (nI 1) := by rfl
              rw [hqq9] at hl
              have hE : (wL (22 + 2 * n) ad (sUp ty ad (gc ty ad f th rt qu b w T g a o) si sj sk (it (fO th T wk) i S)) : va_W) = wL (22 + 2 * n) ad (sUp ty ad (gc ty ad f th rt qu b w T g a o) si sj sk (it (fJ (T k23) wk) 1 (it (fO th T wk) i S))) := by simp [it, fJ, fst, c_6', c_14', hto_23, c_37', c_45']
              have hP := kw_P hE hP
              have hD := kw_D hE hD
              refine L2 _ ((T k23).2.2.2.1 - 1) 1 _ _ ls (by have := tHasW_pos c_45'; omega) (by simp [fst, c_6', c_14', hto_23, c_37', c_45']) hP hD hS hl (fun H locs ls hP hD hS hl => ?_)
              refine lv_iinc (v := nI i + 1) (lv' := [(3, .int (nI i + 1)), (0, .ref (ad 0)), (1, .ref (ad si)), (2, .int wk), (4, .ref (ad (22 + 2 * k23))), (6, .int (nI (T k23).2.2.2.1))]) hx hb d_K_followFields_88 hl (k := 3) rfl rfl (by decide) rfl (fun ls hl => ?_)
              refine lv_goto (tgt := 2) hx hb d_K_followFields_91 (by decide) ?_
              have hl := lv_sub (l' := [(0, .ref (ad 0)), (1, .ref (ad si)), (2, .int wk), (3, .int (nI i + 1))]) hl [1, 2, 3, 0] rfl
              have hqq9 : (.int (nI i + 1) : Value) = .int (nI (i + 1)) := by rw [nI_1]
              rw [hqq9] at hl
              have hE : (wL (22 + 2 * n) ad (sUp ty ad (gc ty ad f th rt qu b w T g a o) si sj sk (it (fJ (T k23) wk) ((T k23).2.2.2.1) (it (fO th T wk) i S))) : va_W) = wL (22 + 2 * n) ad (sUp ty ad (gc ty ad f th rt qu b w T g a o) si sj sk (it (fO th T wk) (i + 1) S)) := by rw [it_s, fO, if_neg c14, fB, if_pos hto_23, he_k23, nI_clamp (by omega)]
              have hP := kw_P hE hP
              have hD := kw_D hE hD
              exact ih (i + 1) _ _ ls (by omega) hP hD hS hl kx
        · rw [tOr_f hto_23]
          refine lv_astoreN (lv' := [(4, .null), (0, .ref (ad 0)), (1, .ref (ad si)), (2, .int wk), (3, .int (nI i))]) hx hb d_K_followFields_26 hl (by decide) rfl (fun ls hl => ?_)
          refine lv_aloadN hx hb d_K_followFields_28 (lv_at hl 0 rfl) ?_
          refine lv_ifnonnullN hx hb d_K_followFields_30 ?_
          refine lv_goto (tgt := 88) hx hb d_K_followFields_33 (by decide) ?_
          refine lv_iinc (v := nI i + 1) (lv' := [(3, .int (nI i + 1)), (4, .null), (0, .ref (ad 0)), (1, .ref (ad si)), (2, .int wk)]) hx hb d_K_followFields_88 hl (k := 4) rfl rfl (by decide) rfl (fun ls hl => ?_)
          refine lv_goto (tgt := 2) hx hb d_K_followFields_91 (by decide) ?_
          have hl := lv_sub (l' := [(0, .ref (ad 0)), (1, .ref (ad si)), (2, .int wk), (3, .int (nI i + 1))]) hl [2, 3, 4, 0] rfl
          have hqq9 : (.int (nI i + 1) : Value) = .int (nI (i + 1)) := by rw [nI_1]
          rw [hqq9] at hl
          have hE : (wL (22 + 2 * n) ad (sUp ty ad (gc ty ad f th rt qu b w T g a o) si sj sk (it (fO th T wk) i S)) : va_W) = wL (22 + 2 * n) ad (sUp ty ad (gc ty ad f th rt qu b w T g a o) si sj sk (it (fO th T wk) (i + 1) S)) := by rw [it_s, fO, if_neg c14, fB, if_neg hto_23]
          have hP := kw_P hE hP
          have hD := kw_D hE hD
          exact ih (i + 1) _ _ ls (by omega) hP hD hS hl kx
  have hl := lv_sub (l' := [(0, .ref (ad 0)), (1, .ref (ad si)), (2, .int wk), (3, .int 0)]) hl [1, 2, 3, 0] rfl
  have hqq9 : (.int 0 : Value) = .int (nI 0) := by rw [nI_0]
  rw [hqq9] at hl
  refine L1 _ (300 - 0) 0 _ _ ls (by omega) hP hD hS hl (fun H locs ls hP hD hS hl => ?_)
  have hu : (wL (22 + 2 * n) ad (sUp ty ad (gc ty ad f th rt qu b w T g a o) si sj sk (it (fO th T wk) 300 S)) : va_W) = wL (22 + 2 * n) ad (sUp ty ad (gc ty ad f th rt qu b w T g a o) si sj sk (fF th T wk S)) := by rfl
  exact W.vret hx hb hr (fun t ht hW => ⟨⟨_, rfl, hu, by rw [ht]; exact hP, va_K.moved hW.alike hK, hD⟩, hS.F ht⟩) hS.2.2 d_K_followFields_94
set_option maxHeartbeats 4000000 in
set_option maxRecDepth 100000 in
/-- searchReached(search) -/
theorem c_K_searchReached (l : Launch) (D : va_G) (ty : Nat → ClassId) (ad : Nat → Nat) (sz : Nat) (n : Nat) (f : Nat → Int32) (th : Nat → Bool) (rt qu : Nat → Int32) (b w : SR) (T : Nat → TH) (g : Nat → Int32) (a : Nat → Nat → Int32) (o : Nat → Int64) (si sj sk : Nat) (S : SR) (hi : 4 ≤ si ∧ si < 10) (hj : 4 ≤ sj ∧ sj < 10) (hk : 4 ≤ sk ∧ sk < 10) (hji : sj ≠ si) (hki : sk ≠ si) (hkj : sk ≠ sj) (hn : ∀ k, th k = true → k < n) (h12 : ∀ k, (T k).2.2.2.1 ≤ 12) : Met l y_K_searchReached w_K_searchReached ({ frames := 3, cells := 0, slots := 0, locals := 67 }) (va_Pc [.ref (ad 0), .ref (ad si)] (kP D kCl (kTy ty) (wL (22 + 2 * n) ad (sUp ty ad (gc ty ad f th rt qu b w T g a o) si sj sk S)) sz)) (va_Qv (fun u9 : va_W => u9 = (wL (22 + 2 * n) ad (sUp ty ad (gc ty ad f th rt qu b w T g a o) si sj sk (sReach f th rt qu T S)))) (kB D kCl (kTy ty) (va_A (wL (22 + 2 * n) ad (sUp ty ad (gc ty ad f th rt qu b w T g a o) si sj sk S)) sz)) (va_A (wL (22 + 2 * n) ad (sUp ty ad (gc ty ad f th rt qu b w T g a o) si sj sk S)) sz)) 0 0 (va_A (wL (22 + 2 * n) ad (sUp ty ad (gc ty ad f th rt qu b w T g a o) si sj sk S)) sz) := by
  refine Met.ofW (cc := b_K_searchReached) (maxL := 2) (ret := none) (by decide) rfl ?_
  intro p e s m args below meth cd s₁ B hml hv
  obtain ⟨rfl, hsz, hP, hK, hD0⟩ := hv
  have hx := B.exec
  have hb := B.bytes
  have hr := B.returns
  have hts := atoms_spec (ws := w_K_searchReached) B.pre
  have hown : s.vm.findClass R_K = some m.cls := findClass_of_methodNamed B.named
  have hlocks := B.notSynchronized
  subst hsz
  have hD := hD0.self (sz := s.heap.size)
  generalize hAe : va_A (wL (22 + 2 * n) ad (sUp ty ad (gc ty ad f th rt qu b w T g a o) si sj sk S)) s.heap.size = A at hD ⊢
  have hA : ∀ q : Nat, s.heap.size ≤ q → A q := fun q h => by rw [← hAe]; exact Or.inr h
  have hS : va_S A s.heap s.heap [] := va_S.rf
  have hl := lv_entry ([.ref (ad 0), .ref (ad si)]) (n := 2) (Nat.le_of_ble_eq_true rfl)
  rw [lg_entry_eq]
  generalize (lg_sl ([.ref (ad 0), .ref (ad si)]) ++ List.replicate (2 - (lg_sl ([.ref (ad 0), .ref (ad si)])).length) Slot.unset).toArray = ls at hl ⊢
  have hl : lv_has ls 2 [(0, .ref (ad 0)), (1, .ref (ad si))] := hl
  refine lv_aload_n hx hb d_K_searchReached_0 rfl (lv_at hl 1 rfl) ?_
  refine kc_v (va_runV (As := []) (rest := []) ⟨hx, hb, hml, hown, hts⟩ (c_S_forgetAll l D ty ad _ (22 + 2 * n) (gc ty ad f th rt qu b w T g a o) si sj sk S (by omega) (by omega) (by omega) hji hki hkj) (cwV 0 hts (kGV kS1 m_K_154 m_im_S_forgetAll m_sel_S_forgetAll m_ini_S m_code_S_forgetAll) rfl rfl rfl (by decide +kernel) ⟨Nat.le_of_ble_eq_true rfl, Nat.le_of_ble_eq_true rfl⟩) ⟨kP_blind, va_recv hK hP (ci := 1) (q0 := si) rfl (sw_o (S := S) (by omega)), fun U hU hW => ⟨rfl, kP_at hK hP hD U hU hW⟩⟩ rfl rfl hl.1 rfl (lv_room (Nat.le_of_ble_eq_true rfl)) d_K_searchReached_1 ⟨Nat.le_of_ble_eq_true rfl, Nat.le_of_ble_eq_true rfl⟩) hD hS hA (fun u H locs hu hP hD hS hz => ?_)
  subst hu
  refine lv_aload_n hx hb d_K_searchReached_4 rfl (lv_at hl 0 rfl) ?_
  refine lv_aload_n hx hb d_K_searchReached_5 rfl (lv_at hl 1 rfl) ?_
  refine kc_v (va_runV (As := [.ref (ad si)]) (rest := []) ⟨hx, hb, hml, hown, hts⟩ (c_K_addRootsAndQueue l D ty ad _ n f th rt qu b w T g a o si sj sk (sFg S) hi hj hk hji hki hkj) (cwV 1 hts (kGV kS1 m_K_157 m_im_K_addRootsAndQueue m_sel_K_addRootsAndQueue m_ini_K m_code_K_addRootsAndQueue) rfl rfl rfl (by decide +kernel) ⟨Nat.le_of_ble_eq_true rfl, Nat.le_of_ble_eq_true rfl⟩) ⟨kP_blind, va_recv hK hP (ci := 0) (q0 := 0) rfl (gs_n (by omega) (by omega) (by omega) (gw_0)), fun U hU hW => ⟨rfl, kP_at hK hP hD U hU hW⟩⟩ rfl rfl hl.1 rfl (lv_room (Nat.le_of_ble_eq_true rfl)) d_K_searchReached_6 ⟨Nat.le_of_ble_eq_true rfl, Nat.le_of_ble_eq_true rfl⟩) hD hS hA (fun u H locs hu hP hD hS hz => ?_)
  subst hu
  refine lv_aload_n hx hb d_K_searchReached_9 rfl (lv_at hl 0 rfl) ?_
  refine lv_aload_n hx hb d_K_searchReached_10 rfl (lv_at hl 1 rfl) ?_
  refine lv_iconst (v := 0) hx hb d_K_searchReached_11 (by decide) ?_
  refine kc_v (va_runV (As := [.ref (ad si), .int 0]) (rest := []) ⟨hx, hb, hml, hown, hts⟩ (c_K_followFields l D ty ad _ n f th rt qu b w T g a o si sj sk (addRQ f rt qu (sFg S)) hi hj hk hji hki hkj 0 hn h12) (cwV 2 hts (kGV kS1 m_K_160 m_im_K_followFields m_sel_K_followFields m_ini_K m_code_K_followFields) rfl rfl rfl (by decide +kernel) ⟨Nat.le_of_ble_eq_true rfl, Nat.le_of_ble_eq_true rfl⟩) ⟨kP_blind, va_recv hK hP (ci := 0) (q0 := 0) rfl (gs_n (by omega) (by omega) (by omega) (gw_0)), fun U hU hW => ⟨rfl, kP_at hK hP hD U hU hW⟩⟩ rfl rfl hl.1 rfl (lv_room (Nat.le_of_ble_eq_true rfl)) d_K_searchReached_12 ⟨Nat.le_of_ble_eq_true rfl, Nat.le_of_ble_eq_true rfl⟩) hD hS hA (fun u H locs hu hP hD hS hz => ?_)
  subst hu
  have hu : (wL (22 + 2 * n) ad (sUp ty ad (gc ty ad f th rt qu b w T g a o) si sj sk (fF th T 0 (addRQ f rt qu (sFg S)))) : va_W) = wL (22 + 2 * n) ad (sUp ty ad (gc ty ad f th rt qu b w T g a o) si sj sk (sReach f th rt qu T S)) := by rfl
  exact W.vret hx hb hr (fun t ht hW => ⟨⟨_, rfl, hu, by rw [ht]; exact hP, va_K.moved hW.alike hK, hD⟩, hS.F ht⟩) hS.2.2 d_K_searchReached_15
set_option maxHeartbeats 4000000 in
set_option maxRecDepth 100000 in
/-- searchKept(search) -/
theorem c_K_searchKept (l : Launch) (D : va_G) (ty : Nat → ClassId) (ad : Nat → Nat) (sz : Nat) (n : Nat) (f : Nat → Int32) (th : Nat → Bool) (rt qu : Nat → Int32) (b w : SR) (T : Nat → TH) (g : Nat → Int32) (a : Nat → Nat → Int32) (o : Nat → Int64) (si sj sk : Nat) (S : SR) (hi : 4 ≤ si ∧ si < 10) (hj : 4 ≤ sj ∧ sj < 10) (hk : 4 ≤ sk ∧ sk < 10) (hji : sj ≠ si) (hki : sk ≠ si) (hkj : sk ≠ sj) (hn : ∀ k, th k = true → k < n) (h12 : ∀ k, (T k).2.2.2.1 ≤ 12) : Met l y_K_searchKept w_K_searchKept ({ frames := 3, cells := 0, slots := 0, locals := 67 }) (va_Pc [.ref (ad 0), .ref (ad si)] (kP D kCl (kTy ty) (wL (22 + 2 * n) ad (sUp ty ad (gc ty ad f th rt qu b w T g a o) si sj sk S)) sz)) (va_Qv (fun u9 : va_W => u9 = (wL (22 + 2 * n) ad (sUp ty ad (gc ty ad f th rt qu b w T g a o) si sj sk (sKept f th rt qu T S)))) (kB D kCl (kTy ty) (va_A (wL (22 + 2 * n) ad (sUp ty ad (gc ty ad f th rt qu b w T g a o) si sj sk S)) sz)) (va_A (wL (22 + 2 * n) ad (sUp ty ad (gc ty ad f th rt qu b w T g a o) si sj sk S)) sz)) 0 0 (va_A (wL (22 + 2 * n) ad (sUp ty ad (gc ty ad f th rt qu b w T g a o) si sj sk S)) sz) := by
  refine Met.ofW (cc := b_K_searchKept) (maxL := 4) (ret := none) (by decide) rfl ?_
  intro p e s m args below meth cd s₁ B hml hv
  obtain ⟨rfl, hsz, hP, hK, hD0⟩ := hv
  have hx := B.exec
  have hb := B.bytes
  have hr := B.returns
  have hts := atoms_spec (ws := w_K_searchKept) B.pre
  have hown : s.vm.findClass R_K = some m.cls := findClass_of_methodNamed B.named
  have hlocks := B.notSynchronized
  subst hsz
  have hD := hD0.self (sz := s.heap.size)
  generalize hAe : va_A (wL (22 + 2 * n) ad (sUp ty ad (gc ty ad f th rt qu b w T g a o) si sj sk S)) s.heap.size = A at hD ⊢
  have hA : ∀ q : Nat, s.heap.size ≤ q → A q := fun q h => by rw [← hAe]; exact Or.inr h
  have hS : va_S A s.heap s.heap [] := va_S.rf
  have hl := lv_entry ([.ref (ad 0), .ref (ad si)]) (n := 4) (Nat.le_of_ble_eq_true rfl)
  rw [lg_entry_eq]
  generalize (lg_sl ([.ref (ad 0), .ref (ad si)]) ++ List.replicate (4 - (lg_sl ([.ref (ad 0), .ref (ad si)])).length) Slot.unset).toArray = ls at hl ⊢
  have hl : lv_has ls 4 [(0, .ref (ad 0)), (1, .ref (ad si))] := hl
  refine lv_aload_n hx hb d_K_searchKept_0 rfl (lv_at hl 1 rfl) ?_
  refine kc_v (va_runV (As := []) (rest := []) ⟨hx, hb, hml, hown, hts⟩ (c_S_forgetAll l D ty ad _ (22 + 2 * n) (gc ty ad f th rt qu b w T g a o) si sj sk S (by omega) (by omega) (by omega) hji hki hkj) (cwV 0 hts (kGV kS1 m_K_154 m_im_S_forgetAll m_sel_S_forgetAll m_ini_S m_code_S_forgetAll) rfl rfl rfl (by decide +kernel) ⟨Nat.le_of_ble_eq_true rfl, Nat.le_of_ble_eq_true rfl⟩) ⟨kP_blind, va_recv hK hP (ci := 1) (q0 := si) rfl (sw_o (S := S) (by omega)), fun U hU hW => ⟨rfl, kP_at hK hP hD U hU hW⟩⟩ rfl rfl hl.1 rfl (lv_room (Nat.le_of_ble_eq_true rfl)) d_K_searchKept_1 ⟨Nat.le_of_ble_eq_true rfl, Nat.le_of_ble_eq_true rfl⟩) hD hS hA (fun u H locs hu hP hD hS hz => ?_)
  subst hu
  refine lv_aload_n hx hb d_K_searchKept_4 rfl (lv_at hl 0 rfl) ?_
  refine lv_aload_n hx hb d_K_searchKept_5 rfl (lv_at hl 1 rfl) ?_
  refine kc_v (va_runV (As := [.ref (ad si)]) (rest := []) ⟨hx, hb, hml, hown, hts⟩ (c_K_addRootsAndQueue l D ty ad _ n f th rt qu b w T g a o si sj sk (sFg S) hi hj hk hji hki hkj) (cwV 1 hts (kGV kS1 m_K_157 m_im_K_addRootsAndQueue m_sel_K_addRootsAndQueue m_ini_K m_code_K_addRootsAndQueue) rfl rfl rfl (by decide +kernel) ⟨Nat.le_of_ble_eq_true rfl, Nat.le_of_ble_eq_true rfl⟩) ⟨kP_blind, va_recv hK hP (ci := 0) (q0 := 0) rfl (gs_n (by omega) (by omega) (by omega) (gw_0)), fun U hU hW => ⟨rfl, kP_at hK hP hD U hU hW⟩⟩ rfl rfl hl.1 rfl (lv_room (Nat.le_of_ble_eq_true rfl)) d_K_searchKept_6 ⟨Nat.le_of_ble_eq_true rfl, Nat.le_of_ble_eq_true rfl⟩) hD hS hA (fun u H locs hu hP hD hS hz => ?_)
  subst hu
  refine lv_iconst (v := 0) hx hb d_K_searchKept_9 (by decide) ?_
  refine lv_istore_n (lv' := [(2, .int 0), (0, .ref (ad 0)), (1, .ref (ad si))]) hx hb d_K_searchKept_10 rfl hl (by decide) rfl (fun ls hl => ?_)
  have L1 : ∀ (Q : State → Prop) (rem i : Nat) (H : Heap) (locs : List Loc) (ls : Array Slot), i + rem = 300 → va_P D kCl (wL (22 + 2 * n) ad (sUp ty ad (gc ty ad f th rt qu b w T g a o) si sj sk (it (kA th T) i (addRQ f rt qu (sFg S))))) H → va_D A (wL (22 + 2 * n) ad (sUp ty ad (gc ty ad f th rt qu b w T g a o) si sj sk (it (kA th T) i (addRQ f rt qu (sFg S))))) → va_S A s.heap H locs → lv_has ls 4 [(0, .ref (ad 0)), (1, .ref (ad si)), (2, .int (nI i))] → (∀ (H : Heap) (locs : List Loc) (ls : Array Slot), va_P D kCl (wL (22 + 2 * n) ad (sUp ty ad (gc ty ad f th rt qu b w T g a o) si sj sk (it (kA th T) 300 (addRQ f rt qu (sFg S))))) H → va_D A (wL (22 + 2 * n) ad (sUp ty ad (gc ty ad f th rt qu b w T g a o) si sj sk (it (kA th T) 300 (addRQ f rt qu (sFg S))))) → va_S A s.heap H locs → lv_has ls 4 [(0, .ref (ad 0)), (1, .ref (ad si))] → W p l e (headSpec w_K_searchKept ({ frames := 3, cells := 0, slots := 0, locals := 67 })).room s m ([.ref (ad 0), .ref (ad si)] : List Value).toArray below meth cd H locs 0 0 Q (F0 m 49 ls [])) → W p l e (headSpec w_K_searchKept ({ frames := 3, cells := 0, slots := 0, locals := 67 })).room s m ([.ref (ad 0), .ref (ad si)] : List Value).toArray below meth cd H locs 0 0 Q (F0 m 11 ls []) := by
    intro Q rem
    induction rem with
    | zero =>
      intro i H locs ls hir_i hP hD hS hl kx
      obtain rfl : 300 = i := by omega
      refine lv_iload_n hx hb d_K_searchKept_11 rfl (lv_at hl 2 rfl) ?_
      refine lv_aload_n hx hb d_K_searchKept_12 rfl (lv_at hl 0 rfl) ?_
      refine va_get (D := D) (ci := 0) (v := .ref (ad 1)) (C := R_K) (T := F_K) (N := 12) hx hb hts (fun w h => kS1 w (i_K w h)) hown hK hP 0 (gs_n (by omega) (by omega) (by omega) (gw_0)) rfl 0 (by decide) (hts _ (kS1 _ m_K_11)) (fun _ h9 => h9) rfl d_K_searchKept_13 ?_
      refine va_alen (v := 300) hx hb hK hP 1 2 (gs_n (by omega) (by omega) (by omega) (gw_1)) rfl rfl d_K_searchKept_16 ?_
      refine lv_icmp_ge (tgt := 49) hx hb d_K_searchKept_17 (by decide) (fun c_17' => ?_) (fun c_17' => absurd (nI_le (a := 300) (b := 300) (Nat.le_refl _) (by omega)) c_17')
      have hl := lv_sub (l' := [(0, .ref (ad 0)), (1, .ref (ad si))]) hl [0, 1] rfl
      exact kx _ _ ls hP hD hS hl
    | succ rem ih =>
      intro i H locs ls hir_i hP hD hS hl kx
      have hlt_i : i < 300 := by omega
      refine lv_iload_n hx hb d_K_searchKept_11 rfl (lv_at hl 2 rfl) ?_
      refine lv_aload_n hx hb d_K_searchKept_12 rfl (lv_at hl 0 rfl) ?_
      refine va_get (D := D) (ci := 0) (v := .ref (ad 1)) (C := R_K) (T := F_K) (N := 12) hx hb hts (fun w h => kS1 w (i_K w h)) hown hK hP 0 (gs_n (by omega) (by omega) (by omega) (gw_0)) rfl 0 (by decide) (hts _ (kS1 _ m_K_11)) (fun _ h9 => h9) rfl d_K_searchKept_13 ?_
      refine va_alen (v := 300) hx hb hK hP 1 2 (gs_n (by omega) (by omega) (by omega) (gw_1)) rfl rfl d_K_searchKept_16 ?_
      refine lv_icmp_ge (tgt := 49) hx hb d_K_searchKept_17 (by decide) (fun c_17' => absurd c_17' (nI_ge (b := 300) hlt_i (by omega))) (fun c_17' => ?_)
      refine lv_aload_n hx hb d_K_searchKept_20 rfl (lv_at hl 0 rfl) ?_
      refine va_get (D := D) (ci := 0) (v := .ref (ad 1)) (C := R_K) (T := F_K) (N := 12) hx hb hts (fun w h => kS1 w (i_K w h)) hown hK hP 0 (gs_n (by omega) (by omega) (by omega) (gw_0)) rfl 0 (by decide) (hts _ (kS1 _ m_K_11)) (fun _ h9 => h9) rfl d_K_searchKept_21 ?_
      refine lv_iload_n hx hb d_K_searchKept_24 rfl (lv_at hl 2 rfl) ?_
      refine va_aldq (f := thf ad th) hx hb hK hP 1 2 (gs_n (by omega) (by omega) (by omega) (gw_1)) rfl (vp_in_nI hlt_i (by omega)) d_K_searchKept_25 ?_
      rw [nI_clamp (n := i) (by omega)]
      by_cases hth_25 : th i = true
      · rw [kth_t hth_25]
        refine lv_astore_n (lv' := [(3, .ref (ad (22 + 2 * i))), (0, .ref (ad 0)), (1, .ref (ad si)), (2, .int (nI i))]) hx hb d_K_searchKept_26 rfl hl (by decide) rfl (fun ls hl => ?_)
        refine lv_aload_n hx hb d_K_searchKept_27 rfl (lv_at hl 0 rfl) ?_
        refine lv_ifnull hx hb d_K_searchKept_28 ?_
        refine lv_aload_n hx hb d_K_searchKept_31 rfl (lv_at hl 0 rfl) ?_
        refine kc_R (va_runV (As := []) (rest := []) ⟨hx, hb, hml, hown, hts⟩ (c_T_waitsForQueue l D ty ad _ (22 + 2 * n) (sUp ty ad (gc ty ad f th rt qu b w T g a o) si sj sk (it (kA th T) i (addRQ f rt qu (sFg S)))) (22 + 2 * i) (23 + 2 * i) ((T i).1) ((T i).2.1) ((T i).2.2.1) ((T i).2.2.2.1) ((T i).2.2.2.2) (gi_T (hn _ hth_25)) (gi_F (hn _ hth_25)) (sUp_n (by omega) (by omega) (by omega) gc_T) (sUp_n (by omega) (by omega) (by omega) gc_F)) (cwV 0 hts (kGV kS1 m_K_150 m_im_T_waitsForQueue m_sel_T_waitsForQueue m_ini_T m_code_T_waitsForQueue) rfl rfl rfl (by decide +kernel) ⟨Nat.le_of_ble_eq_true rfl, Nat.le_of_ble_eq_true rfl⟩) ⟨kP_blind, va_recv hK hP (ci := 2) (q0 := (22 + 2 * i)) rfl (gs_n (by omega) (by omega) (by omega) (gw_T (k := i) (hn _ hth_25))), fun U hU hW => ⟨rfl, kP_at hK hP hD U hU hW⟩⟩ rfl rfl hl.1 rfl (lv_room (Nat.le_of_ble_eq_true rfl)) d_K_searchKept_32 ⟨Nat.le_of_ble_eq_true rfl, Nat.le_of_ble_eq_true rfl⟩) ?_
        refine lv_if_eq (tgt := 43) hx hb d_K_searchKept_35 (by decide) (fun c_35' => ?_) (fun c_35' => ?_)
        · refine lv_iinc (v := nI i + 1) (lv' := [(2, .int (nI i + 1)), (3, .ref (ad (22 + 2 * i))), (0, .ref (ad 0)), (1, .ref (ad si))]) hx hb d_K_searchKept_43 hl (k := 3) rfl rfl (by decide) rfl (fun ls hl => ?_)
          refine lv_goto (tgt := 11) hx hb d_K_searchKept_46 (by decide) ?_
          have hl := lv_sub (l' := [(0, .ref (ad 0)), (1, .ref (ad si)), (2, .int (nI i + 1))]) hl [2, 3, 0] rfl
          have hqq9 : (.int (nI i + 1) : Value) = .int (nI (i + 1)) := by rw [nI_1]
          rw [hqq9] at hl
          have hE : (wL (22 + 2 * n) ad (sUp ty ad (gc ty ad f th rt qu b w T g a o) si sj sk (it (kA th T) i (addRQ f rt qu (sFg S)))) : va_W) = wL (22 + 2 * n) ad (sUp ty ad (gc ty ad f th rt qu b w T g a o) si sj sk (it (kA th T) (i + 1) (addRQ f rt qu (sFg S)))) := by rw [it_s, kA]; simp [c_17', hth_25, c_35']
          have hP := kw_P hE hP
          have hD := kw_D hE hD
          exact ih (i + 1) _ _ ls (by omega) hP hD hS hl kx
        · refine lv_aload_n hx hb d_K_searchKept_38 rfl (lv_at hl 2 rfl) ?_
          refine lv_iload_n hx hb d_K_searchKept_39 rfl (lv_at hl 3 rfl) ?_
          refine kc_v (va_runV (As := [.int (nI i)]) (rest := []) ⟨hx, hb, hml, hown, hts⟩ (c_S_add l D ty ad _ (22 + 2 * n) (gc ty ad f th rt qu b w T g a o) si sj sk (it (kA th T) i (addRQ f rt qu (sFg S))) (by omega) (by omega) (by omega) hji hki hkj (nI i)) (cwV 1 hts (kGV kS1 m_K_164 m_im_S_add m_sel_S_add m_ini_S m_code_S_add) rfl rfl rfl (by decide +kernel) ⟨Nat.le_of_ble_eq_true rfl, Nat.le_of_ble_eq_true rfl⟩) ⟨kP_blind, va_recv hK hP (ci := 1) (q0 := si) rfl (sw_o (S := it (kA th T) i (addRQ f rt qu (sFg S))) (by omega)), fun U hU hW => ⟨rfl, kP_at hK hP hD U hU hW⟩⟩ rfl rfl hl.1 rfl (lv_room (Nat.le_of_ble_eq_true rfl)) d_K_searchKept_40 ⟨Nat.le_of_ble_eq_true rfl, Nat.le_of_ble_eq_true rfl⟩) hD hS hA (fun u H locs hu hP hD hS hz => ?_)
          subst hu
          refine lv_iinc (v := nI i + 1) (lv' := [(2, .int (nI i + 1)), (3, .ref (ad (22 + 2 * i))), (0, .ref (ad 0)), (1, .ref (ad si))]) hx hb d_K_searchKept_43 hl (k := 3) rfl rfl (by decide) rfl (fun ls hl => ?_)
          refine lv_goto (tgt := 11) hx hb d_K_searchKept_46 (by decide) ?_
          have hl := lv_sub (l' := [(0, .ref (ad 0)), (1, .ref (ad si)), (2, .int (nI i + 1))]) hl [2, 3, 0] rfl
          have hqq9 : (.int (nI i + 1) : Value) = .int (nI (i + 1)) := by rw [nI_1]
          rw [hqq9] at hl
          have hE : (wL (22 + 2 * n) ad (sUp ty ad (gc ty ad f th rt qu b w T g a o) si sj sk (sAdd (it (kA th T) i (addRQ f rt qu (sFg S))) (nI i))) : va_W) = wL (22 + 2 * n) ad (sUp ty ad (gc ty ad f th rt qu b w T g a o) si sj sk (it (kA th T) (i + 1) (addRQ f rt qu (sFg S)))) := by rw [it_s, kA]; simp [c_17', hth_25, c_35']
          have hP := kw_P hE hP
          have hD := kw_D hE hD
          exact ih (i + 1) _ _ ls (by omega) hP hD hS hl kx
      · rw [kth_f hth_25]
        refine lv_astore_nN (lv' := [(3, .null), (0, .ref (ad 0)), (1, .ref (ad si)), (2, .int (nI i))]) hx hb d_K_searchKept_26 rfl hl (by decide) rfl (fun ls hl => ?_)
        refine lv_aload_nN hx hb d_K_searchKept_27 rfl (lv_at hl 0 rfl) ?_
        refine lv_ifnullN (tgt := 43) hx hb d_K_searchKept_28 (by decide) ?_
        refine lv_iinc (v := nI i + 1) (lv' := [(2, .int (nI i + 1)), (3, .null), (0, .ref (ad 0)), (1, .ref (ad si))]) hx hb d_K_searchKept_43 hl (k := 3) rfl rfl (by decide) rfl (fun ls hl => ?_)
        refine lv_goto (tgt := 11) hx hb d_K_searchKept_46 (by decide) ?_
        have hl := lv_sub (l' := [(0, .ref (ad 0)), (1, .ref (ad si)), (2, .int (nI i + 1))]) hl [2, 3, 0] rfl
        have hqq9 : (.int (nI i + 1) : Value) = .int (nI (i + 1)) := by rw [nI_1]
        rw [hqq9] at hl
        have hE : (wL (22 + 2 * n) ad (sUp ty ad (gc ty ad f th rt qu b w T g a o) si sj sk (it (kA th T) i (addRQ f rt qu (sFg S)))) : va_W) = wL (22 + 2 * n) ad (sUp ty ad (gc ty ad f th rt qu b w T g a o) si sj sk (it (kA th T) (i + 1) (addRQ f rt qu (sFg S)))) := by rw [it_s, kA]; simp [c_17', hth_25]
        have hP := kw_P hE hP
        have hD := kw_D hE hD
        exact ih (i + 1) _ _ ls (by omega) hP hD hS hl kx
  have hl := lv_sub (l' := [(0, .ref (ad 0)), (1, .ref (ad si)), (2, .int 0)]) hl [1, 2, 0] rfl
  have hqq9 : (.int 0 : Value) = .int (nI 0) := by rw [nI_0]
  rw [hqq9] at hl
  refine L1 _ (300 - 0) 0 _ _ ls (by omega) hP hD hS hl (fun H locs ls hP hD hS hl => ?_)
  refine lv_aload_n hx hb d_K_searchKept_49 rfl (lv_at hl 0 rfl) ?_
  refine lv_aload_n hx hb d_K_searchKept_50 rfl (lv_at hl 1 rfl) ?_
  refine lv_iconst (v := 1) hx hb d_K_searchKept_51 (by decide) ?_
  refine kc_v (va_runV (As := [.ref (ad si), .int 1]) (rest := []) ⟨hx, hb, hml, hown, hts⟩ (c_K_followFields l D ty ad _ n f th rt qu b w T g a o si sj sk (it (kA th T) 300 (addRQ f rt qu (sFg S))) hi hj hk hji hki hkj 1 hn h12) (cwV 2 hts (kGV kS1 m_K_160 m_im_K_followFields m_sel_K_followFields m_ini_K m_code_K_followFields) rfl rfl rfl (by decide +kernel) ⟨Nat.le_of_ble_eq_true rfl, Nat.le_of_ble_eq_true rfl⟩) ⟨kP_blind, va_recv hK hP (ci := 0) (q0 := 0) rfl (gs_n (by omega) (by omega) (by omega) (gw_0)), fun U hU hW => ⟨rfl, kP_at hK hP hD U hU hW⟩⟩ rfl rfl hl.1 rfl (lv_room (Nat.le_of_ble_eq_true rfl)) d_K_searchKept_52 ⟨Nat.le_of_ble_eq_true rfl, Nat.le_of_ble_eq_true rfl⟩) hD hS hA (fun u H locs hu hP hD hS hz => ?_)
  subst hu
  have hu : (wL (22 + 2 * n) ad (sUp ty ad (gc ty ad f th rt qu b w T g a o) si sj sk (fF th T 1 (it (kA th T) 300 (addRQ f rt qu (sFg S))))) : va_W) = wL (22 + 2 * n) ad (sUp ty ad (gc ty ad f th rt qu b w T g a o) si sj sk (sKept f th rt qu T S)) := by rfl
  exact W.vret hx hb hr (fun t ht hW => ⟨⟨_, rfl, hu, by rw [ht]; exact hP, va_K.moved hW.alike hK, hD⟩, hS.F ht⟩) hS.2.2 d_K_searchKept_55
end
section
/-! Part 08: the keeper's further reads. -/
set_option maxHeartbeats 4000000 in
set_option maxRecDepth 100000 in
/-- thingThere(k), k there -/
theorem c_K_thingThere (l : Launch) (D : va_G) (ty : Nat → ClassId) (ad : Nat → Nat) (sz : Nat) (n : Nat) (f : Nat → Int32) (th : Nat → Bool) (rt qu : Nat → Int32) (b w : SR) (T : Nat → TH) (g : Nat → Int32) (a : Nat → Nat → Int32) (o : Nat → Int64) (hn : ∀ k, th k = true → k < n) (hn3 : n ≤ 300) (k : Nat) (hk : th k = true) : Met l y_K_thingThere w_K_thingThere ({ frames := 1, cells := 0, slots := 0, locals := 21 }) (va_Pc [.ref (ad 0), .int (nI k)] (kP D kCl (kTy ty) (gW n ty ad f th rt qu b w T g a o) sz)) (kQr (some (.ref (ad (22 + 2 * k))))) 0 0 (fun _ => False) := by
  refine Met.ofW (cc := b_K_thingThere) (maxL := 3) (ret := (some (.object "WillKeeper$Thing"))) (by decide) rfl ?_
  intro p e s m args below meth cd s₁ B hml hv
  obtain ⟨rfl, hsz, hP, hK, hD0⟩ := hv
  have hx := B.exec
  have hb := B.bytes
  have hr := B.returns
  have hts := atoms_spec (ws := w_K_thingThere) B.pre
  have hown : s.vm.findClass R_K = some m.cls := findClass_of_methodNamed B.named
  have hlocks := B.notSynchronized
  subst hsz
  have hD := hD0
  have hl := lv_entry ([.ref (ad 0), .int (nI k)]) (n := 3) (Nat.le_of_ble_eq_true rfl)
  rw [lg_entry_eq]
  generalize (lg_sl ([.ref (ad 0), .int (nI k)]) ++ List.replicate (3 - (lg_sl ([.ref (ad 0), .int (nI k)])).length) Slot.unset).toArray = ls at hl ⊢
  have hl : lv_has ls 3 [(0, .ref (ad 0)), (1, .int (nI k))] := hl
  refine lv_aload_n hx hb d_K_thingThere_0 rfl (lv_at hl 0 rfl) ?_
  refine lv_iload_n hx hb d_K_thingThere_1 rfl (lv_at hl 1 rfl) ?_
  refine kc_R (va_runV (As := [.int (nI k)]) (rest := []) ⟨hx, hb, hml, hown, hts⟩ (c_K_thingOrNull l D ty ad _ (22 + 2 * n) (gc ty ad f th rt qu b w T g a o) f (by omega) rfl th rfl (nI k)) (cwV 1 hts (kGV kS1 m_K_98 m_im_K_thingOrNull m_sel_K_thingOrNull m_ini_K m_code_K_thingOrNull) rfl rfl rfl (by decide +kernel) ⟨Nat.le_of_ble_eq_true rfl, Nat.le_of_ble_eq_true rfl⟩) ⟨kP_blind, va_recv hK hP (ci := 0) (q0 := 0) rfl gw_0, fun U hU hW => ⟨rfl, kP_at hK hP hD U hU hW⟩⟩ rfl rfl hl.1 rfl (lv_room (Nat.le_of_ble_eq_true rfl)) d_K_thingThere_2 ⟨Nat.le_of_ble_eq_true rfl, Nat.le_of_ble_eq_true rfl⟩) ?_
  rw [tOr_t (by have := hn k hk; omega) hk]
  refine lv_astore_n (lv' := [(2, .ref (ad (22 + 2 * k))), (0, .ref (ad 0)), (1, .int (nI k))]) hx hb d_K_thingThere_5 rfl hl (by decide) rfl (fun ls hl => ?_)
  refine lv_aload_n hx hb d_K_thingThere_6 rfl (lv_at hl 0 rfl) ?_
  refine lv_ifnonnull (tgt := 20) hx hb d_K_thingThere_7 (by decide) ?_
  refine lv_aload_n hx hb d_K_thingThere_20 rfl (lv_at hl 0 rfl) ?_
  have hv : (.ref (ad (22 + 2 * k)) : Value) = .ref (ad (22 + 2 * k)) := by simp []
  exact W.aret (v := .ref (ad (22 + 2 * k))) hx hb hr (Or.inl ⟨_, rfl⟩) (Or.inr ⟨_, rfl⟩) (fun t ht hW => ⟨by rw [hv], ht⟩) (fun q hq => by cases hq) d_K_thingThere_21
set_option maxHeartbeats 4000000 in
set_option maxRecDepth 100000 in
/-- thingWithField(k, j), both there -/
theorem c_K_thingWithField (l : Launch) (D : va_G) (ty : Nat → ClassId) (ad : Nat → Nat) (sz : Nat) (n : Nat) (f : Nat → Int32) (th : Nat → Bool) (rt qu : Nat → Int32) (b w : SR) (T : Nat → TH) (g : Nat → Int32) (a : Nat → Nat → Int32) (o : Nat → Int64) (hn : ∀ k, th k = true → k < n) (hn3 : n ≤ 300) (k j : Nat) (hk : th k = true) (hj : j < (T k).2.2.2.1) (h12 : (T k).2.2.2.1 ≤ 12) : Met l y_K_thingWithField w_K_thingWithField ({ frames := 2, cells := 0, slots := 0, locals := 43 }) (va_Pc [.ref (ad 0), .int (nI k), .int (nI j)] (kP D kCl (kTy ty) (gW n ty ad f th rt qu b w T g a o) sz)) (kQr (some (.ref (ad (22 + 2 * k))))) 0 0 (fun _ => False) := by
  refine Met.ofW (cc := b_K_thingWithField) (maxL := 4) (ret := (some (.object "WillKeeper$Thing"))) (by decide) rfl ?_
  intro p e s m args below meth cd s₁ B hml hv
  obtain ⟨rfl, hsz, hP, hK, hD0⟩ := hv
  have hx := B.exec
  have hb := B.bytes
  have hr := B.returns
  have hts := atoms_spec (ws := w_K_thingWithField) B.pre
  have hown : s.vm.findClass R_K = some m.cls := findClass_of_methodNamed B.named
  have hlocks := B.notSynchronized
  subst hsz
  have hD := hD0
  have hl := lv_entry ([.ref (ad 0), .int (nI k), .int (nI j)]) (n := 4) (Nat.le_of_ble_eq_true rfl)
  rw [lg_entry_eq]
  generalize (lg_sl ([.ref (ad 0), .int (nI k), .int (nI j)]) ++ List.replicate (4 - (lg_sl ([.ref (ad 0), .int (nI k), .int (nI j)])).length) Slot.unset).toArray = ls at hl ⊢
  have hl : lv_has ls 4 [(0, .ref (ad 0)), (1, .int (nI k)), (2, .int (nI j))] := hl
  refine lv_aload_n hx hb d_K_thingWithField_0 rfl (lv_at hl 0 rfl) ?_
  refine lv_iload_n hx hb d_K_thingWithField_1 rfl (lv_at hl 1 rfl) ?_
  refine kc_R (va_runV (As := [.int (nI k)]) (rest := []) ⟨hx, hb, hml, hown, hts⟩ (c_K_thingThere l D ty ad _ n f th rt qu b w T g a o hn hn3 k hk) (cwV 1 hts (kGV kS1 m_K_114 m_im_K_thingThere m_sel_K_thingThere m_ini_K m_code_K_thingThere) rfl rfl rfl (by decide +kernel) ⟨Nat.le_of_ble_eq_true rfl, Nat.le_of_ble_eq_true rfl⟩) ⟨kP_blind, va_recv hK hP (ci := 0) (q0 := 0) rfl gw_0, fun U hU hW => ⟨rfl, kP_at hK hP hD U hU hW⟩⟩ rfl rfl hl.1 rfl (lv_room (Nat.le_of_ble_eq_true rfl)) d_K_thingWithField_2 ⟨Nat.le_of_ble_eq_true rfl, Nat.le_of_ble_eq_true rfl⟩) ?_
  refine lv_astore_n (lv' := [(3, .ref (ad (22 + 2 * k))), (0, .ref (ad 0)), (1, .int (nI k)), (2, .int (nI j))]) hx hb d_K_thingWithField_5 rfl hl (by decide) rfl (fun ls hl => ?_)
  refine lv_aload_n hx hb d_K_thingWithField_6 rfl (lv_at hl 0 rfl) ?_
  refine lv_iload_n hx hb d_K_thingWithField_7 rfl (lv_at hl 3 rfl) ?_
  refine kc_R (va_runV (As := [.int (nI j)]) (rest := []) ⟨hx, hb, hml, hown, hts⟩ (c_T_hasField l D ty ad _ (22 + 2 * n) (gc ty ad f th rt qu b w T g a o) (22 + 2 * k) (23 + 2 * k) ((T k).1) ((T k).2.1) ((T k).2.2.1) ((T k).2.2.2.1) ((T k).2.2.2.2) (gi_T (hn k hk)) (gi_F (hn k hk)) gc_T gc_F (nI j)) (cwV 1 hts (kGV kS1 m_K_138 m_im_T_hasField m_sel_T_hasField m_ini_T m_code_T_hasField) rfl rfl rfl (by decide +kernel) ⟨Nat.le_of_ble_eq_true rfl, Nat.le_of_ble_eq_true rfl⟩) ⟨kP_blind, va_recv hK hP (ci := 2) (q0 := (22 + 2 * k)) rfl (gw_T (k := k) (hn k hk)), fun U hU hW => ⟨rfl, kP_at hK hP hD U hU hW⟩⟩ rfl rfl hl.1 rfl (lv_room (Nat.le_of_ble_eq_true rfl)) d_K_thingWithField_8 ⟨Nat.le_of_ble_eq_true rfl, Nat.le_of_ble_eq_true rfl⟩) ?_
  refine lv_if_ne (tgt := 24) hx hb d_K_thingWithField_11 (by decide) (fun c_11 => ?_) (fun c_11 => absurd c_11 (by rw [tHasF_t hj (by omega)]; decide))
  refine lv_aload_n hx hb d_K_thingWithField_24 rfl (lv_at hl 0 rfl) ?_
  have hv : (.ref (ad (22 + 2 * k)) : Value) = .ref (ad (22 + 2 * k)) := by simp [c_11]
  exact W.aret (v := .ref (ad (22 + 2 * k))) hx hb hr (Or.inl ⟨_, rfl⟩) (Or.inr ⟨_, rfl⟩) (fun t ht hW => ⟨by rw [hv], ht⟩) (fun q hq => by cases hq) d_K_thingWithField_25
set_option maxHeartbeats 4000000 in
set_option maxRecDepth 100000 in
/-- needThingOrNone(x), nothing or there -/
theorem c_K_needThingOrNone (l : Launch) (D : va_G) (ty : Nat → ClassId) (ad : Nat → Nat) (sz : Nat) (n : Nat) (f : Nat → Int32) (th : Nat → Bool) (rt qu : Nat → Int32) (b w : SR) (T : Nat → TH) (g : Nat → Int32) (a : Nat → Nat → Int32) (o : Nat → Int64) (x : Int32) (hx0 : x = -1 ∨ tOk th x = true) : Met l y_K_needThingOrNone w_K_needThingOrNone ({ frames := 1, cells := 0, slots := 0, locals := 21 }) (va_Pc [.ref (ad 0), .int x] (kP D kCl (kTy ty) (gW n ty ad f th rt qu b w T g a o) sz)) (kQr (none)) 0 0 (fun _ => False) := by
  refine Met.ofW (cc := b_K_needThingOrNone) (maxL := 2) (ret := none) (by decide) rfl ?_
  intro p e s m args below meth cd s₁ B hml hv
  obtain ⟨rfl, hsz, hP, hK, hD0⟩ := hv
  have hx := B.exec
  have hb := B.bytes
  have hr := B.returns
  have hts := atoms_spec (ws := w_K_needThingOrNone) B.pre
  have hown : s.vm.findClass R_K = some m.cls := findClass_of_methodNamed B.named
  have hlocks := B.notSynchronized
  subst hsz
  have hD := hD0
  have hl := lv_entry ([.ref (ad 0), .int x]) (n := 2) (Nat.le_of_ble_eq_true rfl)
  rw [lg_entry_eq]
  generalize (lg_sl ([.ref (ad 0), .int x]) ++ List.replicate (2 - (lg_sl ([.ref (ad 0), .int x])).length) Slot.unset).toArray = ls at hl ⊢
  have hl : lv_has ls 2 [(0, .ref (ad 0)), (1, .int x)] := hl
  refine lv_iload_n hx hb d_K_needThingOrNone_0 rfl (lv_at hl 1 rfl) ?_
  refine lv_iconst (v := (-1)) hx hb d_K_needThingOrNone_1 (by decide) ?_
  refine lv_icmp_eq (tgt := 23) hx hb d_K_needThingOrNone_2 (by decide) (fun c_2 => ?_) (fun c_2 => ?_)
  · exact W.vret hx hb hr (fun t ht hW => ⟨rfl, ht⟩) (fun q hq => by cases hq) d_K_needThingOrNone_23
  · refine lv_aload_n hx hb d_K_needThingOrNone_5 rfl (lv_at hl 0 rfl) ?_
    refine lv_iload_n hx hb d_K_needThingOrNone_6 rfl (lv_at hl 1 rfl) ?_
    refine kc_R (va_runV (As := [.int x]) (rest := []) ⟨hx, hb, hml, hown, hts⟩ (c_K_thingOrNull l D ty ad _ (22 + 2 * n) (gc ty ad f th rt qu b w T g a o) f (by omega) rfl th rfl x) (cwV 1 hts (kGV kS1 m_K_98 m_im_K_thingOrNull m_sel_K_thingOrNull m_ini_K m_code_K_thingOrNull) rfl rfl rfl (by decide +kernel) ⟨Nat.le_of_ble_eq_true rfl, Nat.le_of_ble_eq_true rfl⟩) ⟨kP_blind, va_recv hK hP (ci := 0) (q0 := 0) rfl gw_0, fun U hU hW => ⟨rfl, kP_at hK hP hD U hU hW⟩⟩ rfl rfl hl.1 rfl (lv_room (Nat.le_of_ble_eq_true rfl)) d_K_needThingOrNone_7 ⟨Nat.le_of_ble_eq_true rfl, Nat.le_of_ble_eq_true rfl⟩) ?_
    obtain ⟨k7, hk3, rfl, ht7⟩ := tOk_k (hx0.resolve_left c_2)
    rw [tOr_t hk3 ht7]
    refine lv_ifnonnull (tgt := 23) hx hb d_K_needThingOrNone_10 (by decide) ?_
    exact W.vret hx hb hr (fun t ht hW => ⟨rfl, ht⟩) (fun q hq => by cases hq) d_K_needThingOrNone_23
set_option maxHeartbeats 4000000 in
set_option maxRecDepth 100000 in
/-- get(k, j), both there -/
theorem c_K_get (l : Launch) (D : va_G) (ty : Nat → ClassId) (ad : Nat → Nat) (sz : Nat) (n : Nat) (f : Nat → Int32) (th : Nat → Bool) (rt qu : Nat → Int32) (b w : SR) (T : Nat → TH) (g : Nat → Int32) (a : Nat → Nat → Int32) (o : Nat → Int64) (hn : ∀ k, th k = true → k < n) (hn3 : n ≤ 300) (k j : Nat) (hk : th k = true) (hj : j < (T k).2.2.2.1) (h12 : (T k).2.2.2.1 ≤ 12) : Met l y_K_get w_K_get ({ frames := 3, cells := 0, slots := 0, locals := 66 }) (va_Pc [.ref (ad 0), .int (nI k), .int (nI j)] (kP D kCl (kTy ty) (gW n ty ad f th rt qu b w T g a o) sz)) (kQr (some (.int ((T k).2.2.2.2 j)))) 0 0 (fun _ => False) := by
  refine Met.ofW (cc := b_K_get) (maxL := 3) (ret := (some .int)) (by decide) rfl ?_
  intro p e s m args below meth cd s₁ B hml hv
  obtain ⟨rfl, hsz, hP, hK, hD0⟩ := hv
  have hx := B.exec
  have hb := B.bytes
  have hr := B.returns
  have hts := atoms_spec (ws := w_K_get) B.pre
  have hown : s.vm.findClass R_K = some m.cls := findClass_of_methodNamed B.named
  have hlocks := B.notSynchronized
  subst hsz
  have hD := hD0
  have hl := lv_entry ([.ref (ad 0), .int (nI k), .int (nI j)]) (n := 3) (Nat.le_of_ble_eq_true rfl)
  rw [lg_entry_eq]
  generalize (lg_sl ([.ref (ad 0), .int (nI k), .int (nI j)]) ++ List.replicate (3 - (lg_sl ([.ref (ad 0), .int (nI k), .int (nI j)])).length) Slot.unset).toArray = ls at hl ⊢
  have hl : lv_has ls 3 [(0, .ref (ad 0)), (1, .int (nI k)), (2, .int (nI j))] := hl
  refine lv_aload_n hx hb d_K_get_0 rfl (lv_at hl 0 rfl) ?_
  refine lv_iload_n hx hb d_K_get_1 rfl (lv_at hl 1 rfl) ?_
  refine lv_iload_n hx hb d_K_get_2 rfl (lv_at hl 2 rfl) ?_
  refine kc_R (va_runV (As := [.int (nI k), .int (nI j)]) (rest := []) ⟨hx, hb, hml, hown, hts⟩ (c_K_thingWithField l D ty ad _ n f th rt qu b w T g a o hn hn3 k j hk hj h12) (cwV 2 hts (kGV kS1 m_K_58 m_im_K_thingWithField m_sel_K_thingWithField m_ini_K m_code_K_thingWithField) rfl rfl rfl (by decide +kernel) ⟨Nat.le_of_ble_eq_true rfl, Nat.le_of_ble_eq_true rfl⟩) ⟨kP_blind, va_recv hK hP (ci := 0) (q0 := 0) rfl gw_0, fun U hU hW => ⟨rfl, kP_at hK hP hD U hU hW⟩⟩ rfl rfl hl.1 rfl (lv_room (Nat.le_of_ble_eq_true rfl)) d_K_get_3 ⟨Nat.le_of_ble_eq_true rfl, Nat.le_of_ble_eq_true rfl⟩) ?_
  refine va_get (D := D) (ci := 2) (v := .ref (ad (23 + 2 * k))) (C := R_T) (T := F_T) (N := 4) hx hb hts (fun w h => kS1 w (i_T w h)) hown hK hP (22 + 2 * k) (gw_T (k := k) (hn k hk)) rfl 0 (by decide) (hts _ (kS1 _ m_K_66)) (fun _ h9 => h9) rfl d_K_get_6 ?_
  refine lv_iload_n hx hb d_K_get_9 rfl (lv_at hl 2 rfl) ?_
  refine va_iald (f := (T k).2.2.2.2) hx hb hK hP (23 + 2 * k) 0 (gw_F (k := k) (hn k hk)) rfl (vp_in_nI hj (by omega)) d_K_get_10 ?_
  rw [nI_clamp (n := j) (by omega)]
  have hv : (T k).2.2.2.2 j = ((T k).2.2.2.2) j := by simp []
  exact W.iret (v := ((T k).2.2.2.2) j) hx hb hr (fun t ht hW => ⟨by rw [hv], ht⟩) (fun q hq => by cases hq) d_K_get_11
set_option maxHeartbeats 4000000 in
set_option maxRecDepth 100000 in
/-- queued(x), x not below 0 -/
theorem c_K_queued (l : Launch) (D : va_G) (ty : Nat → ClassId) (ad : Nat → Nat) (sz : Nat) (n : Nat) (f : Nat → Int32) (th : Nat → Bool) (rt qu : Nat → Int32) (b w : SR) (T : Nat → TH) (g : Nat → Int32) (a : Nat → Nat → Int32) (o : Nat → Int64) (x : Int32) (hx0 : 0 ≤ x) : Met l y_K_queued w_K_queued ({ frames := 2, cells := 0, slots := 0, locals := 42 }) (va_Pc [.ref (ad 0), .int x] (kP D kCl (kTy ty) (gW n ty ad f th rt qu b w T g a o) sz)) (kQr (some (.int (kQp f qu x)))) 0 0 (fun _ => False) := by
  refine Met.ofW (cc := b_K_queued) (maxL := 2) (ret := (some .int)) (by decide) rfl ?_
  intro p e s m args below meth cd s₁ B hml hv
  obtain ⟨rfl, hsz, hP, hK, hD0⟩ := hv
  have hx := B.exec
  have hb := B.bytes
  have hr := B.returns
  have hts := atoms_spec (ws := w_K_queued) B.pre
  have hown : s.vm.findClass R_K = some m.cls := findClass_of_methodNamed B.named
  have hlocks := B.notSynchronized
  subst hsz
  have hD := hD0
  have hl := lv_entry ([.ref (ad 0), .int x]) (n := 2) (Nat.le_of_ble_eq_true rfl)
  rw [lg_entry_eq]
  generalize (lg_sl ([.ref (ad 0), .int x]) ++ List.replicate (2 - (lg_sl ([.ref (ad 0), .int x])).length) Slot.unset).toArray = ls at hl ⊢
  have hl : lv_has ls 2 [(0, .ref (ad 0)), (1, .int x)] := hl
  refine lv_iload_n hx hb d_K_queued_0 rfl (lv_at hl 1 rfl) ?_
  refine lv_if_ge (tgt := 14) hx hb d_K_queued_1 (by decide) (fun c_1 => ?_) (fun c_1 => absurd hx0 c_1)
  refine lv_aload_n hx hb d_K_queued_14 rfl (lv_at hl 0 rfl) ?_
  refine lv_iload_n hx hb d_K_queued_15 rfl (lv_at hl 1 rfl) ?_
  refine kc_R (va_runV (As := [.int x]) (rest := []) ⟨hx, hb, hml, hown, hts⟩ (c_K_queuePlace l D ty ad _ (22 + 2 * n) (gc ty ad f th rt qu b w T g a o) f (by omega) rfl qu rfl x) (cwV 1 hts (kGV kS1 m_K_91 m_im_K_queuePlace m_sel_K_queuePlace m_ini_K m_code_K_queuePlace) rfl rfl rfl (by decide +kernel) ⟨Nat.le_of_ble_eq_true rfl, Nat.le_of_ble_eq_true rfl⟩) ⟨kP_blind, va_recv hK hP (ci := 0) (q0 := 0) rfl gw_0, fun U hU hW => ⟨rfl, kP_at hK hP hD U hU hW⟩⟩ rfl rfl hl.1 rfl (lv_room (Nat.le_of_ble_eq_true rfl)) d_K_queued_16 ⟨Nat.le_of_ble_eq_true rfl, Nat.le_of_ble_eq_true rfl⟩) ?_
  have hv : kQp f qu x = kQp f qu x := by simp [c_1]
  exact W.iret (v := kQp f qu x) hx hb hr (fun t ht hW => ⟨by rw [hv], ht⟩) (fun q hq => by cases hq) d_K_queued_19
set_option maxHeartbeats 4000000 in
set_option maxRecDepth 100000 in
/-- waitingFinals() -/
theorem c_K_waitingFinals (l : Launch) (D : va_G) (ty : Nat → ClassId) (ad : Nat → Nat) (sz : Nat) (n : Nat) (f : Nat → Int32) (th : Nat → Bool) (rt qu : Nat → Int32) (b w : SR) (T : Nat → TH) (g : Nat → Int32) (a : Nat → Nat → Int32) (o : Nat → Int64) (hn : ∀ k, th k = true → k < n) : Met l y_K_waitingFinals w_K_waitingFinals ({ frames := 1, cells := 0, slots := 0, locals := 20 }) (va_Pc [.ref (ad 0)] (kP D kCl (kTy ty) (gW n ty ad f th rt qu b w T g a o) sz)) (kQr (some (.int (it (kWt th T) 300 0)))) 0 0 (fun _ => False) := by
  refine Met.ofW (cc := b_K_waitingFinals) (maxL := 4) (ret := (some .int)) (by decide) rfl ?_
  intro p e s m args below meth cd s₁ B hml hv
  obtain ⟨rfl, hsz, hP, hK, hD0⟩ := hv
  have hx := B.exec
  have hb := B.bytes
  have hr := B.returns
  have hts := atoms_spec (ws := w_K_waitingFinals) B.pre
  have hown : s.vm.findClass R_K = some m.cls := findClass_of_methodNamed B.named
  have hlocks := B.notSynchronized
  subst hsz
  have hD := hD0
  have hl := lv_entry ([.ref (ad 0)]) (n := 4) (Nat.le_of_ble_eq_true rfl)
  rw [lg_entry_eq]
  generalize (lg_sl ([.ref (ad 0)]) ++ List.replicate (4 - (lg_sl ([.ref (ad 0)])).length) Slot.unset).toArray = ls at hl ⊢
  have hl : lv_has ls 4 [(0, .ref (ad 0))] := hl
  refine lv_iconst (v := 0) hx hb d_K_waitingFinals_0 (by decide) ?_
  refine lv_istore_n (lv' := [(1, .int 0), (0, .ref (ad 0))]) hx hb d_K_waitingFinals_1 rfl hl (by decide) rfl (fun ls hl => ?_)
  refine lv_iconst (v := 0) hx hb d_K_waitingFinals_2 (by decide) ?_
  refine lv_istore_n (lv' := [(2, .int 0), (1, .int 0), (0, .ref (ad 0))]) hx hb d_K_waitingFinals_3 rfl hl (by decide) rfl (fun ls hl => ?_)
  have L1 : ∀ (Q : State → Prop) (rem i : Nat) (ls : Array Slot), i + rem = 300 → lv_has ls 4 [(0, .ref (ad 0)), (1, .int (it (kWt th T) i 0)), (2, .int (nI i))] → (∀ (ls : Array Slot), lv_has ls 4 [(0, .ref (ad 0)), (1, .int (it (kWt th T) 300 0))] → W p l e (headSpec w_K_waitingFinals ({ frames := 1, cells := 0, slots := 0, locals := 20 })).room s m ([.ref (ad 0)] : List Value).toArray below meth cd s.heap [] 0 0 Q (F0 m 40 ls [])) → W p l e (headSpec w_K_waitingFinals ({ frames := 1, cells := 0, slots := 0, locals := 20 })).room s m ([.ref (ad 0)] : List Value).toArray below meth cd s.heap [] 0 0 Q (F0 m 4 ls []) := by
    intro Q rem
    induction rem with
    | zero =>
      intro i ls hir_i hl kx
      obtain rfl : 300 = i := by omega
      refine lv_iload_n hx hb d_K_waitingFinals_4 rfl (lv_at hl 2 rfl) ?_
      refine lv_aload_n hx hb d_K_waitingFinals_5 rfl (lv_at hl 0 rfl) ?_
      refine va_get (D := D) (ci := 0) (v := .ref (ad 1)) (C := R_K) (T := F_K) (N := 12) hx hb hts (fun w h => kS1 w (i_K w h)) hown hK hP 0 gw_0 rfl 0 (by decide) (hts _ (kS1 _ m_K_11)) (fun _ h9 => h9) rfl d_K_waitingFinals_6 ?_
      refine va_alen (v := 300) hx hb hK hP 1 2 gw_1 rfl rfl d_K_waitingFinals_9 ?_
      refine lv_icmp_ge (tgt := 40) hx hb d_K_waitingFinals_10 (by decide) (fun c_10' => ?_) (fun c_10' => absurd (nI_le (a := 300) (b := 300) (Nat.le_refl _) (by omega)) c_10')
      have hl := lv_sub (l' := [(0, .ref (ad 0)), (1, .int (it (kWt th T) 300 0))]) hl [0, 1] rfl
      exact kx ls hl
    | succ rem ih =>
      intro i ls hir_i hl kx
      have hlt_i : i < 300 := by omega
      refine lv_iload_n hx hb d_K_waitingFinals_4 rfl (lv_at hl 2 rfl) ?_
      refine lv_aload_n hx hb d_K_waitingFinals_5 rfl (lv_at hl 0 rfl) ?_
      refine va_get (D := D) (ci := 0) (v := .ref (ad 1)) (C := R_K) (T := F_K) (N := 12) hx hb hts (fun w h => kS1 w (i_K w h)) hown hK hP 0 gw_0 rfl 0 (by decide) (hts _ (kS1 _ m_K_11)) (fun _ h9 => h9) rfl d_K_waitingFinals_6 ?_
      refine va_alen (v := 300) hx hb hK hP 1 2 gw_1 rfl rfl d_K_waitingFinals_9 ?_
      refine lv_icmp_ge (tgt := 40) hx hb d_K_waitingFinals_10 (by decide) (fun c_10' => absurd c_10' (nI_ge (b := 300) hlt_i (by omega))) (fun c_10' => ?_)
      refine lv_aload_n hx hb d_K_waitingFinals_13 rfl (lv_at hl 0 rfl) ?_
      refine va_get (D := D) (ci := 0) (v := .ref (ad 1)) (C := R_K) (T := F_K) (N := 12) hx hb hts (fun w h => kS1 w (i_K w h)) hown hK hP 0 gw_0 rfl 0 (by decide) (hts _ (kS1 _ m_K_11)) (fun _ h9 => h9) rfl d_K_waitingFinals_14 ?_
      refine lv_iload_n hx hb d_K_waitingFinals_17 rfl (lv_at hl 2 rfl) ?_
      refine va_aldq (f := thf ad th) hx hb hK hP 1 2 gw_1 rfl (vp_in_nI hlt_i (by omega)) d_K_waitingFinals_18 ?_
      rw [nI_clamp (n := i) (by omega)]
      by_cases hth_18 : th i = true
      · rw [kth_t hth_18]
        refine lv_astore_n (lv' := [(3, .ref (ad (22 + 2 * i))), (0, .ref (ad 0)), (1, .int (it (kWt th T) i 0)), (2, .int (nI i))]) hx hb d_K_waitingFinals_19 rfl hl (by decide) rfl (fun ls hl => ?_)
        refine lv_aload_n hx hb d_K_waitingFinals_20 rfl (lv_at hl 0 rfl) ?_
        refine lv_ifnull hx hb d_K_waitingFinals_21 ?_
        refine lv_aload_n hx hb d_K_waitingFinals_24 rfl (lv_at hl 0 rfl) ?_
        refine kc_R (va_runV (As := []) (rest := []) ⟨hx, hb, hml, hown, hts⟩ (c_T_waitsForQueue l D ty ad _ (22 + 2 * n) (gc ty ad f th rt qu b w T g a o) (22 + 2 * i) (23 + 2 * i) ((T i).1) ((T i).2.1) ((T i).2.2.1) ((T i).2.2.2.1) ((T i).2.2.2.2) (gi_T (hn _ hth_18)) (gi_F (hn _ hth_18)) gc_T gc_F) (cwV 0 hts (kGV kS1 m_K_150 m_im_T_waitsForQueue m_sel_T_waitsForQueue m_ini_T m_code_T_waitsForQueue) rfl rfl rfl (by decide +kernel) ⟨Nat.le_of_ble_eq_true rfl, Nat.le_of_ble_eq_true rfl⟩) ⟨kP_blind, va_recv hK hP (ci := 2) (q0 := (22 + 2 * i)) rfl (gw_T (k := i) (hn _ hth_18)), fun U hU hW => ⟨rfl, kP_at hK hP hD U hU hW⟩⟩ rfl rfl hl.1 rfl (lv_room (Nat.le_of_ble_eq_true rfl)) d_K_waitingFinals_25 ⟨Nat.le_of_ble_eq_true rfl, Nat.le_of_ble_eq_true rfl⟩) ?_
        refine lv_if_eq (tgt := 34) hx hb d_K_waitingFinals_28 (by decide) (fun c_28' => ?_) (fun c_28' => ?_)
        · refine lv_iinc (v := nI i + 1) (lv' := [(2, .int (nI i + 1)), (3, .ref (ad (22 + 2 * i))), (0, .ref (ad 0)), (1, .int (it (kWt th T) i 0))]) hx hb d_K_waitingFinals_34 hl (k := 3) rfl rfl (by decide) rfl (fun ls hl => ?_)
          refine lv_goto (tgt := 4) hx hb d_K_waitingFinals_37 (by decide) ?_
          have hl := lv_sub (l' := [(0, .ref (ad 0)), (1, .int (it (kWt th T) i 0)), (2, .int (nI i + 1))]) hl [2, 3, 0] rfl
          have hqq9 : (.int (it (kWt th T) i 0) : Value) = .int (it (kWt th T) (i + 1) 0) := by rw [it_s, kWt]; simp [c_10', hth_18, c_28']
          rw [hqq9] at hl
          have hqq9 : (.int (nI i + 1) : Value) = .int (nI (i + 1)) := by rw [nI_1]
          rw [hqq9] at hl
          exact ih (i + 1) ls (by omega) hl kx
        · refine lv_iinc (v := it (kWt th T) i 0 + 1) (lv' := [(1, .int (it (kWt th T) i 0 + 1)), (3, .ref (ad (22 + 2 * i))), (0, .ref (ad 0)), (2, .int (nI i))]) hx hb d_K_waitingFinals_31 hl (k := 2) rfl rfl (by decide) rfl (fun ls hl => ?_)
          refine lv_iinc (v := nI i + 1) (lv' := [(2, .int (nI i + 1)), (1, .int (it (kWt th T) i 0 + 1)), (3, .ref (ad (22 + 2 * i))), (0, .ref (ad 0))]) hx hb d_K_waitingFinals_34 hl (k := 3) rfl rfl (by decide) rfl (fun ls hl => ?_)
          refine lv_goto (tgt := 4) hx hb d_K_waitingFinals_37 (by decide) ?_
          have hl := lv_sub (l' := [(0, .ref (ad 0)), (1, .int (it (kWt th T) i 0 + 1)), (2, .int (nI i + 1))]) hl [3, 1, 0] rfl
          have hqq9 : (.int (it (kWt th T) i 0 + 1) : Value) = .int (it (kWt th T) (i + 1) 0) := by rw [it_s, kWt]; simp [c_10', hth_18, c_28']
          rw [hqq9] at hl
          have hqq9 : (.int (nI i + 1) : Value) = .int (nI (i + 1)) := by rw [nI_1]
          rw [hqq9] at hl
          exact ih (i + 1) ls (by omega) hl kx
      · rw [kth_f hth_18]
        refine lv_astore_nN (lv' := [(3, .null), (0, .ref (ad 0)), (1, .int (it (kWt th T) i 0)), (2, .int (nI i))]) hx hb d_K_waitingFinals_19 rfl hl (by decide) rfl (fun ls hl => ?_)
        refine lv_aload_nN hx hb d_K_waitingFinals_20 rfl (lv_at hl 0 rfl) ?_
        refine lv_ifnullN (tgt := 34) hx hb d_K_waitingFinals_21 (by decide) ?_
        refine lv_iinc (v := nI i + 1) (lv' := [(2, .int (nI i + 1)), (3, .null), (0, .ref (ad 0)), (1, .int (it (kWt th T) i 0))]) hx hb d_K_waitingFinals_34 hl (k := 3) rfl rfl (by decide) rfl (fun ls hl => ?_)
        refine lv_goto (tgt := 4) hx hb d_K_waitingFinals_37 (by decide) ?_
        have hl := lv_sub (l' := [(0, .ref (ad 0)), (1, .int (it (kWt th T) i 0)), (2, .int (nI i + 1))]) hl [2, 3, 0] rfl
        have hqq9 : (.int (it (kWt th T) i 0) : Value) = .int (it (kWt th T) (i + 1) 0) := by rw [it_s, kWt]; simp [c_10', hth_18]
        rw [hqq9] at hl
        have hqq9 : (.int (nI i + 1) : Value) = .int (nI (i + 1)) := by rw [nI_1]
        rw [hqq9] at hl
        exact ih (i + 1) ls (by omega) hl kx
  have hl := lv_sub (l' := [(0, .ref (ad 0)), (1, .int 0), (2, .int 0)]) hl [2, 1, 0] rfl
  have hqq9 : (.int 0 : Value) = .int (nI 0) := by rw [nI_0]
  rw [hqq9] at hl
  refine L1 _ (300 - 0) 0 ls (by omega) hl (fun ls hl => ?_)
  refine lv_iload_n hx hb d_K_waitingFinals_40 rfl (lv_at hl 1 rfl) ?_
  have hv : it (kWt th T) 300 0 = it (kWt th T) 300 0 := by simp []
  exact W.iret (v := it (kWt th T) 300 0) hx hb hr (fun t ht hW => ⟨by rw [hv], ht⟩) (fun q hq => by cases hq) d_K_waitingFinals_41
end
section
/-! Part 09: the keeper's writes. -/
set_option maxHeartbeats 4000000 in
set_option maxRecDepth 100000 in
/-- putInQueue(x, thing k) -/
theorem c_K_putInQueue (l : Launch) (D : va_G) (ty : Nat → ClassId) (ad : Nat → Nat) (sz : Nat) (n : Nat) (f : Nat → Int32) (th : Nat → Bool) (rt qu : Nat → Int32) (b w : SR) (T : Nat → TH) (g : Nat → Int32) (a : Nat → Nat → Int32) (o : Nat → Int64) (k : Nat) (hk : k < n) (x : Int32) : Met l y_K_putInQueue w_K_putInQueue ({ frames := 0, cells := 0, slots := 0, locals := 0 }) (va_Pc [.ref (ad 0), .int x, .ref (ad (22 + 2 * k))] (kP D kCl (kTy ty) (gW n ty ad f th rt qu b w T g a o) sz)) (va_Qv (fun u9 : va_W => u9 = (gW n ty ad ((kPut qu f T k x).2.1) th rt ((kPut qu f T k x).1) b w ((kPut qu f T k x).2.2) g a o)) (kB D kCl (kTy ty) (va_A (gW n ty ad f th rt qu b w T g a o) sz)) (va_A (gW n ty ad f th rt qu b w T g a o) sz)) 0 0 (va_A (gW n ty ad f th rt qu b w T g a o) sz) := by
  refine Met.ofW (cc := b_K_putInQueue) (maxL := 3) (ret := none) (by decide) rfl ?_
  intro p e s m args below meth cd s₁ B hml hv
  obtain ⟨rfl, hsz, hP, hK, hD0⟩ := hv
  have hx := B.exec
  have hb := B.bytes
  have hr := B.returns
  have hts := atoms_spec (ws := w_K_putInQueue) B.pre
  have hown : s.vm.findClass R_K = some m.cls := findClass_of_methodNamed B.named
  have hlocks := B.notSynchronized
  subst hsz
  have hD := hD0.self (sz := s.heap.size)
  generalize hAe : va_A (gW n ty ad f th rt qu b w T g a o) s.heap.size = A at hD ⊢
  have hA : ∀ q : Nat, s.heap.size ≤ q → A q := fun q h => by rw [← hAe]; exact Or.inr h
  have hS : va_S A s.heap s.heap [] := va_S.rf
  have hl := lv_entry ([.ref (ad 0), .int x, .ref (ad (22 + 2 * k))]) (n := 3) (Nat.le_of_ble_eq_true rfl)
  rw [lg_entry_eq]
  generalize (lg_sl ([.ref (ad 0), .int x, .ref (ad (22 + 2 * k))]) ++ List.replicate (3 - (lg_sl ([.ref (ad 0), .int x, .ref (ad (22 + 2 * k))])).length) Slot.unset).toArray = ls at hl ⊢
  have hl : lv_has ls 3 [(0, .ref (ad 0)), (1, .int x), (2, .ref (ad (22 + 2 * k)))] := hl
  refine lv_aload_n hx hb d_K_putInQueue_0 rfl (lv_at hl 0 rfl) ?_
  refine va_get (D := D) (ci := 0) (v := .int (f 4)) (C := R_K) (T := F_K) (N := 12) hx hb hts (fun w h => kS1 w (i_K w h)) hown hK hP 0 gw_0 rfl 4 (by decide) (hts _ (kS1 _ m_K_143)) (fun _ h9 => h9) rfl d_K_putInQueue_1 ?_
  refine lv_if_lt (tgt := 19) hx hb d_K_putInQueue_4 (by decide) (fun c_4 => ?_) (fun c_4 => ?_)
  · have hu : (gW n ty ad f th rt qu b w T g a o : va_W) = gW n ty ad ((kPut qu f T k x).2.1) th rt ((kPut qu f T k x).1) b w ((kPut qu f T k x).2.2) g a o := by simp [kPut, c_4]
    exact W.vret hx hb hr (fun t ht hW => ⟨⟨_, rfl, hu, by rw [ht]; exact hP, va_K.moved hW.alike hK, hD⟩, hS.F ht⟩) hS.2.2 d_K_putInQueue_19
  · refine lv_aload_n hx hb d_K_putInQueue_7 rfl (lv_at hl 0 rfl) ?_
    refine va_get (D := D) (ci := 0) (v := .int (f 4)) (C := R_K) (T := F_K) (N := 12) hx hb hts (fun w h => kS1 w (i_K w h)) hown hK hP 0 gw_0 rfl 4 (by decide) (hts _ (kS1 _ m_K_143)) (fun _ h9 => h9) rfl d_K_putInQueue_8 ?_
    refine lv_aload_n hx hb d_K_putInQueue_11 rfl (lv_at hl 0 rfl) ?_
    refine va_get (D := D) (ci := 0) (v := .ref (ad 3)) (C := R_K) (T := F_K) (N := 12) hx hb hts (fun w h => kS1 w (i_K w h)) hown hK hP 0 gw_0 rfl 2 (by decide) (hts _ (kS1 _ m_K_19)) (fun _ h9 => h9) rfl d_K_putInQueue_12 ?_
    refine va_alen (v := 300) hx hb hK hP 3 0 gw_3 rfl rfl d_K_putInQueue_15 ?_
    refine lv_icmp_lt (tgt := 20) hx hb d_K_putInQueue_16 (by decide) (fun c_16 => ?_) (fun c_16 => ?_)
    · refine lv_aload_n hx hb d_K_putInQueue_20 rfl (lv_at hl 0 rfl) ?_
      refine va_get (D := D) (ci := 0) (v := .ref (ad 3)) (C := R_K) (T := F_K) (N := 12) hx hb hts (fun w h => kS1 w (i_K w h)) hown hK hP 0 gw_0 rfl 2 (by decide) (hts _ (kS1 _ m_K_19)) (fun _ h9 => h9) rfl d_K_putInQueue_21 ?_
      refine lv_aload_n hx hb d_K_putInQueue_24 rfl (lv_at hl 0 rfl) ?_
      refine va_get (D := D) (ci := 0) (v := .int (f 4)) (C := R_K) (T := F_K) (N := 12) hx hb hts (fun w h => kS1 w (i_K w h)) hown hK hP 0 gw_0 rfl 4 (by decide) (hts _ (kS1 _ m_K_143)) (fun _ h9 => h9) rfl d_K_putInQueue_25 ?_
      refine lv_iload_n hx hb d_K_putInQueue_28 rfl (lv_at hl 1 rfl) ?_
      refine va_iast (f := qu) hx hb hK hP hD hS 3 0 gw_3 rfl (kin2 c_4 c_16 rfl) d_K_putInQueue_29 (fun H locs hP hD hS => ?_)
      have hP := kw_P (gw_squ (r := upd qu ((f 4).toNatClampNeg) x)) hP
      have hD := kw_D (gw_squ (r := upd qu ((f 4).toNatClampNeg) x)) hD
      refine lv_aload_n hx hb d_K_putInQueue_30 rfl (lv_at hl 0 rfl) ?_
      refine lv_dup hx hb d_K_putInQueue_31 rfl ?_
      refine va_get (D := D) (ci := 0) (v := .int (f 4)) (C := R_K) (T := F_K) (N := 12) hx hb hts (fun w h => kS1 w (i_K w h)) hown hK hP 0 gw_0 rfl 4 (by decide) (hts _ (kS1 _ m_K_143)) (fun _ h9 => h9) rfl d_K_putInQueue_32 ?_
      refine lv_iconst (v := 1) hx hb d_K_putInQueue_35 (by decide) ?_
      refine lv_iadd hx hb d_K_putInQueue_36 ?_
      refine va_put (D := D) (ci := 0) (v := .int ((f 4) + 1)) (ty := .int) (C := R_K) (T := F_K) (N := 12) hx hb hts (fun w h => kS1 w (i_K w h)) tt_K tt_K_ok n_K hown hK hP hD hS 0 gw_0 rfl 4 (by decide) (hts _ (kS1 _ m_K_143)) (fun _ h9 => h9) rfl (by decide +kernel) rfl rfl (Nat.le_of_ble_eq_true rfl) d_K_putInQueue_37 (fun H locs hP hD hS => ?_)
      have hP := kw_P (gw_sK4 (v := (f 4) + 1)) hP
      have hD := kw_D (gw_sK4 (v := (f 4) + 1)) hD
      refine lv_aload_n hx hb d_K_putInQueue_40 rfl (lv_at hl 2 rfl) ?_
      refine lv_iconst (v := 1) hx hb d_K_putInQueue_41 (by decide) ?_
      refine va_put (D := D) (ci := 2) (v := .int 1) (ty := .boolean) (C := R_T) (T := F_T) (N := 4) hx hb hts (fun w h => kS1 w (i_T w h)) tt_T tt_T_ok n_T hown hK hP hD hS (22 + 2 * k) (gw_T (k := k) hk) rfl 2 (by decide) (hts _ (kS1 _ m_K_146)) (fun _ h9 => h9) rfl (by decide +kernel) rfl rfl (Nat.le_of_ble_eq_true rfl) d_K_putInQueue_42 (fun H locs hP hD hS => ?_)
      have hP := kw_P (gw_sT (k := k) (v1 := (T k).1) (v2 := 1) (v3 := (T k).2.2.1)) hP
      have hD := kw_D (gw_sT (k := k) (v1 := (T k).1) (v2 := 1) (v3 := (T k).2.2.1)) hD
      have hu : (gW n ty ad (upd f 4 ((f 4) + 1)) th rt (upd qu ((f 4).toNatClampNeg) x) b w (va_up T k ((T k).1, 1, (T k).2.2.1, (T k).2.2.2)) g a o : va_W) = gW n ty ad ((kPut qu f T k x).2.1) th rt ((kPut qu f T k x).1) b w ((kPut qu f T k x).2.2) g a o := by simp [kPut, c_4, c_16]
      exact W.vret hx hb hr (fun t ht hW => ⟨⟨_, rfl, hu, by rw [ht]; exact hP, va_K.moved hW.alike hK, hD⟩, hS.F ht⟩) hS.2.2 d_K_putInQueue_45
    · have hu : (gW n ty ad f th rt qu b w T g a o : va_W) = gW n ty ad ((kPut qu f T k x).2.1) th rt ((kPut qu f T k x).1) b w ((kPut qu f T k x).2.2) g a o := by simp [kPut, c_4, c_16]
      exact W.vret hx hb hr (fun t ht hW => ⟨⟨_, rfl, hu, by rw [ht]; exact hP, va_K.moved hW.alike hK, hD⟩, hS.F ht⟩) hS.2.2 d_K_putInQueue_19
set_option maxHeartbeats 4000000 in
set_option maxRecDepth 100000 in
/-- queueUnreached() -/
theorem c_K_queueUnreached (l : Launch) (D : va_G) (ty : Nat → ClassId) (ad : Nat → Nat) (sz : Nat) (n : Nat) (f : Nat → Int32) (th : Nat → Bool) (rt qu : Nat → Int32) (b w : SR) (T : Nat → TH) (g : Nat → Int32) (a : Nat → Nat → Int32) (o : Nat → Int64) (hn : ∀ k, th k = true → k < n) : Met l y_K_queueUnreached w_K_queueUnreached ({ frames := 1, cells := 0, slots := 0, locals := 22 }) (va_Pc [.ref (ad 0)] (kP D kCl (kTy ty) (gW n ty ad f th rt qu b w T g a o) sz)) (va_Qi (fun (r9 : Int32) (u9 : va_W) => r9 = ((it (qU th b) 300 (qu, f, T, 0)).2.2.2) ∧ u9 = (gW n ty ad ((it (qU th b) 300 (qu, f, T, 0)).2.1) th rt ((it (qU th b) 300 (qu, f, T, 0)).1) b w ((it (qU th b) 300 (qu, f, T, 0)).2.2.1) g a o)) (kB D kCl (kTy ty) (va_A (gW n ty ad f th rt qu b w T g a o) sz)) (va_A (gW n ty ad f th rt qu b w T g a o) sz)) 0 0 (va_A (gW n ty ad f th rt qu b w T g a o) sz) := by
  refine Met.ofW (cc := b_K_queueUnreached) (maxL := 4) (ret := (some .int)) (by decide) rfl ?_
  intro p e s m args below meth cd s₁ B hml hv
  obtain ⟨rfl, hsz, hP, hK, hD0⟩ := hv
  have hx := B.exec
  have hb := B.bytes
  have hr := B.returns
  have hts := atoms_spec (ws := w_K_queueUnreached) B.pre
  have hown : s.vm.findClass R_K = some m.cls := findClass_of_methodNamed B.named
  have hlocks := B.notSynchronized
  subst hsz
  have hD := hD0.self (sz := s.heap.size)
  generalize hAe : va_A (gW n ty ad f th rt qu b w T g a o) s.heap.size = A at hD ⊢
  have hA : ∀ q : Nat, s.heap.size ≤ q → A q := fun q h => by rw [← hAe]; exact Or.inr h
  have hS : va_S A s.heap s.heap [] := va_S.rf
  have hl := lv_entry ([.ref (ad 0)]) (n := 4) (Nat.le_of_ble_eq_true rfl)
  rw [lg_entry_eq]
  generalize (lg_sl ([.ref (ad 0)]) ++ List.replicate (4 - (lg_sl ([.ref (ad 0)])).length) Slot.unset).toArray = ls at hl ⊢
  have hl : lv_has ls 4 [(0, .ref (ad 0))] := hl
  refine lv_iconst (v := 0) hx hb d_K_queueUnreached_0 (by decide) ?_
  refine lv_istore_n (lv' := [(1, .int 0), (0, .ref (ad 0))]) hx hb d_K_queueUnreached_1 rfl hl (by decide) rfl (fun ls hl => ?_)
  refine lv_iconst (v := 0) hx hb d_K_queueUnreached_2 (by decide) ?_
  refine lv_istore_n (lv' := [(2, .int 0), (1, .int 0), (0, .ref (ad 0))]) hx hb d_K_queueUnreached_3 rfl hl (by decide) rfl (fun ls hl => ?_)
  have L1 : ∀ (Q : State → Prop) (rem i : Nat) (H : Heap) (locs : List Loc) (ls : Array Slot), i + rem = 300 → va_P D kCl (gW n ty ad ((it (qU th b) i (qu, f, T, 0)).2.1) th rt ((it (qU th b) i (qu, f, T, 0)).1) b w ((it (qU th b) i (qu, f, T, 0)).2.2.1) g a o) H → va_D A (gW n ty ad ((it (qU th b) i (qu, f, T, 0)).2.1) th rt ((it (qU th b) i (qu, f, T, 0)).1) b w ((it (qU th b) i (qu, f, T, 0)).2.2.1) g a o) → va_S A s.heap H locs → lv_has ls 4 [(0, .ref (ad 0)), (1, .int ((it (qU th b) i (qu, f, T, 0)).2.2.2)), (2, .int (nI i))] → (∀ (H : Heap) (locs : List Loc) (ls : Array Slot), va_P D kCl (gW n ty ad ((it (qU th b) 300 (qu, f, T, 0)).2.1) th rt ((it (qU th b) 300 (qu, f, T, 0)).1) b w ((it (qU th b) 300 (qu, f, T, 0)).2.2.1) g a o) H → va_D A (gW n ty ad ((it (qU th b) 300 (qu, f, T, 0)).2.1) th rt ((it (qU th b) 300 (qu, f, T, 0)).1) b w ((it (qU th b) 300 (qu, f, T, 0)).2.2.1) g a o) → va_S A s.heap H locs → lv_has ls 4 [(0, .ref (ad 0)), (1, .int ((it (qU th b) 300 (qu, f, T, 0)).2.2.2))] → W p l e (headSpec w_K_queueUnreached ({ frames := 1, cells := 0, slots := 0, locals := 22 })).room s m ([.ref (ad 0)] : List Value).toArray below meth cd H locs 0 0 Q (F0 m 57 ls [])) → W p l e (headSpec w_K_queueUnreached ({ frames := 1, cells := 0, slots := 0, locals := 22 })).room s m ([.ref (ad 0)] : List Value).toArray below meth cd H locs 0 0 Q (F0 m 4 ls []) := by
    intro Q rem
    induction rem with
    | zero =>
      intro i H locs ls hir_i hP hD hS hl kx
      obtain rfl : 300 = i := by omega
      refine lv_iload_n hx hb d_K_queueUnreached_4 rfl (lv_at hl 2 rfl) ?_
      refine lv_aload_n hx hb d_K_queueUnreached_5 rfl (lv_at hl 0 rfl) ?_
      refine va_get (D := D) (ci := 0) (v := .ref (ad 1)) (C := R_K) (T := F_K) (N := 12) hx hb hts (fun w h => kS1 w (i_K w h)) hown hK hP 0 gw_0 rfl 0 (by decide) (hts _ (kS1 _ m_K_11)) (fun _ h9 => h9) rfl d_K_queueUnreached_6 ?_
      refine va_alen (v := 300) hx hb hK hP 1 2 gw_1 rfl rfl d_K_queueUnreached_9 ?_
      refine lv_icmp_ge (tgt := 57) hx hb d_K_queueUnreached_10 (by decide) (fun c_10' => ?_) (fun c_10' => absurd (nI_le (a := 300) (b := 300) (Nat.le_refl _) (by omega)) c_10')
      have hl := lv_sub (l' := [(0, .ref (ad 0)), (1, .int ((it (qU th b) 300 (qu, f, T, 0)).2.2.2))]) hl [0, 1] rfl
      exact kx _ _ ls hP hD hS hl
    | succ rem ih =>
      intro i H locs ls hir_i hP hD hS hl kx
      have hlt_i : i < 300 := by omega
      refine lv_iload_n hx hb d_K_queueUnreached_4 rfl (lv_at hl 2 rfl) ?_
      refine lv_aload_n hx hb d_K_queueUnreached_5 rfl (lv_at hl 0 rfl) ?_
      refine va_get (D := D) (ci := 0) (v := .ref (ad 1)) (C := R_K) (T := F_K) (N := 12) hx hb hts (fun w h => kS1 w (i_K w h)) hown hK hP 0 gw_0 rfl 0 (by decide) (hts _ (kS1 _ m_K_11)) (fun _ h9 => h9) rfl d_K_queueUnreached_6 ?_
      refine va_alen (v := 300) hx hb hK hP 1 2 gw_1 rfl rfl d_K_queueUnreached_9 ?_
      refine lv_icmp_ge (tgt := 57) hx hb d_K_queueUnreached_10 (by decide) (fun c_10' => absurd c_10' (nI_ge (b := 300) hlt_i (by omega))) (fun c_10' => ?_)
      refine lv_aload_n hx hb d_K_queueUnreached_13 rfl (lv_at hl 0 rfl) ?_
      refine va_get (D := D) (ci := 0) (v := .ref (ad 1)) (C := R_K) (T := F_K) (N := 12) hx hb hts (fun w h => kS1 w (i_K w h)) hown hK hP 0 gw_0 rfl 0 (by decide) (hts _ (kS1 _ m_K_11)) (fun _ h9 => h9) rfl d_K_queueUnreached_14 ?_
      refine lv_iload_n hx hb d_K_queueUnreached_17 rfl (lv_at hl 2 rfl) ?_
      refine va_aldq (f := thf ad th) hx hb hK hP 1 2 gw_1 rfl (vp_in_nI hlt_i (by omega)) d_K_queueUnreached_18 ?_
      rw [nI_clamp (n := i) (by omega)]
      by_cases hth_18 : th i = true
      · rw [kth_t hth_18]
        refine lv_astore_n (lv' := [(3, .ref (ad (22 + 2 * i))), (0, .ref (ad 0)), (1, .int ((it (qU th b) i (qu, f, T, 0)).2.2.2)), (2, .int (nI i))]) hx hb d_K_queueUnreached_19 rfl hl (by decide) rfl (fun ls hl => ?_)
        refine lv_aload_n hx hb d_K_queueUnreached_20 rfl (lv_at hl 0 rfl) ?_
        refine lv_ifnull hx hb d_K_queueUnreached_21 ?_
        refine lv_aload_n hx hb d_K_queueUnreached_24 rfl (lv_at hl 0 rfl) ?_
        refine kc_R (va_runV (As := []) (rest := []) ⟨hx, hb, hml, hown, hts⟩ (c_T_waitsForQueue l D ty ad _ (22 + 2 * n) (gc ty ad ((it (qU th b) i (qu, f, T, 0)).2.1) th rt ((it (qU th b) i (qu, f, T, 0)).1) b w ((it (qU th b) i (qu, f, T, 0)).2.2.1) g a o) (22 + 2 * i) (23 + 2 * i) ((((it (qU th b) i (qu, f, T, 0)).2.2.1) i).1) ((((it (qU th b) i (qu, f, T, 0)).2.2.1) i).2.1) ((((it (qU th b) i (qu, f, T, 0)).2.2.1) i).2.2.1) ((((it (qU th b) i (qu, f, T, 0)).2.2.1) i).2.2.2.1) ((((it (qU th b) i (qu, f, T, 0)).2.2.1) i).2.2.2.2) (gi_T (hn _ hth_18)) (gi_F (hn _ hth_18)) gc_T gc_F) (cwV 0 hts (kGV kS1 m_K_150 m_im_T_waitsForQueue m_sel_T_waitsForQueue m_ini_T m_code_T_waitsForQueue) rfl rfl rfl (by decide +kernel) ⟨Nat.le_of_ble_eq_true rfl, Nat.le_of_ble_eq_true rfl⟩) ⟨kP_blind, va_recv hK hP (ci := 2) (q0 := (22 + 2 * i)) rfl (gw_T (k := i) (hn _ hth_18)), fun U hU hW => ⟨rfl, kP_at hK hP hD U hU hW⟩⟩ rfl rfl hl.1 rfl (lv_room (Nat.le_of_ble_eq_true rfl)) d_K_queueUnreached_25 ⟨Nat.le_of_ble_eq_true rfl, Nat.le_of_ble_eq_true rfl⟩) ?_
        refine lv_if_eq (tgt := 51) hx hb d_K_queueUnreached_28 (by decide) (fun c_28' => ?_) (fun c_28' => ?_)
        · refine lv_iinc (v := nI i + 1) (lv' := [(2, .int (nI i + 1)), (3, .ref (ad (22 + 2 * i))), (0, .ref (ad 0)), (1, .int ((it (qU th b) i (qu, f, T, 0)).2.2.2))]) hx hb d_K_queueUnreached_51 hl (k := 3) rfl rfl (by decide) rfl (fun ls hl => ?_)
          refine lv_goto (tgt := 4) hx hb d_K_queueUnreached_54 (by decide) ?_
          have hl := lv_sub (l' := [(0, .ref (ad 0)), (1, .int ((it (qU th b) i (qu, f, T, 0)).2.2.2)), (2, .int (nI i + 1))]) hl [2, 3, 0] rfl
          have hqq9 : (.int ((it (qU th b) i (qu, f, T, 0)).2.2.2) : Value) = .int ((it (qU th b) (i + 1) (qu, f, T, 0)).2.2.2) := by rw [it_s, qU]; simp [c_10', hth_18, c_28']
          rw [hqq9] at hl
          have hqq9 : (.int (nI i + 1) : Value) = .int (nI (i + 1)) := by rw [nI_1]
          rw [hqq9] at hl
          have hE : (gW n ty ad ((it (qU th b) i (qu, f, T, 0)).2.1) th rt ((it (qU th b) i (qu, f, T, 0)).1) b w ((it (qU th b) i (qu, f, T, 0)).2.2.1) g a o : va_W) = gW n ty ad ((it (qU th b) (i + 1) (qu, f, T, 0)).2.1) th rt ((it (qU th b) (i + 1) (qu, f, T, 0)).1) b w ((it (qU th b) (i + 1) (qu, f, T, 0)).2.2.1) g a o := by rw [it_s, qU]; simp [c_10', hth_18, c_28']
          have hP := kw_P hE hP
          have hD := kw_D hE hD
          exact ih (i + 1) _ _ ls (by omega) hP hD hS hl kx
        · refine lv_aload_n hx hb d_K_queueUnreached_31 rfl (lv_at hl 1 rfl) ?_
          refine va_get (D := D) (ci := 0) (v := .ref (ad 4)) (C := R_K) (T := F_K) (N := 12) hx hb hts (fun w h => kS1 w (i_K w h)) hown hK hP 0 gw_0 rfl 5 (by decide) (hts _ (kS1 _ m_K_25)) (fun _ h9 => h9) rfl d_K_queueUnreached_32 ?_
          refine lv_iload_n hx hb d_K_queueUnreached_35 rfl (lv_at hl 3 rfl) ?_
          have hP := kw_P (congrArg (wL (22 + 2 * n) ad) (gw_sb (b := b) (S := b)).symm) hP
          have hD := kw_D (congrArg (wL (22 + 2 * n) ad) (gw_sb (b := b) (S := b)).symm) hD
          refine kc_R (va_runV (As := [.int (nI i)]) (rest := []) ⟨hx, hb, hml, hown, hts⟩ (c_S_has l D ty ad _ (22 + 2 * n) (gc ty ad ((it (qU th b) i (qu, f, T, 0)).2.1) th rt ((it (qU th b) i (qu, f, T, 0)).1) b w ((it (qU th b) i (qu, f, T, 0)).2.2.1) g a o) 4 5 6 b (by omega) (by omega) (by omega) (by omega) (by omega) (by omega) (nI i)) (cwV 1 hts (kGV kS1 m_K_110 m_im_S_has m_sel_S_has m_ini_S m_code_S_has) rfl rfl rfl (by decide +kernel) ⟨Nat.le_of_ble_eq_true rfl, Nat.le_of_ble_eq_true rfl⟩) ⟨kP_blind, va_recv hK hP (ci := 1) (q0 := 4) rfl (sw_o (S := b) (by omega)), fun U hU hW => ⟨rfl, kP_at hK hP hD U hU hW⟩⟩ rfl rfl hl.1 rfl (lv_room (Nat.le_of_ble_eq_true rfl)) d_K_queueUnreached_36 ⟨Nat.le_of_ble_eq_true rfl, Nat.le_of_ble_eq_true rfl⟩) ?_
          have hP := kw_P (congrArg (wL (22 + 2 * n) ad) (gw_sb (S := b))) hP
          have hD := kw_D (congrArg (wL (22 + 2 * n) ad) (gw_sb (S := b))) hD
          refine lv_if_ne (tgt := 51) hx hb d_K_queueUnreached_39 (by decide) (fun c_39' => ?_) (fun c_39' => ?_)
          · refine lv_iinc (v := nI i + 1) (lv' := [(2, .int (nI i + 1)), (3, .ref (ad (22 + 2 * i))), (0, .ref (ad 0)), (1, .int ((it (qU th b) i (qu, f, T, 0)).2.2.2))]) hx hb d_K_queueUnreached_51 hl (k := 3) rfl rfl (by decide) rfl (fun ls hl => ?_)
            refine lv_goto (tgt := 4) hx hb d_K_queueUnreached_54 (by decide) ?_
            have hl := lv_sub (l' := [(0, .ref (ad 0)), (1, .int ((it (qU th b) i (qu, f, T, 0)).2.2.2)), (2, .int (nI i + 1))]) hl [2, 3, 0] rfl
            have hqq9 : (.int ((it (qU th b) i (qu, f, T, 0)).2.2.2) : Value) = .int ((it (qU th b) (i + 1) (qu, f, T, 0)).2.2.2) := by rw [it_s, qU]; simp [c_10', hth_18, c_28', c_39']
            rw [hqq9] at hl
            have hqq9 : (.int (nI i + 1) : Value) = .int (nI (i + 1)) := by rw [nI_1]
            rw [hqq9] at hl
            have hE : (gW n ty ad ((it (qU th b) i (qu, f, T, 0)).2.1) th rt ((it (qU th b) i (qu, f, T, 0)).1) b w ((it (qU th b) i (qu, f, T, 0)).2.2.1) g a o : va_W) = gW n ty ad ((it (qU th b) (i + 1) (qu, f, T, 0)).2.1) th rt ((it (qU th b) (i + 1) (qu, f, T, 0)).1) b w ((it (qU th b) (i + 1) (qu, f, T, 0)).2.2.1) g a o := by rw [it_s, qU]; simp [c_10', hth_18, c_28', c_39']
            have hP := kw_P hE hP
            have hD := kw_D hE hD
            exact ih (i + 1) _ _ ls (by omega) hP hD hS hl kx
          · refine lv_aload_n hx hb d_K_queueUnreached_42 rfl (lv_at hl 1 rfl) ?_
            refine lv_iload_n hx hb d_K_queueUnreached_43 rfl (lv_at hl 3 rfl) ?_
            refine lv_aload_n hx hb d_K_queueUnreached_44 rfl (lv_at hl 0 rfl) ?_
            refine kc_v (va_runV (As := [.int (nI i), .ref (ad (22 + 2 * i))]) (rest := []) ⟨hx, hb, hml, hown, hts⟩ (c_K_putInQueue l D ty ad _ n ((it (qU th b) i (qu, f, T, 0)).2.1) th rt ((it (qU th b) i (qu, f, T, 0)).1) b w ((it (qU th b) i (qu, f, T, 0)).2.2.1) g a o i (hn _ hth_18) (nI i)) (cwV 2 hts (kGV kS1 m_K_173 m_im_K_putInQueue m_sel_K_putInQueue m_ini_K m_code_K_putInQueue) rfl rfl rfl (by decide +kernel) ⟨Nat.le_of_ble_eq_true rfl, Nat.le_of_ble_eq_true rfl⟩) ⟨kP_blind, va_recv hK hP (ci := 0) (q0 := 0) rfl gw_0, fun U hU hW => ⟨rfl, kP_at hK hP hD U hU hW⟩⟩ rfl rfl hl.1 rfl (lv_room (Nat.le_of_ble_eq_true rfl)) d_K_queueUnreached_45 ⟨Nat.le_of_ble_eq_true rfl, Nat.le_of_ble_eq_true rfl⟩) hD hS hA (fun u H locs hu hP hD hS hz => ?_)
            subst hu
            refine lv_iinc (v := (it (qU th b) i (qu, f, T, 0)).2.2.2 + 1) (lv' := [(1, .int ((it (qU th b) i (qu, f, T, 0)).2.2.2 + 1)), (3, .ref (ad (22 + 2 * i))), (0, .ref (ad 0)), (2, .int (nI i))]) hx hb d_K_queueUnreached_48 hl (k := 2) rfl rfl (by decide) rfl (fun ls hl => ?_)
            refine lv_iinc (v := nI i + 1) (lv' := [(2, .int (nI i + 1)), (1, .int ((it (qU th b) i (qu, f, T, 0)).2.2.2 + 1)), (3, .ref (ad (22 + 2 * i))), (0, .ref (ad 0))]) hx hb d_K_queueUnreached_51 hl (k := 3) rfl rfl (by decide) rfl (fun ls hl => ?_)
            refine lv_goto (tgt := 4) hx hb d_K_queueUnreached_54 (by decide) ?_
            have hl := lv_sub (l' := [(0, .ref (ad 0)), (1, .int ((it (qU th b) i (qu, f, T, 0)).2.2.2 + 1)), (2, .int (nI i + 1))]) hl [3, 1, 0] rfl
            have hqq9 : (.int ((it (qU th b) i (qu, f, T, 0)).2.2.2 + 1) : Value) = .int ((it (qU th b) (i + 1) (qu, f, T, 0)).2.2.2) := by rw [it_s, qU]; simp [c_10', hth_18, c_28', c_39']
            rw [hqq9] at hl
            have hqq9 : (.int (nI i + 1) : Value) = .int (nI (i + 1)) := by rw [nI_1]
            rw [hqq9] at hl
            have hE : (gW n ty ad ((kPut ((it (qU th b) i (qu, f, T, 0)).1) ((it (qU th b) i (qu, f, T, 0)).2.1) ((it (qU th b) i (qu, f, T, 0)).2.2.1) i (nI i)).2.1) th rt ((kPut ((it (qU th b) i (qu, f, T, 0)).1) ((it (qU th b) i (qu, f, T, 0)).2.1) ((it (qU th b) i (qu, f, T, 0)).2.2.1) i (nI i)).1) b w ((kPut ((it (qU th b) i (qu, f, T, 0)).1) ((it (qU th b) i (qu, f, T, 0)).2.1) ((it (qU th b) i (qu, f, T, 0)).2.2.1) i (nI i)).2.2) g a o : va_W) = gW n ty ad ((it (qU th b) (i + 1) (qu, f, T, 0)).2.1) th rt ((it (qU th b) (i + 1) (qu, f, T, 0)).1) b w ((it (qU th b) (i + 1) (qu, f, T, 0)).2.2.1) g a o := by rw [it_s, qU]; simp [c_10', hth_18, c_28', c_39']
            have hP := kw_P hE hP
            have hD := kw_D hE hD
            exact ih (i + 1) _ _ ls (by omega) hP hD hS hl kx
      · rw [kth_f hth_18]
        refine lv_astore_nN (lv' := [(3, .null), (0, .ref (ad 0)), (1, .int ((it (qU th b) i (qu, f, T, 0)).2.2.2)), (2, .int (nI i))]) hx hb d_K_queueUnreached_19 rfl hl (by decide) rfl (fun ls hl => ?_)
        refine lv_aload_nN hx hb d_K_queueUnreached_20 rfl (lv_at hl 0 rfl) ?_
        refine lv_ifnullN (tgt := 51) hx hb d_K_queueUnreached_21 (by decide) ?_
        refine lv_iinc (v := nI i + 1) (lv' := [(2, .int (nI i + 1)), (3, .null), (0, .ref (ad 0)), (1, .int ((it (qU th b) i (qu, f, T, 0)).2.2.2))]) hx hb d_K_queueUnreached_51 hl (k := 3) rfl rfl (by decide) rfl (fun ls hl => ?_)
        refine lv_goto (tgt := 4) hx hb d_K_queueUnreached_54 (by decide) ?_
        have hl := lv_sub (l' := [(0, .ref (ad 0)), (1, .int ((it (qU th b) i (qu, f, T, 0)).2.2.2)), (2, .int (nI i + 1))]) hl [2, 3, 0] rfl
        have hqq9 : (.int ((it (qU th b) i (qu, f, T, 0)).2.2.2) : Value) = .int ((it (qU th b) (i + 1) (qu, f, T, 0)).2.2.2) := by rw [it_s, qU]; simp [c_10', hth_18]
        rw [hqq9] at hl
        have hqq9 : (.int (nI i + 1) : Value) = .int (nI (i + 1)) := by rw [nI_1]
        rw [hqq9] at hl
        have hE : (gW n ty ad ((it (qU th b) i (qu, f, T, 0)).2.1) th rt ((it (qU th b) i (qu, f, T, 0)).1) b w ((it (qU th b) i (qu, f, T, 0)).2.2.1) g a o : va_W) = gW n ty ad ((it (qU th b) (i + 1) (qu, f, T, 0)).2.1) th rt ((it (qU th b) (i + 1) (qu, f, T, 0)).1) b w ((it (qU th b) (i + 1) (qu, f, T, 0)).2.2.1) g a o := by rw [it_s, qU]; simp [c_10', hth_18]
        have hP := kw_P hE hP
        have hD := kw_D hE hD
        exact ih (i + 1) _ _ ls (by omega) hP hD hS hl kx
  have hl := lv_sub (l' := [(0, .ref (ad 0)), (1, .int 0), (2, .int 0)]) hl [2, 1, 0] rfl
  have hqq9 : (.int 0 : Value) = .int (nI 0) := by rw [nI_0]
  rw [hqq9] at hl
  refine L1 _ (300 - 0) 0 _ _ ls (by omega) hP hD hS hl (fun H locs ls hP hD hS hl => ?_)
  refine lv_iload_n hx hb d_K_queueUnreached_57 rfl (lv_at hl 1 rfl) ?_
  have hu : (gW n ty ad ((it (qU th b) 300 (qu, f, T, 0)).2.1) th rt ((it (qU th b) 300 (qu, f, T, 0)).1) b w ((it (qU th b) 300 (qu, f, T, 0)).2.2.1) g a o : va_W) = gW n ty ad ((it (qU th b) 300 (qu, f, T, 0)).2.1) th rt ((it (qU th b) 300 (qu, f, T, 0)).1) b w ((it (qU th b) 300 (qu, f, T, 0)).2.2.1) g a o := by rfl
  have hv : ((it (qU th b) 300 (qu, f, T, 0)).2.2.2 : Int32) = (it (qU th b) 300 (qu, f, T, 0)).2.2.2 := by simp []
  exact W.iret (v := (it (qU th b) 300 (qu, f, T, 0)).2.2.2) hx hb hr (fun t ht hW => ⟨⟨_, _, rfl, ⟨hv, hu⟩, by rw [ht]; exact hP, va_K.moved hW.alike hK, hD⟩, hS.F ht⟩) hS.2.2 d_K_queueUnreached_58
set_option maxHeartbeats 4000000 in
set_option maxRecDepth 100000 in
/-- forgetUnreached() -/
theorem c_K_forgetUnreached (l : Launch) (D : va_G) (ty : Nat → ClassId) (ad : Nat → Nat) (sz : Nat) (n : Nat) (f : Nat → Int32) (th : Nat → Bool) (rt qu : Nat → Int32) (b w : SR) (T : Nat → TH) (g : Nat → Int32) (a : Nat → Nat → Int32) (o : Nat → Int64) (hn : ∀ k, th k = true → k < n) : Met l y_K_forgetUnreached w_K_forgetUnreached ({ frames := 2, cells := 0, slots := 0, locals := 41 }) (va_Pc [.ref (ad 0)] (kP D kCl (kTy ty) (gW n ty ad f th rt qu b w T g a o) sz)) (va_Qv (fun u9 : va_W => u9 = (gW n ty ad ((it (fU th b w) 300 (T, f)).2) th rt qu b w ((it (fU th b w) 300 (T, f)).1) g a o)) (kB D kCl (kTy ty) (va_A (gW n ty ad f th rt qu b w T g a o) sz)) (va_A (gW n ty ad f th rt qu b w T g a o) sz)) 0 0 (va_A (gW n ty ad f th rt qu b w T g a o) sz) := by
  refine Met.ofW (cc := b_K_forgetUnreached) (maxL := 4) (ret := none) (by decide) rfl ?_
  intro p e s m args below meth cd s₁ B hml hv
  obtain ⟨rfl, hsz, hP, hK, hD0⟩ := hv
  have hx := B.exec
  have hb := B.bytes
  have hr := B.returns
  have hts := atoms_spec (ws := w_K_forgetUnreached) B.pre
  have hown : s.vm.findClass R_K = some m.cls := findClass_of_methodNamed B.named
  have hlocks := B.notSynchronized
  subst hsz
  have hD := hD0.self (sz := s.heap.size)
  generalize hAe : va_A (gW n ty ad f th rt qu b w T g a o) s.heap.size = A at hD ⊢
  have hA : ∀ q : Nat, s.heap.size ≤ q → A q := fun q h => by rw [← hAe]; exact Or.inr h
  have hS : va_S A s.heap s.heap [] := va_S.rf
  have hl := lv_entry ([.ref (ad 0)]) (n := 4) (Nat.le_of_ble_eq_true rfl)
  rw [lg_entry_eq]
  generalize (lg_sl ([.ref (ad 0)]) ++ List.replicate (4 - (lg_sl ([.ref (ad 0)])).length) Slot.unset).toArray = ls at hl ⊢
  have hl : lv_has ls 4 [(0, .ref (ad 0))] := hl
  refine lv_iconst (v := 0) hx hb d_K_forgetUnreached_0 (by decide) ?_
  refine lv_istore_n (lv' := [(1, .int 0), (0, .ref (ad 0))]) hx hb d_K_forgetUnreached_1 rfl hl (by decide) rfl (fun ls hl => ?_)
  have L1 : ∀ (Q : State → Prop) (rem i : Nat) (H : Heap) (locs : List Loc) (ls : Array Slot), i + rem = 300 → va_P D kCl (gW n ty ad ((it (fU th b w) i (T, f)).2) th rt qu b w ((it (fU th b w) i (T, f)).1) g a o) H → va_D A (gW n ty ad ((it (fU th b w) i (T, f)).2) th rt qu b w ((it (fU th b w) i (T, f)).1) g a o) → va_S A s.heap H locs → lv_has ls 4 [(0, .ref (ad 0)), (1, .int (nI i))] → (∀ (H : Heap) (locs : List Loc) (ls : Array Slot), va_P D kCl (gW n ty ad ((it (fU th b w) 300 (T, f)).2) th rt qu b w ((it (fU th b w) 300 (T, f)).1) g a o) H → va_D A (gW n ty ad ((it (fU th b w) 300 (T, f)).2) th rt qu b w ((it (fU th b w) 300 (T, f)).1) g a o) → va_S A s.heap H locs → lv_has ls 4 [(0, .ref (ad 0))] → W p l e (headSpec w_K_forgetUnreached ({ frames := 2, cells := 0, slots := 0, locals := 41 })).room s m ([.ref (ad 0)] : List Value).toArray below meth cd H locs 0 0 Q (F0 m 89 ls [])) → W p l e (headSpec w_K_forgetUnreached ({ frames := 2, cells := 0, slots := 0, locals := 41 })).room s m ([.ref (ad 0)] : List Value).toArray below meth cd H locs 0 0 Q (F0 m 2 ls []) := by
    intro Q rem
    induction rem with
    | zero =>
      intro i H locs ls hir_i hP hD hS hl kx
      obtain rfl : 300 = i := by omega
      refine lv_iload_n hx hb d_K_forgetUnreached_2 rfl (lv_at hl 1 rfl) ?_
      refine lv_aload_n hx hb d_K_forgetUnreached_3 rfl (lv_at hl 0 rfl) ?_
      refine va_get (D := D) (ci := 0) (v := .ref (ad 1)) (C := R_K) (T := F_K) (N := 12) hx hb hts (fun w h => kS1 w (i_K w h)) hown hK hP 0 gw_0 rfl 0 (by decide) (hts _ (kS1 _ m_K_11)) (fun _ h9 => h9) rfl d_K_forgetUnreached_4 ?_
      refine va_alen (v := 300) hx hb hK hP 1 2 gw_1 rfl rfl d_K_forgetUnreached_7 ?_
      refine lv_icmp_ge (tgt := 89) hx hb d_K_forgetUnreached_8 (by decide) (fun c_8' => ?_) (fun c_8' => absurd (nI_le (a := 300) (b := 300) (Nat.le_refl _) (by omega)) c_8')
      have hl := lv_sub (l' := [(0, .ref (ad 0))]) hl [0] rfl
      exact kx _ _ ls hP hD hS hl
    | succ rem ih =>
      intro i H locs ls hir_i hP hD hS hl kx
      have hlt_i : i < 300 := by omega
      refine lv_iload_n hx hb d_K_forgetUnreached_2 rfl (lv_at hl 1 rfl) ?_
      refine lv_aload_n hx hb d_K_forgetUnreached_3 rfl (lv_at hl 0 rfl) ?_
      refine va_get (D := D) (ci := 0) (v := .ref (ad 1)) (C := R_K) (T := F_K) (N := 12) hx hb hts (fun w h => kS1 w (i_K w h)) hown hK hP 0 gw_0 rfl 0 (by decide) (hts _ (kS1 _ m_K_11)) (fun _ h9 => h9) rfl d_K_forgetUnreached_4 ?_
      refine va_alen (v := 300) hx hb hK hP 1 2 gw_1 rfl rfl d_K_forgetUnreached_7 ?_
      refine lv_icmp_ge (tgt := 89) hx hb d_K_forgetUnreached_8 (by decide) (fun c_8' => absurd c_8' (nI_ge (b := 300) hlt_i (by omega))) (fun c_8' => ?_)
      refine lv_aload_n hx hb d_K_forgetUnreached_11 rfl (lv_at hl 0 rfl) ?_
      refine va_get (D := D) (ci := 0) (v := .ref (ad 1)) (C := R_K) (T := F_K) (N := 12) hx hb hts (fun w h => kS1 w (i_K w h)) hown hK hP 0 gw_0 rfl 0 (by decide) (hts _ (kS1 _ m_K_11)) (fun _ h9 => h9) rfl d_K_forgetUnreached_12 ?_
      refine lv_iload_n hx hb d_K_forgetUnreached_15 rfl (lv_at hl 1 rfl) ?_
      refine va_aldq (f := thf ad th) hx hb hK hP 1 2 gw_1 rfl (vp_in_nI hlt_i (by omega)) d_K_forgetUnreached_16 ?_
      rw [nI_clamp (n := i) (by omega)]
      by_cases hth_16 : th i = true
      · rw [kth_t hth_16]
        refine lv_astore_n (lv' := [(2, .ref (ad (22 + 2 * i))), (0, .ref (ad 0)), (1, .int (nI i))]) hx hb d_K_forgetUnreached_17 rfl hl (by decide) rfl (fun ls hl => ?_)
        refine lv_aload_n hx hb d_K_forgetUnreached_18 rfl (lv_at hl 0 rfl) ?_
        refine lv_ifnull hx hb d_K_forgetUnreached_19 ?_
        refine lv_aload_n hx hb d_K_forgetUnreached_22 rfl (lv_at hl 0 rfl) ?_
        refine kc_R (va_runV (As := []) (rest := []) ⟨hx, hb, hml, hown, hts⟩ (c_T_hasWeakField l D ty ad _ (22 + 2 * n) (gc ty ad ((it (fU th b w) i (T, f)).2) th rt qu b w ((it (fU th b w) i (T, f)).1) g a o) (22 + 2 * i) (23 + 2 * i) ((((it (fU th b w) i (T, f)).1) i).1) ((((it (fU th b w) i (T, f)).1) i).2.1) ((((it (fU th b w) i (T, f)).1) i).2.2.1) ((((it (fU th b w) i (T, f)).1) i).2.2.2.1) ((((it (fU th b w) i (T, f)).1) i).2.2.2.2) (gi_T (hn _ hth_16)) (gi_F (hn _ hth_16)) gc_T gc_F) (cwV 0 hts (kGV kS1 m_K_170 m_im_T_hasWeakField m_sel_T_hasWeakField m_ini_T m_code_T_hasWeakField) rfl rfl rfl (by decide +kernel) ⟨Nat.le_of_ble_eq_true rfl, Nat.le_of_ble_eq_true rfl⟩) ⟨kP_blind, va_recv hK hP (ci := 2) (q0 := (22 + 2 * i)) rfl (gw_T (k := i) (hn _ hth_16)), fun U hU hW => ⟨rfl, kP_at hK hP hD U hU hW⟩⟩ rfl rfl hl.1 rfl (lv_room (Nat.le_of_ble_eq_true rfl)) d_K_forgetUnreached_23 ⟨Nat.le_of_ble_eq_true rfl, Nat.le_of_ble_eq_true rfl⟩) ?_
        refine lv_if_eq (tgt := 83) hx hb d_K_forgetUnreached_26 (by decide) (fun c_26' => ?_) (fun c_26' => ?_)
        · refine lv_iinc (v := nI i + 1) (lv' := [(1, .int (nI i + 1)), (2, .ref (ad (22 + 2 * i))), (0, .ref (ad 0))]) hx hb d_K_forgetUnreached_83 hl (k := 2) rfl rfl (by decide) rfl (fun ls hl => ?_)
          refine lv_goto (tgt := 2) hx hb d_K_forgetUnreached_86 (by decide) ?_
          have hl := lv_sub (l' := [(0, .ref (ad 0)), (1, .int (nI i + 1))]) hl [2, 0] rfl
          have hqq9 : (.int (nI i + 1) : Value) = .int (nI (i + 1)) := by rw [nI_1]
          rw [hqq9] at hl
          have hE : (gW n ty ad ((it (fU th b w) i (T, f)).2) th rt qu b w ((it (fU th b w) i (T, f)).1) g a o : va_W) = gW n ty ad ((it (fU th b w) (i + 1) (T, f)).2) th rt qu b w ((it (fU th b w) (i + 1) (T, f)).1) g a o := by rw [it_s, fU]; simp [c_8', hth_16, c_26']
          have hP := kw_P hE hP
          have hD := kw_D hE hD
          exact ih (i + 1) _ _ ls (by omega) hP hD hS hl kx
        · refine lv_aload_n hx hb d_K_forgetUnreached_29 rfl (lv_at hl 1 rfl) ?_
          refine va_get (D := D) (ci := 0) (v := .ref (ad 7)) (C := R_K) (T := F_K) (N := 12) hx hb hts (fun w h => kS1 w (i_K w h)) hown hK hP 0 gw_0 rfl 6 (by decide) (hts _ (kS1 _ m_K_29)) (fun _ h9 => h9) rfl d_K_forgetUnreached_30 ?_
          refine lv_iload_n hx hb d_K_forgetUnreached_33 rfl (lv_at hl 2 rfl) ?_
          have hP := kw_P (congrArg (wL (22 + 2 * n) ad) (gw_sw (w := w) (S := w)).symm) hP
          have hD := kw_D (congrArg (wL (22 + 2 * n) ad) (gw_sw (w := w) (S := w)).symm) hD
          refine kc_R (va_runV (As := [.int (nI i)]) (rest := []) ⟨hx, hb, hml, hown, hts⟩ (c_S_has l D ty ad _ (22 + 2 * n) (gc ty ad ((it (fU th b w) i (T, f)).2) th rt qu b w ((it (fU th b w) i (T, f)).1) g a o) 7 8 9 w (by omega) (by omega) (by omega) (by omega) (by omega) (by omega) (nI i)) (cwV 1 hts (kGV kS1 m_K_110 m_im_S_has m_sel_S_has m_ini_S m_code_S_has) rfl rfl rfl (by decide +kernel) ⟨Nat.le_of_ble_eq_true rfl, Nat.le_of_ble_eq_true rfl⟩) ⟨kP_blind, va_recv hK hP (ci := 1) (q0 := 7) rfl (sw_o (S := w) (by omega)), fun U hU hW => ⟨rfl, kP_at hK hP hD U hU hW⟩⟩ rfl rfl hl.1 rfl (lv_room (Nat.le_of_ble_eq_true rfl)) d_K_forgetUnreached_34 ⟨Nat.le_of_ble_eq_true rfl, Nat.le_of_ble_eq_true rfl⟩) ?_
          have hP := kw_P (congrArg (wL (22 + 2 * n) ad) (gw_sw (S := w))) hP
          have hD := kw_D (congrArg (wL (22 + 2 * n) ad) (gw_sw (S := w))) hD
          refine lv_if_ne (tgt := 43) hx hb d_K_forgetUnreached_37 (by decide) (fun c_37' => ?_) (fun c_37' => ?_)
          · refine lv_aload_n hx hb d_K_forgetUnreached_43 rfl (lv_at hl 0 rfl) ?_
            refine va_get (D := D) (ci := 2) (v := .ref (ad (23 + 2 * i))) (C := R_T) (T := F_T) (N := 4) hx hb hts (fun w h => kS1 w (i_T w h)) hown hK hP (22 + 2 * i) (gw_T (k := i) (hn _ hth_16)) rfl 0 (by decide) (hts _ (kS1 _ m_K_66)) (fun _ h9 => h9) rfl d_K_forgetUnreached_44 ?_
            refine lv_iconst (v := 0) hx hb d_K_forgetUnreached_47 (by decide) ?_
            refine va_iald (f := (((it (fU th b w) i (T, f)).1) i).2.2.2.2) hx hb hK hP (23 + 2 * i) 0 (gw_F (k := i) (hn _ hth_16)) rfl (kin0 c_26') d_K_forgetUnreached_48 ?_
            rw [sb_cl0]
            refine lv_istore_n (lv' := [(3, .int (((((it (fU th b w) i (T, f)).1) i).2.2.2.2) 0)), (2, .ref (ad (22 + 2 * i))), (0, .ref (ad 0)), (1, .int (nI i))]) hx hb d_K_forgetUnreached_49 rfl hl (by decide) rfl (fun ls hl => ?_)
            refine lv_iload_n hx hb d_K_forgetUnreached_50 rfl (lv_at hl 0 rfl) ?_
            refine lv_iconst (v := (-1)) hx hb d_K_forgetUnreached_51 (by decide) ?_
            refine lv_icmp_eq (tgt := 83) hx hb d_K_forgetUnreached_52 (by decide) (fun c_52' => ?_) (fun c_52' => ?_)
            · refine lv_iinc (v := nI i + 1) (lv' := [(1, .int (nI i + 1)), (3, .int (((((it (fU th b w) i (T, f)).1) i).2.2.2.2) 0)), (2, .ref (ad (22 + 2 * i))), (0, .ref (ad 0))]) hx hb d_K_forgetUnreached_83 hl (k := 3) rfl rfl (by decide) rfl (fun ls hl => ?_)
              refine lv_goto (tgt := 2) hx hb d_K_forgetUnreached_86 (by decide) ?_
              have hl := lv_sub (l' := [(0, .ref (ad 0)), (1, .int (nI i + 1))]) hl [3, 0] rfl
              have hqq9 : (.int (nI i + 1) : Value) = .int (nI (i + 1)) := by rw [nI_1]
              rw [hqq9] at hl
              have hE : (gW n ty ad ((it (fU th b w) i (T, f)).2) th rt qu b w ((it (fU th b w) i (T, f)).1) g a o : va_W) = gW n ty ad ((it (fU th b w) (i + 1) (T, f)).2) th rt qu b w ((it (fU th b w) (i + 1) (T, f)).1) g a o := by rw [it_s, fU]; simp [c_8', hth_16, c_26', c_37', c_52']
              have hP := kw_P hE hP
              have hD := kw_D hE hD
              exact ih (i + 1) _ _ ls (by omega) hP hD hS hl kx
            · refine lv_aload_n hx hb d_K_forgetUnreached_55 rfl (lv_at hl 2 rfl) ?_
              refine va_get (D := D) (ci := 0) (v := .ref (ad 4)) (C := R_K) (T := F_K) (N := 12) hx hb hts (fun w h => kS1 w (i_K w h)) hown hK hP 0 gw_0 rfl 5 (by decide) (hts _ (kS1 _ m_K_25)) (fun _ h9 => h9) rfl d_K_forgetUnreached_56 ?_
              refine lv_iload_n hx hb d_K_forgetUnreached_59 rfl (lv_at hl 0 rfl) ?_
              have hP := kw_P (congrArg (wL (22 + 2 * n) ad) (gw_sb (b := b) (S := b)).symm) hP
              have hD := kw_D (congrArg (wL (22 + 2 * n) ad) (gw_sb (b := b) (S := b)).symm) hD
              refine kc_R (va_runV (As := [.int (((((it (fU th b w) i (T, f)).1) i).2.2.2.2) 0)]) (rest := []) ⟨hx, hb, hml, hown, hts⟩ (c_S_has l D ty ad _ (22 + 2 * n) (gc ty ad ((it (fU th b w) i (T, f)).2) th rt qu b w ((it (fU th b w) i (T, f)).1) g a o) 4 5 6 b (by omega) (by omega) (by omega) (by omega) (by omega) (by omega) (((((it (fU th b w) i (T, f)).1) i).2.2.2.2) 0)) (cwV 1 hts (kGV kS1 m_K_110 m_im_S_has m_sel_S_has m_ini_S m_code_S_has) rfl rfl rfl (by decide +kernel) ⟨Nat.le_of_ble_eq_true rfl, Nat.le_of_ble_eq_true rfl⟩) ⟨kP_blind, va_recv hK hP (ci := 1) (q0 := 4) rfl (sw_o (S := b) (by omega)), fun U hU hW => ⟨rfl, kP_at hK hP hD U hU hW⟩⟩ rfl rfl hl.1 rfl (lv_room (Nat.le_of_ble_eq_true rfl)) d_K_forgetUnreached_60 ⟨Nat.le_of_ble_eq_true rfl, Nat.le_of_ble_eq_true rfl⟩) ?_
              have hP := kw_P (congrArg (wL (22 + 2 * n) ad) (gw_sb (S := b))) hP
              have hD := kw_D (congrArg (wL (22 + 2 * n) ad) (gw_sb (S := b))) hD
              refine lv_if_ne (tgt := 83) hx hb d_K_forgetUnreached_63 (by decide) (fun c_63' => ?_) (fun c_63' => ?_)
              · refine lv_iinc (v := nI i + 1) (lv' := [(1, .int (nI i + 1)), (3, .int (((((it (fU th b w) i (T, f)).1) i).2.2.2.2) 0)), (2, .ref (ad (22 + 2 * i))), (0, .ref (ad 0))]) hx hb d_K_forgetUnreached_83 hl (k := 3) rfl rfl (by decide) rfl (fun ls hl => ?_)
                refine lv_goto (tgt := 2) hx hb d_K_forgetUnreached_86 (by decide) ?_
                have hl := lv_sub (l' := [(0, .ref (ad 0)), (1, .int (nI i + 1))]) hl [3, 0] rfl
                have hqq9 : (.int (nI i + 1) : Value) = .int (nI (i + 1)) := by rw [nI_1]
                rw [hqq9] at hl
                have hE : (gW n ty ad ((it (fU th b w) i (T, f)).2) th rt qu b w ((it (fU th b w) i (T, f)).1) g a o : va_W) = gW n ty ad ((it (fU th b w) (i + 1) (T, f)).2) th rt qu b w ((it (fU th b w) (i + 1) (T, f)).1) g a o := by rw [it_s, fU]; simp [c_8', hth_16, c_26', c_37', c_52', c_63']
                have hP := kw_P hE hP
                have hD := kw_D hE hD
                exact ih (i + 1) _ _ ls (by omega) hP hD hS hl kx
              · refine lv_aload_n hx hb d_K_forgetUnreached_66 rfl (lv_at hl 1 rfl) ?_
                refine va_get (D := D) (ci := 2) (v := .ref (ad (23 + 2 * i))) (C := R_T) (T := F_T) (N := 4) hx hb hts (fun w h => kS1 w (i_T w h)) hown hK hP (22 + 2 * i) (gw_T (k := i) (hn _ hth_16)) rfl 0 (by decide) (hts _ (kS1 _ m_K_66)) (fun _ h9 => h9) rfl d_K_forgetUnreached_67 ?_
                refine lv_iconst (v := 0) hx hb d_K_forgetUnreached_70 (by decide) ?_
                refine lv_iconst (v := (-1)) hx hb d_K_forgetUnreached_71 (by decide) ?_
                refine va_iast (f := (((it (fU th b w) i (T, f)).1) i).2.2.2.2) hx hb hK hP hD hS (23 + 2 * i) 0 (gw_F (k := i) (hn _ hth_16)) rfl (kin0 c_26') d_K_forgetUnreached_72 (fun H locs hP hD hS => ?_)
                rw [sb_cl0] at hP hD
                have hP := kw_P (gw_sF (k := i) (N := (((it (fU th b w) i (T, f)).1) i).2.2.2.1) (r := upd ((((it (fU th b w) i (T, f)).1) i).2.2.2.2) 0 (-1))) hP
                have hD := kw_D (gw_sF (k := i) (N := (((it (fU th b w) i (T, f)).1) i).2.2.2.1) (r := upd ((((it (fU th b w) i (T, f)).1) i).2.2.2.2) 0 (-1))) hD
                refine lv_aload_n hx hb d_K_forgetUnreached_73 rfl (lv_at hl 2 rfl) ?_
                refine lv_dup hx hb d_K_forgetUnreached_74 rfl ?_
                refine va_get (D := D) (ci := 0) (v := .int (((it (fU th b w) i (T, f)).2) 9)) (C := R_K) (T := F_K) (N := 12) hx hb hts (fun w h => kS1 w (i_K w h)) hown hK hP 0 gw_0 rfl 9 (by decide) (hts _ (kS1 _ m_K_131)) (fun _ h9 => h9) rfl d_K_forgetUnreached_75 ?_
                refine lv_iconst (v := 1) hx hb d_K_forgetUnreached_78 (by decide) ?_
                refine lv_iadd hx hb d_K_forgetUnreached_79 ?_
                refine va_put (D := D) (ci := 0) (v := .int ((((it (fU th b w) i (T, f)).2) 9) + 1)) (ty := .int) (C := R_K) (T := F_K) (N := 12) hx hb hts (fun w h => kS1 w (i_K w h)) tt_K tt_K_ok n_K hown hK hP hD hS 0 gw_0 rfl 9 (by decide) (hts _ (kS1 _ m_K_131)) (fun _ h9 => h9) rfl (by decide +kernel) rfl rfl (Nat.le_of_ble_eq_true rfl) d_K_forgetUnreached_80 (fun H locs hP hD hS => ?_)
                have hP := kw_P (gw_sK9 (v := (((it (fU th b w) i (T, f)).2) 9) + 1)) hP
                have hD := kw_D (gw_sK9 (v := (((it (fU th b w) i (T, f)).2) 9) + 1)) hD
                refine lv_iinc (v := nI i + 1) (lv' := [(1, .int (nI i + 1)), (3, .int (((((it (fU th b w) i (T, f)).1) i).2.2.2.2) 0)), (2, .ref (ad (22 + 2 * i))), (0, .ref (ad 0))]) hx hb d_K_forgetUnreached_83 hl (k := 3) rfl rfl (by decide) rfl (fun ls hl => ?_)
                refine lv_goto (tgt := 2) hx hb d_K_forgetUnreached_86 (by decide) ?_
                have hl := lv_sub (l' := [(0, .ref (ad 0)), (1, .int (nI i + 1))]) hl [3, 0] rfl
                have hqq9 : (.int (nI i + 1) : Value) = .int (nI (i + 1)) := by rw [nI_1]
                rw [hqq9] at hl
                have hE : (gW n ty ad (upd ((it (fU th b w) i (T, f)).2) 9 ((((it (fU th b w) i (T, f)).2) 9) + 1)) th rt qu b w (va_up ((it (fU th b w) i (T, f)).1) i ((((it (fU th b w) i (T, f)).1) i).1, (((it (fU th b w) i (T, f)).1) i).2.1, (((it (fU th b w) i (T, f)).1) i).2.2.1, (((it (fU th b w) i (T, f)).1) i).2.2.2.1, upd ((((it (fU th b w) i (T, f)).1) i).2.2.2.2) 0 (-1))) g a o : va_W) = gW n ty ad ((it (fU th b w) (i + 1) (T, f)).2) th rt qu b w ((it (fU th b w) (i + 1) (T, f)).1) g a o := by rw [it_s, fU]; simp [c_8', hth_16, c_26', c_37', c_52', c_63']
                have hP := kw_P hE hP
                have hD := kw_D hE hD
                exact ih (i + 1) _ _ ls (by omega) hP hD hS hl kx
          · refine lv_goto (tgt := 83) hx hb d_K_forgetUnreached_40 (by decide) ?_
            refine lv_iinc (v := nI i + 1) (lv' := [(1, .int (nI i + 1)), (2, .ref (ad (22 + 2 * i))), (0, .ref (ad 0))]) hx hb d_K_forgetUnreached_83 hl (k := 2) rfl rfl (by decide) rfl (fun ls hl => ?_)
            refine lv_goto (tgt := 2) hx hb d_K_forgetUnreached_86 (by decide) ?_
            have hl := lv_sub (l' := [(0, .ref (ad 0)), (1, .int (nI i + 1))]) hl [2, 0] rfl
            have hqq9 : (.int (nI i + 1) : Value) = .int (nI (i + 1)) := by rw [nI_1]
            rw [hqq9] at hl
            have hE : (gW n ty ad ((it (fU th b w) i (T, f)).2) th rt qu b w ((it (fU th b w) i (T, f)).1) g a o : va_W) = gW n ty ad ((it (fU th b w) (i + 1) (T, f)).2) th rt qu b w ((it (fU th b w) (i + 1) (T, f)).1) g a o := by rw [it_s, fU]; simp [c_8', hth_16, c_26', c_37']
            have hP := kw_P hE hP
            have hD := kw_D hE hD
            exact ih (i + 1) _ _ ls (by omega) hP hD hS hl kx
      · rw [kth_f hth_16]
        refine lv_astore_nN (lv' := [(2, .null), (0, .ref (ad 0)), (1, .int (nI i))]) hx hb d_K_forgetUnreached_17 rfl hl (by decide) rfl (fun ls hl => ?_)
        refine lv_aload_nN hx hb d_K_forgetUnreached_18 rfl (lv_at hl 0 rfl) ?_
        refine lv_ifnullN (tgt := 83) hx hb d_K_forgetUnreached_19 (by decide) ?_
        refine lv_iinc (v := nI i + 1) (lv' := [(1, .int (nI i + 1)), (2, .null), (0, .ref (ad 0))]) hx hb d_K_forgetUnreached_83 hl (k := 2) rfl rfl (by decide) rfl (fun ls hl => ?_)
        refine lv_goto (tgt := 2) hx hb d_K_forgetUnreached_86 (by decide) ?_
        have hl := lv_sub (l' := [(0, .ref (ad 0)), (1, .int (nI i + 1))]) hl [2, 0] rfl
        have hqq9 : (.int (nI i + 1) : Value) = .int (nI (i + 1)) := by rw [nI_1]
        rw [hqq9] at hl
        have hE : (gW n ty ad ((it (fU th b w) i (T, f)).2) th rt qu b w ((it (fU th b w) i (T, f)).1) g a o : va_W) = gW n ty ad ((it (fU th b w) (i + 1) (T, f)).2) th rt qu b w ((it (fU th b w) (i + 1) (T, f)).1) g a o := by rw [it_s, fU]; simp [c_8', hth_16]
        have hP := kw_P hE hP
        have hD := kw_D hE hD
        exact ih (i + 1) _ _ ls (by omega) hP hD hS hl kx
  have hl := lv_sub (l' := [(0, .ref (ad 0)), (1, .int 0)]) hl [1, 0] rfl
  have hqq9 : (.int 0 : Value) = .int (nI 0) := by rw [nI_0]
  rw [hqq9] at hl
  refine L1 _ (300 - 0) 0 _ _ ls (by omega) hP hD hS hl (fun H locs ls hP hD hS hl => ?_)
  have hu : (gW n ty ad ((it (fU th b w) 300 (T, f)).2) th rt qu b w ((it (fU th b w) 300 (T, f)).1) g a o : va_W) = gW n ty ad ((it (fU th b w) 300 (T, f)).2) th rt qu b w ((it (fU th b w) 300 (T, f)).1) g a o := by rfl
  exact W.vret hx hb hr (fun t ht hW => ⟨⟨_, rfl, hu, by rw [ht]; exact hP, va_K.moved hW.alike hK, hD⟩, hS.F ht⟩) hS.2.2 d_K_forgetUnreached_89
end
section
/-! Part 10: the keeper's face, where it answers. -/
set_option maxHeartbeats 4000000 in
set_option maxRecDepth 100000 in
/-- sweep() -/
theorem c_K_sweep (l : Launch) (D : va_G) (ty : Nat → ClassId) (ad : Nat → Nat) (sz : Nat) (n : Nat) (f : Nat → Int32) (th : Nat → Bool) (rt qu : Nat → Int32) (b w : SR) (T : Nat → TH) (g : Nat → Int32) (a : Nat → Nat → Int32) (o : Nat → Int64) (hn : ∀ k, th k = true → k < n) (h12 : ∀ k, (T k).2.2.2.1 ≤ 12) : Met l y_K_sweep w_K_sweep ({ frames := 4, cells := 0, slots := 0, locals := 90 }) (va_Pc [.ref (ad 0)] (kP D kCl (kTy ty) (gW n ty ad f th rt qu b w T g a o) sz)) (va_Qi (fun (r9 : Int32) (u9 : va_W) => r9 = ((it (sW (sKept f th rt qu T w)) 300 (th, 0)).2) ∧ u9 = (gW n ty ad (upd f 8 (f 8 - (it (sW (sKept f th rt qu T w)) 300 (th, 0)).2)) ((it (sW (sKept f th rt qu T w)) 300 (th, 0)).1) rt qu b (sKept f th rt qu T w) T g a o)) (kB D kCl (kTy ty) (va_A (gW n ty ad f th rt qu b w T g a o) sz)) (va_A (gW n ty ad f th rt qu b w T g a o) sz)) 0 0 (va_A (gW n ty ad f th rt qu b w T g a o) sz) := by
  refine Met.ofW (cc := b_K_sweep) (maxL := 3) (ret := (some .int)) (by decide) rfl ?_
  intro p e s m args below meth cd s₁ B hml hv
  obtain ⟨rfl, hsz, hP, hK, hD0⟩ := hv
  have hx := B.exec
  have hb := B.bytes
  have hr := B.returns
  have hts := atoms_spec (ws := w_K_sweep) B.pre
  have hown : s.vm.findClass R_K = some m.cls := findClass_of_methodNamed B.named
  have hlocks := B.notSynchronized
  subst hsz
  have hD := hD0.self (sz := s.heap.size)
  generalize hAe : va_A (gW n ty ad f th rt qu b w T g a o) s.heap.size = A at hD ⊢
  have hA : ∀ q : Nat, s.heap.size ≤ q → A q := fun q h => by rw [← hAe]; exact Or.inr h
  have hS : va_S A s.heap s.heap [] := va_S.rf
  have hl := lv_entry ([.ref (ad 0)]) (n := 3) (Nat.le_of_ble_eq_true rfl)
  rw [lg_entry_eq]
  generalize (lg_sl ([.ref (ad 0)]) ++ List.replicate (3 - (lg_sl ([.ref (ad 0)])).length) Slot.unset).toArray = ls at hl ⊢
  have hl : lv_has ls 3 [(0, .ref (ad 0))] := hl
  refine lv_aload_n hx hb d_K_sweep_0 rfl (lv_at hl 0 rfl) ?_
  refine lv_aload_n hx hb d_K_sweep_1 rfl (lv_at hl 0 rfl) ?_
  refine va_get (D := D) (ci := 0) (v := .ref (ad 7)) (C := R_K) (T := F_K) (N := 12) hx hb hts (fun w h => kS1 w (i_K w h)) hown hK hP 0 gw_0 rfl 6 (by decide) (hts _ (kS1 _ m_K_29)) (fun _ h9 => h9) rfl d_K_sweep_2 ?_
  have hP := kw_P (congrArg (wL (22 + 2 * n) ad) (gw_sw (w := w) (S := w)).symm) hP
  have hD := kw_D (congrArg (wL (22 + 2 * n) ad) (gw_sw (w := w) (S := w)).symm) hD
  refine kc_v (va_runV (As := [.ref (ad 7)]) (rest := []) ⟨hx, hb, hml, hown, hts⟩ (c_K_searchKept l D ty ad _ n f th rt qu b w T g a o 7 8 9 w (by omega) (by omega) (by omega) (by omega) (by omega) (by omega) hn h12) (cwV 1 hts (kGV kS1 m_K_107 m_im_K_searchKept m_sel_K_searchKept m_ini_K m_code_K_searchKept) rfl rfl rfl (by decide +kernel) ⟨Nat.le_of_ble_eq_true rfl, Nat.le_of_ble_eq_true rfl⟩) ⟨kP_blind, va_recv hK hP (ci := 0) (q0 := 0) rfl (gs_n (by omega) (by omega) (by omega) (gw_0)), fun U hU hW => ⟨rfl, kP_at hK hP hD U hU hW⟩⟩ rfl rfl hl.1 rfl (lv_room (Nat.le_of_ble_eq_true rfl)) d_K_sweep_5 ⟨Nat.le_of_ble_eq_true rfl, Nat.le_of_ble_eq_true rfl⟩) hD hS hA (fun u H locs hu hP hD hS hz => ?_)
  subst hu
  have hP := kw_P (congrArg (wL (22 + 2 * n) ad) (gw_sw (S := sKept f th rt qu T w))) hP
  have hD := kw_D (congrArg (wL (22 + 2 * n) ad) (gw_sw (S := sKept f th rt qu T w))) hD
  refine lv_iconst (v := 0) hx hb d_K_sweep_8 (by decide) ?_
  refine lv_istore_n (lv' := [(1, .int 0), (0, .ref (ad 0))]) hx hb d_K_sweep_9 rfl hl (by decide) rfl (fun ls hl => ?_)
  refine lv_iconst (v := 0) hx hb d_K_sweep_10 (by decide) ?_
  refine lv_istore_n (lv' := [(2, .int 0), (1, .int 0), (0, .ref (ad 0))]) hx hb d_K_sweep_11 rfl hl (by decide) rfl (fun ls hl => ?_)
  have L1 : ∀ (Q : State → Prop) (rem i : Nat) (H : Heap) (locs : List Loc) (ls : Array Slot), i + rem = 300 → va_P D kCl (gW n ty ad f ((it (sW (sKept f th rt qu T w)) i (th, 0)).1) rt qu b (sKept f th rt qu T w) T g a o) H → va_D A (gW n ty ad f ((it (sW (sKept f th rt qu T w)) i (th, 0)).1) rt qu b (sKept f th rt qu T w) T g a o) → va_S A s.heap H locs → lv_has ls 3 [(0, .ref (ad 0)), (1, .int ((it (sW (sKept f th rt qu T w)) i (th, 0)).2)), (2, .int (nI i))] → (∀ (H : Heap) (locs : List Loc) (ls : Array Slot), va_P D kCl (gW n ty ad f ((it (sW (sKept f th rt qu T w)) 300 (th, 0)).1) rt qu b (sKept f th rt qu T w) T g a o) H → va_D A (gW n ty ad f ((it (sW (sKept f th rt qu T w)) 300 (th, 0)).1) rt qu b (sKept f th rt qu T w) T g a o) → va_S A s.heap H locs → lv_has ls 3 [(0, .ref (ad 0)), (1, .int ((it (sW (sKept f th rt qu T w)) 300 (th, 0)).2))] → W p l e (headSpec w_K_sweep ({ frames := 4, cells := 0, slots := 0, locals := 90 })).room s m ([.ref (ad 0)] : List Value).toArray below meth cd H locs 0 0 Q (F0 m 57 ls [])) → W p l e (headSpec w_K_sweep ({ frames := 4, cells := 0, slots := 0, locals := 90 })).room s m ([.ref (ad 0)] : List Value).toArray below meth cd H locs 0 0 Q (F0 m 12 ls []) := by
    intro Q rem
    induction rem with
    | zero =>
      intro i H locs ls hir_i hP hD hS hl kx
      obtain rfl : 300 = i := by omega
      refine lv_iload_n hx hb d_K_sweep_12 rfl (lv_at hl 2 rfl) ?_
      refine lv_aload_n hx hb d_K_sweep_13 rfl (lv_at hl 0 rfl) ?_
      refine va_get (D := D) (ci := 0) (v := .ref (ad 1)) (C := R_K) (T := F_K) (N := 12) hx hb hts (fun w h => kS1 w (i_K w h)) hown hK hP 0 gw_0 rfl 0 (by decide) (hts _ (kS1 _ m_K_11)) (fun _ h9 => h9) rfl d_K_sweep_14 ?_
      refine va_alen (v := 300) hx hb hK hP 1 2 gw_1 rfl rfl d_K_sweep_17 ?_
      refine lv_icmp_ge (tgt := 57) hx hb d_K_sweep_18 (by decide) (fun c_18' => ?_) (fun c_18' => absurd (nI_le (a := 300) (b := 300) (Nat.le_refl _) (by omega)) c_18')
      have hl := lv_sub (l' := [(0, .ref (ad 0)), (1, .int ((it (sW (sKept f th rt qu T w)) 300 (th, 0)).2))]) hl [0, 1] rfl
      exact kx _ _ ls hP hD hS hl
    | succ rem ih =>
      intro i H locs ls hir_i hP hD hS hl kx
      have hlt_i : i < 300 := by omega
      refine lv_iload_n hx hb d_K_sweep_12 rfl (lv_at hl 2 rfl) ?_
      refine lv_aload_n hx hb d_K_sweep_13 rfl (lv_at hl 0 rfl) ?_
      refine va_get (D := D) (ci := 0) (v := .ref (ad 1)) (C := R_K) (T := F_K) (N := 12) hx hb hts (fun w h => kS1 w (i_K w h)) hown hK hP 0 gw_0 rfl 0 (by decide) (hts _ (kS1 _ m_K_11)) (fun _ h9 => h9) rfl d_K_sweep_14 ?_
      refine va_alen (v := 300) hx hb hK hP 1 2 gw_1 rfl rfl d_K_sweep_17 ?_
      refine lv_icmp_ge (tgt := 57) hx hb d_K_sweep_18 (by decide) (fun c_18' => absurd c_18' (nI_ge (b := 300) hlt_i (by omega))) (fun c_18' => ?_)
      refine lv_aload_n hx hb d_K_sweep_21 rfl (lv_at hl 0 rfl) ?_
      refine va_get (D := D) (ci := 0) (v := .ref (ad 1)) (C := R_K) (T := F_K) (N := 12) hx hb hts (fun w h => kS1 w (i_K w h)) hown hK hP 0 gw_0 rfl 0 (by decide) (hts _ (kS1 _ m_K_11)) (fun _ h9 => h9) rfl d_K_sweep_22 ?_
      refine lv_iload_n hx hb d_K_sweep_25 rfl (lv_at hl 2 rfl) ?_
      refine va_aldq (f := thf ad ((it (sW (sKept f th rt qu T w)) i (th, 0)).1)) hx hb hK hP 1 2 gw_1 rfl (vp_in_nI hlt_i (by omega)) d_K_sweep_26 ?_
      rw [nI_clamp (n := i) (by omega)]
      by_cases hth_26 : ((it (sW (sKept f th rt qu T w)) i (th, 0)).1) i = true
      · rw [kth_t hth_26]
        refine lv_ifnull hx hb d_K_sweep_27 ?_
        refine lv_aload_n hx hb d_K_sweep_30 rfl (lv_at hl 0 rfl) ?_
        refine va_get (D := D) (ci := 0) (v := .ref (ad 7)) (C := R_K) (T := F_K) (N := 12) hx hb hts (fun w h => kS1 w (i_K w h)) hown hK hP 0 gw_0 rfl 6 (by decide) (hts _ (kS1 _ m_K_29)) (fun _ h9 => h9) rfl d_K_sweep_31 ?_
        refine lv_iload_n hx hb d_K_sweep_34 rfl (lv_at hl 2 rfl) ?_
        have hP := kw_P (congrArg (wL (22 + 2 * n) ad) (gw_sw (w := sKept f th rt qu T w) (S := sKept f th rt qu T w)).symm) hP
        have hD := kw_D (congrArg (wL (22 + 2 * n) ad) (gw_sw (w := sKept f th rt qu T w) (S := sKept f th rt qu T w)).symm) hD
        refine kc_R (va_runV (As := [.int (nI i)]) (rest := []) ⟨hx, hb, hml, hown, hts⟩ (c_S_has l D ty ad _ (22 + 2 * n) (gc ty ad f ((it (sW (sKept f th rt qu T w)) i (th, 0)).1) rt qu b (sKept f th rt qu T w) T g a o) 7 8 9 (sKept f th rt qu T w) (by omega) (by omega) (by omega) (by omega) (by omega) (by omega) (nI i)) (cwV 1 hts (kGV kS1 m_K_110 m_im_S_has m_sel_S_has m_ini_S m_code_S_has) rfl rfl rfl (by decide +kernel) ⟨Nat.le_of_ble_eq_true rfl, Nat.le_of_ble_eq_true rfl⟩) ⟨kP_blind, va_recv hK hP (ci := 1) (q0 := 7) rfl (sw_o (S := sKept f th rt qu T w) (by omega)), fun U hU hW => ⟨rfl, kP_at hK hP hD U hU hW⟩⟩ rfl rfl hl.1 rfl (lv_room (Nat.le_of_ble_eq_true rfl)) d_K_sweep_35 ⟨Nat.le_of_ble_eq_true rfl, Nat.le_of_ble_eq_true rfl⟩) ?_
        have hP := kw_P (congrArg (wL (22 + 2 * n) ad) (gw_sw (S := sKept f th rt qu T w))) hP
        have hD := kw_D (congrArg (wL (22 + 2 * n) ad) (gw_sw (S := sKept f th rt qu T w))) hD
        refine lv_if_ne (tgt := 51) hx hb d_K_sweep_38 (by decide) (fun c_38' => ?_) (fun c_38' => ?_)
        · refine lv_iinc (v := nI i + 1) (lv' := [(2, .int (nI i + 1)), (0, .ref (ad 0)), (1, .int ((it (sW (sKept f th rt qu T w)) i (th, 0)).2))]) hx hb d_K_sweep_51 hl (k := 2) rfl rfl (by decide) rfl (fun ls hl => ?_)
          refine lv_goto (tgt := 12) hx hb d_K_sweep_54 (by decide) ?_
          have hl := lv_sub (l' := [(0, .ref (ad 0)), (1, .int ((it (sW (sKept f th rt qu T w)) i (th, 0)).2)), (2, .int (nI i + 1))]) hl [1, 2, 0] rfl
          have hqq9 : (.int ((it (sW (sKept f th rt qu T w)) i (th, 0)).2) : Value) = .int ((it (sW (sKept f th rt qu T w)) (i + 1) (th, 0)).2) := by rw [it_s, sW]; simp [c_18', hth_26, c_38']
          rw [hqq9] at hl
          have hqq9 : (.int (nI i + 1) : Value) = .int (nI (i + 1)) := by rw [nI_1]
          rw [hqq9] at hl
          have hE : (gW n ty ad f ((it (sW (sKept f th rt qu T w)) i (th, 0)).1) rt qu b (sKept f th rt qu T w) T g a o : va_W) = gW n ty ad f ((it (sW (sKept f th rt qu T w)) (i + 1) (th, 0)).1) rt qu b (sKept f th rt qu T w) T g a o := by rw [it_s, sW]; simp [c_18', hth_26, c_38']
          have hP := kw_P hE hP
          have hD := kw_D hE hD
          exact ih (i + 1) _ _ ls (by omega) hP hD hS hl kx
        · refine lv_aload_n hx hb d_K_sweep_41 rfl (lv_at hl 0 rfl) ?_
          refine va_get (D := D) (ci := 0) (v := .ref (ad 1)) (C := R_K) (T := F_K) (N := 12) hx hb hts (fun w h => kS1 w (i_K w h)) hown hK hP 0 gw_0 rfl 0 (by decide) (hts _ (kS1 _ m_K_11)) (fun _ h9 => h9) rfl d_K_sweep_42 ?_
          refine lv_iload_n hx hb d_K_sweep_45 rfl (lv_at hl 2 rfl) ?_
          refine lv_null hx hb d_K_sweep_46 ?_
          refine va_astqN hx hb hK hP hD hS 1 2 gw_1 rfl (vp_in_nI hlt_i (by omega)) d_K_sweep_47 (fun H locs hP hD hS => ?_)
          rw [nI_clamp (n := i) (by omega)] at hP hD
          have hP := kw_P (gw_sth (i := i)) hP
          have hD := kw_D (gw_sth (i := i)) hD
          refine lv_iinc (v := (it (sW (sKept f th rt qu T w)) i (th, 0)).2 + 1) (lv' := [(1, .int ((it (sW (sKept f th rt qu T w)) i (th, 0)).2 + 1)), (0, .ref (ad 0)), (2, .int (nI i))]) hx hb d_K_sweep_48 hl (k := 1) rfl rfl (by decide) rfl (fun ls hl => ?_)
          refine lv_iinc (v := nI i + 1) (lv' := [(2, .int (nI i + 1)), (1, .int ((it (sW (sKept f th rt qu T w)) i (th, 0)).2 + 1)), (0, .ref (ad 0))]) hx hb d_K_sweep_51 hl (k := 2) rfl rfl (by decide) rfl (fun ls hl => ?_)
          refine lv_goto (tgt := 12) hx hb d_K_sweep_54 (by decide) ?_
          have hl := lv_sub (l' := [(0, .ref (ad 0)), (1, .int ((it (sW (sKept f th rt qu T w)) i (th, 0)).2 + 1)), (2, .int (nI i + 1))]) hl [2, 1, 0] rfl
          have hqq9 : (.int ((it (sW (sKept f th rt qu T w)) i (th, 0)).2 + 1) : Value) = .int ((it (sW (sKept f th rt qu T w)) (i + 1) (th, 0)).2) := by rw [it_s, sW]; simp [c_18', hth_26, c_38']
          rw [hqq9] at hl
          have hqq9 : (.int (nI i + 1) : Value) = .int (nI (i + 1)) := by rw [nI_1]
          rw [hqq9] at hl
          have hE : (gW n ty ad f (va_up ((it (sW (sKept f th rt qu T w)) i (th, 0)).1) i false) rt qu b (sKept f th rt qu T w) T g a o : va_W) = gW n ty ad f ((it (sW (sKept f th rt qu T w)) (i + 1) (th, 0)).1) rt qu b (sKept f th rt qu T w) T g a o := by rw [it_s, sW]; simp [c_18', hth_26, c_38']
          have hP := kw_P hE hP
          have hD := kw_D hE hD
          exact ih (i + 1) _ _ ls (by omega) hP hD hS hl kx
      · rw [kth_f hth_26]
        refine lv_ifnullN (tgt := 51) hx hb d_K_sweep_27 (by decide) ?_
        refine lv_iinc (v := nI i + 1) (lv' := [(2, .int (nI i + 1)), (0, .ref (ad 0)), (1, .int ((it (sW (sKept f th rt qu T w)) i (th, 0)).2))]) hx hb d_K_sweep_51 hl (k := 2) rfl rfl (by decide) rfl (fun ls hl => ?_)
        refine lv_goto (tgt := 12) hx hb d_K_sweep_54 (by decide) ?_
        have hl := lv_sub (l' := [(0, .ref (ad 0)), (1, .int ((it (sW (sKept f th rt qu T w)) i (th, 0)).2)), (2, .int (nI i + 1))]) hl [1, 2, 0] rfl
        have hqq9 : (.int ((it (sW (sKept f th rt qu T w)) i (th, 0)).2) : Value) = .int ((it (sW (sKept f th rt qu T w)) (i + 1) (th, 0)).2) := by rw [it_s, sW]; simp [c_18', hth_26]
        rw [hqq9] at hl
        have hqq9 : (.int (nI i + 1) : Value) = .int (nI (i + 1)) := by rw [nI_1]
        rw [hqq9] at hl
        have hE : (gW n ty ad f ((it (sW (sKept f th rt qu T w)) i (th, 0)).1) rt qu b (sKept f th rt qu T w) T g a o : va_W) = gW n ty ad f ((it (sW (sKept f th rt qu T w)) (i + 1) (th, 0)).1) rt qu b (sKept f th rt qu T w) T g a o := by rw [it_s, sW]; simp [c_18', hth_26]
        have hP := kw_P hE hP
        have hD := kw_D hE hD
        exact ih (i + 1) _ _ ls (by omega) hP hD hS hl kx
  have hl := lv_sub (l' := [(0, .ref (ad 0)), (1, .int 0), (2, .int 0)]) hl [2, 1, 0] rfl
  have hqq9 : (.int 0 : Value) = .int (nI 0) := by rw [nI_0]
  rw [hqq9] at hl
  refine L1 _ (300 - 0) 0 _ _ ls (by omega) hP hD hS hl (fun H locs ls hP hD hS hl => ?_)
  refine lv_aload_n hx hb d_K_sweep_57 rfl (lv_at hl 0 rfl) ?_
  refine lv_dup hx hb d_K_sweep_58 rfl ?_
  refine va_get (D := D) (ci := 0) (v := .int (f 8)) (C := R_K) (T := F_K) (N := 12) hx hb hts (fun w h => kS1 w (i_K w h)) hown hK hP 0 gw_0 rfl 8 (by decide) (hts _ (kS1 _ m_K_55)) (fun _ h9 => h9) rfl d_K_sweep_59 ?_
  refine lv_iload_n hx hb d_K_sweep_62 rfl (lv_at hl 1 rfl) ?_
  refine lv_isub hx hb d_K_sweep_63 ?_
  refine va_put (D := D) (ci := 0) (v := .int ((f 8) - ((it (sW (sKept f th rt qu T w)) 300 (th, 0)).2))) (ty := .int) (C := R_K) (T := F_K) (N := 12) hx hb hts (fun w h => kS1 w (i_K w h)) tt_K tt_K_ok n_K hown hK hP hD hS 0 gw_0 rfl 8 (by decide) (hts _ (kS1 _ m_K_55)) (fun _ h9 => h9) rfl (by decide +kernel) rfl rfl (Nat.le_of_ble_eq_true rfl) d_K_sweep_64 (fun H locs hP hD hS => ?_)
  have hP := kw_P (gw_sK8 (v := (f 8) - ((it (sW (sKept f th rt qu T w)) 300 (th, 0)).2))) hP
  have hD := kw_D (gw_sK8 (v := (f 8) - ((it (sW (sKept f th rt qu T w)) 300 (th, 0)).2))) hD
  refine lv_iload_n hx hb d_K_sweep_67 rfl (lv_at hl 1 rfl) ?_
  have hu : (gW n ty ad (upd f 8 ((f 8) - ((it (sW (sKept f th rt qu T w)) 300 (th, 0)).2))) ((it (sW (sKept f th rt qu T w)) 300 (th, 0)).1) rt qu b (sKept f th rt qu T w) T g a o : va_W) = gW n ty ad (upd f 8 (f 8 - (it (sW (sKept f th rt qu T w)) 300 (th, 0)).2)) ((it (sW (sKept f th rt qu T w)) 300 (th, 0)).1) rt qu b (sKept f th rt qu T w) T g a o := by rfl
  have hv : ((it (sW (sKept f th rt qu T w)) 300 (th, 0)).2 : Int32) = (it (sW (sKept f th rt qu T w)) 300 (th, 0)).2 := by simp []
  exact W.iret (v := (it (sW (sKept f th rt qu T w)) 300 (th, 0)).2) hx hb hr (fun t ht hW => ⟨⟨_, _, rfl, ⟨hv, hu⟩, by rw [ht]; exact hP, va_K.moved hW.alike hK, hD⟩, hS.F ht⟩) hS.2.2 d_K_sweep_68
set_option maxHeartbeats 4000000 in
set_option maxRecDepth 100000 in
/-- clear() -/
theorem c_K_clear (l : Launch) (D : va_G) (ty : Nat → ClassId) (ad : Nat → Nat) (sz : Nat) (n : Nat) (f : Nat → Int32) (th : Nat → Bool) (rt qu : Nat → Int32) (b w : SR) (T : Nat → TH) (g : Nat → Int32) (a : Nat → Nat → Int32) (o : Nat → Int64) (hn : ∀ k, th k = true → k < n) (h12 : ∀ k, (T k).2.2.2.1 ≤ 12) : Met l y_K_clear w_K_clear ({ frames := 4, cells := 0, slots := 0, locals := 88 }) (va_Pc [.ref (ad 0)] (kP D kCl (kTy ty) (gW n ty ad f th rt qu b w T g a o) sz)) (va_Qi (fun (r9 : Int32) (u9 : va_W) => r9 = ((it (qU th (sReach f th rt qu T b)) 300 (qu, f, T, 0)).2.2.2) ∧ u9 = (gW n ty ad (upd (it (fU th (sReach f th rt qu T b) (sReach (it (qU th (sReach f th rt qu T b)) 300 (qu, f, T, 0)).2.1 th rt (it (qU th (sReach f th rt qu T b)) 300 (qu, f, T, 0)).1 (it (qU th (sReach f th rt qu T b)) 300 (qu, f, T, 0)).2.2.1 w)) 300 ((it (qU th (sReach f th rt qu T b)) 300 (qu, f, T, 0)).2.2.1, (it (qU th (sReach f th rt qu T b)) 300 (qu, f, T, 0)).2.1)).2 10 ((it (fU th (sReach f th rt qu T b) (sReach (it (qU th (sReach f th rt qu T b)) 300 (qu, f, T, 0)).2.1 th rt (it (qU th (sReach f th rt qu T b)) 300 (qu, f, T, 0)).1 (it (qU th (sReach f th rt qu T b)) 300 (qu, f, T, 0)).2.2.1 w)) 300 ((it (qU th (sReach f th rt qu T b)) 300 (qu, f, T, 0)).2.2.1, (it (qU th (sReach f th rt qu T b)) 300 (qu, f, T, 0)).2.1)).2 10 + 1)) th rt ((it (qU th (sReach f th rt qu T b)) 300 (qu, f, T, 0)).1) (sReach f th rt qu T b) (sReach (it (qU th (sReach f th rt qu T b)) 300 (qu, f, T, 0)).2.1 th rt (it (qU th (sReach f th rt qu T b)) 300 (qu, f, T, 0)).1 (it (qU th (sReach f th rt qu T b)) 300 (qu, f, T, 0)).2.2.1 w) ((it (fU th (sReach f th rt qu T b) (sReach (it (qU th (sReach f th rt qu T b)) 300 (qu, f, T, 0)).2.1 th rt (it (qU th (sReach f th rt qu T b)) 300 (qu, f, T, 0)).1 (it (qU th (sReach f th rt qu T b)) 300 (qu, f, T, 0)).2.2.1 w)) 300 ((it (qU th (sReach f th rt qu T b)) 300 (qu, f, T, 0)).2.2.1, (it (qU th (sReach f th rt qu T b)) 300 (qu, f, T, 0)).2.1)).1) g a o)) (kB D kCl (kTy ty) (va_A (gW n ty ad f th rt qu b w T g a o) sz)) (va_A (gW n ty ad f th rt qu b w T g a o) sz)) 0 0 (va_A (gW n ty ad f th rt qu b w T g a o) sz) := by
  refine Met.ofW (cc := b_K_clear) (maxL := 2) (ret := (some .int)) (by decide) rfl ?_
  intro p e s m args below meth cd s₁ B hml hv
  obtain ⟨rfl, hsz, hP, hK, hD0⟩ := hv
  have hx := B.exec
  have hb := B.bytes
  have hr := B.returns
  have hts := atoms_spec (ws := w_K_clear) B.pre
  have hown : s.vm.findClass R_K = some m.cls := findClass_of_methodNamed B.named
  have hlocks := B.notSynchronized
  subst hsz
  have hD := hD0.self (sz := s.heap.size)
  generalize hAe : va_A (gW n ty ad f th rt qu b w T g a o) s.heap.size = A at hD ⊢
  have hA : ∀ q : Nat, s.heap.size ≤ q → A q := fun q h => by rw [← hAe]; exact Or.inr h
  have hS : va_S A s.heap s.heap [] := va_S.rf
  have hl := lv_entry ([.ref (ad 0)]) (n := 2) (Nat.le_of_ble_eq_true rfl)
  rw [lg_entry_eq]
  generalize (lg_sl ([.ref (ad 0)]) ++ List.replicate (2 - (lg_sl ([.ref (ad 0)])).length) Slot.unset).toArray = ls at hl ⊢
  have hl : lv_has ls 2 [(0, .ref (ad 0))] := hl
  refine lv_aload_n hx hb d_K_clear_0 rfl (lv_at hl 0 rfl) ?_
  refine lv_aload_n hx hb d_K_clear_1 rfl (lv_at hl 0 rfl) ?_
  refine va_get (D := D) (ci := 0) (v := .ref (ad 4)) (C := R_K) (T := F_K) (N := 12) hx hb hts (fun w h => kS1 w (i_K w h)) hown hK hP 0 gw_0 rfl 5 (by decide) (hts _ (kS1 _ m_K_25)) (fun _ h9 => h9) rfl d_K_clear_2 ?_
  have hP := kw_P (congrArg (wL (22 + 2 * n) ad) (gw_sb (b := b) (S := b)).symm) hP
  have hD := kw_D (congrArg (wL (22 + 2 * n) ad) (gw_sb (b := b) (S := b)).symm) hD
  refine kc_v (va_runV (As := [.ref (ad 4)]) (rest := []) ⟨hx, hb, hml, hown, hts⟩ (c_K_searchReached l D ty ad _ n f th rt qu b w T g a o 4 5 6 b (by omega) (by omega) (by omega) (by omega) (by omega) (by omega) hn h12) (cwV 1 hts (kGV kS1 m_K_74 m_im_K_searchReached m_sel_K_searchReached m_ini_K m_code_K_searchReached) rfl rfl rfl (by decide +kernel) ⟨Nat.le_of_ble_eq_true rfl, Nat.le_of_ble_eq_true rfl⟩) ⟨kP_blind, va_recv hK hP (ci := 0) (q0 := 0) rfl (gs_n (by omega) (by omega) (by omega) (gw_0)), fun U hU hW => ⟨rfl, kP_at hK hP hD U hU hW⟩⟩ rfl rfl hl.1 rfl (lv_room (Nat.le_of_ble_eq_true rfl)) d_K_clear_5 ⟨Nat.le_of_ble_eq_true rfl, Nat.le_of_ble_eq_true rfl⟩) hD hS hA (fun u H locs hu hP hD hS hz => ?_)
  subst hu
  have hP := kw_P (congrArg (wL (22 + 2 * n) ad) (gw_sb (S := sReach f th rt qu T b))) hP
  have hD := kw_D (congrArg (wL (22 + 2 * n) ad) (gw_sb (S := sReach f th rt qu T b))) hD
  refine lv_aload_n hx hb d_K_clear_8 rfl (lv_at hl 0 rfl) ?_
  refine kc_i (va_runV (As := []) (rest := []) ⟨hx, hb, hml, hown, hts⟩ (c_K_queueUnreached l D ty ad _ n f th rt qu (sReach f th rt qu T b) w T g a o hn) (cwV 0 hts (kGV kS1 m_K_78 m_im_K_queueUnreached m_sel_K_queueUnreached m_ini_K m_code_K_queueUnreached) rfl rfl rfl (by decide +kernel) ⟨Nat.le_of_ble_eq_true rfl, Nat.le_of_ble_eq_true rfl⟩) ⟨kP_blind, va_recv hK hP (ci := 0) (q0 := 0) rfl gw_0, fun U hU hW => ⟨rfl, kP_at hK hP hD U hU hW⟩⟩ rfl rfl hl.1 rfl (lv_room (Nat.le_of_ble_eq_true rfl)) d_K_clear_9 ⟨Nat.le_of_ble_eq_true rfl, Nat.le_of_ble_eq_true rfl⟩) hD hS hA (fun r u H locs hu hP hD hS hz => ?_)
  obtain ⟨rfl, rfl⟩ := hu
  refine lv_istore_n (lv' := [(1, .int ((it (qU th (sReach f th rt qu T b)) 300 (qu, f, T, 0)).2.2.2)), (0, .ref (ad 0))]) hx hb d_K_clear_12 rfl hl (by decide) rfl (fun ls hl => ?_)
  refine lv_aload_n hx hb d_K_clear_13 rfl (lv_at hl 1 rfl) ?_
  refine lv_aload_n hx hb d_K_clear_14 rfl (lv_at hl 1 rfl) ?_
  refine va_get (D := D) (ci := 0) (v := .ref (ad 7)) (C := R_K) (T := F_K) (N := 12) hx hb hts (fun w h => kS1 w (i_K w h)) hown hK hP 0 gw_0 rfl 6 (by decide) (hts _ (kS1 _ m_K_29)) (fun _ h9 => h9) rfl d_K_clear_15 ?_
  have hP := kw_P (congrArg (wL (22 + 2 * n) ad) (gw_sw (w := w) (S := w)).symm) hP
  have hD := kw_D (congrArg (wL (22 + 2 * n) ad) (gw_sw (w := w) (S := w)).symm) hD
  refine kc_v (va_runV (As := [.ref (ad 7)]) (rest := []) ⟨hx, hb, hml, hown, hts⟩ (c_K_searchReached l D ty ad _ n ((it (qU th (sReach f th rt qu T b)) 300 (qu, f, T, 0)).2.1) th rt ((it (qU th (sReach f th rt qu T b)) 300 (qu, f, T, 0)).1) (sReach f th rt qu T b) w ((it (qU th (sReach f th rt qu T b)) 300 (qu, f, T, 0)).2.2.1) g a o 7 8 9 w (by omega) (by omega) (by omega) (by omega) (by omega) (by omega) hn (qU_12 h12)) (cwV 1 hts (kGV kS1 m_K_74 m_im_K_searchReached m_sel_K_searchReached m_ini_K m_code_K_searchReached) rfl rfl rfl (by decide +kernel) ⟨Nat.le_of_ble_eq_true rfl, Nat.le_of_ble_eq_true rfl⟩) ⟨kP_blind, va_recv hK hP (ci := 0) (q0 := 0) rfl (gs_n (by omega) (by omega) (by omega) (gw_0)), fun U hU hW => ⟨rfl, kP_at hK hP hD U hU hW⟩⟩ rfl rfl hl.1 rfl (lv_room (Nat.le_of_ble_eq_true rfl)) d_K_clear_18 ⟨Nat.le_of_ble_eq_true rfl, Nat.le_of_ble_eq_true rfl⟩) hD hS hA (fun u H locs hu hP hD hS hz => ?_)
  subst hu
  have hP := kw_P (congrArg (wL (22 + 2 * n) ad) (gw_sw (S := sReach ((it (qU th (sReach f th rt qu T b)) 300 (qu, f, T, 0)).2.1) th rt ((it (qU th (sReach f th rt qu T b)) 300 (qu, f, T, 0)).1) ((it (qU th (sReach f th rt qu T b)) 300 (qu, f, T, 0)).2.2.1) w))) hP
  have hD := kw_D (congrArg (wL (22 + 2 * n) ad) (gw_sw (S := sReach ((it (qU th (sReach f th rt qu T b)) 300 (qu, f, T, 0)).2.1) th rt ((it (qU th (sReach f th rt qu T b)) 300 (qu, f, T, 0)).1) ((it (qU th (sReach f th rt qu T b)) 300 (qu, f, T, 0)).2.2.1) w))) hD
  refine lv_aload_n hx hb d_K_clear_21 rfl (lv_at hl 1 rfl) ?_
  refine kc_v (va_runV (As := []) (rest := []) ⟨hx, hb, hml, hown, hts⟩ (c_K_forgetUnreached l D ty ad _ n ((it (qU th (sReach f th rt qu T b)) 300 (qu, f, T, 0)).2.1) th rt ((it (qU th (sReach f th rt qu T b)) 300 (qu, f, T, 0)).1) (sReach f th rt qu T b) (sReach ((it (qU th (sReach f th rt qu T b)) 300 (qu, f, T, 0)).2.1) th rt ((it (qU th (sReach f th rt qu T b)) 300 (qu, f, T, 0)).1) ((it (qU th (sReach f th rt qu T b)) 300 (qu, f, T, 0)).2.2.1) w) ((it (qU th (sReach f th rt qu T b)) 300 (qu, f, T, 0)).2.2.1) g a o hn) (cwV 0 hts (kGV kS1 m_K_82 m_im_K_forgetUnreached m_sel_K_forgetUnreached m_ini_K m_code_K_forgetUnreached) rfl rfl rfl (by decide +kernel) ⟨Nat.le_of_ble_eq_true rfl, Nat.le_of_ble_eq_true rfl⟩) ⟨kP_blind, va_recv hK hP (ci := 0) (q0 := 0) rfl gw_0, fun U hU hW => ⟨rfl, kP_at hK hP hD U hU hW⟩⟩ rfl rfl hl.1 rfl (lv_room (Nat.le_of_ble_eq_true rfl)) d_K_clear_22 ⟨Nat.le_of_ble_eq_true rfl, Nat.le_of_ble_eq_true rfl⟩) hD hS hA (fun u H locs hu hP hD hS hz => ?_)
  subst hu
  refine lv_aload_n hx hb d_K_clear_25 rfl (lv_at hl 1 rfl) ?_
  refine lv_dup hx hb d_K_clear_26 rfl ?_
  refine va_get (D := D) (ci := 0) (v := .int (((it (fU th (sReach f th rt qu T b) (sReach ((it (qU th (sReach f th rt qu T b)) 300 (qu, f, T, 0)).2.1) th rt ((it (qU th (sReach f th rt qu T b)) 300 (qu, f, T, 0)).1) ((it (qU th (sReach f th rt qu T b)) 300 (qu, f, T, 0)).2.2.1) w)) 300 ((it (qU th (sReach f th rt qu T b)) 300 (qu, f, T, 0)).2.2.1, (it (qU th (sReach f th rt qu T b)) 300 (qu, f, T, 0)).2.1)).2) 10)) (C := R_K) (T := F_K) (N := 12) hx hb hts (fun w h => kS1 w (i_K w h)) hown hK hP 0 gw_0 rfl 10 (by decide) (hts _ (kS1 _ m_K_85)) (fun _ h9 => h9) rfl d_K_clear_27 ?_
  refine lv_iconst (v := 1) hx hb d_K_clear_30 (by decide) ?_
  refine lv_iadd hx hb d_K_clear_31 ?_
  refine va_put (D := D) (ci := 0) (v := .int ((((it (fU th (sReach f th rt qu T b) (sReach ((it (qU th (sReach f th rt qu T b)) 300 (qu, f, T, 0)).2.1) th rt ((it (qU th (sReach f th rt qu T b)) 300 (qu, f, T, 0)).1) ((it (qU th (sReach f th rt qu T b)) 300 (qu, f, T, 0)).2.2.1) w)) 300 ((it (qU th (sReach f th rt qu T b)) 300 (qu, f, T, 0)).2.2.1, (it (qU th (sReach f th rt qu T b)) 300 (qu, f, T, 0)).2.1)).2) 10) + 1)) (ty := .int) (C := R_K) (T := F_K) (N := 12) hx hb hts (fun w h => kS1 w (i_K w h)) tt_K tt_K_ok n_K hown hK hP hD hS 0 gw_0 rfl 10 (by decide) (hts _ (kS1 _ m_K_85)) (fun _ h9 => h9) rfl (by decide +kernel) rfl rfl (Nat.le_of_ble_eq_true rfl) d_K_clear_32 (fun H locs hP hD hS => ?_)
  have hP := kw_P (gw_sK10 (v := (((it (fU th (sReach f th rt qu T b) (sReach ((it (qU th (sReach f th rt qu T b)) 300 (qu, f, T, 0)).2.1) th rt ((it (qU th (sReach f th rt qu T b)) 300 (qu, f, T, 0)).1) ((it (qU th (sReach f th rt qu T b)) 300 (qu, f, T, 0)).2.2.1) w)) 300 ((it (qU th (sReach f th rt qu T b)) 300 (qu, f, T, 0)).2.2.1, (it (qU th (sReach f th rt qu T b)) 300 (qu, f, T, 0)).2.1)).2) 10) + 1)) hP
  have hD := kw_D (gw_sK10 (v := (((it (fU th (sReach f th rt qu T b) (sReach ((it (qU th (sReach f th rt qu T b)) 300 (qu, f, T, 0)).2.1) th rt ((it (qU th (sReach f th rt qu T b)) 300 (qu, f, T, 0)).1) ((it (qU th (sReach f th rt qu T b)) 300 (qu, f, T, 0)).2.2.1) w)) 300 ((it (qU th (sReach f th rt qu T b)) 300 (qu, f, T, 0)).2.2.1, (it (qU th (sReach f th rt qu T b)) 300 (qu, f, T, 0)).2.1)).2) 10) + 1)) hD
  refine lv_iload_n hx hb d_K_clear_35 rfl (lv_at hl 0 rfl) ?_
  have hu : (gW n ty ad (upd ((it (fU th (sReach f th rt qu T b) (sReach ((it (qU th (sReach f th rt qu T b)) 300 (qu, f, T, 0)).2.1) th rt ((it (qU th (sReach f th rt qu T b)) 300 (qu, f, T, 0)).1) ((it (qU th (sReach f th rt qu T b)) 300 (qu, f, T, 0)).2.2.1) w)) 300 ((it (qU th (sReach f th rt qu T b)) 300 (qu, f, T, 0)).2.2.1, (it (qU th (sReach f th rt qu T b)) 300 (qu, f, T, 0)).2.1)).2) 10 ((((it (fU th (sReach f th rt qu T b) (sReach ((it (qU th (sReach f th rt qu T b)) 300 (qu, f, T, 0)).2.1) th rt ((it (qU th (sReach f th rt qu T b)) 300 (qu, f, T, 0)).1) ((it (qU th (sReach f th rt qu T b)) 300 (qu, f, T, 0)).2.2.1) w)) 300 ((it (qU th (sReach f th rt qu T b)) 300 (qu, f, T, 0)).2.2.1, (it (qU th (sReach f th rt qu T b)) 300 (qu, f, T, 0)).2.1)).2) 10) + 1)) th rt ((it (qU th (sReach f th rt qu T b)) 300 (qu, f, T, 0)).1) (sReach f th rt qu T b) (sReach ((it (qU th (sReach f th rt qu T b)) 300 (qu, f, T, 0)).2.1) th rt ((it (qU th (sReach f th rt qu T b)) 300 (qu, f, T, 0)).1) ((it (qU th (sReach f th rt qu T b)) 300 (qu, f, T, 0)).2.2.1) w) ((it (fU th (sReach f th rt qu T b) (sReach ((it (qU th (sReach f th rt qu T b)) 300 (qu, f, T, 0)).2.1) th rt ((it (qU th (sReach f th rt qu T b)) 300 (qu, f, T, 0)).1) ((it (qU th (sReach f th rt qu T b)) 300 (qu, f, T, 0)).2.2.1) w)) 300 ((it (qU th (sReach f th rt qu T b)) 300 (qu, f, T, 0)).2.2.1, (it (qU th (sReach f th rt qu T b)) 300 (qu, f, T, 0)).2.1)).1) g a o : va_W) = gW n ty ad (upd (it (fU th (sReach f th rt qu T b) (sReach (it (qU th (sReach f th rt qu T b)) 300 (qu, f, T, 0)).2.1 th rt (it (qU th (sReach f th rt qu T b)) 300 (qu, f, T, 0)).1 (it (qU th (sReach f th rt qu T b)) 300 (qu, f, T, 0)).2.2.1 w)) 300 ((it (qU th (sReach f th rt qu T b)) 300 (qu, f, T, 0)).2.2.1, (it (qU th (sReach f th rt qu T b)) 300 (qu, f, T, 0)).2.1)).2 10 ((it (fU th (sReach f th rt qu T b) (sReach (it (qU th (sReach f th rt qu T b)) 300 (qu, f, T, 0)).2.1 th rt (it (qU th (sReach f th rt qu T b)) 300 (qu, f, T, 0)).1 (it (qU th (sReach f th rt qu T b)) 300 (qu, f, T, 0)).2.2.1 w)) 300 ((it (qU th (sReach f th rt qu T b)) 300 (qu, f, T, 0)).2.2.1, (it (qU th (sReach f th rt qu T b)) 300 (qu, f, T, 0)).2.1)).2 10 + 1)) th rt ((it (qU th (sReach f th rt qu T b)) 300 (qu, f, T, 0)).1) (sReach f th rt qu T b) (sReach (it (qU th (sReach f th rt qu T b)) 300 (qu, f, T, 0)).2.1 th rt (it (qU th (sReach f th rt qu T b)) 300 (qu, f, T, 0)).1 (it (qU th (sReach f th rt qu T b)) 300 (qu, f, T, 0)).2.2.1 w) ((it (fU th (sReach f th rt qu T b) (sReach (it (qU th (sReach f th rt qu T b)) 300 (qu, f, T, 0)).2.1 th rt (it (qU th (sReach f th rt qu T b)) 300 (qu, f, T, 0)).1 (it (qU th (sReach f th rt qu T b)) 300 (qu, f, T, 0)).2.2.1 w)) 300 ((it (qU th (sReach f th rt qu T b)) 300 (qu, f, T, 0)).2.2.1, (it (qU th (sReach f th rt qu T b)) 300 (qu, f, T, 0)).2.1)).1) g a o := by rfl
  have hv : ((it (qU th (sReach f th rt qu T b)) 300 (qu, f, T, 0)).2.2.2 : Int32) = (it (qU th (sReach f th rt qu T b)) 300 (qu, f, T, 0)).2.2.2 := by simp []
  exact W.iret (v := (it (qU th (sReach f th rt qu T b)) 300 (qu, f, T, 0)).2.2.2) hx hb hr (fun t ht hW => ⟨⟨_, _, rfl, ⟨hv, hu⟩, by rw [ht]; exact hP, va_K.moved hW.alike hK, hD⟩, hS.F ht⟩) hS.2.2 d_K_clear_36
set_option maxHeartbeats 4000000 in
set_option maxRecDepth 100000 in
/-- take() -/
theorem c_K_take (l : Launch) (D : va_G) (ty : Nat → ClassId) (ad : Nat → Nat) (sz : Nat) (n : Nat) (f : Nat → Int32) (th : Nat → Bool) (rt qu : Nat → Int32) (b w : SR) (T : Nat → TH) (g : Nat → Int32) (a : Nat → Nat → Int32) (o : Nat → Int64) (hn : ∀ k, th k = true → k < n) : Met l y_K_take w_K_take ({ frames := 2, cells := 0, slots := 0, locals := 42 }) (va_Pc [.ref (ad 0)] (kP D kCl (kTy ty) (gW n ty ad f th rt qu b w T g a o) sz)) (va_Qi (fun (r9 : Int32) (u9 : va_W) => r9 = (if 0 < f 4 - f 3 then kQp f qu 0 else -1) ∧ u9 = (gW n ty ad (if 0 < f 4 - f 3 then upd f 3 (f 3 + 1) else f) th rt qu b w (if 0 < f 4 - f 3 then (if tOk th (kQp f qu 0) = true then va_up T (kQp f qu 0).toNatClampNeg (0, (T (kQp f qu 0).toNatClampNeg).2) else T) else T) g a o)) (kB D kCl (kTy ty) (va_A (gW n ty ad f th rt qu b w T g a o) sz)) (va_A (gW n ty ad f th rt qu b w T g a o) sz)) 0 0 (va_A (gW n ty ad f th rt qu b w T g a o) sz) := by
  refine Met.ofW (cc := b_K_take) (maxL := 3) (ret := (some .int)) (by decide) rfl ?_
  intro p e s m args below meth cd s₁ B hml hv
  obtain ⟨rfl, hsz, hP, hK, hD0⟩ := hv
  have hx := B.exec
  have hb := B.bytes
  have hr := B.returns
  have hts := atoms_spec (ws := w_K_take) B.pre
  have hown : s.vm.findClass R_K = some m.cls := findClass_of_methodNamed B.named
  have hlocks := B.notSynchronized
  subst hsz
  have hD := hD0.self (sz := s.heap.size)
  generalize hAe : va_A (gW n ty ad f th rt qu b w T g a o) s.heap.size = A at hD ⊢
  have hA : ∀ q : Nat, s.heap.size ≤ q → A q := fun q h => by rw [← hAe]; exact Or.inr h
  have hS : va_S A s.heap s.heap [] := va_S.rf
  have hl := lv_entry ([.ref (ad 0)]) (n := 3) (Nat.le_of_ble_eq_true rfl)
  rw [lg_entry_eq]
  generalize (lg_sl ([.ref (ad 0)]) ++ List.replicate (3 - (lg_sl ([.ref (ad 0)])).length) Slot.unset).toArray = ls at hl ⊢
  have hl : lv_has ls 3 [(0, .ref (ad 0))] := hl
  refine lv_aload_n hx hb d_K_take_0 rfl (lv_at hl 0 rfl) ?_
  refine kc_R (va_runV (As := []) (rest := []) ⟨hx, hb, hml, hown, hts⟩ (c_K_queueSize l D ty ad _ (22 + 2 * n) (gc ty ad f th rt qu b w T g a o) f (by omega) rfl) (cwV 0 hts (kGV kS1 m_K_88 m_im_K_queueSize m_sel_K_queueSize m_ini_K m_code_K_queueSize) rfl rfl rfl (by decide +kernel) ⟨Nat.le_of_ble_eq_true rfl, Nat.le_of_ble_eq_true rfl⟩) ⟨kP_blind, va_recv hK hP (ci := 0) (q0 := 0) rfl gw_0, fun U hU hW => ⟨rfl, kP_at hK hP hD U hU hW⟩⟩ rfl rfl hl.1 rfl (lv_room (Nat.le_of_ble_eq_true rfl)) d_K_take_1 ⟨Nat.le_of_ble_eq_true rfl, Nat.le_of_ble_eq_true rfl⟩) ?_
  refine lv_if_gt (tgt := 9) hx hb d_K_take_4 (by decide) (fun c_4 => ?_) (fun c_4 => ?_)
  · refine lv_aload_n hx hb d_K_take_9 rfl (lv_at hl 0 rfl) ?_
    refine lv_iconst (v := 0) hx hb d_K_take_10 (by decide) ?_
    refine kc_R (va_runV (As := [.int 0]) (rest := []) ⟨hx, hb, hml, hown, hts⟩ (c_K_queuePlace l D ty ad _ (22 + 2 * n) (gc ty ad f th rt qu b w T g a o) f (by omega) rfl qu rfl 0) (cwV 1 hts (kGV kS1 m_K_91 m_im_K_queuePlace m_sel_K_queuePlace m_ini_K m_code_K_queuePlace) rfl rfl rfl (by decide +kernel) ⟨Nat.le_of_ble_eq_true rfl, Nat.le_of_ble_eq_true rfl⟩) ⟨kP_blind, va_recv hK hP (ci := 0) (q0 := 0) rfl gw_0, fun U hU hW => ⟨rfl, kP_at hK hP hD U hU hW⟩⟩ rfl rfl hl.1 rfl (lv_room (Nat.le_of_ble_eq_true rfl)) d_K_take_11 ⟨Nat.le_of_ble_eq_true rfl, Nat.le_of_ble_eq_true rfl⟩) ?_
    refine lv_istore_n (lv' := [(1, .int (kQp f qu 0)), (0, .ref (ad 0))]) hx hb d_K_take_14 rfl hl (by decide) rfl (fun ls hl => ?_)
    refine lv_aload_n hx hb d_K_take_15 rfl (lv_at hl 1 rfl) ?_
    refine lv_dup hx hb d_K_take_16 rfl ?_
    refine va_get (D := D) (ci := 0) (v := .int (f 3)) (C := R_K) (T := F_K) (N := 12) hx hb hts (fun w h => kS1 w (i_K w h)) hown hK hP 0 gw_0 rfl 3 (by decide) (hts _ (kS1 _ m_K_95)) (fun _ h9 => h9) rfl d_K_take_17 ?_
    refine lv_iconst (v := 1) hx hb d_K_take_20 (by decide) ?_
    refine lv_iadd hx hb d_K_take_21 ?_
    refine va_put (D := D) (ci := 0) (v := .int ((f 3) + 1)) (ty := .int) (C := R_K) (T := F_K) (N := 12) hx hb hts (fun w h => kS1 w (i_K w h)) tt_K tt_K_ok n_K hown hK hP hD hS 0 gw_0 rfl 3 (by decide) (hts _ (kS1 _ m_K_95)) (fun _ h9 => h9) rfl (by decide +kernel) rfl rfl (Nat.le_of_ble_eq_true rfl) d_K_take_22 (fun H locs hP hD hS => ?_)
    have hP := kw_P (gw_sK3 (v := (f 3) + 1)) hP
    have hD := kw_D (gw_sK3 (v := (f 3) + 1)) hD
    refine lv_aload_n hx hb d_K_take_25 rfl (lv_at hl 1 rfl) ?_
    refine lv_iload_n hx hb d_K_take_26 rfl (lv_at hl 0 rfl) ?_
    refine kc_R (va_runV (As := [.int (kQp f qu 0)]) (rest := []) ⟨hx, hb, hml, hown, hts⟩ (c_K_thingOrNull l D ty ad _ (22 + 2 * n) (gc ty ad (upd f 3 ((f 3) + 1)) th rt qu b w T g a o) (upd f 3 ((f 3) + 1)) (by omega) rfl th rfl (kQp f qu 0)) (cwV 1 hts (kGV kS1 m_K_98 m_im_K_thingOrNull m_sel_K_thingOrNull m_ini_K m_code_K_thingOrNull) rfl rfl rfl (by decide +kernel) ⟨Nat.le_of_ble_eq_true rfl, Nat.le_of_ble_eq_true rfl⟩) ⟨kP_blind, va_recv hK hP (ci := 0) (q0 := 0) rfl gw_0, fun U hU hW => ⟨rfl, kP_at hK hP hD U hU hW⟩⟩ rfl rfl hl.1 rfl (lv_room (Nat.le_of_ble_eq_true rfl)) d_K_take_27 ⟨Nat.le_of_ble_eq_true rfl, Nat.le_of_ble_eq_true rfl⟩) ?_
    by_cases hto_27 : tOk th (kQp f qu 0) = true
    · obtain ⟨k27, hk3_k27, he_k27, ht_k27⟩ := tOk_k hto_27
      rw [tOr_tt he_k27 hk3_k27 ht_k27]
      refine lv_astore_n (lv' := [(2, .ref (ad (22 + 2 * k27))), (1, .int (kQp f qu 0)), (0, .ref (ad 0))]) hx hb d_K_take_30 rfl hl (by decide) rfl (fun ls hl => ?_)
      refine lv_aload_n hx hb d_K_take_31 rfl (lv_at hl 0 rfl) ?_
      refine lv_ifnull hx hb d_K_take_32 ?_
      refine lv_aload_n hx hb d_K_take_35 rfl (lv_at hl 0 rfl) ?_
      refine lv_iconst (v := 0) hx hb d_K_take_36 (by decide) ?_
      refine va_put (D := D) (ci := 2) (v := .int 0) (ty := .int) (C := R_T) (T := F_T) (N := 4) hx hb hts (fun w h => kS1 w (i_T w h)) tt_T tt_T_ok n_T hown hK hP hD hS (22 + 2 * k27) (gw_T (k := k27) (hn _ ht_k27)) rfl 1 (by decide) (hts _ (kS1 _ m_K_102)) (fun _ h9 => h9) rfl (by decide +kernel) rfl rfl (Nat.le_of_ble_eq_true rfl) d_K_take_37 (fun H locs hP hD hS => ?_)
      have hP := kw_P (gw_sT (k := k27) (v1 := 0) (v2 := (T k27).2.1) (v3 := (T k27).2.2.1)) hP
      have hD := kw_D (gw_sT (k := k27) (v1 := 0) (v2 := (T k27).2.1) (v3 := (T k27).2.2.1)) hD
      refine lv_iload_n hx hb d_K_take_40 rfl (lv_at hl 1 rfl) ?_
      have hc27 : (kQp f qu 0).toNatClampNeg = k27 := by rw [he_k27, nI_clamp (by omega)]
      have hu : (gW n ty ad (upd f 3 ((f 3) + 1)) th rt qu b w (va_up T k27 (0, (T k27).2.1, (T k27).2.2.1, (T k27).2.2.2)) g a o : va_W) = gW n ty ad (if 0 < f 4 - f 3 then upd f 3 (f 3 + 1) else f) th rt qu b w (if 0 < f 4 - f 3 then (if tOk th (kQp f qu 0) = true then va_up T (kQp f qu 0).toNatClampNeg (0, (T (kQp f qu 0).toNatClampNeg).2) else T) else T) g a o := by simp [c_4, hto_27, hc27]
      have hv : (kQp f qu 0 : Int32) = if 0 < f 4 - f 3 then kQp f qu 0 else -1 := by simp [c_4, hto_27, hc27]
      exact W.iret (v := kQp f qu 0) hx hb hr (fun t ht hW => ⟨⟨_, _, rfl, ⟨hv, hu⟩, by rw [ht]; exact hP, va_K.moved hW.alike hK, hD⟩, hS.F ht⟩) hS.2.2 d_K_take_41
    · rw [tOr_f hto_27]
      refine lv_astore_nN (lv' := [(2, .null), (1, .int (kQp f qu 0)), (0, .ref (ad 0))]) hx hb d_K_take_30 rfl hl (by decide) rfl (fun ls hl => ?_)
      refine lv_aload_nN hx hb d_K_take_31 rfl (lv_at hl 0 rfl) ?_
      refine lv_ifnullN (tgt := 40) hx hb d_K_take_32 (by decide) ?_
      refine lv_iload_n hx hb d_K_take_40 rfl (lv_at hl 1 rfl) ?_
      have hu : (gW n ty ad (upd f 3 ((f 3) + 1)) th rt qu b w T g a o : va_W) = gW n ty ad (if 0 < f 4 - f 3 then upd f 3 (f 3 + 1) else f) th rt qu b w (if 0 < f 4 - f 3 then (if tOk th (kQp f qu 0) = true then va_up T (kQp f qu 0).toNatClampNeg (0, (T (kQp f qu 0).toNatClampNeg).2) else T) else T) g a o := by simp [c_4, hto_27]
      have hv : (kQp f qu 0 : Int32) = if 0 < f 4 - f 3 then kQp f qu 0 else -1 := by simp [c_4, hto_27]
      exact W.iret (v := kQp f qu 0) hx hb hr (fun t ht hW => ⟨⟨_, _, rfl, ⟨hv, hu⟩, by rw [ht]; exact hP, va_K.moved hW.alike hK, hD⟩, hS.F ht⟩) hS.2.2 d_K_take_41
  · refine lv_iconst (v := (-1)) hx hb d_K_take_7 (by decide) ?_
    have hu : (gW n ty ad f th rt qu b w T g a o : va_W) = gW n ty ad (if 0 < f 4 - f 3 then upd f 3 (f 3 + 1) else f) th rt qu b w (if 0 < f 4 - f 3 then (if tOk th (kQp f qu 0) = true then va_up T (kQp f qu 0).toNatClampNeg (0, (T (kQp f qu 0).toNatClampNeg).2) else T) else T) g a o := by simp [c_4]
    have hv : ((-1) : Int32) = if 0 < f 4 - f 3 then kQp f qu 0 else -1 := by simp [c_4]
    exact W.iret (v := (-1)) hx hb hr (fun t ht hW => ⟨⟨_, _, rfl, ⟨hv, hu⟩, by rw [ht]; exact hP, va_K.moved hW.alike hK, hD⟩, hS.F ht⟩) hS.2.2 d_K_take_8
set_option maxHeartbeats 4000000 in
set_option maxRecDepth 100000 in
/-- identity(k), k there -/
theorem c_K_identity (l : Launch) (D : va_G) (ty : Nat → ClassId) (ad : Nat → Nat) (sz : Nat) (n : Nat) (f : Nat → Int32) (th : Nat → Bool) (rt qu : Nat → Int32) (b w : SR) (T : Nat → TH) (g : Nat → Int32) (a : Nat → Nat → Int32) (o : Nat → Int64) (hn : ∀ k, th k = true → k < n) (hn3 : n ≤ 300) (k : Nat) (hk : th k = true) : Met l y_K_identity w_K_identity ({ frames := 2, cells := 0, slots := 0, locals := 43 }) (va_Pc [.ref (ad 0), .int (nI k)] (kP D kCl (kTy ty) (gW n ty ad f th rt qu b w T g a o) sz)) (va_Qi (fun (r9 : Int32) (u9 : va_W) => r9 = (if (T k).2.2.1 = -1 then f 11 else (T k).2.2.1) ∧ u9 = (gW n ty ad (if (T k).2.2.1 = -1 then upd f 11 (f 11 + 1) else f) th rt qu b w (if (T k).2.2.1 = -1 then va_up T k ((T k).1, (T k).2.1, f 11, (T k).2.2.2) else T) g a o)) (kB D kCl (kTy ty) (va_A (gW n ty ad f th rt qu b w T g a o) sz)) (va_A (gW n ty ad f th rt qu b w T g a o) sz)) 0 0 (va_A (gW n ty ad f th rt qu b w T g a o) sz) := by
  refine Met.ofW (cc := b_K_identity) (maxL := 3) (ret := (some .int)) (by decide) rfl ?_
  intro p e s m args below meth cd s₁ B hml hv
  obtain ⟨rfl, hsz, hP, hK, hD0⟩ := hv
  have hx := B.exec
  have hb := B.bytes
  have hr := B.returns
  have hts := atoms_spec (ws := w_K_identity) B.pre
  have hown : s.vm.findClass R_K = some m.cls := findClass_of_methodNamed B.named
  have hlocks := B.notSynchronized
  subst hsz
  have hD := hD0.self (sz := s.heap.size)
  generalize hAe : va_A (gW n ty ad f th rt qu b w T g a o) s.heap.size = A at hD ⊢
  have hA : ∀ q : Nat, s.heap.size ≤ q → A q := fun q h => by rw [← hAe]; exact Or.inr h
  have hS : va_S A s.heap s.heap [] := va_S.rf
  have hl := lv_entry ([.ref (ad 0), .int (nI k)]) (n := 3) (Nat.le_of_ble_eq_true rfl)
  rw [lg_entry_eq]
  generalize (lg_sl ([.ref (ad 0), .int (nI k)]) ++ List.replicate (3 - (lg_sl ([.ref (ad 0), .int (nI k)])).length) Slot.unset).toArray = ls at hl ⊢
  have hl : lv_has ls 3 [(0, .ref (ad 0)), (1, .int (nI k))] := hl
  refine lv_aload_n hx hb d_K_identity_0 rfl (lv_at hl 0 rfl) ?_
  refine lv_iload_n hx hb d_K_identity_1 rfl (lv_at hl 1 rfl) ?_
  refine kc_R (va_runV (As := [.int (nI k)]) (rest := []) ⟨hx, hb, hml, hown, hts⟩ (c_K_thingThere l D ty ad _ n f th rt qu b w T g a o hn hn3 k hk) (cwV 1 hts (kGV kS1 m_K_114 m_im_K_thingThere m_sel_K_thingThere m_ini_K m_code_K_thingThere) rfl rfl rfl (by decide +kernel) ⟨Nat.le_of_ble_eq_true rfl, Nat.le_of_ble_eq_true rfl⟩) ⟨kP_blind, va_recv hK hP (ci := 0) (q0 := 0) rfl gw_0, fun U hU hW => ⟨rfl, kP_at hK hP hD U hU hW⟩⟩ rfl rfl hl.1 rfl (lv_room (Nat.le_of_ble_eq_true rfl)) d_K_identity_2 ⟨Nat.le_of_ble_eq_true rfl, Nat.le_of_ble_eq_true rfl⟩) ?_
  refine lv_astore_n (lv' := [(2, .ref (ad (22 + 2 * k))), (0, .ref (ad 0)), (1, .int (nI k))]) hx hb d_K_identity_5 rfl hl (by decide) rfl (fun ls hl => ?_)
  refine lv_aload_n hx hb d_K_identity_6 rfl (lv_at hl 0 rfl) ?_
  refine va_get (D := D) (ci := 2) (v := .int ((T k).2.2.1)) (C := R_T) (T := F_T) (N := 4) hx hb hts (fun w h => kS1 w (i_T w h)) hown hK hP (22 + 2 * k) (gw_T (k := k) (hn k hk)) rfl 3 (by decide) (hts _ (kS1 _ m_K_117)) (fun _ h9 => h9) rfl d_K_identity_7 ?_
  refine lv_iconst (v := (-1)) hx hb d_K_identity_10 (by decide) ?_
  refine lv_icmp_ne (tgt := 32) hx hb d_K_identity_11 (by decide) (fun c_11 => ?_) (fun c_11 => ?_)
  · refine lv_aload_n hx hb d_K_identity_32 rfl (lv_at hl 0 rfl) ?_
    refine va_get (D := D) (ci := 2) (v := .int ((T k).2.2.1)) (C := R_T) (T := F_T) (N := 4) hx hb hts (fun w h => kS1 w (i_T w h)) hown hK hP (22 + 2 * k) (gw_T (k := k) (hn k hk)) rfl 3 (by decide) (hts _ (kS1 _ m_K_117)) (fun _ h9 => h9) rfl d_K_identity_33 ?_
    have hu : (gW n ty ad f th rt qu b w T g a o : va_W) = gW n ty ad (if (T k).2.2.1 = -1 then upd f 11 (f 11 + 1) else f) th rt qu b w (if (T k).2.2.1 = -1 then va_up T k ((T k).1, (T k).2.1, f 11, (T k).2.2.2) else T) g a o := by simp [va_up_s, c_11]
    have hv : ((T k).2.2.1 : Int32) = if (T k).2.2.1 = -1 then f 11 else (T k).2.2.1 := by simp [va_up_s, c_11]
    exact W.iret (v := (T k).2.2.1) hx hb hr (fun t ht hW => ⟨⟨_, _, rfl, ⟨hv, hu⟩, by rw [ht]; exact hP, va_K.moved hW.alike hK, hD⟩, hS.F ht⟩) hS.2.2 d_K_identity_36
  · refine lv_aload_n hx hb d_K_identity_14 rfl (lv_at hl 0 rfl) ?_
    refine lv_aload_n hx hb d_K_identity_15 rfl (lv_at hl 1 rfl) ?_
    refine va_get (D := D) (ci := 0) (v := .int (f 11)) (C := R_K) (T := F_K) (N := 12) hx hb hts (fun w h => kS1 w (i_K w h)) hown hK hP 0 gw_0 rfl 11 (by decide) (hts _ (kS1 _ m_K_120)) (fun _ h9 => h9) rfl d_K_identity_16 ?_
    refine va_put (D := D) (ci := 2) (v := .int (f 11)) (ty := .int) (C := R_T) (T := F_T) (N := 4) hx hb hts (fun w h => kS1 w (i_T w h)) tt_T tt_T_ok n_T hown hK hP hD hS (22 + 2 * k) (gw_T (k := k) (hn k hk)) rfl 3 (by decide) (hts _ (kS1 _ m_K_117)) (fun _ h9 => h9) rfl (by decide +kernel) rfl rfl (Nat.le_of_ble_eq_true rfl) d_K_identity_19 (fun H locs hP hD hS => ?_)
    have hP := kw_P (gw_sT (k := k) (v1 := (T k).1) (v2 := (T k).2.1) (v3 := f 11)) hP
    have hD := kw_D (gw_sT (k := k) (v1 := (T k).1) (v2 := (T k).2.1) (v3 := f 11)) hD
    refine lv_aload_n hx hb d_K_identity_22 rfl (lv_at hl 1 rfl) ?_
    refine lv_dup hx hb d_K_identity_23 rfl ?_
    refine va_get (D := D) (ci := 0) (v := .int (f 11)) (C := R_K) (T := F_K) (N := 12) hx hb hts (fun w h => kS1 w (i_K w h)) hown hK hP 0 gw_0 rfl 11 (by decide) (hts _ (kS1 _ m_K_120)) (fun _ h9 => h9) rfl d_K_identity_24 ?_
    refine lv_iconst (v := 1) hx hb d_K_identity_27 (by decide) ?_
    refine lv_iadd hx hb d_K_identity_28 ?_
    refine va_put (D := D) (ci := 0) (v := .int ((f 11) + 1)) (ty := .int) (C := R_K) (T := F_K) (N := 12) hx hb hts (fun w h => kS1 w (i_K w h)) tt_K tt_K_ok n_K hown hK hP hD hS 0 gw_0 rfl 11 (by decide) (hts _ (kS1 _ m_K_120)) (fun _ h9 => h9) rfl (by decide +kernel) rfl rfl (Nat.le_of_ble_eq_true rfl) d_K_identity_29 (fun H locs hP hD hS => ?_)
    have hP := kw_P (gw_sK11 (v := (f 11) + 1)) hP
    have hD := kw_D (gw_sK11 (v := (f 11) + 1)) hD
    refine lv_aload_n hx hb d_K_identity_32 rfl (lv_at hl 0 rfl) ?_
    refine va_get (D := D) (ci := 2) (v := .int (((va_up T k ((T k).1, (T k).2.1, f 11, (T k).2.2.2)) k).2.2.1)) (C := R_T) (T := F_T) (N := 4) hx hb hts (fun w h => kS1 w (i_T w h)) hown hK hP (22 + 2 * k) (gw_T (k := k) (hn k hk)) rfl 3 (by decide) (hts _ (kS1 _ m_K_117)) (fun _ h9 => h9) rfl d_K_identity_33 ?_
    have hu : (gW n ty ad (upd f 11 ((f 11) + 1)) th rt qu b w (va_up T k ((T k).1, (T k).2.1, f 11, (T k).2.2.2)) g a o : va_W) = gW n ty ad (if (T k).2.2.1 = -1 then upd f 11 (f 11 + 1) else f) th rt qu b w (if (T k).2.2.1 = -1 then va_up T k ((T k).1, (T k).2.1, f 11, (T k).2.2.2) else T) g a o := by simp [va_up_s, c_11]
    have hv : (((va_up T k ((T k).1, (T k).2.1, f 11, (T k).2.2.2)) k).2.2.1 : Int32) = if (T k).2.2.1 = -1 then f 11 else (T k).2.2.1 := by simp [va_up_s, c_11]
    exact W.iret (v := ((va_up T k ((T k).1, (T k).2.1, f 11, (T k).2.2.2)) k).2.2.1) hx hb hr (fun t ht hW => ⟨⟨_, _, rfl, ⟨hv, hu⟩, by rw [ht]; exact hP, va_K.moved hW.alike hK, hD⟩, hS.F ht⟩) hS.2.2 d_K_identity_36
set_option maxHeartbeats 4000000 in
set_option maxRecDepth 100000 in
/-- set(k, j, x), all there -/
theorem c_K_set (l : Launch) (D : va_G) (ty : Nat → ClassId) (ad : Nat → Nat) (sz : Nat) (n : Nat) (f : Nat → Int32) (th : Nat → Bool) (rt qu : Nat → Int32) (b w : SR) (T : Nat → TH) (g : Nat → Int32) (a : Nat → Nat → Int32) (o : Nat → Int64) (hn : ∀ k, th k = true → k < n) (hn3 : n ≤ 300) (k j : Nat) (x : Int32) (hk : th k = true) (hj : j < (T k).2.2.2.1) (h12 : (T k).2.2.2.1 ≤ 12) (hx0 : x = -1 ∨ tOk th x = true) : Met l y_K_set w_K_set ({ frames := 3, cells := 0, slots := 0, locals := 66 }) (va_Pc [.ref (ad 0), .int (nI k), .int (nI j), .int x] (kP D kCl (kTy ty) (gW n ty ad f th rt qu b w T g a o) sz)) (va_Qi (fun (r9 : Int32) (u9 : va_W) => r9 = ((T k).2.2.2.2 j) ∧ u9 = (gW n ty ad f th rt qu b w (va_up T k ((T k).1, (T k).2.1, (T k).2.2.1, (T k).2.2.2.1, upd (T k).2.2.2.2 j x)) g a o)) (kB D kCl (kTy ty) (va_A (gW n ty ad f th rt qu b w T g a o) sz)) (va_A (gW n ty ad f th rt qu b w T g a o) sz)) 0 0 (va_A (gW n ty ad f th rt qu b w T g a o) sz) := by
  refine Met.ofW (cc := b_K_set) (maxL := 6) (ret := (some .int)) (by decide) rfl ?_
  intro p e s m args below meth cd s₁ B hml hv
  obtain ⟨rfl, hsz, hP, hK, hD0⟩ := hv
  have hx := B.exec
  have hb := B.bytes
  have hr := B.returns
  have hts := atoms_spec (ws := w_K_set) B.pre
  have hown : s.vm.findClass R_K = some m.cls := findClass_of_methodNamed B.named
  have hlocks := B.notSynchronized
  subst hsz
  have hD := hD0.self (sz := s.heap.size)
  generalize hAe : va_A (gW n ty ad f th rt qu b w T g a o) s.heap.size = A at hD ⊢
  have hA : ∀ q : Nat, s.heap.size ≤ q → A q := fun q h => by rw [← hAe]; exact Or.inr h
  have hS : va_S A s.heap s.heap [] := va_S.rf
  have hl := lv_entry ([.ref (ad 0), .int (nI k), .int (nI j), .int x]) (n := 6) (Nat.le_of_ble_eq_true rfl)
  rw [lg_entry_eq]
  generalize (lg_sl ([.ref (ad 0), .int (nI k), .int (nI j), .int x]) ++ List.replicate (6 - (lg_sl ([.ref (ad 0), .int (nI k), .int (nI j), .int x])).length) Slot.unset).toArray = ls at hl ⊢
  have hl : lv_has ls 6 [(0, .ref (ad 0)), (1, .int (nI k)), (2, .int (nI j)), (3, .int x)] := hl
  refine lv_aload_n hx hb d_K_set_0 rfl (lv_at hl 0 rfl) ?_
  refine lv_iload_n hx hb d_K_set_1 rfl (lv_at hl 1 rfl) ?_
  refine lv_iload_n hx hb d_K_set_2 rfl (lv_at hl 2 rfl) ?_
  refine kc_R (va_runV (As := [.int (nI k), .int (nI j)]) (rest := []) ⟨hx, hb, hml, hown, hts⟩ (c_K_thingWithField l D ty ad _ n f th rt qu b w T g a o hn hn3 k j hk hj h12) (cwV 2 hts (kGV kS1 m_K_58 m_im_K_thingWithField m_sel_K_thingWithField m_ini_K m_code_K_thingWithField) rfl rfl rfl (by decide +kernel) ⟨Nat.le_of_ble_eq_true rfl, Nat.le_of_ble_eq_true rfl⟩) ⟨kP_blind, va_recv hK hP (ci := 0) (q0 := 0) rfl gw_0, fun U hU hW => ⟨rfl, kP_at hK hP hD U hU hW⟩⟩ rfl rfl hl.1 rfl (lv_room (Nat.le_of_ble_eq_true rfl)) d_K_set_3 ⟨Nat.le_of_ble_eq_true rfl, Nat.le_of_ble_eq_true rfl⟩) ?_
  refine lv_astore (lv' := [(4, .ref (ad (22 + 2 * k))), (0, .ref (ad 0)), (1, .int (nI k)), (2, .int (nI j)), (3, .int x)]) hx hb d_K_set_6 hl (by decide) rfl (fun ls hl => ?_)
  refine lv_aload_n hx hb d_K_set_8 rfl (lv_at hl 1 rfl) ?_
  refine lv_iload_n hx hb d_K_set_9 rfl (lv_at hl 4 rfl) ?_
  refine kc_R (va_runV (As := [.int x]) (rest := []) ⟨hx, hb, hml, hown, hts⟩ (c_K_needThingOrNone l D ty ad _ n f th rt qu b w T g a o x hx0) (cwV 1 hts (kGV kS1 m_K_62 m_im_K_needThingOrNone m_sel_K_needThingOrNone m_ini_K m_code_K_needThingOrNone) rfl rfl rfl (by decide +kernel) ⟨Nat.le_of_ble_eq_true rfl, Nat.le_of_ble_eq_true rfl⟩) ⟨kP_blind, va_recv hK hP (ci := 0) (q0 := 0) rfl gw_0, fun U hU hW => ⟨rfl, kP_at hK hP hD U hU hW⟩⟩ rfl rfl hl.1 rfl (lv_room (Nat.le_of_ble_eq_true rfl)) d_K_set_10 ⟨Nat.le_of_ble_eq_true rfl, Nat.le_of_ble_eq_true rfl⟩) ?_
  refine lv_aload hx hb d_K_set_13 (lv_at hl 0 rfl) ?_
  refine va_get (D := D) (ci := 2) (v := .ref (ad (23 + 2 * k))) (C := R_T) (T := F_T) (N := 4) hx hb hts (fun w h => kS1 w (i_T w h)) hown hK hP (22 + 2 * k) (gw_T (k := k) (hn k hk)) rfl 0 (by decide) (hts _ (kS1 _ m_K_66)) (fun _ h9 => h9) rfl d_K_set_15 ?_
  refine lv_iload_n hx hb d_K_set_18 rfl (lv_at hl 3 rfl) ?_
  refine va_iald (f := (T k).2.2.2.2) hx hb hK hP (23 + 2 * k) 0 (gw_F (k := k) (hn k hk)) rfl (vp_in_nI hj (by omega)) d_K_set_19 ?_
  rw [nI_clamp (n := j) (by omega)]
  refine lv_istore (lv' := [(5, .int (((T k).2.2.2.2) j)), (4, .ref (ad (22 + 2 * k))), (0, .ref (ad 0)), (1, .int (nI k)), (2, .int (nI j)), (3, .int x)]) hx hb d_K_set_20 hl (by decide) rfl (fun ls hl => ?_)
  refine lv_aload hx hb d_K_set_22 (lv_at hl 1 rfl) ?_
  refine va_get (D := D) (ci := 2) (v := .ref (ad (23 + 2 * k))) (C := R_T) (T := F_T) (N := 4) hx hb hts (fun w h => kS1 w (i_T w h)) hown hK hP (22 + 2 * k) (gw_T (k := k) (hn k hk)) rfl 0 (by decide) (hts _ (kS1 _ m_K_66)) (fun _ h9 => h9) rfl d_K_set_24 ?_
  refine lv_iload_n hx hb d_K_set_27 rfl (lv_at hl 4 rfl) ?_
  refine lv_iload_n hx hb d_K_set_28 rfl (lv_at hl 5 rfl) ?_
  refine va_iast (f := (T k).2.2.2.2) hx hb hK hP hD hS (23 + 2 * k) 0 (gw_F (k := k) (hn k hk)) rfl (vp_in_nI hj (by omega)) d_K_set_29 (fun H locs hP hD hS => ?_)
  rw [nI_clamp (n := j) (by omega)] at hP hD
  have hP := kw_P (gw_sF (k := k) (N := (T k).2.2.2.1) (r := upd ((T k).2.2.2.2) j x)) hP
  have hD := kw_D (gw_sF (k := k) (N := (T k).2.2.2.1) (r := upd ((T k).2.2.2.2) j x)) hD
  refine lv_iload hx hb d_K_set_30 (lv_at hl 0 rfl) ?_
  have hu : (gW n ty ad f th rt qu b w (va_up T k ((T k).1, (T k).2.1, (T k).2.2.1, (T k).2.2.2.1, upd ((T k).2.2.2.2) j x)) g a o : va_W) = gW n ty ad f th rt qu b w (va_up T k ((T k).1, (T k).2.1, (T k).2.2.1, (T k).2.2.2.1, upd (T k).2.2.2.2 j x)) g a o := by simp []
  have hv : (((T k).2.2.2.2) j : Int32) = (T k).2.2.2.2 j := by simp []
  exact W.iret (v := ((T k).2.2.2.2) j) hx hb hr (fun t ht hW => ⟨⟨_, _, rfl, ⟨hv, hu⟩, by rw [ht]; exact hP, va_K.moved hW.alike hK, hD⟩, hS.F ht⟩) hS.2.2 d_K_set_32
set_option maxHeartbeats 4000000 in
set_option maxRecDepth 100000 in
/-- root(r, x), both there -/
theorem c_K_root (l : Launch) (D : va_G) (ty : Nat → ClassId) (ad : Nat → Nat) (sz : Nat) (n : Nat) (f : Nat → Int32) (th : Nat → Bool) (rt qu : Nat → Int32) (b w : SR) (T : Nat → TH) (g : Nat → Int32) (a : Nat → Nat → Int32) (o : Nat → Int64) (r : Nat) (x : Int32) (hr16 : r < 16) (hx0 : x = -1 ∨ tOk th x = true) : Met l y_K_root w_K_root ({ frames := 2, cells := 0, slots := 0, locals := 42 }) (va_Pc [.ref (ad 0), .int (nI r), .int x] (kP D kCl (kTy ty) (gW n ty ad f th rt qu b w T g a o) sz)) (va_Qi (fun (r9 : Int32) (u9 : va_W) => r9 = (rt r) ∧ u9 = (gW n ty ad f th (upd rt r x) qu b w T g a o)) (kB D kCl (kTy ty) (va_A (gW n ty ad f th rt qu b w T g a o) sz)) (va_A (gW n ty ad f th rt qu b w T g a o) sz)) 0 0 (va_A (gW n ty ad f th rt qu b w T g a o) sz) := by
  refine Met.ofW (cc := b_K_root) (maxL := 4) (ret := (some .int)) (by decide) rfl ?_
  intro p e s m args below meth cd s₁ B hml hv
  obtain ⟨rfl, hsz, hP, hK, hD0⟩ := hv
  have hx := B.exec
  have hb := B.bytes
  have hr := B.returns
  have hts := atoms_spec (ws := w_K_root) B.pre
  have hown : s.vm.findClass R_K = some m.cls := findClass_of_methodNamed B.named
  have hlocks := B.notSynchronized
  subst hsz
  have hD := hD0.self (sz := s.heap.size)
  generalize hAe : va_A (gW n ty ad f th rt qu b w T g a o) s.heap.size = A at hD ⊢
  have hA : ∀ q : Nat, s.heap.size ≤ q → A q := fun q h => by rw [← hAe]; exact Or.inr h
  have hS : va_S A s.heap s.heap [] := va_S.rf
  have hl := lv_entry ([.ref (ad 0), .int (nI r), .int x]) (n := 4) (Nat.le_of_ble_eq_true rfl)
  rw [lg_entry_eq]
  generalize (lg_sl ([.ref (ad 0), .int (nI r), .int x]) ++ List.replicate (4 - (lg_sl ([.ref (ad 0), .int (nI r), .int x])).length) Slot.unset).toArray = ls at hl ⊢
  have hl : lv_has ls 4 [(0, .ref (ad 0)), (1, .int (nI r)), (2, .int x)] := hl
  refine lv_iload_n hx hb d_K_root_0 rfl (lv_at hl 1 rfl) ?_
  refine lv_if_lt (tgt := 13) hx hb d_K_root_1 (by decide) (fun c_1 => absurd c_1 (nI_pos (by omega))) (fun c_1 => ?_)
  refine lv_iload_n hx hb d_K_root_4 rfl (lv_at hl 1 rfl) ?_
  refine lv_aload_n hx hb d_K_root_5 rfl (lv_at hl 0 rfl) ?_
  refine va_get (D := D) (ci := 0) (v := .ref (ad 2)) (C := R_K) (T := F_K) (N := 12) hx hb hts (fun w h => kS1 w (i_K w h)) hown hK hP 0 gw_0 rfl 1 (by decide) (hts _ (kS1 _ m_K_15)) (fun _ h9 => h9) rfl d_K_root_6 ?_
  refine va_alen (v := 16) hx hb hK hP 2 0 gw_2 rfl rfl d_K_root_9 ?_
  refine lv_icmp_lt (tgt := 23) hx hb d_K_root_10 (by decide) (fun c_10 => ?_) (fun c_10 => absurd (nI_lt (b := 16) hr16 (by omega)) c_10)
  refine lv_aload_n hx hb d_K_root_23 rfl (lv_at hl 0 rfl) ?_
  refine lv_iload_n hx hb d_K_root_24 rfl (lv_at hl 2 rfl) ?_
  refine kc_R (va_runV (As := [.int x]) (rest := []) ⟨hx, hb, hml, hown, hts⟩ (c_K_needThingOrNone l D ty ad _ n f th rt qu b w T g a o x hx0) (cwV 1 hts (kGV kS1 m_K_62 m_im_K_needThingOrNone m_sel_K_needThingOrNone m_ini_K m_code_K_needThingOrNone) rfl rfl rfl (by decide +kernel) ⟨Nat.le_of_ble_eq_true rfl, Nat.le_of_ble_eq_true rfl⟩) ⟨kP_blind, va_recv hK hP (ci := 0) (q0 := 0) rfl gw_0, fun U hU hW => ⟨rfl, kP_at hK hP hD U hU hW⟩⟩ rfl rfl hl.1 rfl (lv_room (Nat.le_of_ble_eq_true rfl)) d_K_root_25 ⟨Nat.le_of_ble_eq_true rfl, Nat.le_of_ble_eq_true rfl⟩) ?_
  refine lv_aload_n hx hb d_K_root_28 rfl (lv_at hl 0 rfl) ?_
  refine va_get (D := D) (ci := 0) (v := .ref (ad 2)) (C := R_K) (T := F_K) (N := 12) hx hb hts (fun w h => kS1 w (i_K w h)) hown hK hP 0 gw_0 rfl 1 (by decide) (hts _ (kS1 _ m_K_15)) (fun _ h9 => h9) rfl d_K_root_29 ?_
  refine lv_iload_n hx hb d_K_root_32 rfl (lv_at hl 1 rfl) ?_
  refine va_iald (f := rt) hx hb hK hP 2 0 gw_2 rfl (vp_in_nI hr16 (by omega)) d_K_root_33 ?_
  rw [nI_clamp (n := r) (by omega)]
  refine lv_istore_n (lv' := [(3, .int (rt r)), (0, .ref (ad 0)), (1, .int (nI r)), (2, .int x)]) hx hb d_K_root_34 rfl hl (by decide) rfl (fun ls hl => ?_)
  refine lv_aload_n hx hb d_K_root_35 rfl (lv_at hl 1 rfl) ?_
  refine va_get (D := D) (ci := 0) (v := .ref (ad 2)) (C := R_K) (T := F_K) (N := 12) hx hb hts (fun w h => kS1 w (i_K w h)) hown hK hP 0 gw_0 rfl 1 (by decide) (hts _ (kS1 _ m_K_15)) (fun _ h9 => h9) rfl d_K_root_36 ?_
  refine lv_iload_n hx hb d_K_root_39 rfl (lv_at hl 2 rfl) ?_
  refine lv_iload_n hx hb d_K_root_40 rfl (lv_at hl 3 rfl) ?_
  refine va_iast (f := rt) hx hb hK hP hD hS 2 0 gw_2 rfl (vp_in_nI hr16 (by omega)) d_K_root_41 (fun H locs hP hD hS => ?_)
  rw [nI_clamp (n := r) (by omega)] at hP hD
  have hP := kw_P (gw_srt (r := upd rt r x)) hP
  have hD := kw_D (gw_srt (r := upd rt r x)) hD
  refine lv_iload_n hx hb d_K_root_42 rfl (lv_at hl 0 rfl) ?_
  have hu : (gW n ty ad f th (upd rt r x) qu b w T g a o : va_W) = gW n ty ad f th (upd rt r x) qu b w T g a o := by simp [c_1, c_10]
  have hv : (rt r : Int32) = rt r := by simp [c_1, c_10]
  exact W.iret (v := rt r) hx hb hr (fun t ht hW => ⟨⟨_, _, rfl, ⟨hv, hu⟩, by rw [ht]; exact hP, va_K.moved hW.alike hK, hD⟩, hS.F ht⟩) hS.2.2 d_K_root_43
set_option maxHeartbeats 4000000 in
set_option maxRecDepth 100000 in
/-- about(k, 0), k there -/
theorem c_K_about0 (l : Launch) (D : va_G) (ty : Nat → ClassId) (ad : Nat → Nat) (sz : Nat) (n : Nat) (f : Nat → Int32) (th : Nat → Bool) (rt qu : Nat → Int32) (b w : SR) (T : Nat → TH) (g : Nat → Int32) (a : Nat → Nat → Int32) (o : Nat → Int64) (hn : ∀ k, th k = true → k < n) (hn3 : n ≤ 300) (h12 : ∀ k, (T k).2.2.2.1 ≤ 12) (k : Nat) (hk : th k = true) : Met l y_K_about w_K_about ({ frames := 4, cells := 0, slots := 0, locals := 90 }) (va_Pc [.ref (ad 0), .int (nI k), .int 0] (kP D kCl (kTy ty) (gW n ty ad f th rt qu b w T g a o) sz)) (va_Qi (fun (r9 : Int32) (u9 : va_W) => r9 = ((T k).1) ∧ u9 = (gW n ty ad f th rt qu b w T g a o)) (kB D kCl (kTy ty) (va_A (gW n ty ad f th rt qu b w T g a o) sz)) (va_A (gW n ty ad f th rt qu b w T g a o) sz)) 0 0 (va_A (gW n ty ad f th rt qu b w T g a o) sz) := by
  refine Met.ofW (cc := b_K_about) (maxL := 4) (ret := (some .int)) (by decide) rfl ?_
  intro p e s m args below meth cd s₁ B hml hv
  obtain ⟨rfl, hsz, hP, hK, hD0⟩ := hv
  have hx := B.exec
  have hb := B.bytes
  have hr := B.returns
  have hts := atoms_spec (ws := w_K_about) B.pre
  have hown : s.vm.findClass R_K = some m.cls := findClass_of_methodNamed B.named
  have hlocks := B.notSynchronized
  subst hsz
  have hD := hD0.self (sz := s.heap.size)
  generalize hAe : va_A (gW n ty ad f th rt qu b w T g a o) s.heap.size = A at hD ⊢
  have hA : ∀ q : Nat, s.heap.size ≤ q → A q := fun q h => by rw [← hAe]; exact Or.inr h
  have hS : va_S A s.heap s.heap [] := va_S.rf
  have hl := lv_entry ([.ref (ad 0), .int (nI k), .int 0]) (n := 4) (Nat.le_of_ble_eq_true rfl)
  rw [lg_entry_eq]
  generalize (lg_sl ([.ref (ad 0), .int (nI k), .int 0]) ++ List.replicate (4 - (lg_sl ([.ref (ad 0), .int (nI k), .int 0])).length) Slot.unset).toArray = ls at hl ⊢
  have hl : lv_has ls 4 [(0, .ref (ad 0)), (1, .int (nI k)), (2, .int 0)] := hl
  refine lv_aload_n hx hb d_K_about_0 rfl (lv_at hl 0 rfl) ?_
  refine lv_iload_n hx hb d_K_about_1 rfl (lv_at hl 1 rfl) ?_
  refine kc_R (va_runV (As := [.int (nI k)]) (rest := []) ⟨hx, hb, hml, hown, hts⟩ (c_K_thingThere l D ty ad _ n f th rt qu b w T g a o hn hn3 k hk) (cwV 1 hts (kGV kS1 m_K_114 m_im_K_thingThere m_sel_K_thingThere m_ini_K m_code_K_thingThere) rfl rfl rfl (by decide +kernel) ⟨Nat.le_of_ble_eq_true rfl, Nat.le_of_ble_eq_true rfl⟩) ⟨kP_blind, va_recv hK hP (ci := 0) (q0 := 0) rfl gw_0, fun U hU hW => ⟨rfl, kP_at hK hP hD U hU hW⟩⟩ rfl rfl hl.1 rfl (lv_room (Nat.le_of_ble_eq_true rfl)) d_K_about_2 ⟨Nat.le_of_ble_eq_true rfl, Nat.le_of_ble_eq_true rfl⟩) ?_
  refine lv_astore_n (lv' := [(3, .ref (ad (22 + 2 * k))), (0, .ref (ad 0)), (1, .int (nI k)), (2, .int 0)]) hx hb d_K_about_5 rfl hl (by decide) rfl (fun ls hl => ?_)
  refine lv_iload_n hx hb d_K_about_6 rfl (lv_at hl 3 rfl) ?_
  refine lv_tableIn (off := 29) (tgt := 36) hx hb d_K_about_7 (by decide) (by decide) rfl (by decide) ?_
  refine lv_aload_n hx hb d_K_about_36 rfl (lv_at hl 0 rfl) ?_
  refine va_get (D := D) (ci := 2) (v := .int ((T k).1)) (C := R_T) (T := F_T) (N := 4) hx hb hts (fun w h => kS1 w (i_T w h)) hown hK hP (22 + 2 * k) (gw_T (k := k) (hn k hk)) rfl 1 (by decide) (hts _ (kS1 _ m_K_102)) (fun _ h9 => h9) rfl d_K_about_37 ?_
  have hu : (gW n ty ad f th rt qu b w T g a o : va_W) = gW n ty ad f th rt qu b w T g a o := by rfl
  have hv : ((T k).1 : Int32) = (T k).1 := by simp
  exact W.iret (v := (T k).1) hx hb hr (fun t ht hW => ⟨⟨_, _, rfl, ⟨hv, hu⟩, by rw [ht]; exact hP, va_K.moved hW.alike hK, hD⟩, hS.F ht⟩) hS.2.2 d_K_about_40
set_option maxHeartbeats 4000000 in
set_option maxRecDepth 100000 in
/-- about(k, 1), k there -/
theorem c_K_about1 (l : Launch) (D : va_G) (ty : Nat → ClassId) (ad : Nat → Nat) (sz : Nat) (n : Nat) (f : Nat → Int32) (th : Nat → Bool) (rt qu : Nat → Int32) (b w : SR) (T : Nat → TH) (g : Nat → Int32) (a : Nat → Nat → Int32) (o : Nat → Int64) (hn : ∀ k, th k = true → k < n) (hn3 : n ≤ 300) (h12 : ∀ k, (T k).2.2.2.1 ≤ 12) (k : Nat) (hk : th k = true) : Met l y_K_about w_K_about ({ frames := 4, cells := 0, slots := 0, locals := 90 }) (va_Pc [.ref (ad 0), .int (nI k), .int 1] (kP D kCl (kTy ty) (gW n ty ad f th rt qu b w T g a o) sz)) (va_Qi (fun (r9 : Int32) (u9 : va_W) => r9 = (nI (T k).2.2.2.1) ∧ u9 = (gW n ty ad f th rt qu b w T g a o)) (kB D kCl (kTy ty) (va_A (gW n ty ad f th rt qu b w T g a o) sz)) (va_A (gW n ty ad f th rt qu b w T g a o) sz)) 0 0 (va_A (gW n ty ad f th rt qu b w T g a o) sz) := by
  refine Met.ofW (cc := b_K_about) (maxL := 4) (ret := (some .int)) (by decide) rfl ?_
  intro p e s m args below meth cd s₁ B hml hv
  obtain ⟨rfl, hsz, hP, hK, hD0⟩ := hv
  have hx := B.exec
  have hb := B.bytes
  have hr := B.returns
  have hts := atoms_spec (ws := w_K_about) B.pre
  have hown : s.vm.findClass R_K = some m.cls := findClass_of_methodNamed B.named
  have hlocks := B.notSynchronized
  subst hsz
  have hD := hD0.self (sz := s.heap.size)
  generalize hAe : va_A (gW n ty ad f th rt qu b w T g a o) s.heap.size = A at hD ⊢
  have hA : ∀ q : Nat, s.heap.size ≤ q → A q := fun q h => by rw [← hAe]; exact Or.inr h
  have hS : va_S A s.heap s.heap [] := va_S.rf
  have hl := lv_entry ([.ref (ad 0), .int (nI k), .int 1]) (n := 4) (Nat.le_of_ble_eq_true rfl)
  rw [lg_entry_eq]
  generalize (lg_sl ([.ref (ad 0), .int (nI k), .int 1]) ++ List.replicate (4 - (lg_sl ([.ref (ad 0), .int (nI k), .int 1])).length) Slot.unset).toArray = ls at hl ⊢
  have hl : lv_has ls 4 [(0, .ref (ad 0)), (1, .int (nI k)), (2, .int 1)] := hl
  refine lv_aload_n hx hb d_K_about_0 rfl (lv_at hl 0 rfl) ?_
  refine lv_iload_n hx hb d_K_about_1 rfl (lv_at hl 1 rfl) ?_
  refine kc_R (va_runV (As := [.int (nI k)]) (rest := []) ⟨hx, hb, hml, hown, hts⟩ (c_K_thingThere l D ty ad _ n f th rt qu b w T g a o hn hn3 k hk) (cwV 1 hts (kGV kS1 m_K_114 m_im_K_thingThere m_sel_K_thingThere m_ini_K m_code_K_thingThere) rfl rfl rfl (by decide +kernel) ⟨Nat.le_of_ble_eq_true rfl, Nat.le_of_ble_eq_true rfl⟩) ⟨kP_blind, va_recv hK hP (ci := 0) (q0 := 0) rfl gw_0, fun U hU hW => ⟨rfl, kP_at hK hP hD U hU hW⟩⟩ rfl rfl hl.1 rfl (lv_room (Nat.le_of_ble_eq_true rfl)) d_K_about_2 ⟨Nat.le_of_ble_eq_true rfl, Nat.le_of_ble_eq_true rfl⟩) ?_
  refine lv_astore_n (lv' := [(3, .ref (ad (22 + 2 * k))), (0, .ref (ad 0)), (1, .int (nI k)), (2, .int 1)]) hx hb d_K_about_5 rfl hl (by decide) rfl (fun ls hl => ?_)
  refine lv_iload_n hx hb d_K_about_6 rfl (lv_at hl 3 rfl) ?_
  refine lv_tableIn (off := 34) (tgt := 41) hx hb d_K_about_7 (by decide) (by decide) rfl (by decide) ?_
  refine lv_aload_n hx hb d_K_about_41 rfl (lv_at hl 0 rfl) ?_
  refine va_get (D := D) (ci := 2) (v := .ref (ad (23 + 2 * k))) (C := R_T) (T := F_T) (N := 4) hx hb hts (fun w h => kS1 w (i_T w h)) hown hK hP (22 + 2 * k) (gw_T (k := k) (hn k hk)) rfl 0 (by decide) (hts _ (kS1 _ m_K_66)) (fun _ h9 => h9) rfl d_K_about_42 ?_
  refine va_alen (v := nI ((T k).2.2.2.1)) hx hb hK hP (23 + 2 * k) 0 (gw_F (k := k) (hn k hk)) rfl rfl d_K_about_45 ?_
  have hu : (gW n ty ad f th rt qu b w T g a o : va_W) = gW n ty ad f th rt qu b w T g a o := by rfl
  have hv : (nI ((T k).2.2.2.1) : Int32) = nI (T k).2.2.2.1 := by simp
  exact W.iret (v := nI ((T k).2.2.2.1)) hx hb hr (fun t ht hW => ⟨⟨_, _, rfl, ⟨hv, hu⟩, by rw [ht]; exact hP, va_K.moved hW.alike hK, hD⟩, hS.F ht⟩) hS.2.2 d_K_about_46
set_option maxHeartbeats 4000000 in
set_option maxRecDepth 100000 in
/-- about(k, 2), k there -/
theorem c_K_about2 (l : Launch) (D : va_G) (ty : Nat → ClassId) (ad : Nat → Nat) (sz : Nat) (n : Nat) (f : Nat → Int32) (th : Nat → Bool) (rt qu : Nat → Int32) (b w : SR) (T : Nat → TH) (g : Nat → Int32) (a : Nat → Nat → Int32) (o : Nat → Int64) (hn : ∀ k, th k = true → k < n) (hn3 : n ≤ 300) (h12 : ∀ k, (T k).2.2.2.1 ≤ 12) (k : Nat) (hk : th k = true) : Met l y_K_about w_K_about ({ frames := 4, cells := 0, slots := 0, locals := 90 }) (va_Pc [.ref (ad 0), .int (nI k), .int 2] (kP D kCl (kTy ty) (gW n ty ad f th rt qu b w T g a o) sz)) (va_Qi (fun (r9 : Int32) (u9 : va_W) => r9 = (sHas (sReach f th rt qu T w) (nI k)) ∧ u9 = (gW n ty ad f th rt qu b (sReach f th rt qu T w) T g a o)) (kB D kCl (kTy ty) (va_A (gW n ty ad f th rt qu b w T g a o) sz)) (va_A (gW n ty ad f th rt qu b w T g a o) sz)) 0 0 (va_A (gW n ty ad f th rt qu b w T g a o) sz) := by
  refine Met.ofW (cc := b_K_about) (maxL := 4) (ret := (some .int)) (by decide) rfl ?_
  intro p e s m args below meth cd s₁ B hml hv
  obtain ⟨rfl, hsz, hP, hK, hD0⟩ := hv
  have hx := B.exec
  have hb := B.bytes
  have hr := B.returns
  have hts := atoms_spec (ws := w_K_about) B.pre
  have hown : s.vm.findClass R_K = some m.cls := findClass_of_methodNamed B.named
  have hlocks := B.notSynchronized
  subst hsz
  have hD := hD0.self (sz := s.heap.size)
  generalize hAe : va_A (gW n ty ad f th rt qu b w T g a o) s.heap.size = A at hD ⊢
  have hA : ∀ q : Nat, s.heap.size ≤ q → A q := fun q h => by rw [← hAe]; exact Or.inr h
  have hS : va_S A s.heap s.heap [] := va_S.rf
  have hl := lv_entry ([.ref (ad 0), .int (nI k), .int 2]) (n := 4) (Nat.le_of_ble_eq_true rfl)
  rw [lg_entry_eq]
  generalize (lg_sl ([.ref (ad 0), .int (nI k), .int 2]) ++ List.replicate (4 - (lg_sl ([.ref (ad 0), .int (nI k), .int 2])).length) Slot.unset).toArray = ls at hl ⊢
  have hl : lv_has ls 4 [(0, .ref (ad 0)), (1, .int (nI k)), (2, .int 2)] := hl
  refine lv_aload_n hx hb d_K_about_0 rfl (lv_at hl 0 rfl) ?_
  refine lv_iload_n hx hb d_K_about_1 rfl (lv_at hl 1 rfl) ?_
  refine kc_R (va_runV (As := [.int (nI k)]) (rest := []) ⟨hx, hb, hml, hown, hts⟩ (c_K_thingThere l D ty ad _ n f th rt qu b w T g a o hn hn3 k hk) (cwV 1 hts (kGV kS1 m_K_114 m_im_K_thingThere m_sel_K_thingThere m_ini_K m_code_K_thingThere) rfl rfl rfl (by decide +kernel) ⟨Nat.le_of_ble_eq_true rfl, Nat.le_of_ble_eq_true rfl⟩) ⟨kP_blind, va_recv hK hP (ci := 0) (q0 := 0) rfl gw_0, fun U hU hW => ⟨rfl, kP_at hK hP hD U hU hW⟩⟩ rfl rfl hl.1 rfl (lv_room (Nat.le_of_ble_eq_true rfl)) d_K_about_2 ⟨Nat.le_of_ble_eq_true rfl, Nat.le_of_ble_eq_true rfl⟩) ?_
  refine lv_astore_n (lv' := [(3, .ref (ad (22 + 2 * k))), (0, .ref (ad 0)), (1, .int (nI k)), (2, .int 2)]) hx hb d_K_about_5 rfl hl (by decide) rfl (fun ls hl => ?_)
  refine lv_iload_n hx hb d_K_about_6 rfl (lv_at hl 3 rfl) ?_
  refine lv_tableIn (off := 40) (tgt := 47) hx hb d_K_about_7 (by decide) (by decide) rfl (by decide) ?_
  refine lv_aload_n hx hb d_K_about_47 rfl (lv_at hl 1 rfl) ?_
  refine lv_aload_n hx hb d_K_about_48 rfl (lv_at hl 1 rfl) ?_
  refine va_get (D := D) (ci := 0) (v := .ref (ad 7)) (C := R_K) (T := F_K) (N := 12) hx hb hts (fun w h => kS1 w (i_K w h)) hown hK hP 0 gw_0 rfl 6 (by decide) (hts _ (kS1 _ m_K_29)) (fun _ h9 => h9) rfl d_K_about_49 ?_
  have hP := kw_P (congrArg (wL (22 + 2 * n) ad) (gw_sw (w := w) (S := w)).symm) hP
  have hD := kw_D (congrArg (wL (22 + 2 * n) ad) (gw_sw (w := w) (S := w)).symm) hD
  refine kc_v (va_runV (As := [.ref (ad 7)]) (rest := []) ⟨hx, hb, hml, hown, hts⟩ (c_K_searchReached l D ty ad _ n f th rt qu b w T g a o 7 8 9 w (by omega) (by omega) (by omega) (by omega) (by omega) (by omega) hn h12) (cwV 1 hts (kGV kS1 m_K_74 m_im_K_searchReached m_sel_K_searchReached m_ini_K m_code_K_searchReached) rfl rfl rfl (by decide +kernel) ⟨Nat.le_of_ble_eq_true rfl, Nat.le_of_ble_eq_true rfl⟩) ⟨kP_blind, va_recv hK hP (ci := 0) (q0 := 0) rfl (gs_n (by omega) (by omega) (by omega) (gw_0)), fun U hU hW => ⟨rfl, kP_at hK hP hD U hU hW⟩⟩ rfl rfl hl.1 rfl (lv_room (Nat.le_of_ble_eq_true rfl)) d_K_about_52 ⟨Nat.le_of_ble_eq_true rfl, Nat.le_of_ble_eq_true rfl⟩) hD hS hA (fun u H locs hu hP hD hS hz => ?_)
  subst hu
  have hP := kw_P (congrArg (wL (22 + 2 * n) ad) (gw_sw (S := sReach f th rt qu T w))) hP
  have hD := kw_D (congrArg (wL (22 + 2 * n) ad) (gw_sw (S := sReach f th rt qu T w))) hD
  refine lv_aload_n hx hb d_K_about_55 rfl (lv_at hl 1 rfl) ?_
  refine va_get (D := D) (ci := 0) (v := .ref (ad 7)) (C := R_K) (T := F_K) (N := 12) hx hb hts (fun w h => kS1 w (i_K w h)) hown hK hP 0 gw_0 rfl 6 (by decide) (hts _ (kS1 _ m_K_29)) (fun _ h9 => h9) rfl d_K_about_56 ?_
  refine lv_iload_n hx hb d_K_about_59 rfl (lv_at hl 2 rfl) ?_
  have hP := kw_P (congrArg (wL (22 + 2 * n) ad) (gw_sw (w := sReach f th rt qu T w) (S := sReach f th rt qu T w)).symm) hP
  have hD := kw_D (congrArg (wL (22 + 2 * n) ad) (gw_sw (w := sReach f th rt qu T w) (S := sReach f th rt qu T w)).symm) hD
  refine kc_R (va_runV (As := [.int (nI k)]) (rest := []) ⟨hx, hb, hml, hown, hts⟩ (c_S_has l D ty ad _ (22 + 2 * n) (gc ty ad f th rt qu b (sReach f th rt qu T w) T g a o) 7 8 9 (sReach f th rt qu T w) (by omega) (by omega) (by omega) (by omega) (by omega) (by omega) (nI k)) (cwV 1 hts (kGV kS1 m_K_110 m_im_S_has m_sel_S_has m_ini_S m_code_S_has) rfl rfl rfl (by decide +kernel) ⟨Nat.le_of_ble_eq_true rfl, Nat.le_of_ble_eq_true rfl⟩) ⟨kP_blind, va_recv hK hP (ci := 1) (q0 := 7) rfl (sw_o (S := sReach f th rt qu T w) (by omega)), fun U hU hW => ⟨rfl, kP_at hK hP hD U hU hW⟩⟩ rfl rfl hl.1 rfl (lv_room (Nat.le_of_ble_eq_true rfl)) d_K_about_60 ⟨Nat.le_of_ble_eq_true rfl, Nat.le_of_ble_eq_true rfl⟩) ?_
  have hP := kw_P (congrArg (wL (22 + 2 * n) ad) (gw_sw (S := sReach f th rt qu T w))) hP
  have hD := kw_D (congrArg (wL (22 + 2 * n) ad) (gw_sw (S := sReach f th rt qu T w))) hD
  refine lv_if_eq (tgt := 70) hx hb d_K_about_63 (by decide) (fun c_63 => ?_) (fun c_63 => ?_)
  · refine lv_iconst (v := 0) hx hb d_K_about_70 (by decide) ?_
    have hu : (gW n ty ad f th rt qu b (sReach f th rt qu T w) T g a o : va_W) = gW n ty ad f th rt qu b (sReach f th rt qu T w) T g a o := by rfl
    have hv : (0 : Int32) = sHas (sReach f th rt qu T w) (nI k) := by rw [c_63]
    exact W.iret (v := 0) hx hb hr (fun t ht hW => ⟨⟨_, _, rfl, ⟨hv, hu⟩, by rw [ht]; exact hP, va_K.moved hW.alike hK, hD⟩, hS.F ht⟩) hS.2.2 d_K_about_71
  · refine lv_iconst (v := 1) hx hb d_K_about_66 (by decide) ?_
    refine lv_goto (tgt := 71) hx hb d_K_about_67 (by decide) ?_
    have hu : (gW n ty ad f th rt qu b (sReach f th rt qu T w) T g a o : va_W) = gW n ty ad f th rt qu b (sReach f th rt qu T w) T g a o := by rfl
    have hv : (1 : Int32) = sHas (sReach f th rt qu T w) (nI k) := by exact (sHas_1 c_63).symm
    exact W.iret (v := 1) hx hb hr (fun t ht hW => ⟨⟨_, _, rfl, ⟨hv, hu⟩, by rw [ht]; exact hP, va_K.moved hW.alike hK, hD⟩, hS.F ht⟩) hS.2.2 d_K_about_71
set_option maxHeartbeats 4000000 in
set_option maxRecDepth 100000 in
/-- about(k, 3), k there -/
theorem c_K_about3 (l : Launch) (D : va_G) (ty : Nat → ClassId) (ad : Nat → Nat) (sz : Nat) (n : Nat) (f : Nat → Int32) (th : Nat → Bool) (rt qu : Nat → Int32) (b w : SR) (T : Nat → TH) (g : Nat → Int32) (a : Nat → Nat → Int32) (o : Nat → Int64) (hn : ∀ k, th k = true → k < n) (hn3 : n ≤ 300) (h12 : ∀ k, (T k).2.2.2.1 ≤ 12) (k : Nat) (hk : th k = true) : Met l y_K_about w_K_about ({ frames := 4, cells := 0, slots := 0, locals := 90 }) (va_Pc [.ref (ad 0), .int (nI k), .int 3] (kP D kCl (kTy ty) (gW n ty ad f th rt qu b w T g a o) sz)) (va_Qi (fun (r9 : Int32) (u9 : va_W) => r9 = (sHas (sKept f th rt qu T w) (nI k)) ∧ u9 = (gW n ty ad f th rt qu b (sKept f th rt qu T w) T g a o)) (kB D kCl (kTy ty) (va_A (gW n ty ad f th rt qu b w T g a o) sz)) (va_A (gW n ty ad f th rt qu b w T g a o) sz)) 0 0 (va_A (gW n ty ad f th rt qu b w T g a o) sz) := by
  refine Met.ofW (cc := b_K_about) (maxL := 4) (ret := (some .int)) (by decide) rfl ?_
  intro p e s m args below meth cd s₁ B hml hv
  obtain ⟨rfl, hsz, hP, hK, hD0⟩ := hv
  have hx := B.exec
  have hb := B.bytes
  have hr := B.returns
  have hts := atoms_spec (ws := w_K_about) B.pre
  have hown : s.vm.findClass R_K = some m.cls := findClass_of_methodNamed B.named
  have hlocks := B.notSynchronized
  subst hsz
  have hD := hD0.self (sz := s.heap.size)
  generalize hAe : va_A (gW n ty ad f th rt qu b w T g a o) s.heap.size = A at hD ⊢
  have hA : ∀ q : Nat, s.heap.size ≤ q → A q := fun q h => by rw [← hAe]; exact Or.inr h
  have hS : va_S A s.heap s.heap [] := va_S.rf
  have hl := lv_entry ([.ref (ad 0), .int (nI k), .int 3]) (n := 4) (Nat.le_of_ble_eq_true rfl)
  rw [lg_entry_eq]
  generalize (lg_sl ([.ref (ad 0), .int (nI k), .int 3]) ++ List.replicate (4 - (lg_sl ([.ref (ad 0), .int (nI k), .int 3])).length) Slot.unset).toArray = ls at hl ⊢
  have hl : lv_has ls 4 [(0, .ref (ad 0)), (1, .int (nI k)), (2, .int 3)] := hl
  refine lv_aload_n hx hb d_K_about_0 rfl (lv_at hl 0 rfl) ?_
  refine lv_iload_n hx hb d_K_about_1 rfl (lv_at hl 1 rfl) ?_
  refine kc_R (va_runV (As := [.int (nI k)]) (rest := []) ⟨hx, hb, hml, hown, hts⟩ (c_K_thingThere l D ty ad _ n f th rt qu b w T g a o hn hn3 k hk) (cwV 1 hts (kGV kS1 m_K_114 m_im_K_thingThere m_sel_K_thingThere m_ini_K m_code_K_thingThere) rfl rfl rfl (by decide +kernel) ⟨Nat.le_of_ble_eq_true rfl, Nat.le_of_ble_eq_true rfl⟩) ⟨kP_blind, va_recv hK hP (ci := 0) (q0 := 0) rfl gw_0, fun U hU hW => ⟨rfl, kP_at hK hP hD U hU hW⟩⟩ rfl rfl hl.1 rfl (lv_room (Nat.le_of_ble_eq_true rfl)) d_K_about_2 ⟨Nat.le_of_ble_eq_true rfl, Nat.le_of_ble_eq_true rfl⟩) ?_
  refine lv_astore_n (lv' := [(3, .ref (ad (22 + 2 * k))), (0, .ref (ad 0)), (1, .int (nI k)), (2, .int 3)]) hx hb d_K_about_5 rfl hl (by decide) rfl (fun ls hl => ?_)
  refine lv_iload_n hx hb d_K_about_6 rfl (lv_at hl 3 rfl) ?_
  refine lv_tableIn (off := 65) (tgt := 72) hx hb d_K_about_7 (by decide) (by decide) rfl (by decide) ?_
  refine lv_aload_n hx hb d_K_about_72 rfl (lv_at hl 1 rfl) ?_
  refine lv_aload_n hx hb d_K_about_73 rfl (lv_at hl 1 rfl) ?_
  refine va_get (D := D) (ci := 0) (v := .ref (ad 7)) (C := R_K) (T := F_K) (N := 12) hx hb hts (fun w h => kS1 w (i_K w h)) hown hK hP 0 gw_0 rfl 6 (by decide) (hts _ (kS1 _ m_K_29)) (fun _ h9 => h9) rfl d_K_about_74 ?_
  have hP := kw_P (congrArg (wL (22 + 2 * n) ad) (gw_sw (w := w) (S := w)).symm) hP
  have hD := kw_D (congrArg (wL (22 + 2 * n) ad) (gw_sw (w := w) (S := w)).symm) hD
  refine kc_v (va_runV (As := [.ref (ad 7)]) (rest := []) ⟨hx, hb, hml, hown, hts⟩ (c_K_searchKept l D ty ad _ n f th rt qu b w T g a o 7 8 9 w (by omega) (by omega) (by omega) (by omega) (by omega) (by omega) hn h12) (cwV 1 hts (kGV kS1 m_K_107 m_im_K_searchKept m_sel_K_searchKept m_ini_K m_code_K_searchKept) rfl rfl rfl (by decide +kernel) ⟨Nat.le_of_ble_eq_true rfl, Nat.le_of_ble_eq_true rfl⟩) ⟨kP_blind, va_recv hK hP (ci := 0) (q0 := 0) rfl (gs_n (by omega) (by omega) (by omega) (gw_0)), fun U hU hW => ⟨rfl, kP_at hK hP hD U hU hW⟩⟩ rfl rfl hl.1 rfl (lv_room (Nat.le_of_ble_eq_true rfl)) d_K_about_77 ⟨Nat.le_of_ble_eq_true rfl, Nat.le_of_ble_eq_true rfl⟩) hD hS hA (fun u H locs hu hP hD hS hz => ?_)
  subst hu
  have hP := kw_P (congrArg (wL (22 + 2 * n) ad) (gw_sw (S := sKept f th rt qu T w))) hP
  have hD := kw_D (congrArg (wL (22 + 2 * n) ad) (gw_sw (S := sKept f th rt qu T w))) hD
  refine lv_aload_n hx hb d_K_about_80 rfl (lv_at hl 1 rfl) ?_
  refine va_get (D := D) (ci := 0) (v := .ref (ad 7)) (C := R_K) (T := F_K) (N := 12) hx hb hts (fun w h => kS1 w (i_K w h)) hown hK hP 0 gw_0 rfl 6 (by decide) (hts _ (kS1 _ m_K_29)) (fun _ h9 => h9) rfl d_K_about_81 ?_
  refine lv_iload_n hx hb d_K_about_84 rfl (lv_at hl 2 rfl) ?_
  have hP := kw_P (congrArg (wL (22 + 2 * n) ad) (gw_sw (w := sKept f th rt qu T w) (S := sKept f th rt qu T w)).symm) hP
  have hD := kw_D (congrArg (wL (22 + 2 * n) ad) (gw_sw (w := sKept f th rt qu T w) (S := sKept f th rt qu T w)).symm) hD
  refine kc_R (va_runV (As := [.int (nI k)]) (rest := []) ⟨hx, hb, hml, hown, hts⟩ (c_S_has l D ty ad _ (22 + 2 * n) (gc ty ad f th rt qu b (sKept f th rt qu T w) T g a o) 7 8 9 (sKept f th rt qu T w) (by omega) (by omega) (by omega) (by omega) (by omega) (by omega) (nI k)) (cwV 1 hts (kGV kS1 m_K_110 m_im_S_has m_sel_S_has m_ini_S m_code_S_has) rfl rfl rfl (by decide +kernel) ⟨Nat.le_of_ble_eq_true rfl, Nat.le_of_ble_eq_true rfl⟩) ⟨kP_blind, va_recv hK hP (ci := 1) (q0 := 7) rfl (sw_o (S := sKept f th rt qu T w) (by omega)), fun U hU hW => ⟨rfl, kP_at hK hP hD U hU hW⟩⟩ rfl rfl hl.1 rfl (lv_room (Nat.le_of_ble_eq_true rfl)) d_K_about_85 ⟨Nat.le_of_ble_eq_true rfl, Nat.le_of_ble_eq_true rfl⟩) ?_
  have hP := kw_P (congrArg (wL (22 + 2 * n) ad) (gw_sw (S := sKept f th rt qu T w))) hP
  have hD := kw_D (congrArg (wL (22 + 2 * n) ad) (gw_sw (S := sKept f th rt qu T w))) hD
  refine lv_if_eq (tgt := 95) hx hb d_K_about_88 (by decide) (fun c_88 => ?_) (fun c_88 => ?_)
  · refine lv_iconst (v := 0) hx hb d_K_about_95 (by decide) ?_
    have hu : (gW n ty ad f th rt qu b (sKept f th rt qu T w) T g a o : va_W) = gW n ty ad f th rt qu b (sKept f th rt qu T w) T g a o := by rfl
    have hv : (0 : Int32) = sHas (sKept f th rt qu T w) (nI k) := by rw [c_88]
    exact W.iret (v := 0) hx hb hr (fun t ht hW => ⟨⟨_, _, rfl, ⟨hv, hu⟩, by rw [ht]; exact hP, va_K.moved hW.alike hK, hD⟩, hS.F ht⟩) hS.2.2 d_K_about_96
  · refine lv_iconst (v := 1) hx hb d_K_about_91 (by decide) ?_
    refine lv_goto (tgt := 96) hx hb d_K_about_92 (by decide) ?_
    have hu : (gW n ty ad f th rt qu b (sKept f th rt qu T w) T g a o : va_W) = gW n ty ad f th rt qu b (sKept f th rt qu T w) T g a o := by rfl
    have hv : (1 : Int32) = sHas (sKept f th rt qu T w) (nI k) := by exact (sHas_1 c_88).symm
    exact W.iret (v := 1) hx hb hr (fun t ht hW => ⟨⟨_, _, rfl, ⟨hv, hu⟩, by rw [ht]; exact hP, va_K.moved hW.alike hK, hD⟩, hS.F ht⟩) hS.2.2 d_K_about_96
set_option maxHeartbeats 4000000 in
set_option maxRecDepth 100000 in
/-- count(0) -/
theorem c_K_count0 (l : Launch) (D : va_G) (ty : Nat → ClassId) (ad : Nat → Nat) (sz : Nat) (n : Nat) (f : Nat → Int32) (th : Nat → Bool) (rt qu : Nat → Int32) (b w : SR) (T : Nat → TH) (g : Nat → Int32) (a : Nat → Nat → Int32) (o : Nat → Int64) (hn : ∀ k, th k = true → k < n) (h12 : ∀ k, (T k).2.2.2.1 ≤ 12) : Met l y_K_count w_K_count ({ frames := 4, cells := 0, slots := 0, locals := 90 }) (va_Pc [.ref (ad 0), .int 0] (kP D kCl (kTy ty) (gW n ty ad f th rt qu b w T g a o) sz)) (va_Qi (fun (r9 : Int32) (u9 : va_W) => r9 = (f 8) ∧ u9 = (gW n ty ad f th rt qu b w T g a o)) (kB D kCl (kTy ty) (va_A (gW n ty ad f th rt qu b w T g a o) sz)) (va_A (gW n ty ad f th rt qu b w T g a o) sz)) 0 0 (va_A (gW n ty ad f th rt qu b w T g a o) sz) := by
  refine Met.ofW (cc := b_K_count) (maxL := 2) (ret := (some .int)) (by decide) rfl ?_
  intro p e s m args below meth cd s₁ B hml hv
  obtain ⟨rfl, hsz, hP, hK, hD0⟩ := hv
  have hx := B.exec
  have hb := B.bytes
  have hr := B.returns
  have hts := atoms_spec (ws := w_K_count) B.pre
  have hown : s.vm.findClass R_K = some m.cls := findClass_of_methodNamed B.named
  have hlocks := B.notSynchronized
  subst hsz
  have hD := hD0.self (sz := s.heap.size)
  generalize hAe : va_A (gW n ty ad f th rt qu b w T g a o) s.heap.size = A at hD ⊢
  have hA : ∀ q : Nat, s.heap.size ≤ q → A q := fun q h => by rw [← hAe]; exact Or.inr h
  have hS : va_S A s.heap s.heap [] := va_S.rf
  have hl := lv_entry ([.ref (ad 0), .int 0]) (n := 2) (Nat.le_of_ble_eq_true rfl)
  rw [lg_entry_eq]
  generalize (lg_sl ([.ref (ad 0), .int 0]) ++ List.replicate (2 - (lg_sl ([.ref (ad 0), .int 0])).length) Slot.unset).toArray = ls at hl ⊢
  have hl : lv_has ls 2 [(0, .ref (ad 0)), (1, .int 0)] := hl
  refine lv_iload_n hx hb d_K_count_0 rfl (lv_at hl 1 rfl) ?_
  refine lv_tableIn (off := 51) (tgt := 52) hx hb d_K_count_1 (by decide) (by decide) rfl (by decide) ?_
  refine lv_aload_n hx hb d_K_count_52 rfl (lv_at hl 0 rfl) ?_
  refine va_get (D := D) (ci := 0) (v := .int (f 8)) (C := R_K) (T := F_K) (N := 12) hx hb hts (fun w h => kS1 w (i_K w h)) hown hK hP 0 gw_0 rfl 8 (by decide) (hts _ (kS1 _ m_K_55)) (fun _ h9 => h9) rfl d_K_count_53 ?_
  have hu : (gW n ty ad f th rt qu b w T g a o : va_W) = gW n ty ad f th rt qu b w T g a o := by rfl
  have hv : (f 8 : Int32) = f 8 := by simp []
  exact W.iret (v := f 8) hx hb hr (fun t ht hW => ⟨⟨_, _, rfl, ⟨hv, hu⟩, by rw [ht]; exact hP, va_K.moved hW.alike hK, hD⟩, hS.F ht⟩) hS.2.2 d_K_count_56
set_option maxHeartbeats 4000000 in
set_option maxRecDepth 100000 in
/-- count(1) -/
theorem c_K_count1 (l : Launch) (D : va_G) (ty : Nat → ClassId) (ad : Nat → Nat) (sz : Nat) (n : Nat) (f : Nat → Int32) (th : Nat → Bool) (rt qu : Nat → Int32) (b w : SR) (T : Nat → TH) (g : Nat → Int32) (a : Nat → Nat → Int32) (o : Nat → Int64) (hn : ∀ k, th k = true → k < n) (h12 : ∀ k, (T k).2.2.2.1 ≤ 12) : Met l y_K_count w_K_count ({ frames := 4, cells := 0, slots := 0, locals := 90 }) (va_Pc [.ref (ad 0), .int 1] (kP D kCl (kTy ty) (gW n ty ad f th rt qu b w T g a o) sz)) (va_Qi (fun (r9 : Int32) (u9 : va_W) => r9 = ((sReach f th rt qu T w).2.2) ∧ u9 = (gW n ty ad f th rt qu b (sReach f th rt qu T w) T g a o)) (kB D kCl (kTy ty) (va_A (gW n ty ad f th rt qu b w T g a o) sz)) (va_A (gW n ty ad f th rt qu b w T g a o) sz)) 0 0 (va_A (gW n ty ad f th rt qu b w T g a o) sz) := by
  refine Met.ofW (cc := b_K_count) (maxL := 2) (ret := (some .int)) (by decide) rfl ?_
  intro p e s m args below meth cd s₁ B hml hv
  obtain ⟨rfl, hsz, hP, hK, hD0⟩ := hv
  have hx := B.exec
  have hb := B.bytes
  have hr := B.returns
  have hts := atoms_spec (ws := w_K_count) B.pre
  have hown : s.vm.findClass R_K = some m.cls := findClass_of_methodNamed B.named
  have hlocks := B.notSynchronized
  subst hsz
  have hD := hD0.self (sz := s.heap.size)
  generalize hAe : va_A (gW n ty ad f th rt qu b w T g a o) s.heap.size = A at hD ⊢
  have hA : ∀ q : Nat, s.heap.size ≤ q → A q := fun q h => by rw [← hAe]; exact Or.inr h
  have hS : va_S A s.heap s.heap [] := va_S.rf
  have hl := lv_entry ([.ref (ad 0), .int 1]) (n := 2) (Nat.le_of_ble_eq_true rfl)
  rw [lg_entry_eq]
  generalize (lg_sl ([.ref (ad 0), .int 1]) ++ List.replicate (2 - (lg_sl ([.ref (ad 0), .int 1])).length) Slot.unset).toArray = ls at hl ⊢
  have hl : lv_has ls 2 [(0, .ref (ad 0)), (1, .int 1)] := hl
  refine lv_iload_n hx hb d_K_count_0 rfl (lv_at hl 1 rfl) ?_
  refine lv_tableIn (off := 56) (tgt := 57) hx hb d_K_count_1 (by decide) (by decide) rfl (by decide) ?_
  refine lv_aload_n hx hb d_K_count_57 rfl (lv_at hl 0 rfl) ?_
  refine lv_aload_n hx hb d_K_count_58 rfl (lv_at hl 0 rfl) ?_
  refine va_get (D := D) (ci := 0) (v := .ref (ad 7)) (C := R_K) (T := F_K) (N := 12) hx hb hts (fun w h => kS1 w (i_K w h)) hown hK hP 0 gw_0 rfl 6 (by decide) (hts _ (kS1 _ m_K_29)) (fun _ h9 => h9) rfl d_K_count_59 ?_
  have hP := kw_P (congrArg (wL (22 + 2 * n) ad) (gw_sw (w := w) (S := w)).symm) hP
  have hD := kw_D (congrArg (wL (22 + 2 * n) ad) (gw_sw (w := w) (S := w)).symm) hD
  refine kc_v (va_runV (As := [.ref (ad 7)]) (rest := []) ⟨hx, hb, hml, hown, hts⟩ (c_K_searchReached l D ty ad _ n f th rt qu b w T g a o 7 8 9 w (by omega) (by omega) (by omega) (by omega) (by omega) (by omega) hn h12) (cwV 1 hts (kGV kS1 m_K_74 m_im_K_searchReached m_sel_K_searchReached m_ini_K m_code_K_searchReached) rfl rfl rfl (by decide +kernel) ⟨Nat.le_of_ble_eq_true rfl, Nat.le_of_ble_eq_true rfl⟩) ⟨kP_blind, va_recv hK hP (ci := 0) (q0 := 0) rfl (gs_n (by omega) (by omega) (by omega) (gw_0)), fun U hU hW => ⟨rfl, kP_at hK hP hD U hU hW⟩⟩ rfl rfl hl.1 rfl (lv_room (Nat.le_of_ble_eq_true rfl)) d_K_count_62 ⟨Nat.le_of_ble_eq_true rfl, Nat.le_of_ble_eq_true rfl⟩) hD hS hA (fun u H locs hu hP hD hS hz => ?_)
  subst hu
  have hP := kw_P (congrArg (wL (22 + 2 * n) ad) (gw_sw (S := sReach f th rt qu T w))) hP
  have hD := kw_D (congrArg (wL (22 + 2 * n) ad) (gw_sw (S := sReach f th rt qu T w))) hD
  refine lv_aload_n hx hb d_K_count_65 rfl (lv_at hl 0 rfl) ?_
  refine va_get (D := D) (ci := 0) (v := .ref (ad 7)) (C := R_K) (T := F_K) (N := 12) hx hb hts (fun w h => kS1 w (i_K w h)) hown hK hP 0 gw_0 rfl 6 (by decide) (hts _ (kS1 _ m_K_29)) (fun _ h9 => h9) rfl d_K_count_66 ?_
  refine va_get (D := D) (ci := 1) (v := .int ((sReach f th rt qu T w).2.2)) (C := R_S) (T := F_S) (N := 3) hx hb hts (fun w h => kS1 w (i_S w h)) hown hK hP 7 gw_7 rfl 2 (by decide) (hts _ (kS1 _ m_K_125)) (fun _ h9 => h9) rfl d_K_count_69 ?_
  have hu : (gW n ty ad f th rt qu b (sReach f th rt qu T w) T g a o : va_W) = gW n ty ad f th rt qu b (sReach f th rt qu T w) T g a o := by rfl
  have hv : ((sReach f th rt qu T w).2.2 : Int32) = (sReach f th rt qu T w).2.2 := by simp []
  exact W.iret (v := (sReach f th rt qu T w).2.2) hx hb hr (fun t ht hW => ⟨⟨_, _, rfl, ⟨hv, hu⟩, by rw [ht]; exact hP, va_K.moved hW.alike hK, hD⟩, hS.F ht⟩) hS.2.2 d_K_count_72
set_option maxHeartbeats 4000000 in
set_option maxRecDepth 100000 in
/-- count(2) -/
theorem c_K_count2 (l : Launch) (D : va_G) (ty : Nat → ClassId) (ad : Nat → Nat) (sz : Nat) (n : Nat) (f : Nat → Int32) (th : Nat → Bool) (rt qu : Nat → Int32) (b w : SR) (T : Nat → TH) (g : Nat → Int32) (a : Nat → Nat → Int32) (o : Nat → Int64) (hn : ∀ k, th k = true → k < n) (h12 : ∀ k, (T k).2.2.2.1 ≤ 12) : Met l y_K_count w_K_count ({ frames := 4, cells := 0, slots := 0, locals := 90 }) (va_Pc [.ref (ad 0), .int 2] (kP D kCl (kTy ty) (gW n ty ad f th rt qu b w T g a o) sz)) (va_Qi (fun (r9 : Int32) (u9 : va_W) => r9 = ((sKept f th rt qu T w).2.2) ∧ u9 = (gW n ty ad f th rt qu b (sKept f th rt qu T w) T g a o)) (kB D kCl (kTy ty) (va_A (gW n ty ad f th rt qu b w T g a o) sz)) (va_A (gW n ty ad f th rt qu b w T g a o) sz)) 0 0 (va_A (gW n ty ad f th rt qu b w T g a o) sz) := by
  refine Met.ofW (cc := b_K_count) (maxL := 2) (ret := (some .int)) (by decide) rfl ?_
  intro p e s m args below meth cd s₁ B hml hv
  obtain ⟨rfl, hsz, hP, hK, hD0⟩ := hv
  have hx := B.exec
  have hb := B.bytes
  have hr := B.returns
  have hts := atoms_spec (ws := w_K_count) B.pre
  have hown : s.vm.findClass R_K = some m.cls := findClass_of_methodNamed B.named
  have hlocks := B.notSynchronized
  subst hsz
  have hD := hD0.self (sz := s.heap.size)
  generalize hAe : va_A (gW n ty ad f th rt qu b w T g a o) s.heap.size = A at hD ⊢
  have hA : ∀ q : Nat, s.heap.size ≤ q → A q := fun q h => by rw [← hAe]; exact Or.inr h
  have hS : va_S A s.heap s.heap [] := va_S.rf
  have hl := lv_entry ([.ref (ad 0), .int 2]) (n := 2) (Nat.le_of_ble_eq_true rfl)
  rw [lg_entry_eq]
  generalize (lg_sl ([.ref (ad 0), .int 2]) ++ List.replicate (2 - (lg_sl ([.ref (ad 0), .int 2])).length) Slot.unset).toArray = ls at hl ⊢
  have hl : lv_has ls 2 [(0, .ref (ad 0)), (1, .int 2)] := hl
  refine lv_iload_n hx hb d_K_count_0 rfl (lv_at hl 1 rfl) ?_
  refine lv_tableIn (off := 72) (tgt := 73) hx hb d_K_count_1 (by decide) (by decide) rfl (by decide) ?_
  refine lv_aload_n hx hb d_K_count_73 rfl (lv_at hl 0 rfl) ?_
  refine lv_aload_n hx hb d_K_count_74 rfl (lv_at hl 0 rfl) ?_
  refine va_get (D := D) (ci := 0) (v := .ref (ad 7)) (C := R_K) (T := F_K) (N := 12) hx hb hts (fun w h => kS1 w (i_K w h)) hown hK hP 0 gw_0 rfl 6 (by decide) (hts _ (kS1 _ m_K_29)) (fun _ h9 => h9) rfl d_K_count_75 ?_
  have hP := kw_P (congrArg (wL (22 + 2 * n) ad) (gw_sw (w := w) (S := w)).symm) hP
  have hD := kw_D (congrArg (wL (22 + 2 * n) ad) (gw_sw (w := w) (S := w)).symm) hD
  refine kc_v (va_runV (As := [.ref (ad 7)]) (rest := []) ⟨hx, hb, hml, hown, hts⟩ (c_K_searchKept l D ty ad _ n f th rt qu b w T g a o 7 8 9 w (by omega) (by omega) (by omega) (by omega) (by omega) (by omega) hn h12) (cwV 1 hts (kGV kS1 m_K_107 m_im_K_searchKept m_sel_K_searchKept m_ini_K m_code_K_searchKept) rfl rfl rfl (by decide +kernel) ⟨Nat.le_of_ble_eq_true rfl, Nat.le_of_ble_eq_true rfl⟩) ⟨kP_blind, va_recv hK hP (ci := 0) (q0 := 0) rfl (gs_n (by omega) (by omega) (by omega) (gw_0)), fun U hU hW => ⟨rfl, kP_at hK hP hD U hU hW⟩⟩ rfl rfl hl.1 rfl (lv_room (Nat.le_of_ble_eq_true rfl)) d_K_count_78 ⟨Nat.le_of_ble_eq_true rfl, Nat.le_of_ble_eq_true rfl⟩) hD hS hA (fun u H locs hu hP hD hS hz => ?_)
  subst hu
  have hP := kw_P (congrArg (wL (22 + 2 * n) ad) (gw_sw (S := sKept f th rt qu T w))) hP
  have hD := kw_D (congrArg (wL (22 + 2 * n) ad) (gw_sw (S := sKept f th rt qu T w))) hD
  refine lv_aload_n hx hb d_K_count_81 rfl (lv_at hl 0 rfl) ?_
  refine va_get (D := D) (ci := 0) (v := .ref (ad 7)) (C := R_K) (T := F_K) (N := 12) hx hb hts (fun w h => kS1 w (i_K w h)) hown hK hP 0 gw_0 rfl 6 (by decide) (hts _ (kS1 _ m_K_29)) (fun _ h9 => h9) rfl d_K_count_82 ?_
  refine va_get (D := D) (ci := 1) (v := .int ((sKept f th rt qu T w).2.2)) (C := R_S) (T := F_S) (N := 3) hx hb hts (fun w h => kS1 w (i_S w h)) hown hK hP 7 gw_7 rfl 2 (by decide) (hts _ (kS1 _ m_K_125)) (fun _ h9 => h9) rfl d_K_count_85 ?_
  have hu : (gW n ty ad f th rt qu b (sKept f th rt qu T w) T g a o : va_W) = gW n ty ad f th rt qu b (sKept f th rt qu T w) T g a o := by rfl
  have hv : ((sKept f th rt qu T w).2.2 : Int32) = (sKept f th rt qu T w).2.2 := by simp []
  exact W.iret (v := (sKept f th rt qu T w).2.2) hx hb hr (fun t ht hW => ⟨⟨_, _, rfl, ⟨hv, hu⟩, by rw [ht]; exact hP, va_K.moved hW.alike hK, hD⟩, hS.F ht⟩) hS.2.2 d_K_count_88
set_option maxHeartbeats 4000000 in
set_option maxRecDepth 100000 in
/-- count(3) -/
theorem c_K_count3 (l : Launch) (D : va_G) (ty : Nat → ClassId) (ad : Nat → Nat) (sz : Nat) (n : Nat) (f : Nat → Int32) (th : Nat → Bool) (rt qu : Nat → Int32) (b w : SR) (T : Nat → TH) (g : Nat → Int32) (a : Nat → Nat → Int32) (o : Nat → Int64) (hn : ∀ k, th k = true → k < n) (h12 : ∀ k, (T k).2.2.2.1 ≤ 12) : Met l y_K_count w_K_count ({ frames := 4, cells := 0, slots := 0, locals := 90 }) (va_Pc [.ref (ad 0), .int 3] (kP D kCl (kTy ty) (gW n ty ad f th rt qu b w T g a o) sz)) (va_Qi (fun (r9 : Int32) (u9 : va_W) => r9 = (f 4 - f 3) ∧ u9 = (gW n ty ad f th rt qu b w T g a o)) (kB D kCl (kTy ty) (va_A (gW n ty ad f th rt qu b w T g a o) sz)) (va_A (gW n ty ad f th rt qu b w T g a o) sz)) 0 0 (va_A (gW n ty ad f th rt qu b w T g a o) sz) := by
  refine Met.ofW (cc := b_K_count) (maxL := 2) (ret := (some .int)) (by decide) rfl ?_
  intro p e s m args below meth cd s₁ B hml hv
  obtain ⟨rfl, hsz, hP, hK, hD0⟩ := hv
  have hx := B.exec
  have hb := B.bytes
  have hr := B.returns
  have hts := atoms_spec (ws := w_K_count) B.pre
  have hown : s.vm.findClass R_K = some m.cls := findClass_of_methodNamed B.named
  have hlocks := B.notSynchronized
  subst hsz
  have hD := hD0.self (sz := s.heap.size)
  generalize hAe : va_A (gW n ty ad f th rt qu b w T g a o) s.heap.size = A at hD ⊢
  have hA : ∀ q : Nat, s.heap.size ≤ q → A q := fun q h => by rw [← hAe]; exact Or.inr h
  have hS : va_S A s.heap s.heap [] := va_S.rf
  have hl := lv_entry ([.ref (ad 0), .int 3]) (n := 2) (Nat.le_of_ble_eq_true rfl)
  rw [lg_entry_eq]
  generalize (lg_sl ([.ref (ad 0), .int 3]) ++ List.replicate (2 - (lg_sl ([.ref (ad 0), .int 3])).length) Slot.unset).toArray = ls at hl ⊢
  have hl : lv_has ls 2 [(0, .ref (ad 0)), (1, .int 3)] := hl
  refine lv_iload_n hx hb d_K_count_0 rfl (lv_at hl 1 rfl) ?_
  refine lv_tableIn (off := 88) (tgt := 89) hx hb d_K_count_1 (by decide) (by decide) rfl (by decide) ?_
  refine lv_aload_n hx hb d_K_count_89 rfl (lv_at hl 0 rfl) ?_
  refine kc_R (va_runV (As := []) (rest := []) ⟨hx, hb, hml, hown, hts⟩ (c_K_queueSize l D ty ad _ (22 + 2 * n) (gc ty ad f th rt qu b w T g a o) f (by omega) rfl) (cwV 0 hts (kGV kS1 m_K_88 m_im_K_queueSize m_sel_K_queueSize m_ini_K m_code_K_queueSize) rfl rfl rfl (by decide +kernel) ⟨Nat.le_of_ble_eq_true rfl, Nat.le_of_ble_eq_true rfl⟩) ⟨kP_blind, va_recv hK hP (ci := 0) (q0 := 0) rfl gw_0, fun U hU hW => ⟨rfl, kP_at hK hP hD U hU hW⟩⟩ rfl rfl hl.1 rfl (lv_room (Nat.le_of_ble_eq_true rfl)) d_K_count_90 ⟨Nat.le_of_ble_eq_true rfl, Nat.le_of_ble_eq_true rfl⟩) ?_
  have hu : (gW n ty ad f th rt qu b w T g a o : va_W) = gW n ty ad f th rt qu b w T g a o := by rfl
  have hv : (f 4 - f 3 : Int32) = f 4 - f 3 := by simp []
  exact W.iret (v := f 4 - f 3) hx hb hr (fun t ht hW => ⟨⟨_, _, rfl, ⟨hv, hu⟩, by rw [ht]; exact hP, va_K.moved hW.alike hK, hD⟩, hS.F ht⟩) hS.2.2 d_K_count_93
set_option maxHeartbeats 4000000 in
set_option maxRecDepth 100000 in
/-- count(4) -/
theorem c_K_count4 (l : Launch) (D : va_G) (ty : Nat → ClassId) (ad : Nat → Nat) (sz : Nat) (n : Nat) (f : Nat → Int32) (th : Nat → Bool) (rt qu : Nat → Int32) (b w : SR) (T : Nat → TH) (g : Nat → Int32) (a : Nat → Nat → Int32) (o : Nat → Int64) (hn : ∀ k, th k = true → k < n) (h12 : ∀ k, (T k).2.2.2.1 ≤ 12) : Met l y_K_count w_K_count ({ frames := 4, cells := 0, slots := 0, locals := 90 }) (va_Pc [.ref (ad 0), .int 4] (kP D kCl (kTy ty) (gW n ty ad f th rt qu b w T g a o) sz)) (va_Qi (fun (r9 : Int32) (u9 : va_W) => r9 = (it (kWt th T) 300 0) ∧ u9 = (gW n ty ad f th rt qu b w T g a o)) (kB D kCl (kTy ty) (va_A (gW n ty ad f th rt qu b w T g a o) sz)) (va_A (gW n ty ad f th rt qu b w T g a o) sz)) 0 0 (va_A (gW n ty ad f th rt qu b w T g a o) sz) := by
  refine Met.ofW (cc := b_K_count) (maxL := 2) (ret := (some .int)) (by decide) rfl ?_
  intro p e s m args below meth cd s₁ B hml hv
  obtain ⟨rfl, hsz, hP, hK, hD0⟩ := hv
  have hx := B.exec
  have hb := B.bytes
  have hr := B.returns
  have hts := atoms_spec (ws := w_K_count) B.pre
  have hown : s.vm.findClass R_K = some m.cls := findClass_of_methodNamed B.named
  have hlocks := B.notSynchronized
  subst hsz
  have hD := hD0.self (sz := s.heap.size)
  generalize hAe : va_A (gW n ty ad f th rt qu b w T g a o) s.heap.size = A at hD ⊢
  have hA : ∀ q : Nat, s.heap.size ≤ q → A q := fun q h => by rw [← hAe]; exact Or.inr h
  have hS : va_S A s.heap s.heap [] := va_S.rf
  have hl := lv_entry ([.ref (ad 0), .int 4]) (n := 2) (Nat.le_of_ble_eq_true rfl)
  rw [lg_entry_eq]
  generalize (lg_sl ([.ref (ad 0), .int 4]) ++ List.replicate (2 - (lg_sl ([.ref (ad 0), .int 4])).length) Slot.unset).toArray = ls at hl ⊢
  have hl : lv_has ls 2 [(0, .ref (ad 0)), (1, .int 4)] := hl
  refine lv_iload_n hx hb d_K_count_0 rfl (lv_at hl 1 rfl) ?_
  refine lv_tableIn (off := 93) (tgt := 94) hx hb d_K_count_1 (by decide) (by decide) rfl (by decide) ?_
  refine lv_aload_n hx hb d_K_count_94 rfl (lv_at hl 0 rfl) ?_
  refine kc_R (va_runV (As := []) (rest := []) ⟨hx, hb, hml, hown, hts⟩ (c_K_waitingFinals l D ty ad _ n f th rt qu b w T g a o hn) (cwV 0 hts (kGV kS1 m_K_128 m_im_K_waitingFinals m_sel_K_waitingFinals m_ini_K m_code_K_waitingFinals) rfl rfl rfl (by decide +kernel) ⟨Nat.le_of_ble_eq_true rfl, Nat.le_of_ble_eq_true rfl⟩) ⟨kP_blind, va_recv hK hP (ci := 0) (q0 := 0) rfl gw_0, fun U hU hW => ⟨rfl, kP_at hK hP hD U hU hW⟩⟩ rfl rfl hl.1 rfl (lv_room (Nat.le_of_ble_eq_true rfl)) d_K_count_95 ⟨Nat.le_of_ble_eq_true rfl, Nat.le_of_ble_eq_true rfl⟩) ?_
  have hu : (gW n ty ad f th rt qu b w T g a o : va_W) = gW n ty ad f th rt qu b w T g a o := by rfl
  have hv : (it (kWt th T) 300 0 : Int32) = it (kWt th T) 300 0 := by simp []
  exact W.iret (v := it (kWt th T) 300 0) hx hb hr (fun t ht hW => ⟨⟨_, _, rfl, ⟨hv, hu⟩, by rw [ht]; exact hP, va_K.moved hW.alike hK, hD⟩, hS.F ht⟩) hS.2.2 d_K_count_98
set_option maxHeartbeats 4000000 in
set_option maxRecDepth 100000 in
/-- count(5) -/
theorem c_K_count5 (l : Launch) (D : va_G) (ty : Nat → ClassId) (ad : Nat → Nat) (sz : Nat) (n : Nat) (f : Nat → Int32) (th : Nat → Bool) (rt qu : Nat → Int32) (b w : SR) (T : Nat → TH) (g : Nat → Int32) (a : Nat → Nat → Int32) (o : Nat → Int64) (hn : ∀ k, th k = true → k < n) (h12 : ∀ k, (T k).2.2.2.1 ≤ 12) : Met l y_K_count w_K_count ({ frames := 4, cells := 0, slots := 0, locals := 90 }) (va_Pc [.ref (ad 0), .int 5] (kP D kCl (kTy ty) (gW n ty ad f th rt qu b w T g a o) sz)) (va_Qi (fun (r9 : Int32) (u9 : va_W) => r9 = (f 9) ∧ u9 = (gW n ty ad f th rt qu b w T g a o)) (kB D kCl (kTy ty) (va_A (gW n ty ad f th rt qu b w T g a o) sz)) (va_A (gW n ty ad f th rt qu b w T g a o) sz)) 0 0 (va_A (gW n ty ad f th rt qu b w T g a o) sz) := by
  refine Met.ofW (cc := b_K_count) (maxL := 2) (ret := (some .int)) (by decide) rfl ?_
  intro p e s m args below meth cd s₁ B hml hv
  obtain ⟨rfl, hsz, hP, hK, hD0⟩ := hv
  have hx := B.exec
  have hb := B.bytes
  have hr := B.returns
  have hts := atoms_spec (ws := w_K_count) B.pre
  have hown : s.vm.findClass R_K = some m.cls := findClass_of_methodNamed B.named
  have hlocks := B.notSynchronized
  subst hsz
  have hD := hD0.self (sz := s.heap.size)
  generalize hAe : va_A (gW n ty ad f th rt qu b w T g a o) s.heap.size = A at hD ⊢
  have hA : ∀ q : Nat, s.heap.size ≤ q → A q := fun q h => by rw [← hAe]; exact Or.inr h
  have hS : va_S A s.heap s.heap [] := va_S.rf
  have hl := lv_entry ([.ref (ad 0), .int 5]) (n := 2) (Nat.le_of_ble_eq_true rfl)
  rw [lg_entry_eq]
  generalize (lg_sl ([.ref (ad 0), .int 5]) ++ List.replicate (2 - (lg_sl ([.ref (ad 0), .int 5])).length) Slot.unset).toArray = ls at hl ⊢
  have hl : lv_has ls 2 [(0, .ref (ad 0)), (1, .int 5)] := hl
  refine lv_iload_n hx hb d_K_count_0 rfl (lv_at hl 1 rfl) ?_
  refine lv_tableIn (off := 98) (tgt := 99) hx hb d_K_count_1 (by decide) (by decide) rfl (by decide) ?_
  refine lv_aload_n hx hb d_K_count_99 rfl (lv_at hl 0 rfl) ?_
  refine va_get (D := D) (ci := 0) (v := .int (f 9)) (C := R_K) (T := F_K) (N := 12) hx hb hts (fun w h => kS1 w (i_K w h)) hown hK hP 0 gw_0 rfl 9 (by decide) (hts _ (kS1 _ m_K_131)) (fun _ h9 => h9) rfl d_K_count_100 ?_
  have hu : (gW n ty ad f th rt qu b w T g a o : va_W) = gW n ty ad f th rt qu b w T g a o := by rfl
  have hv : (f 9 : Int32) = f 9 := by simp []
  exact W.iret (v := f 9) hx hb hr (fun t ht hW => ⟨⟨_, _, rfl, ⟨hv, hu⟩, by rw [ht]; exact hP, va_K.moved hW.alike hK, hD⟩, hS.F ht⟩) hS.2.2 d_K_count_103
set_option maxHeartbeats 4000000 in
set_option maxRecDepth 100000 in
/-- count(6) -/
theorem c_K_count6 (l : Launch) (D : va_G) (ty : Nat → ClassId) (ad : Nat → Nat) (sz : Nat) (n : Nat) (f : Nat → Int32) (th : Nat → Bool) (rt qu : Nat → Int32) (b w : SR) (T : Nat → TH) (g : Nat → Int32) (a : Nat → Nat → Int32) (o : Nat → Int64) (hn : ∀ k, th k = true → k < n) (h12 : ∀ k, (T k).2.2.2.1 ≤ 12) : Met l y_K_count w_K_count ({ frames := 4, cells := 0, slots := 0, locals := 90 }) (va_Pc [.ref (ad 0), .int 6] (kP D kCl (kTy ty) (gW n ty ad f th rt qu b w T g a o) sz)) (va_Qi (fun (r9 : Int32) (u9 : va_W) => r9 = (f 10) ∧ u9 = (gW n ty ad f th rt qu b w T g a o)) (kB D kCl (kTy ty) (va_A (gW n ty ad f th rt qu b w T g a o) sz)) (va_A (gW n ty ad f th rt qu b w T g a o) sz)) 0 0 (va_A (gW n ty ad f th rt qu b w T g a o) sz) := by
  refine Met.ofW (cc := b_K_count) (maxL := 2) (ret := (some .int)) (by decide) rfl ?_
  intro p e s m args below meth cd s₁ B hml hv
  obtain ⟨rfl, hsz, hP, hK, hD0⟩ := hv
  have hx := B.exec
  have hb := B.bytes
  have hr := B.returns
  have hts := atoms_spec (ws := w_K_count) B.pre
  have hown : s.vm.findClass R_K = some m.cls := findClass_of_methodNamed B.named
  have hlocks := B.notSynchronized
  subst hsz
  have hD := hD0.self (sz := s.heap.size)
  generalize hAe : va_A (gW n ty ad f th rt qu b w T g a o) s.heap.size = A at hD ⊢
  have hA : ∀ q : Nat, s.heap.size ≤ q → A q := fun q h => by rw [← hAe]; exact Or.inr h
  have hS : va_S A s.heap s.heap [] := va_S.rf
  have hl := lv_entry ([.ref (ad 0), .int 6]) (n := 2) (Nat.le_of_ble_eq_true rfl)
  rw [lg_entry_eq]
  generalize (lg_sl ([.ref (ad 0), .int 6]) ++ List.replicate (2 - (lg_sl ([.ref (ad 0), .int 6])).length) Slot.unset).toArray = ls at hl ⊢
  have hl : lv_has ls 2 [(0, .ref (ad 0)), (1, .int 6)] := hl
  refine lv_iload_n hx hb d_K_count_0 rfl (lv_at hl 1 rfl) ?_
  refine lv_tableIn (off := 103) (tgt := 104) hx hb d_K_count_1 (by decide) (by decide) rfl (by decide) ?_
  refine lv_aload_n hx hb d_K_count_104 rfl (lv_at hl 0 rfl) ?_
  refine va_get (D := D) (ci := 0) (v := .int (f 10)) (C := R_K) (T := F_K) (N := 12) hx hb hts (fun w h => kS1 w (i_K w h)) hown hK hP 0 gw_0 rfl 10 (by decide) (hts _ (kS1 _ m_K_85)) (fun _ h9 => h9) rfl d_K_count_105 ?_
  have hu : (gW n ty ad f th rt qu b w T g a o : va_W) = gW n ty ad f th rt qu b w T g a o := by rfl
  have hv : (f 10 : Int32) = f 10 := by simp []
  exact W.iret (v := f 10) hx hb hr (fun t ht hW => ⟨⟨_, _, rfl, ⟨hv, hu⟩, by rw [ht]; exact hP, va_K.moved hW.alike hK, hD⟩, hS.F ht⟩) hS.2.2 d_K_count_108
set_option maxHeartbeats 4000000 in
set_option maxRecDepth 100000 in
/-- count(7) -/
theorem c_K_count7 (l : Launch) (D : va_G) (ty : Nat → ClassId) (ad : Nat → Nat) (sz : Nat) (n : Nat) (f : Nat → Int32) (th : Nat → Bool) (rt qu : Nat → Int32) (b w : SR) (T : Nat → TH) (g : Nat → Int32) (a : Nat → Nat → Int32) (o : Nat → Int64) (hn : ∀ k, th k = true → k < n) (h12 : ∀ k, (T k).2.2.2.1 ≤ 12) : Met l y_K_count w_K_count ({ frames := 4, cells := 0, slots := 0, locals := 90 }) (va_Pc [.ref (ad 0), .int 7] (kP D kCl (kTy ty) (gW n ty ad f th rt qu b w T g a o) sz)) (va_Qi (fun (r9 : Int32) (u9 : va_W) => r9 = (f 11) ∧ u9 = (gW n ty ad f th rt qu b w T g a o)) (kB D kCl (kTy ty) (va_A (gW n ty ad f th rt qu b w T g a o) sz)) (va_A (gW n ty ad f th rt qu b w T g a o) sz)) 0 0 (va_A (gW n ty ad f th rt qu b w T g a o) sz) := by
  refine Met.ofW (cc := b_K_count) (maxL := 2) (ret := (some .int)) (by decide) rfl ?_
  intro p e s m args below meth cd s₁ B hml hv
  obtain ⟨rfl, hsz, hP, hK, hD0⟩ := hv
  have hx := B.exec
  have hb := B.bytes
  have hr := B.returns
  have hts := atoms_spec (ws := w_K_count) B.pre
  have hown : s.vm.findClass R_K = some m.cls := findClass_of_methodNamed B.named
  have hlocks := B.notSynchronized
  subst hsz
  have hD := hD0.self (sz := s.heap.size)
  generalize hAe : va_A (gW n ty ad f th rt qu b w T g a o) s.heap.size = A at hD ⊢
  have hA : ∀ q : Nat, s.heap.size ≤ q → A q := fun q h => by rw [← hAe]; exact Or.inr h
  have hS : va_S A s.heap s.heap [] := va_S.rf
  have hl := lv_entry ([.ref (ad 0), .int 7]) (n := 2) (Nat.le_of_ble_eq_true rfl)
  rw [lg_entry_eq]
  generalize (lg_sl ([.ref (ad 0), .int 7]) ++ List.replicate (2 - (lg_sl ([.ref (ad 0), .int 7])).length) Slot.unset).toArray = ls at hl ⊢
  have hl : lv_has ls 2 [(0, .ref (ad 0)), (1, .int 7)] := hl
  refine lv_iload_n hx hb d_K_count_0 rfl (lv_at hl 1 rfl) ?_
  refine lv_tableIn (off := 108) (tgt := 109) hx hb d_K_count_1 (by decide) (by decide) rfl (by decide) ?_
  refine lv_aload_n hx hb d_K_count_109 rfl (lv_at hl 0 rfl) ?_
  refine va_get (D := D) (ci := 0) (v := .int (f 11)) (C := R_K) (T := F_K) (N := 12) hx hb hts (fun w h => kS1 w (i_K w h)) hown hK hP 0 gw_0 rfl 11 (by decide) (hts _ (kS1 _ m_K_120)) (fun _ h9 => h9) rfl d_K_count_110 ?_
  have hu : (gW n ty ad f th rt qu b w T g a o : va_W) = gW n ty ad f th rt qu b w T g a o := by rfl
  have hv : (f 11 : Int32) = f 11 := by simp []
  exact W.iret (v := f 11) hx hb hr (fun t ht hW => ⟨⟨_, _, rfl, ⟨hv, hu⟩, by rw [ht]; exact hP, va_K.moved hW.alike hK, hD⟩, hS.F ht⟩) hS.2.2 d_K_count_113
set_option maxHeartbeats 4000000 in
set_option maxRecDepth 100000 in
/-- count(8) -/
theorem c_K_count8 (l : Launch) (D : va_G) (ty : Nat → ClassId) (ad : Nat → Nat) (sz : Nat) (n : Nat) (f : Nat → Int32) (th : Nat → Bool) (rt qu : Nat → Int32) (b w : SR) (T : Nat → TH) (g : Nat → Int32) (a : Nat → Nat → Int32) (o : Nat → Int64) (hn : ∀ k, th k = true → k < n) (h12 : ∀ k, (T k).2.2.2.1 ≤ 12) : Met l y_K_count w_K_count ({ frames := 4, cells := 0, slots := 0, locals := 90 }) (va_Pc [.ref (ad 0), .int 8] (kP D kCl (kTy ty) (gW n ty ad f th rt qu b w T g a o) sz)) (va_Qi (fun (r9 : Int32) (u9 : va_W) => r9 = (f 7) ∧ u9 = (gW n ty ad f th rt qu b w T g a o)) (kB D kCl (kTy ty) (va_A (gW n ty ad f th rt qu b w T g a o) sz)) (va_A (gW n ty ad f th rt qu b w T g a o) sz)) 0 0 (va_A (gW n ty ad f th rt qu b w T g a o) sz) := by
  refine Met.ofW (cc := b_K_count) (maxL := 2) (ret := (some .int)) (by decide) rfl ?_
  intro p e s m args below meth cd s₁ B hml hv
  obtain ⟨rfl, hsz, hP, hK, hD0⟩ := hv
  have hx := B.exec
  have hb := B.bytes
  have hr := B.returns
  have hts := atoms_spec (ws := w_K_count) B.pre
  have hown : s.vm.findClass R_K = some m.cls := findClass_of_methodNamed B.named
  have hlocks := B.notSynchronized
  subst hsz
  have hD := hD0.self (sz := s.heap.size)
  generalize hAe : va_A (gW n ty ad f th rt qu b w T g a o) s.heap.size = A at hD ⊢
  have hA : ∀ q : Nat, s.heap.size ≤ q → A q := fun q h => by rw [← hAe]; exact Or.inr h
  have hS : va_S A s.heap s.heap [] := va_S.rf
  have hl := lv_entry ([.ref (ad 0), .int 8]) (n := 2) (Nat.le_of_ble_eq_true rfl)
  rw [lg_entry_eq]
  generalize (lg_sl ([.ref (ad 0), .int 8]) ++ List.replicate (2 - (lg_sl ([.ref (ad 0), .int 8])).length) Slot.unset).toArray = ls at hl ⊢
  have hl : lv_has ls 2 [(0, .ref (ad 0)), (1, .int 8)] := hl
  refine lv_iload_n hx hb d_K_count_0 rfl (lv_at hl 1 rfl) ?_
  refine lv_tableIn (off := 113) (tgt := 114) hx hb d_K_count_1 (by decide) (by decide) rfl (by decide) ?_
  refine lv_aload_n hx hb d_K_count_114 rfl (lv_at hl 0 rfl) ?_
  refine va_get (D := D) (ci := 0) (v := .int (f 7)) (C := R_K) (T := F_K) (N := 12) hx hb hts (fun w h => kS1 w (i_K w h)) hown hK hP 0 gw_0 rfl 7 (by decide) (hts _ (kS1 _ m_K_43)) (fun _ h9 => h9) rfl d_K_count_115 ?_
  have hu : (gW n ty ad f th rt qu b w T g a o : va_W) = gW n ty ad f th rt qu b w T g a o := by rfl
  have hv : (f 7 : Int32) = f 7 := by simp []
  exact W.iret (v := f 7) hx hb hr (fun t ht hW => ⟨⟨_, _, rfl, ⟨hv, hu⟩, by rw [ht]; exact hP, va_K.moved hW.alike hK, hD⟩, hS.F ht⟩) hS.2.2 d_K_count_118
end
section
/-! Part 26: constructors. -/
theorem va_RA_inj {s : State} {c1 c2 : ClassId} {ty : FieldType} (h1 : va_RA s c1 ty) (h2 : va_RA s c2 ty) : c1 = c2 := by
  cases ty with
  | object C =>
    obtain ⟨_, _, _, _, _, e1⟩ := h1
    obtain ⟨_, _, _, _, _, e2⟩ := h2
    exact Option.some.inj (e1.symm.trans e2)
  | _ =>
    have e1 : s.vm.findClass _ = some c1 := h1
    have e2 : s.vm.findClass _ = some c2 := h2
    exact Option.some.inj (e1.symm.trans e2)
section KN
variable {p : Program} {l : Launch} {e : Env} {R : Room} {s : State} {m : MethodId} {args : Array Value} {below : List Frame} {meth : Method} {c : Code} {H : Heap} {locs : List Loc} {cells slots : Nat} {Q : State → Prop}
variable {cc : ByteArray} {pc : Nat} {ls : Array Slot} {rest st0 : List Value} {D : va_G} {cl : List vw_C} {A : Nat → Prop} {tys : List (ClassId × FieldType)} {ws : va_W} {H0 : Heap} {a : Array Value} {mc ms : Nat}
/-- a new array whose class is known -/
theorem k_newa (hexec : p.tables.exec = Jvm.exec) (hb : c.code = cc) {atype : ArrayType} (harr : (Cond.arrayClass (newarray.typeOf atype)).before args s = true) {ty : FieldType} (hty : newarray.typeOf atype = ty) (hK : va_K D cl tys s) (hP : va_P D cl ws H) (hD : va_D A ws) (hS : va_S A H0 H locs) (hA : ∀ q, H0.size ≤ q → A q) (t0 : Nat) {cA0 : ClassId} (ht : tys[t0]? = some (cA0, ty))
    {n : Int32} {N' : Nat} {a0 : vp_A} (ha : ∀ cA : ClassId, vp_cell cA a0 = arrV cA N' (fun _ => defaultValue ty)) (hn : ¬ n < 0) (hN : n.toNatClampNeg = N') (hbytes : N' * componentBytes ty ≤ 536870912) (hcells : cells + 1 ≤ R.cells) (hslots : slots + N' ≤ R.slots) (hdg : decode cc pc = .ok (.newarray atype, 2))
    (kk : ∀ (q : Nat) (H1 : Heap), va_P D cl (ws ++ [(q, .inl (cA0, a0))]) H1 → va_D A (ws ++ [(q, .inl (cA0, a0))]) → va_S A H0 H1 locs →
      W p l e R s m args below meth c H1 locs (cells + 1) (slots + N') Q (F0 m (pc + 2) ls (.ref q :: rest))) : W p l e R s m args below meth c H locs cells slots Q (F0 m pc ls (.int n :: rest)) := by
  refine va_newa hexec hb harr hty hK hP hD hS hA ha hn hN hbytes hcells hslots hdg (fun q cA H1 hK1 hP1 hD1 hS1 => ?_)
  have e1 := (hK1.2 tys.length (cA, ty) (by simp)).2
  have e2 := (hK.2 t0 _ ht).2
  have : cA = cA0 := va_RA_inj e1 e2
  subst this
  exact kk q H1 hP1 hD1 hS1
/-- .. of references -/
theorem k_newq (hexec : p.tables.exec = Jvm.exec) (hb : c.code = cc) {own C : String} {index : Nat} (hown : s.vm.findClass own = some m.cls) (hclink : (Cond.classLink own index C).before args s = true) (hover : va_AO C s) (hK : va_K D cl tys s) (hP : va_P D cl ws H) (hD : va_D A ws) (hS : va_S A H0 H locs) (hA : ∀ q, H0.size ≤ q → A q) (t0 : Nat) {cA0 : ClassId} (ht : tys[t0]? = some (cA0, .object C))
    {n : Int32} {N' : Nat} (hn : ¬ n < 0) (hN : n.toNatClampNeg = N') (hbytes : N' * 4 ≤ 536870912) (hcells : cells + 1 ≤ R.cells) (hslots : slots + N' ≤ R.slots) (hdg : decode cc pc = .ok (.anewarray index, 3))
    (kk : ∀ (q : Nat) (H1 : Heap), va_P D cl (ws ++ [(q, .inl (cA0, N', .inr (.inr (.inr (.inr (fun _ => none))))))]) H1 → va_D A (ws ++ [(q, .inl (cA0, N', .inr (.inr (.inr (.inr (fun _ => none))))))]) → va_S A H0 H1 locs →
      W p l e R s m args below meth c H1 locs (cells + 1) (slots + N') Q (F0 m (pc + 3) ls (.ref q :: rest))) : W p l e R s m args below meth c H locs cells slots Q (F0 m pc ls (.int n :: rest)) := by
  refine va_newq hexec hb hown hclink hover hK hP hD hS hA hn hN hbytes hcells hslots hdg (fun q cA H1 hK1 hP1 hD1 hS1 => ?_)
  have e1 := (hK1.2 tys.length (cA, .object C) (by simp)).2
  have e2 := (hK.2 t0 _ ht).2
  have : cA = cA0 := va_RA_inj e1 e2
  subst this
  exact kk q H1 hP1 hD1 hS1
/-- a constructor's call: its world is the world's last cell -/
theorem k_ctor {x : Nat × va_E} {post : va_W → Prop} (hr : va_Run p l e R s m args below meth c H locs cells slots mc ms (F0 m pc ls st0) rest (va_Qv post (kB D cl tys (va_A [x] H.size)) (va_A [x] H.size) a) (va_A [x] H.size)) (hP : va_P D cl (ws ++ [x]) H) (hD : va_D A (ws ++ [x])) (hS : va_S A s.heap H locs) (hA : ∀ q, s.heap.size ≤ q → A q)
    (kk : ∀ (u : va_W) (H1 : Heap) (locs1 : List Loc), post u → va_P D cl (ws ++ u) H1 → va_D A (ws ++ u) → va_S A s.heap H1 locs1 → H.size ≤ H1.size → W p l e R s m args below meth c H1 locs1 (cells + mc) (slots + ms) Q (F0 m (pc + 3) ls rest)) : W p l e R s m args below meth c H locs cells slots Q (F0 m pc ls st0) := by
  have hxl : (ws ++ [x])[ws.length]? = some x := by simp
  have hl : ∀ (i : Nat) (q : Nat × va_E), ws[i]? = some q → (ws ++ [x])[i]? = some q ∧ i < ws.length := fun i q h => by
    have h1 := (List.getElem?_eq_some_iff.mp h).1
    exact ⟨by rw [List.getElem?_append_left h1]; exact h, h1⟩
  have hF : ∀ q, va_A [x] H.size q → A q := fun q h => by
    rcases h with ⟨k, e, h⟩ | h
    · have hk : k < 1 := (List.getElem?_eq_some_iff.mp h).1
      rw [show k = 0 by omega] at h
      have h : x = (q, e) := by simpa using h
      have := hD.2 ws.length x hxl
      rw [h] at this
      exact this
    · exact hA q (Nat.le_trans hS.1 h)
  have apart : ∀ (i : Nat) (q : Nat × va_E), ws[i]? = some q → q.1 < H.size ∧ ¬ va_A [x] H.size q.1 := fun i q h => by
    obtain ⟨h1, h2⟩ := hl i q h
    refine ⟨(hP i q h1).lt, fun hc => ?_⟩
    rcases hc with ⟨k, e, hc⟩ | hc
    · have hk : k < 1 := (List.getElem?_eq_some_iff.mp hc).1
      rw [show k = 0 by omega] at hc
      have hc : x = (q.1, e) := by simpa using hc
      have := hD.1 i ws.length q x h1 hxl (by rw [hc])
      omega
    · have := (hP i q h1).lt
      omega
  refine va_callv hr hS (fun q _ h => hF q h) hF (fun u t H1 locs1 ht hvm hw hB hz1 hk1 hS1 => ?_)
  obtain ⟨hP1, hK1, hD1⟩ := hB
  rw [ht] at hP1
  refine kk u H1 locs1 hw (va_P.app (fun k q hk => (hP k q (hl k q hk).1).kept (hk1 q.1 (apart k q hk).1 (apart k q hk).2)) hP1) (va_D.app ⟨fun i j p q hi hj h => hD.1 i j p q (hl i p hi).1 (hl j q hj).1 h, fun k q hk => hD.2 k q (hl k q hk).1⟩ (hD1.weaken (fun _ q _ h => hF q.1 h)) (fun i j p q hi hj h => (apart i p hi).2 (by rw [h]; exact hD1.2 j q hj))) hS1 hz1
end KN
/-- -1 in the first i places, 0 behind -/
def nf (i : Nat) : Nat → Int32 := fun j => if j < i then (-1) else 0
theorem nf_0 : nf 0 = fun _ => 0 := by funext j; simp [nf]
theorem nf_s {i : Nat} : upd (nf i) i (-1) = nf (i + 1) := by
  funext j
  by_cases h : j = i
  · subst h; simp [upd, nf]
  · have h2 : (j < i + 1) = (j < i) := by apply propext; omega
    simp [upd, nf, h, h2]
set_option maxHeartbeats 4000000 in
set_option maxRecDepth 100000 in
/-- Search() -/
theorem c_S_init (l : Launch) (D : va_G) (ty : Nat → ClassId) (ad : Nat → Nat) (sz : Nat) (h : Nat) : Met l y_S_init w_S_init ({ frames := 1, cells := 2, slots := 600, locals := 12 }) (va_Pc [.ref h] (kP D kCl (kTy ty) ([(h, .inr (1, [.null, .null, .int 0]))]) sz)) (va_Qv (fun u : va_W => ∃ q1 q2 : Nat, u = [(h, .inr (1, [.ref q1, .ref q2, .int 0])), (q1, .inl (ty 1, 300, .inl (fun _ => 0))), (q2, .inl (ty 0, 300, .inl (fun _ => 0)))]) (kB D kCl (kTy ty) (va_A ([(h, .inr (1, [.null, .null, .int 0]))]) sz)) (va_A ([(h, .inr (1, [.null, .null, .int 0]))]) sz)) 2 600 (va_A ([(h, .inr (1, [.null, .null, .int 0]))]) sz) := by
  refine Met.ofW (cc := b_S_init) (maxL := 1) (ret := none) (by decide) rfl ?_
  intro p e s m args below meth cd s₁ B hml hv
  obtain ⟨rfl, hsz, hP, hK, hD0⟩ := hv
  have hx := B.exec
  have hb := B.bytes
  have hr := B.returns
  have hts := atoms_spec (ws := w_S_init) B.pre
  have hown : s.vm.findClass R_S = some m.cls := findClass_of_methodNamed B.named
  have hlocks := B.notSynchronized
  subst hsz
  have hD := hD0.self (sz := s.heap.size)
  generalize hAe : va_A ([(h, .inr (1, [.null, .null, .int 0]))]) s.heap.size = A at hD ⊢
  have hA : ∀ q : Nat, s.heap.size ≤ q → A q := fun q h => by rw [← hAe]; exact Or.inr h
  have hS : va_S A s.heap s.heap [] := va_S.rf
  have hl := lv_entry ([.ref h]) (n := 1) (Nat.le_of_ble_eq_true rfl)
  rw [lg_entry_eq]
  generalize (lg_sl ([.ref h]) ++ List.replicate (1 - (lg_sl ([.ref h])).length) Slot.unset).toArray = ls at hl ⊢
  have hl : lv_has ls 1 [(0, .ref h)] := hl
  have hin : meth.name = "<init>" := (name_of_methodNamed B.named B.method).1
  refine lv_aload_n hx hb d_S_init_0 rfl (lv_at hl 0 rfl) ?_
  refine W.objInit hx hb hown (hts _ (kS1 _ m_S_3)) (hts _ (kS1 _ m_im_obj)) (hts _ (kS1 _ m_code_obj)) rfl (by rw [hml]; exact hl.1) rfl d_S_init_1 (Nat.le_of_ble_eq_true rfl) (Nat.le_of_ble_eq_true rfl) ?_
  refine W.eq (g2 := F0 m 4 ls []) rfl ?_
  refine lv_aload_n hx hb d_S_init_4 rfl (lv_at hl 0 rfl) ?_
  refine lv_sipush (v := 300) hx hb d_S_init_5 (by decide) ?_
  refine k_newa (atype := .boolean) (a0 := (300, .inl (fun _ => 0))) (N' := 300) hx hb (hts _ (kS1 _ m_arr_boolean)) rfl hK hP hD hS hA 1 rfl (fun _ => rfl) (by decide) (by decide) (by decide) (Nat.le_of_ble_eq_true rfl) (Nat.le_of_ble_eq_true rfl) d_S_init_8 (fun q1 H hP hD hS => ?_)
  refine va_putF (D := D) (ci := 1) (v := .ref q1) (ty := .array (.boolean)) (C := R_S) (T := F_S) (N := 3) hx hb hts (fun w h => kS1 w (i_S w h)) tt_S tt_S_ok n_S hown hK hP hD hS 0 rfl rfl 0 (by decide) (hts _ (kS1 _ m_S_9)) (fun _ h9 => h9) rfl hin rfl (by decide +kernel) rfl rfl (Nat.le_of_ble_eq_true rfl) d_S_init_10 (fun H locs hP hD hS => ?_)
  have hP := kw_P (show _ = [(h, .inr (1, [.ref q1, .null, .int 0])), (q1, .inl (ty 1, 300, .inl (fun _ => 0)))] from rfl) hP
  have hD := kw_D (show _ = [(h, .inr (1, [.ref q1, .null, .int 0])), (q1, .inl (ty 1, 300, .inl (fun _ => 0)))] from rfl) hD
  refine lv_aload_n hx hb d_S_init_13 rfl (lv_at hl 0 rfl) ?_
  refine lv_sipush (v := 300) hx hb d_S_init_14 (by decide) ?_
  refine k_newa (atype := .int) (a0 := (300, .inl (fun _ => 0))) (N' := 300) hx hb (hts _ (kS1 _ m_arr_int)) rfl hK hP hD hS hA 0 rfl (fun _ => rfl) (by decide) (by decide) (by decide) (Nat.le_of_ble_eq_true rfl) (Nat.le_of_ble_eq_true rfl) d_S_init_17 (fun q2 H hP hD hS => ?_)
  refine va_putF (D := D) (ci := 1) (v := .ref q2) (ty := .array (.int)) (C := R_S) (T := F_S) (N := 3) hx hb hts (fun w h => kS1 w (i_S w h)) tt_S tt_S_ok n_S hown hK hP hD hS 0 rfl rfl 1 (by decide) (hts _ (kS1 _ m_S_15)) (fun _ h9 => h9) rfl hin rfl (by decide +kernel) rfl rfl (Nat.le_of_ble_eq_true rfl) d_S_init_19 (fun H locs hP hD hS => ?_)
  have hP := kw_P (show _ = [(h, .inr (1, [.ref q1, .ref q2, .int 0])), (q1, .inl (ty 1, 300, .inl (fun _ => 0))), (q2, .inl (ty 0, 300, .inl (fun _ => 0)))] from rfl) hP
  have hD := kw_D (show _ = [(h, .inr (1, [.ref q1, .ref q2, .int 0])), (q1, .inl (ty 1, 300, .inl (fun _ => 0))), (q2, .inl (ty 0, 300, .inl (fun _ => 0)))] from rfl) hD
  refine lv_aload_n hx hb d_S_init_22 rfl (lv_at hl 0 rfl) ?_
  refine lv_iconst (v := 0) hx hb d_S_init_23 (by decide) ?_
  refine va_put (D := D) (ci := 1) (v := .int 0) (ty := .int) (C := R_S) (T := F_S) (N := 3) hx hb hts (fun w h => kS1 w (i_S w h)) tt_S tt_S_ok n_S hown hK hP hD hS 0 rfl rfl 2 (by decide) (hts _ (kS1 _ m_S_19)) (fun _ h9 => h9) rfl (by decide +kernel) rfl rfl (Nat.le_of_ble_eq_true rfl) d_S_init_24 (fun H locs hP hD hS => ?_)
  have hP := kw_P (show _ = [(h, .inr (1, [.ref q1, .ref q2, .int 0])), (q1, .inl (ty 1, 300, .inl (fun _ => 0))), (q2, .inl (ty 0, 300, .inl (fun _ => 0)))] from rfl) hP
  have hD := kw_D (show _ = [(h, .inr (1, [.ref q1, .ref q2, .int 0])), (q1, .inl (ty 1, 300, .inl (fun _ => 0))), (q2, .inl (ty 0, 300, .inl (fun _ => 0)))] from rfl) hD
  exact W.vret hx hb hr (fun t ht hW => ⟨⟨_, rfl, ⟨_, _, rfl⟩, by rw [ht]; exact hP, va_K.moved hW.alike hK, hD⟩, hS.F ht⟩) hS.2.2 d_S_init_27
set_option maxHeartbeats 4000000 in
set_option maxRecDepth 100000 in
/-- Thing(kind, q) -/
theorem c_T_init (l : Launch) (D : va_G) (ty : Nat → ClassId) (ad : Nat → Nat) (sz : Nat) (h : Nat) (kd : Int32) (q : Nat) (hq : q ≤ 12) : Met l y_T_init w_T_init ({ frames := 1, cells := 1, slots := 12, locals := 12 }) (va_Pc [.ref h, .int kd, .int (nI q)] (kP D kCl (kTy ty) ([(h, .inr (2, [.null, .int 0, .int 0, .int 0]))]) sz)) (va_Qv (fun u : va_W => ∃ q1 : Nat, u = [(h, .inr (2, [.ref q1, .int kd, .int 0, .int (-1)])), (q1, .inl (ty 0, q, .inl (nf q)))]) (kB D kCl (kTy ty) (va_A ([(h, .inr (2, [.null, .int 0, .int 0, .int 0]))]) sz)) (va_A ([(h, .inr (2, [.null, .int 0, .int 0, .int 0]))]) sz)) 1 12 (va_A ([(h, .inr (2, [.null, .int 0, .int 0, .int 0]))]) sz) := by
  refine Met.ofW (cc := b_T_init) (maxL := 4) (ret := none) (by decide) rfl ?_
  intro p e s m args below meth cd s₁ B hml hv
  obtain ⟨rfl, hsz, hP, hK, hD0⟩ := hv
  have hx := B.exec
  have hb := B.bytes
  have hr := B.returns
  have hts := atoms_spec (ws := w_T_init) B.pre
  have hown : s.vm.findClass R_T = some m.cls := findClass_of_methodNamed B.named
  have hlocks := B.notSynchronized
  subst hsz
  have hD := hD0.self (sz := s.heap.size)
  generalize hAe : va_A ([(h, .inr (2, [.null, .int 0, .int 0, .int 0]))]) s.heap.size = A at hD ⊢
  have hA : ∀ q : Nat, s.heap.size ≤ q → A q := fun q h => by rw [← hAe]; exact Or.inr h
  have hS : va_S A s.heap s.heap [] := va_S.rf
  have hl := lv_entry ([.ref h, .int kd, .int (nI q)]) (n := 4) (Nat.le_of_ble_eq_true rfl)
  rw [lg_entry_eq]
  generalize (lg_sl ([.ref h, .int kd, .int (nI q)]) ++ List.replicate (4 - (lg_sl ([.ref h, .int kd, .int (nI q)])).length) Slot.unset).toArray = ls at hl ⊢
  have hl : lv_has ls 4 [(0, .ref h), (1, .int kd), (2, .int (nI q))] := hl
  have hin : meth.name = "<init>" := (name_of_methodNamed B.named B.method).1
  refine lv_aload_n hx hb d_T_init_0 rfl (lv_at hl 0 rfl) ?_
  refine W.objInit hx hb hown (hts _ (kS1 _ m_T_3)) (hts _ (kS1 _ m_im_obj)) (hts _ (kS1 _ m_code_obj)) rfl (by rw [hml]; exact hl.1) rfl d_T_init_1 (Nat.le_of_ble_eq_true rfl) (Nat.le_of_ble_eq_true rfl) ?_
  refine W.eq (g2 := F0 m 4 ls []) rfl ?_
  refine lv_aload_n hx hb d_T_init_4 rfl (lv_at hl 0 rfl) ?_
  refine lv_iload_n hx hb d_T_init_5 rfl (lv_at hl 1 rfl) ?_
  refine va_put (D := D) (ci := 2) (v := .int kd) (ty := .int) (C := R_T) (T := F_T) (N := 4) hx hb hts (fun w h => kS1 w (i_T w h)) tt_T tt_T_ok n_T hown hK hP hD hS 0 rfl rfl 1 (by decide) (hts _ (kS1 _ m_T_9)) (fun _ h9 => h9) rfl (by decide +kernel) rfl rfl (Nat.le_of_ble_eq_true rfl) d_T_init_6 (fun H locs hP hD hS => ?_)
  have hP := kw_P (show _ = [(h, .inr (2, [.null, .int kd, .int 0, .int 0]))] from rfl) hP
  have hD := kw_D (show _ = [(h, .inr (2, [.null, .int kd, .int 0, .int 0]))] from rfl) hD
  refine lv_aload_n hx hb d_T_init_9 rfl (lv_at hl 0 rfl) ?_
  refine lv_iload_n hx hb d_T_init_10 rfl (lv_at hl 2 rfl) ?_
  refine lv_if_lt (tgt := 18) hx hb d_T_init_11 (by decide) (fun c_11 => absurd c_11 (nI_pos (by omega))) (fun c_11 => ?_)
  refine lv_iload_n hx hb d_T_init_14 rfl (lv_at hl 2 rfl) ?_
  refine lv_goto (tgt := 19) hx hb d_T_init_15 (by decide) ?_
  refine k_newa (atype := .int) (a0 := (q, .inl (fun _ => 0))) (N' := q) hx hb (hts _ (kS1 _ m_arr_int)) rfl hK hP hD hS hA 0 rfl (fun _ => rfl) (nI_pos (by omega)) (nI_clamp (by omega)) (by show q * 4 ≤ _; omega) (Nat.le_of_ble_eq_true rfl) (by show 0 + q ≤ 12; omega) d_T_init_19 (fun q1 H hP hD hS => ?_)
  refine va_putF (D := D) (ci := 2) (v := .ref q1) (ty := .array (.int)) (C := R_T) (T := F_T) (N := 4) hx hb hts (fun w h => kS1 w (i_T w h)) tt_T tt_T_ok n_T hown hK hP hD hS 0 rfl rfl 0 (by decide) (hts _ (kS1 _ m_T_15)) (fun _ h9 => h9) rfl hin rfl (by decide +kernel) rfl rfl (Nat.le_of_ble_eq_true rfl) d_T_init_21 (fun H locs hP hD hS => ?_)
  have hP := kw_P (show _ = [(h, .inr (2, [.ref q1, .int kd, .int 0, .int 0])), (q1, .inl (ty 0, q, .inl (fun _ => 0)))] from rfl) hP
  have hD := kw_D (show _ = [(h, .inr (2, [.ref q1, .int kd, .int 0, .int 0])), (q1, .inl (ty 0, q, .inl (fun _ => 0)))] from rfl) hD
  refine lv_aload_n hx hb d_T_init_24 rfl (lv_at hl 0 rfl) ?_
  refine lv_iconst (v := 0) hx hb d_T_init_25 (by decide) ?_
  refine va_put (D := D) (ci := 2) (v := .int 0) (ty := .boolean) (C := R_T) (T := F_T) (N := 4) hx hb hts (fun w h => kS1 w (i_T w h)) tt_T tt_T_ok n_T hown hK hP hD hS 0 rfl rfl 2 (by decide) (hts _ (kS1 _ m_T_19)) (fun _ h9 => h9) rfl (by decide +kernel) rfl rfl (Nat.le_of_ble_eq_true rfl) d_T_init_26 (fun H locs hP hD hS => ?_)
  have hP := kw_P (show _ = [(h, .inr (2, [.ref q1, .int kd, .int 0, .int 0])), (q1, .inl (ty 0, q, .inl (fun _ => 0)))] from rfl) hP
  have hD := kw_D (show _ = [(h, .inr (2, [.ref q1, .int kd, .int 0, .int 0])), (q1, .inl (ty 0, q, .inl (fun _ => 0)))] from rfl) hD
  refine lv_aload_n hx hb d_T_init_29 rfl (lv_at hl 0 rfl) ?_
  refine lv_iconst (v := (-1)) hx hb d_T_init_30 (by decide) ?_
  refine va_put (D := D) (ci := 2) (v := .int (-1)) (ty := .int) (C := R_T) (T := F_T) (N := 4) hx hb hts (fun w h => kS1 w (i_T w h)) tt_T tt_T_ok n_T hown hK hP hD hS 0 rfl rfl 3 (by decide) (hts _ (kS1 _ m_T_23)) (fun _ h9 => h9) rfl (by decide +kernel) rfl rfl (Nat.le_of_ble_eq_true rfl) d_T_init_31 (fun H locs hP hD hS => ?_)
  have hP := kw_P (show _ = [(h, .inr (2, [.ref q1, .int kd, .int 0, .int (-1)])), (q1, .inl (ty 0, q, .inl (fun _ => 0)))] from rfl) hP
  have hD := kw_D (show _ = [(h, .inr (2, [.ref q1, .int kd, .int 0, .int (-1)])), (q1, .inl (ty 0, q, .inl (fun _ => 0)))] from rfl) hD
  refine lv_iconst (v := 0) hx hb d_T_init_34 (by decide) ?_
  refine lv_istore_n (lv' := [(3, .int 0), (0, .ref h), (1, .int kd), (2, .int (nI q))]) hx hb d_T_init_35 rfl hl (by decide) rfl (fun ls hl => ?_)
  have L1 : ∀ (Q : State → Prop) (rem i : Nat) (H : Heap) (locs : List Loc) (ls : Array Slot), i + rem = q → va_P D kCl ([(h, .inr (2, [.ref q1, .int kd, .int 0, .int (-1)])), (q1, .inl (ty 0, q, .inl (nf i)))]) H → va_D A ([(h, .inr (2, [.ref q1, .int kd, .int 0, .int (-1)])), (q1, .inl (ty 0, q, .inl (nf i)))]) → va_S A s.heap H locs → lv_has ls 4 [(0, .ref h), (3, .int (nI i))] → (∀ (H : Heap) (locs : List Loc) (ls : Array Slot), va_P D kCl ([(h, .inr (2, [.ref q1, .int kd, .int 0, .int (-1)])), (q1, .inl (ty 0, q, .inl (nf q)))]) H → va_D A ([(h, .inr (2, [.ref q1, .int kd, .int 0, .int (-1)])), (q1, .inl (ty 0, q, .inl (nf q)))]) → va_S A s.heap H locs → lv_has ls 4 [(0, .ref h)] → W p l e (headSpec w_T_init ({ frames := 1, cells := 1, slots := 12, locals := 12 })).room s m ([.ref h, .int kd, .int (nI q)] : List Value).toArray below meth cd H locs 1 (0 + q) Q (F0 m 58 ls [])) → W p l e (headSpec w_T_init ({ frames := 1, cells := 1, slots := 12, locals := 12 })).room s m ([.ref h, .int kd, .int (nI q)] : List Value).toArray below meth cd H locs 1 (0 + q) Q (F0 m 36 ls []) := by
    intro Q rem
    induction rem with
    | zero =>
      intro i H locs ls hir_i hP hD hS hl kx
      obtain rfl : q = i := by omega
      refine lv_iload_n hx hb d_T_init_36 rfl (lv_at hl 1 rfl) ?_
      refine lv_aload_n hx hb d_T_init_37 rfl (lv_at hl 0 rfl) ?_
      refine va_get (D := D) (ci := 2) (v := .ref q1) (C := R_T) (T := F_T) (N := 4) hx hb hts (fun w h => kS1 w (i_T w h)) hown hK hP 0 rfl rfl 0 (by decide) (hts _ (kS1 _ m_T_15)) (fun _ h9 => h9) rfl d_T_init_38 ?_
      refine va_alen (v := nI q) hx hb hK hP 1 0 rfl rfl rfl d_T_init_41 ?_
      refine lv_icmp_ge (tgt := 58) hx hb d_T_init_42 (by decide) (fun c_42' => ?_) (fun c_42' => absurd (nI_le (a := q) (b := q) (Nat.le_refl _) (by omega)) c_42')
      have hl := lv_sub (l' := [(0, .ref h)]) hl [0] rfl
      exact kx _ _ ls hP hD hS hl
    | succ rem ih =>
      intro i H locs ls hir_i hP hD hS hl kx
      have hlt_i : i < q := by omega
      refine lv_iload_n hx hb d_T_init_36 rfl (lv_at hl 1 rfl) ?_
      refine lv_aload_n hx hb d_T_init_37 rfl (lv_at hl 0 rfl) ?_
      refine va_get (D := D) (ci := 2) (v := .ref q1) (C := R_T) (T := F_T) (N := 4) hx hb hts (fun w h => kS1 w (i_T w h)) hown hK hP 0 rfl rfl 0 (by decide) (hts _ (kS1 _ m_T_15)) (fun _ h9 => h9) rfl d_T_init_38 ?_
      refine va_alen (v := nI q) hx hb hK hP 1 0 rfl rfl rfl d_T_init_41 ?_
      refine lv_icmp_ge (tgt := 58) hx hb d_T_init_42 (by decide) (fun c_42' => absurd c_42' (nI_ge (b := q) hlt_i (by omega))) (fun c_42' => ?_)
      refine lv_aload_n hx hb d_T_init_45 rfl (lv_at hl 0 rfl) ?_
      refine va_get (D := D) (ci := 2) (v := .ref q1) (C := R_T) (T := F_T) (N := 4) hx hb hts (fun w h => kS1 w (i_T w h)) hown hK hP 0 rfl rfl 0 (by decide) (hts _ (kS1 _ m_T_15)) (fun _ h9 => h9) rfl d_T_init_46 ?_
      refine lv_iload_n hx hb d_T_init_49 rfl (lv_at hl 1 rfl) ?_
      refine lv_iconst (v := (-1)) hx hb d_T_init_50 (by decide) ?_
      refine va_iast (f := nf i) hx hb hK hP hD hS 1 0 rfl rfl (vp_in_nI hlt_i (by omega)) d_T_init_51 (fun H locs hP hD hS => ?_)
      rw [nI_clamp (n := i) (by omega)] at hP hD
      have hP := kw_P (show _ = [(h, .inr (2, [.ref q1, .int kd, .int 0, .int (-1)])), (q1, .inl (ty 0, q, .inl (upd (nf i) i (-1))))] from rfl) hP
      have hD := kw_D (show _ = [(h, .inr (2, [.ref q1, .int kd, .int 0, .int (-1)])), (q1, .inl (ty 0, q, .inl (upd (nf i) i (-1))))] from rfl) hD
      refine lv_iinc (v := nI i + 1) (lv' := [(3, .int (nI i + 1)), (0, .ref h)]) hx hb d_T_init_52 hl (k := 1) rfl rfl (by decide) rfl (fun ls hl => ?_)
      refine lv_goto (tgt := 36) hx hb d_T_init_55 (by decide) ?_
      have hl := lv_sub (l' := [(0, .ref h), (3, .int (nI i + 1))]) hl [1, 0] rfl
      have hqq9 : (.int (nI i + 1) : Value) = .int (nI (i + 1)) := by rw [nI_1]
      rw [hqq9] at hl
      have hE : ([(h, .inr (2, [.ref q1, .int kd, .int 0, .int (-1)])), (q1, .inl (ty 0, q, .inl (upd (nf i) i (-1))))] : va_W) = [(h, .inr (2, [.ref q1, .int kd, .int 0, .int (-1)])), (q1, .inl (ty 0, q, .inl (nf (i + 1))))] := by rw [nf_s]
      have hP := kw_P hE hP
      have hD := kw_D hE hD
      exact ih (i + 1) _ _ ls (by omega) hP hD hS hl kx
  have hl := lv_sub (l' := [(0, .ref h), (3, .int 0)]) hl [1, 0] rfl
  have hqq9 : (.int 0 : Value) = .int (nI 0) := by rw [nI_0]
  rw [hqq9] at hl
  refine L1 _ (q - 0) 0 _ _ ls (by omega) hP hD hS hl (fun H locs ls hP hD hS hl => ?_)
  refine W.widen (k := 1) (n := 12) (by omega) (by omega) ?_
  exact W.vret hx hb hr (fun t ht hW => ⟨⟨_, rfl, ⟨_, rfl⟩, by rw [ht]; exact hP, va_K.moved hW.alike hK, hD⟩, hS.F ht⟩) hS.2.2 d_T_init_58
set_option maxHeartbeats 4000000 in
set_option maxRecDepth 100000 in
/-- WillKeeper() -/
theorem c_K_init (l : Launch) (D : va_G) (ty : Nat → ClassId) (ad : Nat → Nat) (sz : Nat) (h : Nat) : Met l y_K_init w_K_init ({ frames := 2, cells := 9, slots := 1822, locals := 32 }) (va_Pc [.ref h] (fun U => kP D kCl (kTy ty) ([(h, .inr (0, [.null, .null, .null, .int 0, .int 0, .null, .null, .int 0, .int 0, .int 0, .int 0, .int 0]))]) sz U ∧ va_AO R_T U)) (va_Qv (fun u : va_W => ∃ q1 q2 q3 q4 q5 q6 q7 q8 q9 : Nat, u = [(h, .inr (0, [.ref q1, .ref q2, .ref q3, .int 0, .int 0, .ref q4, .ref q7, .int 0, .int 0, .int 0, .int 0, .int 0])), (q1, .inl (ty 2, 300, .inr (.inr (.inr (.inr (fun _ => none)))))), (q2, .inl (ty 0, 16, .inl (nf 16))), (q3, .inl (ty 0, 300, .inl (fun _ => 0))), (q4, .inr (1, [.ref q5, .ref q6, .int 0])), (q5, .inl (ty 1, 300, .inl (fun _ => 0))), (q6, .inl (ty 0, 300, .inl (fun _ => 0))), (q7, .inr (1, [.ref q8, .ref q9, .int 0])), (q8, .inl (ty 1, 300, .inl (fun _ => 0))), (q9, .inl (ty 0, 300, .inl (fun _ => 0)))]) (kB D kCl (kTy ty) (va_A ([(h, .inr (0, [.null, .null, .null, .int 0, .int 0, .null, .null, .int 0, .int 0, .int 0, .int 0, .int 0]))]) sz)) (va_A ([(h, .inr (0, [.null, .null, .null, .int 0, .int 0, .null, .null, .int 0, .int 0, .int 0, .int 0, .int 0]))]) sz)) 9 1822 (va_A ([(h, .inr (0, [.null, .null, .null, .int 0, .int 0, .null, .null, .int 0, .int 0, .int 0, .int 0, .int 0]))]) sz) := by
  refine Met.ofW (cc := b_K_init) (maxL := 2) (ret := none) (by decide) rfl ?_
  intro p e s m args below meth cd s₁ B hml hv
  obtain ⟨rfl, ⟨hsz, hP, hK, hD0⟩, hAO⟩ := hv
  have hx := B.exec
  have hb := B.bytes
  have hr := B.returns
  have hts := atoms_spec (ws := w_K_init) B.pre
  have hown : s.vm.findClass R_K = some m.cls := findClass_of_methodNamed B.named
  have hlocks := B.notSynchronized
  subst hsz
  have hD := hD0.self (sz := s.heap.size)
  generalize hAe : va_A ([(h, .inr (0, [.null, .null, .null, .int 0, .int 0, .null, .null, .int 0, .int 0, .int 0, .int 0, .int 0]))]) s.heap.size = A at hD ⊢
  have hA : ∀ q : Nat, s.heap.size ≤ q → A q := fun q h => by rw [← hAe]; exact Or.inr h
  have hS : va_S A s.heap s.heap [] := va_S.rf
  have hl := lv_entry ([.ref h]) (n := 2) (Nat.le_of_ble_eq_true rfl)
  rw [lg_entry_eq]
  generalize (lg_sl ([.ref h]) ++ List.replicate (2 - (lg_sl ([.ref h])).length) Slot.unset).toArray = ls at hl ⊢
  have hl : lv_has ls 2 [(0, .ref h)] := hl
  have hin : meth.name = "<init>" := (name_of_methodNamed B.named B.method).1
  refine lv_aload_n hx hb d_K_init_0 rfl (lv_at hl 0 rfl) ?_
  refine W.objInit hx hb hown (hts _ (kS1 _ m_K_1)) (hts _ (kS1 _ m_im_obj)) (hts _ (kS1 _ m_code_obj)) rfl (by rw [hml]; exact hl.1) rfl d_K_init_1 (Nat.le_of_ble_eq_true rfl) (Nat.le_of_ble_eq_true rfl) ?_
  refine W.eq (g2 := F0 m 4 ls []) rfl ?_
  refine lv_aload_n hx hb d_K_init_4 rfl (lv_at hl 0 rfl) ?_
  refine lv_sipush (v := 300) hx hb d_K_init_5 (by decide) ?_
  refine k_newq (N' := 300) hx hb hown (hts _ (kS1 _ m_K_9)) hAO hK hP hD hS hA 2 rfl (by decide) (by decide) (by decide) (Nat.le_of_ble_eq_true rfl) (Nat.le_of_ble_eq_true rfl) d_K_init_8 (fun q1 H hP hD hS => ?_)
  refine va_putF (D := D) (ci := 0) (v := .ref q1) (ty := .array (.object "WillKeeper$Thing")) (C := R_K) (T := F_K) (N := 12) hx hb hts (fun w h => kS1 w (i_K w h)) tt_K tt_K_ok n_K hown hK hP hD hS 0 rfl rfl 0 (by decide) (hts _ (kS1 _ m_K_11)) (fun _ h9 => h9) rfl hin rfl (by decide +kernel) rfl rfl (Nat.le_of_ble_eq_true rfl) d_K_init_11 (fun H locs hP hD hS => ?_)
  have hP := kw_P (show _ = [(h, .inr (0, [.ref q1, .null, .null, .int 0, .int 0, .null, .null, .int 0, .int 0, .int 0, .int 0, .int 0])), (q1, .inl (ty 2, 300, .inr (.inr (.inr (.inr (fun _ => none))))))] from rfl) hP
  have hD := kw_D (show _ = [(h, .inr (0, [.ref q1, .null, .null, .int 0, .int 0, .null, .null, .int 0, .int 0, .int 0, .int 0, .int 0])), (q1, .inl (ty 2, 300, .inr (.inr (.inr (.inr (fun _ => none))))))] from rfl) hD
  refine lv_aload_n hx hb d_K_init_14 rfl (lv_at hl 0 rfl) ?_
  refine lv_bipush (v := 16) hx hb d_K_init_15 (by decide) ?_
  refine k_newa (atype := .int) (a0 := (16, .inl (fun _ => 0))) (N' := 16) hx hb (hts _ (kS1 _ m_arr_int)) rfl hK hP hD hS hA 0 rfl (fun _ => rfl) (by decide) (by decide) (by decide) (Nat.le_of_ble_eq_true rfl) (Nat.le_of_ble_eq_true rfl) d_K_init_17 (fun q2 H hP hD hS => ?_)
  refine va_putF (D := D) (ci := 0) (v := .ref q2) (ty := .array (.int)) (C := R_K) (T := F_K) (N := 12) hx hb hts (fun w h => kS1 w (i_K w h)) tt_K tt_K_ok n_K hown hK hP hD hS 0 rfl rfl 1 (by decide) (hts _ (kS1 _ m_K_15)) (fun _ h9 => h9) rfl hin rfl (by decide +kernel) rfl rfl (Nat.le_of_ble_eq_true rfl) d_K_init_19 (fun H locs hP hD hS => ?_)
  have hP := kw_P (show _ = [(h, .inr (0, [.ref q1, .ref q2, .null, .int 0, .int 0, .null, .null, .int 0, .int 0, .int 0, .int 0, .int 0])), (q1, .inl (ty 2, 300, .inr (.inr (.inr (.inr (fun _ => none)))))), (q2, .inl (ty 0, 16, .inl (fun _ => 0)))] from rfl) hP
  have hD := kw_D (show _ = [(h, .inr (0, [.ref q1, .ref q2, .null, .int 0, .int 0, .null, .null, .int 0, .int 0, .int 0, .int 0, .int 0])), (q1, .inl (ty 2, 300, .inr (.inr (.inr (.inr (fun _ => none)))))), (q2, .inl (ty 0, 16, .inl (fun _ => 0)))] from rfl) hD
  refine lv_iconst (v := 0) hx hb d_K_init_22 (by decide) ?_
  refine lv_istore_n (lv' := [(1, .int 0), (0, .ref h)]) hx hb d_K_init_23 rfl hl (by decide) rfl (fun ls hl => ?_)
  have L1 : ∀ (Q : State → Prop) (rem i : Nat) (H : Heap) (locs : List Loc) (ls : Array Slot), i + rem = 16 → va_P D kCl ([(h, .inr (0, [.ref q1, .ref q2, .null, .int 0, .int 0, .null, .null, .int 0, .int 0, .int 0, .int 0, .int 0])), (q1, .inl (ty 2, 300, .inr (.inr (.inr (.inr (fun _ => none)))))), (q2, .inl (ty 0, 16, .inl (nf i)))]) H → va_D A ([(h, .inr (0, [.ref q1, .ref q2, .null, .int 0, .int 0, .null, .null, .int 0, .int 0, .int 0, .int 0, .int 0])), (q1, .inl (ty 2, 300, .inr (.inr (.inr (.inr (fun _ => none)))))), (q2, .inl (ty 0, 16, .inl (nf i)))]) → va_S A s.heap H locs → lv_has ls 2 [(0, .ref h), (1, .int (nI i))] → (∀ (H : Heap) (locs : List Loc) (ls : Array Slot), va_P D kCl ([(h, .inr (0, [.ref q1, .ref q2, .null, .int 0, .int 0, .null, .null, .int 0, .int 0, .int 0, .int 0, .int 0])), (q1, .inl (ty 2, 300, .inr (.inr (.inr (.inr (fun _ => none)))))), (q2, .inl (ty 0, 16, .inl (nf 16)))]) H → va_D A ([(h, .inr (0, [.ref q1, .ref q2, .null, .int 0, .int 0, .null, .null, .int 0, .int 0, .int 0, .int 0, .int 0])), (q1, .inl (ty 2, 300, .inr (.inr (.inr (.inr (fun _ => none)))))), (q2, .inl (ty 0, 16, .inl (nf 16)))]) → va_S A s.heap H locs → lv_has ls 2 [(0, .ref h)] → W p l e (headSpec w_K_init ({ frames := 2, cells := 9, slots := 1822, locals := 32 })).room s m ([.ref h] : List Value).toArray below meth cd H locs 2 316 Q (F0 m 46 ls [])) → W p l e (headSpec w_K_init ({ frames := 2, cells := 9, slots := 1822, locals := 32 })).room s m ([.ref h] : List Value).toArray below meth cd H locs 2 316 Q (F0 m 24 ls []) := by
    intro Q rem
    induction rem with
    | zero =>
      intro i H locs ls hir_i hP hD hS hl kx
      obtain rfl : 16 = i := by omega
      refine lv_iload_n hx hb d_K_init_24 rfl (lv_at hl 1 rfl) ?_
      refine lv_aload_n hx hb d_K_init_25 rfl (lv_at hl 0 rfl) ?_
      refine va_get (D := D) (ci := 0) (v := .ref q2) (C := R_K) (T := F_K) (N := 12) hx hb hts (fun w h => kS1 w (i_K w h)) hown hK hP 0 rfl rfl 1 (by decide) (hts _ (kS1 _ m_K_15)) (fun _ h9 => h9) rfl d_K_init_26 ?_
      refine va_alen (v := 16) hx hb hK hP 2 0 rfl rfl rfl d_K_init_29 ?_
      refine lv_icmp_ge (tgt := 46) hx hb d_K_init_30 (by decide) (fun c_30' => ?_) (fun c_30' => absurd (nI_le (a := 16) (b := 16) (Nat.le_refl _) (by omega)) c_30')
      have hl := lv_sub (l' := [(0, .ref h)]) hl [0] rfl
      exact kx _ _ ls hP hD hS hl
    | succ rem ih =>
      intro i H locs ls hir_i hP hD hS hl kx
      have hlt_i : i < 16 := by omega
      refine lv_iload_n hx hb d_K_init_24 rfl (lv_at hl 1 rfl) ?_
      refine lv_aload_n hx hb d_K_init_25 rfl (lv_at hl 0 rfl) ?_
      refine va_get (D := D) (ci := 0) (v := .ref q2) (C := R_K) (T := F_K) (N := 12) hx hb hts (fun w h => kS1 w (i_K w h)) hown hK hP 0 rfl rfl 1 (by decide) (hts _ (kS1 _ m_K_15)) (fun _ h9 => h9) rfl d_K_init_26 ?_
      refine va_alen (v := 16) hx hb hK hP 2 0 rfl rfl rfl d_K_init_29 ?_
      refine lv_icmp_ge (tgt := 46) hx hb d_K_init_30 (by decide) (fun c_30' => absurd c_30' (nI_ge (b := 16) hlt_i (by omega))) (fun c_30' => ?_)
      refine lv_aload_n hx hb d_K_init_33 rfl (lv_at hl 0 rfl) ?_
      refine va_get (D := D) (ci := 0) (v := .ref q2) (C := R_K) (T := F_K) (N := 12) hx hb hts (fun w h => kS1 w (i_K w h)) hown hK hP 0 rfl rfl 1 (by decide) (hts _ (kS1 _ m_K_15)) (fun _ h9 => h9) rfl d_K_init_34 ?_
      refine lv_iload_n hx hb d_K_init_37 rfl (lv_at hl 1 rfl) ?_
      refine lv_iconst (v := (-1)) hx hb d_K_init_38 (by decide) ?_
      refine va_iast (f := nf i) hx hb hK hP hD hS 2 0 rfl rfl (vp_in_nI hlt_i (by omega)) d_K_init_39 (fun H locs hP hD hS => ?_)
      rw [nI_clamp (n := i) (by omega)] at hP hD
      have hP := kw_P (show _ = [(h, .inr (0, [.ref q1, .ref q2, .null, .int 0, .int 0, .null, .null, .int 0, .int 0, .int 0, .int 0, .int 0])), (q1, .inl (ty 2, 300, .inr (.inr (.inr (.inr (fun _ => none)))))), (q2, .inl (ty 0, 16, .inl (upd (nf i) i (-1))))] from rfl) hP
      have hD := kw_D (show _ = [(h, .inr (0, [.ref q1, .ref q2, .null, .int 0, .int 0, .null, .null, .int 0, .int 0, .int 0, .int 0, .int 0])), (q1, .inl (ty 2, 300, .inr (.inr (.inr (.inr (fun _ => none)))))), (q2, .inl (ty 0, 16, .inl (upd (nf i) i (-1))))] from rfl) hD
      refine lv_iinc (v := nI i + 1) (lv' := [(1, .int (nI i + 1)), (0, .ref h)]) hx hb d_K_init_40 hl (k := 1) rfl rfl (by decide) rfl (fun ls hl => ?_)
      refine lv_goto (tgt := 24) hx hb d_K_init_43 (by decide) ?_
      have hl := lv_sub (l' := [(0, .ref h), (1, .int (nI i + 1))]) hl [1, 0] rfl
      have hqq9 : (.int (nI i + 1) : Value) = .int (nI (i + 1)) := by rw [nI_1]
      rw [hqq9] at hl
      have hE : ([(h, .inr (0, [.ref q1, .ref q2, .null, .int 0, .int 0, .null, .null, .int 0, .int 0, .int 0, .int 0, .int 0])), (q1, .inl (ty 2, 300, .inr (.inr (.inr (.inr (fun _ => none)))))), (q2, .inl (ty 0, 16, .inl (upd (nf i) i (-1))))] : va_W) = [(h, .inr (0, [.ref q1, .ref q2, .null, .int 0, .int 0, .null, .null, .int 0, .int 0, .int 0, .int 0, .int 0])), (q1, .inl (ty 2, 300, .inr (.inr (.inr (.inr (fun _ => none)))))), (q2, .inl (ty 0, 16, .inl (nf (i + 1))))] := by rw [nf_s]
      have hP := kw_P hE hP
      have hD := kw_D hE hD
      exact ih (i + 1) _ _ ls (by omega) hP hD hS hl kx
  have hl := lv_sub (l' := [(0, .ref h), (1, .int 0)]) hl [1, 0] rfl
  have hqq9 : (.int 0 : Value) = .int (nI 0) := by rw [nI_0]
  rw [hqq9] at hl
  refine L1 _ (16 - 0) 0 _ _ ls (by omega) hP hD hS hl (fun H locs ls hP hD hS hl => ?_)
  refine lv_aload_n hx hb d_K_init_46 rfl (lv_at hl 0 rfl) ?_
  refine lv_sipush (v := 300) hx hb d_K_init_47 (by decide) ?_
  refine k_newa (atype := .int) (a0 := (300, .inl (fun _ => 0))) (N' := 300) hx hb (hts _ (kS1 _ m_arr_int)) rfl hK hP hD hS hA 0 rfl (fun _ => rfl) (by decide) (by decide) (by decide) (Nat.le_of_ble_eq_true rfl) (Nat.le_of_ble_eq_true rfl) d_K_init_50 (fun q3 H hP hD hS => ?_)
  refine va_putF (D := D) (ci := 0) (v := .ref q3) (ty := .array (.int)) (C := R_K) (T := F_K) (N := 12) hx hb hts (fun w h => kS1 w (i_K w h)) tt_K tt_K_ok n_K hown hK hP hD hS 0 rfl rfl 2 (by decide) (hts _ (kS1 _ m_K_19)) (fun _ h9 => h9) rfl hin rfl (by decide +kernel) rfl rfl (Nat.le_of_ble_eq_true rfl) d_K_init_52 (fun H locs hP hD hS => ?_)
  have hP := kw_P (show _ = [(h, .inr (0, [.ref q1, .ref q2, .ref q3, .int 0, .int 0, .null, .null, .int 0, .int 0, .int 0, .int 0, .int 0])), (q1, .inl (ty 2, 300, .inr (.inr (.inr (.inr (fun _ => none)))))), (q2, .inl (ty 0, 16, .inl (nf 16))), (q3, .inl (ty 0, 300, .inl (fun _ => 0)))] from rfl) hP
  have hD := kw_D (show _ = [(h, .inr (0, [.ref q1, .ref q2, .ref q3, .int 0, .int 0, .null, .null, .int 0, .int 0, .int 0, .int 0, .int 0])), (q1, .inl (ty 2, 300, .inr (.inr (.inr (.inr (fun _ => none)))))), (q2, .inl (ty 0, 16, .inl (nf 16))), (q3, .inl (ty 0, 300, .inl (fun _ => 0)))] from rfl) hD
  refine lv_aload_n hx hb d_K_init_55 rfl (lv_at hl 0 rfl) ?_
  refine va_new (ci := 1) (fs := [.null, .null, .int 0]) (C := R_S) (T := F_S) (N := 3) hx hb hts (fun w h => kS1 w (i_S w h)) tt_S tt_S_ok hown (hts _ (kS1 _ m_K_22)) (hts _ (kS1 _ m_ins_S)) (hts _ (kS1 _ m_ini_S)) hK hP hD hS hA rfl (fun j hj => by rcases (show j = 0 ∨ j = 1 ∨ j = 2 by omega) with rfl | rfl | rfl <;> rfl) (Nat.le_of_ble_eq_true rfl) (Nat.le_of_ble_eq_true rfl) d_K_init_56 (fun q4 H hP hD hS => ?_)
  refine lv_dup hx hb d_K_init_59 rfl ?_
  have hPx := hP.sub (ws' := [(q4, .inr (1, [.null, .null, .int 0]))]) [4] rfl
  have hDx := hD.sub (ws' := [(q4, .inr (1, [.null, .null, .int 0]))]) [4] (by decide) rfl
  refine k_ctor (ws := [(h, .inr (0, [.ref q1, .ref q2, .ref q3, .int 0, .int 0, .null, .null, .int 0, .int 0, .int 0, .int 0, .int 0])), (q1, .inl (ty 2, 300, .inr (.inr (.inr (.inr (fun _ => none)))))), (q2, .inl (ty 0, 16, .inl (nf 16))), (q3, .inl (ty 0, 300, .inl (fun _ => 0)))]) (x := (q4, .inr (1, [.null, .null, .int 0]))) (va_runI (As := []) (rest := [.ref q4, .ref h]) ⟨hx, hb, hml, hown, hts⟩ (c_S_init l D ty ad _ q4) (cwI 0 hts (kG kS1 m_code_S_init) rfl rfl rfl (hts _ (kS1 _ m_ini_S)) (hts _ (kS1 _ m_K_24)) (hts _ (kS1 _ m_im_S_init)) rfl (by decide +kernel) ⟨Nat.le_of_ble_eq_true rfl, Nat.le_of_ble_eq_true rfl⟩) ⟨kP_blind, fun U hU hW => ⟨rfl, kP_at hK hPx hDx U hU hW⟩⟩ rfl rfl hl.1 rfl (lv_room (Nat.le_of_ble_eq_true rfl)) d_K_init_60 ⟨Nat.le_of_ble_eq_true rfl, Nat.le_of_ble_eq_true rfl⟩) hP hD hS hA (fun u H locs hu hP hD hS hz => ?_)
  obtain ⟨q5, q6, rfl⟩ := hu
  have hP : va_P D kCl [(h, .inr (0, [.ref q1, .ref q2, .ref q3, .int 0, .int 0, .null, .null, .int 0, .int 0, .int 0, .int 0, .int 0])), (q1, .inl (ty 2, 300, .inr (.inr (.inr (.inr (fun _ => none)))))), (q2, .inl (ty 0, 16, .inl (nf 16))), (q3, .inl (ty 0, 300, .inl (fun _ => 0))), (q4, .inr (1, [.ref q5, .ref q6, .int 0])), (q5, .inl (ty 1, 300, .inl (fun _ => 0))), (q6, .inl (ty 0, 300, .inl (fun _ => 0)))] H := hP
  have hD : va_D A [(h, .inr (0, [.ref q1, .ref q2, .ref q3, .int 0, .int 0, .null, .null, .int 0, .int 0, .int 0, .int 0, .int 0])), (q1, .inl (ty 2, 300, .inr (.inr (.inr (.inr (fun _ => none)))))), (q2, .inl (ty 0, 16, .inl (nf 16))), (q3, .inl (ty 0, 300, .inl (fun _ => 0))), (q4, .inr (1, [.ref q5, .ref q6, .int 0])), (q5, .inl (ty 1, 300, .inl (fun _ => 0))), (q6, .inl (ty 0, 300, .inl (fun _ => 0)))] := hD
  refine va_putF (D := D) (ci := 0) (v := .ref q4) (ty := .object "WillKeeper$Search") (C := R_K) (T := F_K) (N := 12) hx hb hts (fun w h => kS1 w (i_K w h)) tt_K tt_K_ok n_K hown hK hP hD hS 0 rfl rfl 5 (by decide) (hts _ (kS1 _ m_K_25)) (fun _ h9 => h9) rfl hin rfl (by decide +kernel) rfl rfl (Nat.le_of_ble_eq_true rfl) d_K_init_63 (fun H locs hP hD hS => ?_)
  have hP := kw_P (show _ = [(h, .inr (0, [.ref q1, .ref q2, .ref q3, .int 0, .int 0, .ref q4, .null, .int 0, .int 0, .int 0, .int 0, .int 0])), (q1, .inl (ty 2, 300, .inr (.inr (.inr (.inr (fun _ => none)))))), (q2, .inl (ty 0, 16, .inl (nf 16))), (q3, .inl (ty 0, 300, .inl (fun _ => 0))), (q4, .inr (1, [.ref q5, .ref q6, .int 0])), (q5, .inl (ty 1, 300, .inl (fun _ => 0))), (q6, .inl (ty 0, 300, .inl (fun _ => 0)))] from rfl) hP
  have hD := kw_D (show _ = [(h, .inr (0, [.ref q1, .ref q2, .ref q3, .int 0, .int 0, .ref q4, .null, .int 0, .int 0, .int 0, .int 0, .int 0])), (q1, .inl (ty 2, 300, .inr (.inr (.inr (.inr (fun _ => none)))))), (q2, .inl (ty 0, 16, .inl (nf 16))), (q3, .inl (ty 0, 300, .inl (fun _ => 0))), (q4, .inr (1, [.ref q5, .ref q6, .int 0])), (q5, .inl (ty 1, 300, .inl (fun _ => 0))), (q6, .inl (ty 0, 300, .inl (fun _ => 0)))] from rfl) hD
  refine lv_aload_n hx hb d_K_init_66 rfl (lv_at hl 0 rfl) ?_
  refine va_new (ci := 1) (fs := [.null, .null, .int 0]) (C := R_S) (T := F_S) (N := 3) hx hb hts (fun w h => kS1 w (i_S w h)) tt_S tt_S_ok hown (hts _ (kS1 _ m_K_22)) (hts _ (kS1 _ m_ins_S)) (hts _ (kS1 _ m_ini_S)) hK hP hD hS hA rfl (fun j hj => by rcases (show j = 0 ∨ j = 1 ∨ j = 2 by omega) with rfl | rfl | rfl <;> rfl) (Nat.le_of_ble_eq_true rfl) (Nat.le_of_ble_eq_true rfl) d_K_init_67 (fun q7 H hP hD hS => ?_)
  refine lv_dup hx hb d_K_init_70 rfl ?_
  have hPx := hP.sub (ws' := [(q7, .inr (1, [.null, .null, .int 0]))]) [7] rfl
  have hDx := hD.sub (ws' := [(q7, .inr (1, [.null, .null, .int 0]))]) [7] (by decide) rfl
  refine k_ctor (ws := [(h, .inr (0, [.ref q1, .ref q2, .ref q3, .int 0, .int 0, .ref q4, .null, .int 0, .int 0, .int 0, .int 0, .int 0])), (q1, .inl (ty 2, 300, .inr (.inr (.inr (.inr (fun _ => none)))))), (q2, .inl (ty 0, 16, .inl (nf 16))), (q3, .inl (ty 0, 300, .inl (fun _ => 0))), (q4, .inr (1, [.ref q5, .ref q6, .int 0])), (q5, .inl (ty 1, 300, .inl (fun _ => 0))), (q6, .inl (ty 0, 300, .inl (fun _ => 0)))]) (x := (q7, .inr (1, [.null, .null, .int 0]))) (va_runI (As := []) (rest := [.ref q7, .ref h]) ⟨hx, hb, hml, hown, hts⟩ (c_S_init l D ty ad _ q7) (cwI 0 hts (kG kS1 m_code_S_init) rfl rfl rfl (hts _ (kS1 _ m_ini_S)) (hts _ (kS1 _ m_K_24)) (hts _ (kS1 _ m_im_S_init)) rfl (by decide +kernel) ⟨Nat.le_of_ble_eq_true rfl, Nat.le_of_ble_eq_true rfl⟩) ⟨kP_blind, fun U hU hW => ⟨rfl, kP_at hK hPx hDx U hU hW⟩⟩ rfl rfl hl.1 rfl (lv_room (Nat.le_of_ble_eq_true rfl)) d_K_init_71 ⟨Nat.le_of_ble_eq_true rfl, Nat.le_of_ble_eq_true rfl⟩) hP hD hS hA (fun u H locs hu hP hD hS hz => ?_)
  obtain ⟨q8, q9, rfl⟩ := hu
  have hP : va_P D kCl [(h, .inr (0, [.ref q1, .ref q2, .ref q3, .int 0, .int 0, .ref q4, .null, .int 0, .int 0, .int 0, .int 0, .int 0])), (q1, .inl (ty 2, 300, .inr (.inr (.inr (.inr (fun _ => none)))))), (q2, .inl (ty 0, 16, .inl (nf 16))), (q3, .inl (ty 0, 300, .inl (fun _ => 0))), (q4, .inr (1, [.ref q5, .ref q6, .int 0])), (q5, .inl (ty 1, 300, .inl (fun _ => 0))), (q6, .inl (ty 0, 300, .inl (fun _ => 0))), (q7, .inr (1, [.ref q8, .ref q9, .int 0])), (q8, .inl (ty 1, 300, .inl (fun _ => 0))), (q9, .inl (ty 0, 300, .inl (fun _ => 0)))] H := hP
  have hD : va_D A [(h, .inr (0, [.ref q1, .ref q2, .ref q3, .int 0, .int 0, .ref q4, .null, .int 0, .int 0, .int 0, .int 0, .int 0])), (q1, .inl (ty 2, 300, .inr (.inr (.inr (.inr (fun _ => none)))))), (q2, .inl (ty 0, 16, .inl (nf 16))), (q3, .inl (ty 0, 300, .inl (fun _ => 0))), (q4, .inr (1, [.ref q5, .ref q6, .int 0])), (q5, .inl (ty 1, 300, .inl (fun _ => 0))), (q6, .inl (ty 0, 300, .inl (fun _ => 0))), (q7, .inr (1, [.ref q8, .ref q9, .int 0])), (q8, .inl (ty 1, 300, .inl (fun _ => 0))), (q9, .inl (ty 0, 300, .inl (fun _ => 0)))] := hD
  refine va_putF (D := D) (ci := 0) (v := .ref q7) (ty := .object "WillKeeper$Search") (C := R_K) (T := F_K) (N := 12) hx hb hts (fun w h => kS1 w (i_K w h)) tt_K tt_K_ok n_K hown hK hP hD hS 0 rfl rfl 6 (by decide) (hts _ (kS1 _ m_K_29)) (fun _ h9 => h9) rfl hin rfl (by decide +kernel) rfl rfl (Nat.le_of_ble_eq_true rfl) d_K_init_74 (fun H locs hP hD hS => ?_)
  have hP := kw_P (show _ = [(h, .inr (0, [.ref q1, .ref q2, .ref q3, .int 0, .int 0, .ref q4, .ref q7, .int 0, .int 0, .int 0, .int 0, .int 0])), (q1, .inl (ty 2, 300, .inr (.inr (.inr (.inr (fun _ => none)))))), (q2, .inl (ty 0, 16, .inl (nf 16))), (q3, .inl (ty 0, 300, .inl (fun _ => 0))), (q4, .inr (1, [.ref q5, .ref q6, .int 0])), (q5, .inl (ty 1, 300, .inl (fun _ => 0))), (q6, .inl (ty 0, 300, .inl (fun _ => 0))), (q7, .inr (1, [.ref q8, .ref q9, .int 0])), (q8, .inl (ty 1, 300, .inl (fun _ => 0))), (q9, .inl (ty 0, 300, .inl (fun _ => 0)))] from rfl) hP
  have hD := kw_D (show _ = [(h, .inr (0, [.ref q1, .ref q2, .ref q3, .int 0, .int 0, .ref q4, .ref q7, .int 0, .int 0, .int 0, .int 0, .int 0])), (q1, .inl (ty 2, 300, .inr (.inr (.inr (.inr (fun _ => none)))))), (q2, .inl (ty 0, 16, .inl (nf 16))), (q3, .inl (ty 0, 300, .inl (fun _ => 0))), (q4, .inr (1, [.ref q5, .ref q6, .int 0])), (q5, .inl (ty 1, 300, .inl (fun _ => 0))), (q6, .inl (ty 0, 300, .inl (fun _ => 0))), (q7, .inr (1, [.ref q8, .ref q9, .int 0])), (q8, .inl (ty 1, 300, .inl (fun _ => 0))), (q9, .inl (ty 0, 300, .inl (fun _ => 0)))] from rfl) hD
  exact W.vret hx hb hr (fun t ht hW => ⟨⟨_, rfl, ⟨_, _, _, _, _, _, _, _, _, rfl⟩, by rw [ht]; exact hP, va_K.moved hW.alike hK, hD⟩, hS.F ht⟩) hS.2.2 d_K_init_77
set_option maxHeartbeats 4000000 in
set_option maxRecDepth 100000 in
/-- WillKeeperModel() -/
theorem c_M_init (l : Launch) (D : va_G) (ty : Nat → ClassId) (ad : Nat → Nat) (sz : Nat) (h : Nat) : Met l y_M_init w_M_init ({ frames := 1, cells := 10, slots := 6016, locals := 12 }) (va_Pc [.ref h] (kP D kCl (kTy ty) ([(h, .inr (3, [.int 0, .int 0, .null, .null, .null, .null, .null, .null, .null, .int 0, .null, .int 0, .int 0, .int 0, .null, .null]))]) sz)) (va_Qv (fun u : va_W => ∃ q1 q2 q3 q4 q5 q6 q7 q8 q9 q10 : Nat, u = [(h, .inr (3, [.int 0, .int 0, .ref q1, .ref q2, .ref q3, .ref q4, .ref q5, .ref q6, .ref q7, .int 0, .ref q8, .int 0, .int 0, .int 0, .ref q9, .ref q10])), (q1, .inl (ty 1, 300, .inl (fun _ => 0))), (q2, .inl (ty 0, 300, .inl (fun _ => 0))), (q3, .inl (ty 0, 300, .inl (fun _ => 0))), (q4, .inl (ty 0, 3600, .inl (fun _ => 0))), (q5, .inl (ty 0, 300, .inl (fun _ => 0))), (q6, .inl (ty 1, 300, .inl (fun _ => 0))), (q7, .inl (ty 0, 16, .inl (fun _ => 0))), (q8, .inl (ty 0, 300, .inl (fun _ => 0))), (q9, .inl (ty 1, 300, .inl (fun _ => 0))), (q10, .inl (ty 1, 300, .inl (fun _ => 0)))]) (kB D kCl (kTy ty) (va_A ([(h, .inr (3, [.int 0, .int 0, .null, .null, .null, .null, .null, .null, .null, .int 0, .null, .int 0, .int 0, .int 0, .null, .null]))]) sz)) (va_A ([(h, .inr (3, [.int 0, .int 0, .null, .null, .null, .null, .null, .null, .null, .int 0, .null, .int 0, .int 0, .int 0, .null, .null]))]) sz)) 10 6016 (va_A ([(h, .inr (3, [.int 0, .int 0, .null, .null, .null, .null, .null, .null, .null, .int 0, .null, .int 0, .int 0, .int 0, .null, .null]))]) sz) := by
  refine Met.ofW (cc := b_M_init) (maxL := 1) (ret := none) (by decide) rfl ?_
  intro p e s m args below meth cd s₁ B hml hv
  obtain ⟨rfl, hsz, hP, hK, hD0⟩ := hv
  have hx := B.exec
  have hb := B.bytes
  have hr := B.returns
  have hts := atoms_spec (ws := w_M_init) B.pre
  have hown : s.vm.findClass R_M = some m.cls := findClass_of_methodNamed B.named
  have hlocks := B.notSynchronized
  subst hsz
  have hD := hD0.self (sz := s.heap.size)
  generalize hAe : va_A ([(h, .inr (3, [.int 0, .int 0, .null, .null, .null, .null, .null, .null, .null, .int 0, .null, .int 0, .int 0, .int 0, .null, .null]))]) s.heap.size = A at hD ⊢
  have hA : ∀ q : Nat, s.heap.size ≤ q → A q := fun q h => by rw [← hAe]; exact Or.inr h
  have hS : va_S A s.heap s.heap [] := va_S.rf
  have hl := lv_entry ([.ref h]) (n := 1) (Nat.le_of_ble_eq_true rfl)
  rw [lg_entry_eq]
  generalize (lg_sl ([.ref h]) ++ List.replicate (1 - (lg_sl ([.ref h])).length) Slot.unset).toArray = ls at hl ⊢
  have hl : lv_has ls 1 [(0, .ref h)] := hl
  have hin : meth.name = "<init>" := (name_of_methodNamed B.named B.method).1
  refine lv_aload_n hx hb d_M_init_0 rfl (lv_at hl 0 rfl) ?_
  refine W.objInit hx hb hown (hts _ (kS1 _ m_M_1)) (hts _ (kS1 _ m_im_obj)) (hts _ (kS1 _ m_code_obj)) rfl (by rw [hml]; exact hl.1) rfl d_M_init_1 (Nat.le_of_ble_eq_true rfl) (Nat.le_of_ble_eq_true rfl) ?_
  refine W.eq (g2 := F0 m 4 ls []) rfl ?_
  refine lv_aload_n hx hb d_M_init_4 rfl (lv_at hl 0 rfl) ?_
  refine lv_sipush (v := 300) hx hb d_M_init_5 (by decide) ?_
  refine k_newa (atype := .boolean) (a0 := (300, .inl (fun _ => 0))) (N' := 300) hx hb (hts _ (kS1 _ m_arr_boolean)) rfl hK hP hD hS hA 1 rfl (fun _ => rfl) (by decide) (by decide) (by decide) (Nat.le_of_ble_eq_true rfl) (Nat.le_of_ble_eq_true rfl) d_M_init_8 (fun q1 H hP hD hS => ?_)
  refine va_putF (D := D) (ci := 3) (v := .ref q1) (ty := .array (.boolean)) (C := R_M) (T := F_M) (N := 16) hx hb hts (fun w h => kS1 w (i_M w h)) tt_M tt_M_ok n_M hown hK hP hD hS 0 rfl rfl 2 (by decide) (hts _ (kS1 _ m_M_7)) (fun _ h9 => h9) rfl hin rfl (by decide +kernel) rfl rfl (Nat.le_of_ble_eq_true rfl) d_M_init_10 (fun H locs hP hD hS => ?_)
  have hP := kw_P (show _ = [(h, .inr (3, [.int 0, .int 0, .ref q1, .null, .null, .null, .null, .null, .null, .int 0, .null, .int 0, .int 0, .int 0, .null, .null])), (q1, .inl (ty 1, 300, .inl (fun _ => 0)))] from rfl) hP
  have hD := kw_D (show _ = [(h, .inr (3, [.int 0, .int 0, .ref q1, .null, .null, .null, .null, .null, .null, .int 0, .null, .int 0, .int 0, .int 0, .null, .null])), (q1, .inl (ty 1, 300, .inl (fun _ => 0)))] from rfl) hD
  refine lv_aload_n hx hb d_M_init_13 rfl (lv_at hl 0 rfl) ?_
  refine lv_sipush (v := 300) hx hb d_M_init_14 (by decide) ?_
  refine k_newa (atype := .int) (a0 := (300, .inl (fun _ => 0))) (N' := 300) hx hb (hts _ (kS1 _ m_arr_int)) rfl hK hP hD hS hA 0 rfl (fun _ => rfl) (by decide) (by decide) (by decide) (Nat.le_of_ble_eq_true rfl) (Nat.le_of_ble_eq_true rfl) d_M_init_17 (fun q2 H hP hD hS => ?_)
  refine va_putF (D := D) (ci := 3) (v := .ref q2) (ty := .array (.int)) (C := R_M) (T := F_M) (N := 16) hx hb hts (fun w h => kS1 w (i_M w h)) tt_M tt_M_ok n_M hown hK hP hD hS 0 rfl rfl 3 (by decide) (hts _ (kS1 _ m_M_13)) (fun _ h9 => h9) rfl hin rfl (by decide +kernel) rfl rfl (Nat.le_of_ble_eq_true rfl) d_M_init_19 (fun H locs hP hD hS => ?_)
  have hP := kw_P (show _ = [(h, .inr (3, [.int 0, .int 0, .ref q1, .ref q2, .null, .null, .null, .null, .null, .int 0, .null, .int 0, .int 0, .int 0, .null, .null])), (q1, .inl (ty 1, 300, .inl (fun _ => 0))), (q2, .inl (ty 0, 300, .inl (fun _ => 0)))] from rfl) hP
  have hD := kw_D (show _ = [(h, .inr (3, [.int 0, .int 0, .ref q1, .ref q2, .null, .null, .null, .null, .null, .int 0, .null, .int 0, .int 0, .int 0, .null, .null])), (q1, .inl (ty 1, 300, .inl (fun _ => 0))), (q2, .inl (ty 0, 300, .inl (fun _ => 0)))] from rfl) hD
  refine lv_aload_n hx hb d_M_init_22 rfl (lv_at hl 0 rfl) ?_
  refine lv_sipush (v := 300) hx hb d_M_init_23 (by decide) ?_
  refine k_newa (atype := .int) (a0 := (300, .inl (fun _ => 0))) (N' := 300) hx hb (hts _ (kS1 _ m_arr_int)) rfl hK hP hD hS hA 0 rfl (fun _ => rfl) (by decide) (by decide) (by decide) (Nat.le_of_ble_eq_true rfl) (Nat.le_of_ble_eq_true rfl) d_M_init_26 (fun q3 H hP hD hS => ?_)
  refine va_putF (D := D) (ci := 3) (v := .ref q3) (ty := .array (.int)) (C := R_M) (T := F_M) (N := 16) hx hb hts (fun w h => kS1 w (i_M w h)) tt_M tt_M_ok n_M hown hK hP hD hS 0 rfl rfl 4 (by decide) (hts _ (kS1 _ m_M_17)) (fun _ h9 => h9) rfl hin rfl (by decide +kernel) rfl rfl (Nat.le_of_ble_eq_true rfl) d_M_init_28 (fun H locs hP hD hS => ?_)
  have hP := kw_P (show _ = [(h, .inr (3, [.int 0, .int 0, .ref q1, .ref q2, .ref q3, .null, .null, .null, .null, .int 0, .null, .int 0, .int 0, .int 0, .null, .null])), (q1, .inl (ty 1, 300, .inl (fun _ => 0))), (q2, .inl (ty 0, 300, .inl (fun _ => 0))), (q3, .inl (ty 0, 300, .inl (fun _ => 0)))] from rfl) hP
  have hD := kw_D (show _ = [(h, .inr (3, [.int 0, .int 0, .ref q1, .ref q2, .ref q3, .null, .null, .null, .null, .int 0, .null, .int 0, .int 0, .int 0, .null, .null])), (q1, .inl (ty 1, 300, .inl (fun _ => 0))), (q2, .inl (ty 0, 300, .inl (fun _ => 0))), (q3, .inl (ty 0, 300, .inl (fun _ => 0)))] from rfl) hD
  refine lv_aload_n hx hb d_M_init_31 rfl (lv_at hl 0 rfl) ?_
  refine lv_sipush (v := 3600) hx hb d_M_init_32 (by decide) ?_
  refine k_newa (atype := .int) (a0 := (3600, .inl (fun _ => 0))) (N' := 3600) hx hb (hts _ (kS1 _ m_arr_int)) rfl hK hP hD hS hA 0 rfl (fun _ => rfl) (by decide) (by decide) (by decide) (Nat.le_of_ble_eq_true rfl) (Nat.le_of_ble_eq_true rfl) d_M_init_35 (fun q4 H hP hD hS => ?_)
  refine va_putF (D := D) (ci := 3) (v := .ref q4) (ty := .array (.int)) (C := R_M) (T := F_M) (N := 16) hx hb hts (fun w h => kS1 w (i_M w h)) tt_M tt_M_ok n_M hown hK hP hD hS 0 rfl rfl 5 (by decide) (hts _ (kS1 _ m_M_20)) (fun _ h9 => h9) rfl hin rfl (by decide +kernel) rfl rfl (Nat.le_of_ble_eq_true rfl) d_M_init_37 (fun H locs hP hD hS => ?_)
  have hP := kw_P (show _ = [(h, .inr (3, [.int 0, .int 0, .ref q1, .ref q2, .ref q3, .ref q4, .null, .null, .null, .int 0, .null, .int 0, .int 0, .int 0, .null, .null])), (q1, .inl (ty 1, 300, .inl (fun _ => 0))), (q2, .inl (ty 0, 300, .inl (fun _ => 0))), (q3, .inl (ty 0, 300, .inl (fun _ => 0))), (q4, .inl (ty 0, 3600, .inl (fun _ => 0)))] from rfl) hP
  have hD := kw_D (show _ = [(h, .inr (3, [.int 0, .int 0, .ref q1, .ref q2, .ref q3, .ref q4, .null, .null, .null, .int 0, .null, .int 0, .int 0, .int 0, .null, .null])), (q1, .inl (ty 1, 300, .inl (fun _ => 0))), (q2, .inl (ty 0, 300, .inl (fun _ => 0))), (q3, .inl (ty 0, 300, .inl (fun _ => 0))), (q4, .inl (ty 0, 3600, .inl (fun _ => 0)))] from rfl) hD
  refine lv_aload_n hx hb d_M_init_40 rfl (lv_at hl 0 rfl) ?_
  refine lv_sipush (v := 300) hx hb d_M_init_41 (by decide) ?_
  refine k_newa (atype := .int) (a0 := (300, .inl (fun _ => 0))) (N' := 300) hx hb (hts _ (kS1 _ m_arr_int)) rfl hK hP hD hS hA 0 rfl (fun _ => rfl) (by decide) (by decide) (by decide) (Nat.le_of_ble_eq_true rfl) (Nat.le_of_ble_eq_true rfl) d_M_init_44 (fun q5 H hP hD hS => ?_)
  refine va_putF (D := D) (ci := 3) (v := .ref q5) (ty := .array (.int)) (C := R_M) (T := F_M) (N := 16) hx hb hts (fun w h => kS1 w (i_M w h)) tt_M tt_M_ok n_M hown hK hP hD hS 0 rfl rfl 6 (by decide) (hts _ (kS1 _ m_M_23)) (fun _ h9 => h9) rfl hin rfl (by decide +kernel) rfl rfl (Nat.le_of_ble_eq_true rfl) d_M_init_46 (fun H locs hP hD hS => ?_)
  have hP := kw_P (show _ = [(h, .inr (3, [.int 0, .int 0, .ref q1, .ref q2, .ref q3, .ref q4, .ref q5, .null, .null, .int 0, .null, .int 0, .int 0, .int 0, .null, .null])), (q1, .inl (ty 1, 300, .inl (fun _ => 0))), (q2, .inl (ty 0, 300, .inl (fun _ => 0))), (q3, .inl (ty 0, 300, .inl (fun _ => 0))), (q4, .inl (ty 0, 3600, .inl (fun _ => 0))), (q5, .inl (ty 0, 300, .inl (fun _ => 0)))] from rfl) hP
  have hD := kw_D (show _ = [(h, .inr (3, [.int 0, .int 0, .ref q1, .ref q2, .ref q3, .ref q4, .ref q5, .null, .null, .int 0, .null, .int 0, .int 0, .int 0, .null, .null])), (q1, .inl (ty 1, 300, .inl (fun _ => 0))), (q2, .inl (ty 0, 300, .inl (fun _ => 0))), (q3, .inl (ty 0, 300, .inl (fun _ => 0))), (q4, .inl (ty 0, 3600, .inl (fun _ => 0))), (q5, .inl (ty 0, 300, .inl (fun _ => 0)))] from rfl) hD
  refine lv_aload_n hx hb d_M_init_49 rfl (lv_at hl 0 rfl) ?_
  refine lv_sipush (v := 300) hx hb d_M_init_50 (by decide) ?_
  refine k_newa (atype := .boolean) (a0 := (300, .inl (fun _ => 0))) (N' := 300) hx hb (hts _ (kS1 _ m_arr_boolean)) rfl hK hP hD hS hA 1 rfl (fun _ => rfl) (by decide) (by decide) (by decide) (Nat.le_of_ble_eq_true rfl) (Nat.le_of_ble_eq_true rfl) d_M_init_53 (fun q6 H hP hD hS => ?_)
  refine va_putF (D := D) (ci := 3) (v := .ref q6) (ty := .array (.boolean)) (C := R_M) (T := F_M) (N := 16) hx hb hts (fun w h => kS1 w (i_M w h)) tt_M tt_M_ok n_M hown hK hP hD hS 0 rfl rfl 7 (by decide) (hts _ (kS1 _ m_M_26)) (fun _ h9 => h9) rfl hin rfl (by decide +kernel) rfl rfl (Nat.le_of_ble_eq_true rfl) d_M_init_55 (fun H locs hP hD hS => ?_)
  have hP := kw_P (show _ = [(h, .inr (3, [.int 0, .int 0, .ref q1, .ref q2, .ref q3, .ref q4, .ref q5, .ref q6, .null, .int 0, .null, .int 0, .int 0, .int 0, .null, .null])), (q1, .inl (ty 1, 300, .inl (fun _ => 0))), (q2, .inl (ty 0, 300, .inl (fun _ => 0))), (q3, .inl (ty 0, 300, .inl (fun _ => 0))), (q4, .inl (ty 0, 3600, .inl (fun _ => 0))), (q5, .inl (ty 0, 300, .inl (fun _ => 0))), (q6, .inl (ty 1, 300, .inl (fun _ => 0)))] from rfl) hP
  have hD := kw_D (show _ = [(h, .inr (3, [.int 0, .int 0, .ref q1, .ref q2, .ref q3, .ref q4, .ref q5, .ref q6, .null, .int 0, .null, .int 0, .int 0, .int 0, .null, .null])), (q1, .inl (ty 1, 300, .inl (fun _ => 0))), (q2, .inl (ty 0, 300, .inl (fun _ => 0))), (q3, .inl (ty 0, 300, .inl (fun _ => 0))), (q4, .inl (ty 0, 3600, .inl (fun _ => 0))), (q5, .inl (ty 0, 300, .inl (fun _ => 0))), (q6, .inl (ty 1, 300, .inl (fun _ => 0)))] from rfl) hD
  refine lv_aload_n hx hb d_M_init_58 rfl (lv_at hl 0 rfl) ?_
  refine lv_bipush (v := 16) hx hb d_M_init_59 (by decide) ?_
  refine k_newa (atype := .int) (a0 := (16, .inl (fun _ => 0))) (N' := 16) hx hb (hts _ (kS1 _ m_arr_int)) rfl hK hP hD hS hA 0 rfl (fun _ => rfl) (by decide) (by decide) (by decide) (Nat.le_of_ble_eq_true rfl) (Nat.le_of_ble_eq_true rfl) d_M_init_61 (fun q7 H hP hD hS => ?_)
  refine va_putF (D := D) (ci := 3) (v := .ref q7) (ty := .array (.int)) (C := R_M) (T := F_M) (N := 16) hx hb hts (fun w h => kS1 w (i_M w h)) tt_M tt_M_ok n_M hown hK hP hD hS 0 rfl rfl 8 (by decide) (hts _ (kS1 _ m_M_29)) (fun _ h9 => h9) rfl hin rfl (by decide +kernel) rfl rfl (Nat.le_of_ble_eq_true rfl) d_M_init_63 (fun H locs hP hD hS => ?_)
  have hP := kw_P (show _ = [(h, .inr (3, [.int 0, .int 0, .ref q1, .ref q2, .ref q3, .ref q4, .ref q5, .ref q6, .ref q7, .int 0, .null, .int 0, .int 0, .int 0, .null, .null])), (q1, .inl (ty 1, 300, .inl (fun _ => 0))), (q2, .inl (ty 0, 300, .inl (fun _ => 0))), (q3, .inl (ty 0, 300, .inl (fun _ => 0))), (q4, .inl (ty 0, 3600, .inl (fun _ => 0))), (q5, .inl (ty 0, 300, .inl (fun _ => 0))), (q6, .inl (ty 1, 300, .inl (fun _ => 0))), (q7, .inl (ty 0, 16, .inl (fun _ => 0)))] from rfl) hP
  have hD := kw_D (show _ = [(h, .inr (3, [.int 0, .int 0, .ref q1, .ref q2, .ref q3, .ref q4, .ref q5, .ref q6, .ref q7, .int 0, .null, .int 0, .int 0, .int 0, .null, .null])), (q1, .inl (ty 1, 300, .inl (fun _ => 0))), (q2, .inl (ty 0, 300, .inl (fun _ => 0))), (q3, .inl (ty 0, 300, .inl (fun _ => 0))), (q4, .inl (ty 0, 3600, .inl (fun _ => 0))), (q5, .inl (ty 0, 300, .inl (fun _ => 0))), (q6, .inl (ty 1, 300, .inl (fun _ => 0))), (q7, .inl (ty 0, 16, .inl (fun _ => 0)))] from rfl) hD
  refine lv_aload_n hx hb d_M_init_66 rfl (lv_at hl 0 rfl) ?_
  refine lv_sipush (v := 300) hx hb d_M_init_67 (by decide) ?_
  refine k_newa (atype := .int) (a0 := (300, .inl (fun _ => 0))) (N' := 300) hx hb (hts _ (kS1 _ m_arr_int)) rfl hK hP hD hS hA 0 rfl (fun _ => rfl) (by decide) (by decide) (by decide) (Nat.le_of_ble_eq_true rfl) (Nat.le_of_ble_eq_true rfl) d_M_init_70 (fun q8 H hP hD hS => ?_)
  refine va_putF (D := D) (ci := 3) (v := .ref q8) (ty := .array (.int)) (C := R_M) (T := F_M) (N := 16) hx hb hts (fun w h => kS1 w (i_M w h)) tt_M tt_M_ok n_M hown hK hP hD hS 0 rfl rfl 10 (by decide) (hts _ (kS1 _ m_M_32)) (fun _ h9 => h9) rfl hin rfl (by decide +kernel) rfl rfl (Nat.le_of_ble_eq_true rfl) d_M_init_72 (fun H locs hP hD hS => ?_)
  have hP := kw_P (show _ = [(h, .inr (3, [.int 0, .int 0, .ref q1, .ref q2, .ref q3, .ref q4, .ref q5, .ref q6, .ref q7, .int 0, .ref q8, .int 0, .int 0, .int 0, .null, .null])), (q1, .inl (ty 1, 300, .inl (fun _ => 0))), (q2, .inl (ty 0, 300, .inl (fun _ => 0))), (q3, .inl (ty 0, 300, .inl (fun _ => 0))), (q4, .inl (ty 0, 3600, .inl (fun _ => 0))), (q5, .inl (ty 0, 300, .inl (fun _ => 0))), (q6, .inl (ty 1, 300, .inl (fun _ => 0))), (q7, .inl (ty 0, 16, .inl (fun _ => 0))), (q8, .inl (ty 0, 300, .inl (fun _ => 0)))] from rfl) hP
  have hD := kw_D (show _ = [(h, .inr (3, [.int 0, .int 0, .ref q1, .ref q2, .ref q3, .ref q4, .ref q5, .ref q6, .ref q7, .int 0, .ref q8, .int 0, .int 0, .int 0, .null, .null])), (q1, .inl (ty 1, 300, .inl (fun _ => 0))), (q2, .inl (ty 0, 300, .inl (fun _ => 0))), (q3, .inl (ty 0, 300, .inl (fun _ => 0))), (q4, .inl (ty 0, 3600, .inl (fun _ => 0))), (q5, .inl (ty 0, 300, .inl (fun _ => 0))), (q6, .inl (ty 1, 300, .inl (fun _ => 0))), (q7, .inl (ty 0, 16, .inl (fun _ => 0))), (q8, .inl (ty 0, 300, .inl (fun _ => 0)))] from rfl) hD
  refine lv_aload_n hx hb d_M_init_75 rfl (lv_at hl 0 rfl) ?_
  refine lv_sipush (v := 300) hx hb d_M_init_76 (by decide) ?_
  refine k_newa (atype := .boolean) (a0 := (300, .inl (fun _ => 0))) (N' := 300) hx hb (hts _ (kS1 _ m_arr_boolean)) rfl hK hP hD hS hA 1 rfl (fun _ => rfl) (by decide) (by decide) (by decide) (Nat.le_of_ble_eq_true rfl) (Nat.le_of_ble_eq_true rfl) d_M_init_79 (fun q9 H hP hD hS => ?_)
  refine va_putF (D := D) (ci := 3) (v := .ref q9) (ty := .array (.boolean)) (C := R_M) (T := F_M) (N := 16) hx hb hts (fun w h => kS1 w (i_M w h)) tt_M tt_M_ok n_M hown hK hP hD hS 0 rfl rfl 14 (by decide) (hts _ (kS1 _ m_M_35)) (fun _ h9 => h9) rfl hin rfl (by decide +kernel) rfl rfl (Nat.le_of_ble_eq_true rfl) d_M_init_81 (fun H locs hP hD hS => ?_)
  have hP := kw_P (show _ = [(h, .inr (3, [.int 0, .int 0, .ref q1, .ref q2, .ref q3, .ref q4, .ref q5, .ref q6, .ref q7, .int 0, .ref q8, .int 0, .int 0, .int 0, .ref q9, .null])), (q1, .inl (ty 1, 300, .inl (fun _ => 0))), (q2, .inl (ty 0, 300, .inl (fun _ => 0))), (q3, .inl (ty 0, 300, .inl (fun _ => 0))), (q4, .inl (ty 0, 3600, .inl (fun _ => 0))), (q5, .inl (ty 0, 300, .inl (fun _ => 0))), (q6, .inl (ty 1, 300, .inl (fun _ => 0))), (q7, .inl (ty 0, 16, .inl (fun _ => 0))), (q8, .inl (ty 0, 300, .inl (fun _ => 0))), (q9, .inl (ty 1, 300, .inl (fun _ => 0)))] from rfl) hP
  have hD := kw_D (show _ = [(h, .inr (3, [.int 0, .int 0, .ref q1, .ref q2, .ref q3, .ref q4, .ref q5, .ref q6, .ref q7, .int 0, .ref q8, .int 0, .int 0, .int 0, .ref q9, .null])), (q1, .inl (ty 1, 300, .inl (fun _ => 0))), (q2, .inl (ty 0, 300, .inl (fun _ => 0))), (q3, .inl (ty 0, 300, .inl (fun _ => 0))), (q4, .inl (ty 0, 3600, .inl (fun _ => 0))), (q5, .inl (ty 0, 300, .inl (fun _ => 0))), (q6, .inl (ty 1, 300, .inl (fun _ => 0))), (q7, .inl (ty 0, 16, .inl (fun _ => 0))), (q8, .inl (ty 0, 300, .inl (fun _ => 0))), (q9, .inl (ty 1, 300, .inl (fun _ => 0)))] from rfl) hD
  refine lv_aload_n hx hb d_M_init_84 rfl (lv_at hl 0 rfl) ?_
  refine lv_sipush (v := 300) hx hb d_M_init_85 (by decide) ?_
  refine k_newa (atype := .boolean) (a0 := (300, .inl (fun _ => 0))) (N' := 300) hx hb (hts _ (kS1 _ m_arr_boolean)) rfl hK hP hD hS hA 1 rfl (fun _ => rfl) (by decide) (by decide) (by decide) (Nat.le_of_ble_eq_true rfl) (Nat.le_of_ble_eq_true rfl) d_M_init_88 (fun q10 H hP hD hS => ?_)
  refine va_putF (D := D) (ci := 3) (v := .ref q10) (ty := .array (.boolean)) (C := R_M) (T := F_M) (N := 16) hx hb hts (fun w h => kS1 w (i_M w h)) tt_M tt_M_ok n_M hown hK hP hD hS 0 rfl rfl 15 (by decide) (hts _ (kS1 _ m_M_38)) (fun _ h9 => h9) rfl hin rfl (by decide +kernel) rfl rfl (Nat.le_of_ble_eq_true rfl) d_M_init_90 (fun H locs hP hD hS => ?_)
  have hP := kw_P (show _ = [(h, .inr (3, [.int 0, .int 0, .ref q1, .ref q2, .ref q3, .ref q4, .ref q5, .ref q6, .ref q7, .int 0, .ref q8, .int 0, .int 0, .int 0, .ref q9, .ref q10])), (q1, .inl (ty 1, 300, .inl (fun _ => 0))), (q2, .inl (ty 0, 300, .inl (fun _ => 0))), (q3, .inl (ty 0, 300, .inl (fun _ => 0))), (q4, .inl (ty 0, 3600, .inl (fun _ => 0))), (q5, .inl (ty 0, 300, .inl (fun _ => 0))), (q6, .inl (ty 1, 300, .inl (fun _ => 0))), (q7, .inl (ty 0, 16, .inl (fun _ => 0))), (q8, .inl (ty 0, 300, .inl (fun _ => 0))), (q9, .inl (ty 1, 300, .inl (fun _ => 0))), (q10, .inl (ty 1, 300, .inl (fun _ => 0)))] from rfl) hP
  have hD := kw_D (show _ = [(h, .inr (3, [.int 0, .int 0, .ref q1, .ref q2, .ref q3, .ref q4, .ref q5, .ref q6, .ref q7, .int 0, .ref q8, .int 0, .int 0, .int 0, .ref q9, .ref q10])), (q1, .inl (ty 1, 300, .inl (fun _ => 0))), (q2, .inl (ty 0, 300, .inl (fun _ => 0))), (q3, .inl (ty 0, 300, .inl (fun _ => 0))), (q4, .inl (ty 0, 3600, .inl (fun _ => 0))), (q5, .inl (ty 0, 300, .inl (fun _ => 0))), (q6, .inl (ty 1, 300, .inl (fun _ => 0))), (q7, .inl (ty 0, 16, .inl (fun _ => 0))), (q8, .inl (ty 0, 300, .inl (fun _ => 0))), (q9, .inl (ty 1, 300, .inl (fun _ => 0))), (q10, .inl (ty 1, 300, .inl (fun _ => 0)))] from rfl) hD
  exact W.vret hx hb hr (fun t ht hW => ⟨⟨_, rfl, ⟨_, _, _, _, _, _, _, _, _, _, rfl⟩, by rw [ht]; exact hP, va_K.moved hW.alike hK, hD⟩, hS.F ht⟩) hS.2.2 d_M_init_93
end
section
/-! Part 28: counting. -/
def cn (p : Nat → Bool) : Nat → Nat
  | 0 => 0
  | n + 1 => cn p n + (if p n then 1 else 0)
theorem cn_le (p : Nat → Bool) (n : Nat) : cn p n ≤ n := by
  induction n with
  | zero => exact Nat.le_refl _
  | succ n ih => simp only [cn]; split <;> omega
theorem cn_lt {p : Nat → Bool} {n k : Nat} (hk : k < n) (h : p k = false) : cn p n < n := by
  induction n with
  | zero => omega
  | succ n ih =>
    simp only [cn]
    by_cases hn : k = n
    · subst hn
      have := cn_le p k
      simp [h]; omega
    · have := ih (by omega)
      split <;> omega
theorem cn_congr {p q : Nat → Bool} {n : Nat} (h : ∀ k, k < n → p k = q k) : cn p n = cn q n := by
  induction n with
  | zero => rfl
  | succ n ih => simp only [cn]; rw [ih (fun k hk => h k (by omega)), h n (by omega)]
theorem cn_up {p q : Nat → Bool} {n k : Nat} (hk : k < n) (hp : p k = false) (hq : q k = true) (h : ∀ j, j < n → j ≠ k → q j = p j) : cn q n = cn p n + 1 := by
  induction n with
  | zero => omega
  | succ n ih =>
    simp only [cn]
    by_cases hn : k = n
    · subst hn
      rw [cn_congr (p := q) (q := p) (fun j hj => h j (by omega) (by omega))]
      simp [hp, hq]
    · rw [ih (by omega) (fun j hj hne => h j (by omega) hne), h n (by omega) (by omega)]
      omega
theorem cn_mono {p q : Nat → Bool} {n : Nat} (h : ∀ k, k < n → p k = true → q k = true) : cn p n ≤ cn q n := by
  induction n with
  | zero => exact Nat.le_refl _
  | succ n ih =>
    simp only [cn]
    have h1 := ih (fun k hk => h k (by omega))
    have h2 := h n (by omega)
    by_cases hp : p n = true
    · simp [hp, h2 hp]; omega
    · simp [hp]; split <;> omega
theorem cn_ext {p : Nat → Bool} {n m : Nat} (hn : n ≤ m) (h : ∀ k, n ≤ k → k < m → p k = false) : cn p m = cn p n := by
  induction m with
  | zero => have : n = 0 := by omega
            subst this; rfl
  | succ m ih =>
    by_cases he : n = m + 1
    · subst he; rfl
    · simp only [cn]
      rw [ih (by omega) (fun k h1 h2 => h k h1 (by omega)), h m (by omega) (by omega)]
      simp
theorem cn_slt {p q : Nat → Bool} {n k : Nat} (h : ∀ j, j < n → p j = true → q j = true) (hk : k < n) (hp : p k = false) (hq : q k = true) : cn p n < cn q n := by
  induction n with
  | zero => omega
  | succ n ih =>
    simp only [cn]
    by_cases hn : k = n
    · subst hn
      have := cn_mono (p := p) (q := q) (n := k) (fun j hj => h j (show j < k + 1 by omega))
      simp [hp, hq]; omega
    · have h1 := ih (fun j hj => h j (by omega)) (by omega)
      have h2 := h n (by omega)
      by_cases e : p n = true
      · simp [e, h2 e]; omega
      · simp [e]; split <;> omega
end
section
/-! Part 29: the model's small methods as functions. -/
theorem va_up_comm {α : Type} {f : Nat → α} {k k2 : Nat} {v w : α} (h : k ≠ k2) : va_up (va_up f k v) k2 w = va_up (va_up f k2 w) k v := by
  funext j
  by_cases h1 : j = k
  · subst h1; simp [va_up, h]
  · simp [va_up, h1]
theorem k12c {k j : Nat} (hk : k < 300) (hj : j < 12) : ((12 : Int32) * nI k + nI j).toNatClampNeg = 12 * k + j := by
  rw [show (12 : Int32) = nI 12 from rfl, pk_mul, nI_add, nI_clamp (by omega)]
theorem k12a {k : Nat} (hk : k < 300) : ((12 : Int32) * nI k).toNatClampNeg = 12 * k := by
  rw [show (12 : Int32) = nI 12 from rfl, pk_mul, nI_clamp (by omega)]
theorem k12i {k j : Nat} (hk : k < 300) (hj : j < 12) : vp_in ((12 : Int32) * nI k + nI j) 3600 := by
  rw [show (12 : Int32) = nI 12 from rfl, pk_mul, nI_add]
  exact vp_in_nI (by omega) (by omega)
theorem k12j {k : Nat} (hk : k < 300) : vp_in ((12 : Int32) * nI k) 3600 := by
  rw [show (12 : Int32) = nI 12 from rfl, pk_mul]
  exact vp_in_nI (by omega) (by omega)
def mI (g : Nat → Int32) (a : Nat → Nat → Int32) (x : Int32) : Int32 := if x < 0 then 0 else if g 1 ≤ x then 0 else if a 2 x.toNatClampNeg = 0 then 0 else 1
def mO (g : Nat → Int32) (a : Nat → Nat → Int32) (x : Int32) : Int32 := if x = -1 then 1 else if mI g a x = 0 then 0 else 1
def mF (g : Nat → Int32) (a : Nat → Nat → Int32) (x y : Int32) : Int32 := if mI g a x = 0 then 0 else if y < 0 then 0 else if a 4 x.toNatClampNeg ≤ y then 0 else 1
def mT (p1 p2 : Int32) : Int32 := if p1 = 0 then 1 else if p2 = 0 then 2 else 0
def mG (p1 p2 : Int32) : Int32 := if p1 = 0 then 0 else if p2 = 0 then 0 else 1
def mkP (kd z : Int32) : Int32 := if kd < 0 then 0 else if 2 < kd then 0 else if z < 0 then 0 else if 12 < z then 0 else if kd = 1 then (if z ≤ 0 then 0 else 1) else 1
def mkQ (g : Nat → Int32) : Int32 := if 300 ≤ g 1 then 0 else 1
def mA (p q : Int32) : Int32 := if p = 0 then 0 else if q = 0 then 0 else 1
def mR (g : Nat → Int32) (a : Nat → Nat → Int32) (x u : Int32) : Int32 := if x < 0 then 0 else if 16 ≤ x then 0 else if mO g a u = 0 then 0 else 1
theorem mG_eq (p1 p2 : Int32) : mG p1 p2 = if mT p1 p2 = 0 then 1 else 0 := by
  unfold mG mT
  split
  · rfl
  · split <;> rfl
theorem mG_1 {p1 p2 : Int32} (h : ¬ mG p1 p2 = 0) : ¬ p1 = 0 := fun e => h (by unfold mG; rw [if_pos e])
theorem mG_2 {p1 p2 : Int32} (h : ¬ mG p1 p2 = 0) : ¬ p2 = 0 := fun e => h (by unfold mG; rw [if_pos e]; split <;> rfl)
theorem mA_1 {p q : Int32} (h : ¬ mA p q = 0) : ¬ p = 0 := fun e => h (by unfold mA; rw [if_pos e])
theorem mA_2 {p q : Int32} (h : ¬ mA p q = 0) : ¬ q = 0 := fun e => h (by unfold mA; rw [if_pos e]; split <;> rfl)
theorem kinM {g : Nat → Int32} {n : Nat} {x : Int32} (hg1 : g 1 = nI n) (hn3 : n ≤ 300) (h0 : ¬ x < 0) (h1 : ¬ g 1 ≤ x) : vp_in x 300 := by
  obtain ⟨j, hj, rfl⟩ := nI_of h0
  rw [hg1] at h1
  refine vp_in_nI ?_ (by omega)
  rcases Nat.lt_or_ge j 300 with q | q
  · exact q
  · exact absurd (nI_le (by omega) hj) h1
/-- isThere: a place below made whose 'there' is set -/
theorem mI_k {g : Nat → Int32} {a : Nat → Nat → Int32} {n : Nat} {x : Int32} (hg1 : g 1 = nI n) (h : ¬ mI g a x = 0) : ∃ k, k < n ∧ x = nI k ∧ ¬ a 2 k = 0 := by
  unfold mI at h
  split at h
  · exact absurd rfl h
  · rename_i h0
    split at h
    · exact absurd rfl h
    · rename_i h1
      split at h
      · exact absurd rfl h
      · rename_i h2
        obtain ⟨j, hj, rfl⟩ := nI_of h0
        rw [nI_clamp hj] at h2
        rw [hg1] at h1
        refine ⟨j, ?_, rfl, h2⟩
        rcases Nat.lt_or_ge j n with q | q
        · exact q
        · exact absurd (nI_le q hj) h1
theorem mI_in {g : Nat → Int32} {a : Nat → Nat → Int32} {n : Nat} {x : Int32} (hg1 : g 1 = nI n) (hn3 : n ≤ 300) (h : ¬ mI g a x = 0) : vp_in x 300 := by
  obtain ⟨k, hk, rfl, -⟩ := mI_k hg1 h
  exact vp_in_nI (by omega) (by omega)
theorem mkQ_lt {g : Nat → Int32} {n : Nat} {p1 : Int32} (hg1 : g 1 = nI n) (hn3 : n ≤ 300) (h : ¬ mG p1 (mkQ g) = 0) : n < 300 := by
  have h2 := mG_2 h
  unfold mkQ at h2
  rcases Nat.lt_or_ge n 300 with q | q
  · exact q
  · exfalso
    apply h2
    rw [if_pos]
    rw [hg1]
    exact nI_le (a := 300) q (by omega)
theorem mF_k {g : Nat → Int32} {a : Nat → Nat → Int32} {n : Nat} {x y : Int32} (hg1 : g 1 = nI n) (hL : ∀ k, k < n → ∃ v, v ≤ 12 ∧ a 4 k = nI v) (hn3 : n ≤ 300) (h : ¬ mF g a x y = 0) : ∃ k j, k < n ∧ x = nI k ∧ ¬ a 2 k = 0 ∧ j < 12 ∧ y = nI j ∧ a 4 k = nI (a 4 k).toNatClampNeg ∧ j < (a 4 k).toNatClampNeg := by
  unfold mF at h
  split at h
  · exact absurd rfl h
  · rename_i h0
    split at h
    · exact absurd rfl h
    · rename_i h1
      split at h
      · exact absurd rfl h
      · rename_i h2
        obtain ⟨k, hk, rfl, e⟩ := mI_k hg1 h0
        obtain ⟨j, hj, rfl⟩ := nI_of h1
        rw [nI_clamp (by omega)] at h2
        obtain ⟨v, hv, e4⟩ := hL k hk
        have hvj : j < v := by
          rcases Nat.lt_or_ge j v with q | q
          · exact q
          · rw [e4] at h2; exact absurd (nI_le q hj) h2
        have e5 : (a 4 k).toNatClampNeg = v := by rw [e4, nI_clamp (by omega)]
        exact ⟨k, j, hk, rfl, e, by omega, rfl, by rw [e5]; exact e4, by rw [e5]; exact hvj⟩
theorem mF_in {g : Nat → Int32} {a : Nat → Nat → Int32} {n : Nat} {x y : Int32} (hg1 : g 1 = nI n) (hn3 : n ≤ 300) (hL : ∀ k, k < n → ∃ v, v ≤ 12 ∧ a 4 k = nI v) (h : ¬ mF g a x y = 0) : vp_in (12 * x + y) 3600 := by
  obtain ⟨k, j, hk, rfl, -, hj, rfl, -, -⟩ := mF_k hg1 hL hn3 h
  rw [show (12 : Int32) = nI 12 from rfl, pk_mul, nI_add]
  exact vp_in_nI (by omega) (by omega)
theorem mR_in {g : Nat → Int32} {a : Nat → Nat → Int32} {x u : Int32} (h : ¬ mR g a x u = 0) : vp_in x 16 := by
  unfold mR at h
  split at h
  · exact absurd rfl h
  · rename_i h0
    split at h
    · exact absurd rfl h
    · rename_i h1
      exact kin h0 h1 rfl
-- ===== find =====
def m1v (kp : Int32) (a : Nat → Nat → Int32) (i : Nat) : Int32 := if kp = 0 then 0 else if a 2 i = 0 then 0 else if a 3 i = 2 then (if a 7 i = 0 then 1 else 0) else 0
def mD1 (kp : Int32) (a : Nat → Nat → Int32) (i : Nat) (fd : Nat → Int32) : Nat → Int32 := upd fd i (m1v kp a i)
def mD2 (a : Nat → Nat → Int32) (i : Nat) (fd : Nat → Int32) : Nat → Int32 := if a 8 i ≤ 0 then fd else upd fd (a 8 i - 1).toNatClampNeg 1
def mD3 (a : Nat → Nat → Int32) (i : Nat) (fd : Nat → Int32) : Nat → Int32 := upd fd (a 10 i).toNatClampNeg 1
def mJ (a : Nat → Nat → Int32) (k j : Nat) (X : (Nat → Int32) × Int32) : (Nat → Int32) × Int32 := if a 5 (12 * k + j) - 1 < 0 then X else if X.1 (a 5 (12 * k + j) - 1).toNatClampNeg = 0 then (upd X.1 (a 5 (12 * k + j) - 1).toNatClampNeg 1, 1) else X
def mS (kp : Int32) (a : Nat → Nat → Int32) (k : Nat) : Nat := if a 3 k = 1 then (if kp = 0 then 1 else 0) else 0
def mJs (kp : Int32) (a : Nat → Nat → Int32) (k j : Nat) (X : (Nat → Int32) × Int32) : (Nat → Int32) × Int32 := if j < mS kp a k then X else mJ a k j X
def mK (kp : Int32) (a : Nat → Nat → Int32) (k : Nat) (X : (Nat → Int32) × Int32) : (Nat → Int32) × Int32 := if X.1 k = 0 then X else it (mJs kp a k) (a 4 k).toNatClampNeg X
def mW (kp : Int32) (a : Nat → Nat → Int32) (n : Nat) : Nat → (Nat → Int32) → Nat → Int32
  | 0, fd => fd
  | m + 1, fd => if (it (mK kp a) n (fd, 0)).2 = 0 then (it (mK kp a) n (fd, 0)).1 else mW kp a n m (it (mK kp a) n (fd, 0)).1
def mD (kp : Int32) (a : Nat → Nat → Int32) (n q : Nat) (fd : Nat → Int32) : Nat → Int32 := mW kp a n 301 (it (mD3 a) q (it (mD2 a) 16 (it (mD1 kp a) n fd)))
def mC (fd : Nat → Int32) (i : Nat) (c : Int32) : Int32 := if fd i = 0 then c else c + 1
theorem mJ_keep {a : Nat → Nat → Int32} {k j i : Nat} {X : (Nat → Int32) × Int32} (h : ¬ X.1 i = 0) : ¬ (mJ a k j X).1 i = 0 := by
  unfold mJ
  split
  · exact h
  · split
    · by_cases e : i = (a 5 (12 * k + j) - 1).toNatClampNeg
      · simp [upd, e]
      · simp only [upd, e, if_false]; exact h
    · exact h
theorem mJs_keep {kp : Int32} {a : Nat → Nat → Int32} {k N i : Nat} {X : (Nat → Int32) × Int32} (h : ¬ X.1 i = 0) : ¬ (it (mJs kp a k) N X).1 i = 0 := by
  induction N with
  | zero => exact h
  | succ N ih =>
    rw [it_s]; unfold mJs
    split
    · exact ih
    · exact mJ_keep ih
theorem kin8 {x : Int32} (h : ∃ v, v ≤ 300 ∧ x = nI v) (h0 : ¬ x ≤ 0) : vp_in (x - 1) 300 := by
  obtain ⟨v, hv, rfl⟩ := h
  have hp : 0 < v := by
    rcases Nat.eq_zero_or_pos v with q | q
    · subst q; exact absurd (by decide) h0
    · exact q
  obtain ⟨w, rfl⟩ : ∃ w, v = w + 1 := ⟨v - 1, by omega⟩
  rw [nI_pred]
  exact vp_in_nI (by omega) (by omega)
theorem kin9 {x : Int32} (h : ∃ v, v < 300 ∧ x = nI v) : vp_in x 300 := by
  obtain ⟨v, hv, rfl⟩ := h
  exact vp_in_nI hv (by omega)
theorem kin5 {x : Int32} (h : ∃ v, v ≤ 300 ∧ x = nI v) (h0 : ¬ x - 1 < 0) : vp_in (x - 1) 300 := by
  refine kin8 h (fun h1 => h0 ?_)
  obtain ⟨v, hv, rfl⟩ := h
  have : v = 0 := by
    rcases Nat.eq_zero_or_pos v with q | q
    · exact q
    · exact absurd h1 (nI_nle q (by omega))
  subst this
  decide
/-- what a pass over the things does: nothing is lost, and something new is found where it says so -/
def mPs (fd : Nat → Int32) (X : (Nat → Int32) × Int32) : Prop := (∀ k, ¬ fd k = 0 → ¬ X.1 k = 0) ∧ (¬ X.2 = 0 → ∃ k, k < 300 ∧ fd k = 0 ∧ ¬ X.1 k = 0)
theorem mPs_J {fd : Nat → Int32} {X : (Nat → Int32) × Int32} {a : Nat → Nat → Int32} {k j : Nat} (h : mPs fd X) (hv : ∃ v, v ≤ 300 ∧ a 5 (12 * k + j) = nI v) : mPs fd (mJ a k j X) := by
  unfold mJ
  split
  · exact h
  · rename_i h0
    split
    · rename_i h1
      have hin := kin5 hv h0
      obtain ⟨t, ht, e⟩ := vp_in_of hin (by omega)
      rw [e, nI_clamp (by omega)] at h1 ⊢
      refine ⟨fun i hi => ?_, fun _ => ⟨t, ht, ?_, by simp [upd]⟩⟩
      · by_cases hit : i = t
        · simp [upd, hit]
        · simp only [upd, hit, if_false]; exact h.1 i hi
      · rcases Classical.em (fd t = 0) with q | q
        · exact q
        · exact absurd h1 (h.1 t q)
    · exact h
theorem mPs_pass {kp : Int32} {a : Nat → Nat → Int32} {n : Nat} {fd : Nat → Int32} (hF : ∀ i, i < 3600 → ∃ v, v ≤ 300 ∧ a 5 i = nI v) (hL : ∀ k, k < n → ∃ v, v ≤ 12 ∧ a 4 k = nI v) (hn3 : n ≤ 300) : ∀ m, m ≤ n → mPs fd (it (mK kp a) m (fd, 0)) := by
  intro m
  induction m with
  | zero => intro _; exact ⟨fun _ h => h, fun h => absurd rfl h⟩
  | succ m ih =>
    intro hm
    rw [it_s, mK]
    split
    · exact ih (by omega)
    · obtain ⟨v, hv, e⟩ := hL m (by omega)
      rw [e, nI_clamp (by omega)]
      have key : ∀ j, j ≤ v → mPs fd (it (mJs kp a m) j (it (mK kp a) m (fd, 0))) := by
        intro j
        induction j with
        | zero => intro _; exact ih (by omega)
        | succ j ihj =>
          intro hj
          rw [it_s, mJs]
          split
          · exact ihj (by omega)
          · exact mPs_J (ihj (by omega)) (hF _ (by omega))
      exact key v (Nat.le_refl _)
theorem mP_grow {kp : Int32} {a : Nat → Nat → Int32} {n : Nat} {fd : Nat → Int32} (hF : ∀ i, i < 3600 → ∃ v, v ≤ 300 ∧ a 5 i = nI v) (hL : ∀ k, k < n → ∃ v, v ≤ 12 ∧ a 4 k = nI v) (hn3 : n ≤ 300) (h : ¬ (it (mK kp a) n (fd, 0)).2 = 0) : cn (fun k => fd k != 0) 300 < cn (fun k => (it (mK kp a) n (fd, 0)).1 k != 0) 300 := by
  obtain ⟨h1, h2⟩ := mPs_pass (kp := kp) (fd := fd) hF hL hn3 n (Nat.le_refl _)
  obtain ⟨k, hk, e1, e2⟩ := h2 h
  exact cn_slt (k := k) (fun j _ hj => by simpa using h1 j (by simpa using hj)) hk (by simp [e1]) (by simpa using e2)
end
section
/-! Part 12: the model, its small methods. -/
set_option maxHeartbeats 4000000 in
set_option maxRecDepth 100000 in
/-- thrown() -/
theorem c_M_thrown (l : Launch) (D : va_G) (ty : Nat → ClassId) (ad : Nat → Nat) (sz : Nat) (n : Nat) (f : Nat → Int32) (th : Nat → Bool) (rt qu : Nat → Int32) (b w : SR) (T : Nat → TH) (g : Nat → Int32) (a : Nat → Nat → Int32) (o : Nat → Int64) : Met l y_M_thrown w_M_thrown ({ frames := 0, cells := 0, slots := 0, locals := 0 }) (va_Pc [.ref (ad 10)] (kP D kCl (kTy ty) (gW n ty ad f th rt qu b w T g a o) sz)) (kQr (some (.int (g 0)))) 0 0 (fun _ => False) := by
  refine Met.ofW (cc := b_M_thrown) (maxL := 1) (ret := (some .int)) (by decide) rfl ?_
  intro p e s m args below meth cd s₁ B hml hv
  obtain ⟨rfl, hsz, hP, hK, hD0⟩ := hv
  have hx := B.exec
  have hb := B.bytes
  have hr := B.returns
  have hts := atoms_spec (ws := w_M_thrown) B.pre
  have hown : s.vm.findClass R_M = some m.cls := findClass_of_methodNamed B.named
  have hlocks := B.notSynchronized
  subst hsz
  have hD := hD0
  have hl := lv_entry ([.ref (ad 10)]) (n := 1) (Nat.le_of_ble_eq_true rfl)
  rw [lg_entry_eq]
  generalize (lg_sl ([.ref (ad 10)]) ++ List.replicate (1 - (lg_sl ([.ref (ad 10)])).length) Slot.unset).toArray = ls at hl ⊢
  have hl : lv_has ls 1 [(0, .ref (ad 10))] := hl
  refine lv_aload_n hx hb d_M_thrown_0 rfl (lv_at hl 0 rfl) ?_
  refine va_get (D := D) (ci := 3) (v := .int (g 0)) (C := R_M) (T := F_M) (N := 16) hx hb hts (fun w h => kS1 w (i_M w h)) hown hK hP 10 gw_10 rfl 0 (by decide) (hts _ (kS1 _ m_M_41)) (fun _ h9 => h9) rfl d_M_thrown_1 ?_
  have hv : g 0 = g 0 := by simp []
  exact W.iret (v := g 0) hx hb hr (fun t ht hW => ⟨by rw [hv], ht⟩) (fun q hq => by cases hq) d_M_thrown_4
set_option maxHeartbeats 4000000 in
set_option maxRecDepth 100000 in
/-- isThere(x) -/
theorem c_M_isThere (l : Launch) (D : va_G) (ty : Nat → ClassId) (ad : Nat → Nat) (sz : Nat) (n : Nat) (f : Nat → Int32) (th : Nat → Bool) (rt qu : Nat → Int32) (b w : SR) (T : Nat → TH) (g : Nat → Int32) (a : Nat → Nat → Int32) (o : Nat → Int64) (hg1 : g 1 = nI n) (hn3 : n ≤ 300) (x : Int32) : Met l y_M_isThere w_M_isThere ({ frames := 0, cells := 0, slots := 0, locals := 0 }) (va_Pc [.ref (ad 10), .int x] (kP D kCl (kTy ty) (gW n ty ad f th rt qu b w T g a o) sz)) (kQr (some (.int (mI g a x)))) 0 0 (fun _ => False) := by
  refine Met.ofW (cc := b_M_isThere) (maxL := 2) (ret := (some .boolean)) (by decide) rfl ?_
  intro p e s m args below meth cd s₁ B hml hv
  obtain ⟨rfl, hsz, hP, hK, hD0⟩ := hv
  have hx := B.exec
  have hb := B.bytes
  have hr := B.returns
  have hts := atoms_spec (ws := w_M_isThere) B.pre
  have hown : s.vm.findClass R_M = some m.cls := findClass_of_methodNamed B.named
  have hlocks := B.notSynchronized
  subst hsz
  have hD := hD0
  have hl := lv_entry ([.ref (ad 10), .int x]) (n := 2) (Nat.le_of_ble_eq_true rfl)
  rw [lg_entry_eq]
  generalize (lg_sl ([.ref (ad 10), .int x]) ++ List.replicate (2 - (lg_sl ([.ref (ad 10), .int x])).length) Slot.unset).toArray = ls at hl ⊢
  have hl : lv_has ls 2 [(0, .ref (ad 10)), (1, .int x)] := hl
  refine lv_iload_n hx hb d_M_isThere_0 rfl (lv_at hl 1 rfl) ?_
  refine lv_if_lt (tgt := 25) hx hb d_M_isThere_1 (by decide) (fun c_1 => ?_) (fun c_1 => ?_)
  · refine lv_iconst (v := 0) hx hb d_M_isThere_25 (by decide) ?_
    have hv : mI g a x = 0 := by simp [mI, c_1]
    exact W.zret (v := 0) hx hb hr rfl (fun t ht hW => ⟨by rw [hv], ht⟩) (fun q hq => by cases hq) d_M_isThere_26
  · refine lv_iload_n hx hb d_M_isThere_4 rfl (lv_at hl 1 rfl) ?_
    refine lv_aload_n hx hb d_M_isThere_5 rfl (lv_at hl 0 rfl) ?_
    refine va_get (D := D) (ci := 3) (v := .int (g 1)) (C := R_M) (T := F_M) (N := 16) hx hb hts (fun w h => kS1 w (i_M w h)) hown hK hP 10 gw_10 rfl 1 (by decide) (hts _ (kS1 _ m_M_45)) (fun _ h9 => h9) rfl d_M_isThere_6 ?_
    refine lv_icmp_ge (tgt := 25) hx hb d_M_isThere_9 (by decide) (fun c_9 => ?_) (fun c_9 => ?_)
    · refine lv_iconst (v := 0) hx hb d_M_isThere_25 (by decide) ?_
      have hv : mI g a x = 0 := by simp [mI, c_1, c_9]
      exact W.zret (v := 0) hx hb hr rfl (fun t ht hW => ⟨by rw [hv], ht⟩) (fun q hq => by cases hq) d_M_isThere_26
    · refine lv_aload_n hx hb d_M_isThere_12 rfl (lv_at hl 0 rfl) ?_
      refine va_get (D := D) (ci := 3) (v := .ref (ad 11)) (C := R_M) (T := F_M) (N := 16) hx hb hts (fun w h => kS1 w (i_M w h)) hown hK hP 10 gw_10 rfl 2 (by decide) (hts _ (kS1 _ m_M_7)) (fun _ h9 => h9) rfl d_M_isThere_13 ?_
      refine lv_iload_n hx hb d_M_isThere_16 rfl (lv_at hl 1 rfl) ?_
      refine va_zald (f := a 2) hx hb hK hP 11 1 gw_11 rfl (kinM hg1 hn3 c_1 c_9) d_M_isThere_17 ?_
      refine lv_if_eq (tgt := 25) hx hb d_M_isThere_18 (by decide) (fun c_18 => ?_) (fun c_18 => ?_)
      · refine lv_iconst (v := 0) hx hb d_M_isThere_25 (by decide) ?_
        have hv : mI g a x = 0 := by simp [mI, c_1, c_9, c_18]
        exact W.zret (v := 0) hx hb hr rfl (fun t ht hW => ⟨by rw [hv], ht⟩) (fun q hq => by cases hq) d_M_isThere_26
      · refine lv_iconst (v := 1) hx hb d_M_isThere_21 (by decide) ?_
        refine lv_goto (tgt := 26) hx hb d_M_isThere_22 (by decide) ?_
        have hv : mI g a x = 1 := by simp [mI, c_1, c_9, c_18]
        exact W.zret (v := 1) hx hb hr rfl (fun t ht hW => ⟨by rw [hv], ht⟩) (fun q hq => by cases hq) d_M_isThere_26
set_option maxHeartbeats 4000000 in
set_option maxRecDepth 100000 in
/-- isOrNone(x) -/
theorem c_M_isOrNone (l : Launch) (D : va_G) (ty : Nat → ClassId) (ad : Nat → Nat) (sz : Nat) (n : Nat) (f : Nat → Int32) (th : Nat → Bool) (rt qu : Nat → Int32) (b w : SR) (T : Nat → TH) (g : Nat → Int32) (a : Nat → Nat → Int32) (o : Nat → Int64) (hg1 : g 1 = nI n) (hn3 : n ≤ 300) (x : Int32) : Met l y_M_isOrNone w_M_isOrNone ({ frames := 1, cells := 0, slots := 0, locals := 21 }) (va_Pc [.ref (ad 10), .int x] (kP D kCl (kTy ty) (gW n ty ad f th rt qu b w T g a o) sz)) (kQr (some (.int (mO g a x)))) 0 0 (fun _ => False) := by
  refine Met.ofW (cc := b_M_isOrNone) (maxL := 2) (ret := (some .boolean)) (by decide) rfl ?_
  intro p e s m args below meth cd s₁ B hml hv
  obtain ⟨rfl, hsz, hP, hK, hD0⟩ := hv
  have hx := B.exec
  have hb := B.bytes
  have hr := B.returns
  have hts := atoms_spec (ws := w_M_isOrNone) B.pre
  have hown : s.vm.findClass R_M = some m.cls := findClass_of_methodNamed B.named
  have hlocks := B.notSynchronized
  subst hsz
  have hD := hD0
  have hl := lv_entry ([.ref (ad 10), .int x]) (n := 2) (Nat.le_of_ble_eq_true rfl)
  rw [lg_entry_eq]
  generalize (lg_sl ([.ref (ad 10), .int x]) ++ List.replicate (2 - (lg_sl ([.ref (ad 10), .int x])).length) Slot.unset).toArray = ls at hl ⊢
  have hl : lv_has ls 2 [(0, .ref (ad 10)), (1, .int x)] := hl
  refine lv_iload_n hx hb d_M_isOrNone_0 rfl (lv_at hl 1 rfl) ?_
  refine lv_iconst (v := (-1)) hx hb d_M_isOrNone_1 (by decide) ?_
  refine lv_icmp_eq (tgt := 13) hx hb d_M_isOrNone_2 (by decide) (fun c_2 => ?_) (fun c_2 => ?_)
  · refine lv_iconst (v := 1) hx hb d_M_isOrNone_13 (by decide) ?_
    refine lv_goto (tgt := 18) hx hb d_M_isOrNone_14 (by decide) ?_
    have hv : mO g a x = 1 := by simp [mO, c_2]
    exact W.zret (v := 1) hx hb hr rfl (fun t ht hW => ⟨by rw [hv], ht⟩) (fun q hq => by cases hq) d_M_isOrNone_18
  · refine lv_aload_n hx hb d_M_isOrNone_5 rfl (lv_at hl 0 rfl) ?_
    refine lv_iload_n hx hb d_M_isOrNone_6 rfl (lv_at hl 1 rfl) ?_
    refine kc_R (va_runV (As := [.int x]) (rest := []) ⟨hx, hb, hml, hown, hts⟩ (c_M_isThere l D ty ad _ n f th rt qu b w T g a o hg1 hn3 x) (cwV 1 hts (kGV kS1 m_M_48 m_im_M_isThere m_sel_M_isThere m_ini_M m_code_M_isThere) rfl rfl rfl (by decide +kernel) ⟨Nat.le_of_ble_eq_true rfl, Nat.le_of_ble_eq_true rfl⟩) ⟨kP_blind, va_recv hK hP (ci := 3) (q0 := 10) rfl gw_10, fun U hU hW => ⟨rfl, kP_at hK hP hD U hU hW⟩⟩ rfl rfl hl.1 rfl (lv_room (Nat.le_of_ble_eq_true rfl)) d_M_isOrNone_7 ⟨Nat.le_of_ble_eq_true rfl, Nat.le_of_ble_eq_true rfl⟩) ?_
    refine lv_if_eq (tgt := 17) hx hb d_M_isOrNone_10 (by decide) (fun c_10 => ?_) (fun c_10 => ?_)
    · refine lv_iconst (v := 0) hx hb d_M_isOrNone_17 (by decide) ?_
      have hv : mO g a x = 0 := by simp [mO, c_2, c_10]
      exact W.zret (v := 0) hx hb hr rfl (fun t ht hW => ⟨by rw [hv], ht⟩) (fun q hq => by cases hq) d_M_isOrNone_18
    · refine lv_iconst (v := 1) hx hb d_M_isOrNone_13 (by decide) ?_
      refine lv_goto (tgt := 18) hx hb d_M_isOrNone_14 (by decide) ?_
      have hv : mO g a x = 1 := by simp [mO, c_2, c_10]
      exact W.zret (v := 1) hx hb hr rfl (fun t ht hW => ⟨by rw [hv], ht⟩) (fun q hq => by cases hq) d_M_isOrNone_18
set_option maxHeartbeats 4000000 in
set_option maxRecDepth 100000 in
/-- isField(x, y) -/
theorem c_M_isField (l : Launch) (D : va_G) (ty : Nat → ClassId) (ad : Nat → Nat) (sz : Nat) (n : Nat) (f : Nat → Int32) (th : Nat → Bool) (rt qu : Nat → Int32) (b w : SR) (T : Nat → TH) (g : Nat → Int32) (a : Nat → Nat → Int32) (o : Nat → Int64) (hg1 : g 1 = nI n) (hn3 : n ≤ 300) (x y : Int32) : Met l y_M_isField w_M_isField ({ frames := 1, cells := 0, slots := 0, locals := 21 }) (va_Pc [.ref (ad 10), .int x, .int y] (kP D kCl (kTy ty) (gW n ty ad f th rt qu b w T g a o) sz)) (kQr (some (.int (mF g a x y)))) 0 0 (fun _ => False) := by
  refine Met.ofW (cc := b_M_isField) (maxL := 3) (ret := (some .boolean)) (by decide) rfl ?_
  intro p e s m args below meth cd s₁ B hml hv
  obtain ⟨rfl, hsz, hP, hK, hD0⟩ := hv
  have hx := B.exec
  have hb := B.bytes
  have hr := B.returns
  have hts := atoms_spec (ws := w_M_isField) B.pre
  have hown : s.vm.findClass R_M = some m.cls := findClass_of_methodNamed B.named
  have hlocks := B.notSynchronized
  subst hsz
  have hD := hD0
  have hl := lv_entry ([.ref (ad 10), .int x, .int y]) (n := 3) (Nat.le_of_ble_eq_true rfl)
  rw [lg_entry_eq]
  generalize (lg_sl ([.ref (ad 10), .int x, .int y]) ++ List.replicate (3 - (lg_sl ([.ref (ad 10), .int x, .int y])).length) Slot.unset).toArray = ls at hl ⊢
  have hl : lv_has ls 3 [(0, .ref (ad 10)), (1, .int x), (2, .int y)] := hl
  refine lv_aload_n hx hb d_M_isField_0 rfl (lv_at hl 0 rfl) ?_
  refine lv_iload_n hx hb d_M_isField_1 rfl (lv_at hl 1 rfl) ?_
  refine kc_R (va_runV (As := [.int x]) (rest := []) ⟨hx, hb, hml, hown, hts⟩ (c_M_isThere l D ty ad _ n f th rt qu b w T g a o hg1 hn3 x) (cwV 1 hts (kGV kS1 m_M_48 m_im_M_isThere m_sel_M_isThere m_ini_M m_code_M_isThere) rfl rfl rfl (by decide +kernel) ⟨Nat.le_of_ble_eq_true rfl, Nat.le_of_ble_eq_true rfl⟩) ⟨kP_blind, va_recv hK hP (ci := 3) (q0 := 10) rfl gw_10, fun U hU hW => ⟨rfl, kP_at hK hP hD U hU hW⟩⟩ rfl rfl hl.1 rfl (lv_room (Nat.le_of_ble_eq_true rfl)) d_M_isField_2 ⟨Nat.le_of_ble_eq_true rfl, Nat.le_of_ble_eq_true rfl⟩) ?_
  refine lv_if_eq (tgt := 26) hx hb d_M_isField_5 (by decide) (fun c_5 => ?_) (fun c_5 => ?_)
  · refine lv_iconst (v := 0) hx hb d_M_isField_26 (by decide) ?_
    have hv : mF g a x y = 0 := by simp [mF, c_5]
    exact W.zret (v := 0) hx hb hr rfl (fun t ht hW => ⟨by rw [hv], ht⟩) (fun q hq => by cases hq) d_M_isField_27
  · refine lv_iload_n hx hb d_M_isField_8 rfl (lv_at hl 2 rfl) ?_
    refine lv_if_lt (tgt := 26) hx hb d_M_isField_9 (by decide) (fun c_9 => ?_) (fun c_9 => ?_)
    · refine lv_iconst (v := 0) hx hb d_M_isField_26 (by decide) ?_
      have hv : mF g a x y = 0 := by simp [mF, c_5, c_9]
      exact W.zret (v := 0) hx hb hr rfl (fun t ht hW => ⟨by rw [hv], ht⟩) (fun q hq => by cases hq) d_M_isField_27
    · refine lv_iload_n hx hb d_M_isField_12 rfl (lv_at hl 2 rfl) ?_
      refine lv_aload_n hx hb d_M_isField_13 rfl (lv_at hl 0 rfl) ?_
      refine va_get (D := D) (ci := 3) (v := .ref (ad 13)) (C := R_M) (T := F_M) (N := 16) hx hb hts (fun w h => kS1 w (i_M w h)) hown hK hP 10 gw_10 rfl 4 (by decide) (hts _ (kS1 _ m_M_17)) (fun _ h9 => h9) rfl d_M_isField_14 ?_
      refine lv_iload_n hx hb d_M_isField_17 rfl (lv_at hl 1 rfl) ?_
      refine va_iald (f := a 4) hx hb hK hP 13 0 gw_13 rfl (mI_in hg1 hn3 c_5) d_M_isField_18 ?_
      refine lv_icmp_ge (tgt := 26) hx hb d_M_isField_19 (by decide) (fun c_19 => ?_) (fun c_19 => ?_)
      · refine lv_iconst (v := 0) hx hb d_M_isField_26 (by decide) ?_
        have hv : mF g a x y = 0 := by simp [mF, c_5, c_9, c_19]
        exact W.zret (v := 0) hx hb hr rfl (fun t ht hW => ⟨by rw [hv], ht⟩) (fun q hq => by cases hq) d_M_isField_27
      · refine lv_iconst (v := 1) hx hb d_M_isField_22 (by decide) ?_
        refine lv_goto (tgt := 27) hx hb d_M_isField_23 (by decide) ?_
        have hv : mF g a x y = 1 := by simp [mF, c_5, c_9, c_19]
        exact W.zret (v := 1) hx hb hr rfl (fun t ht hW => ⟨by rw [hv], ht⟩) (fun q hq => by cases hq) d_M_isField_27
set_option maxHeartbeats 4000000 in
set_option maxRecDepth 100000 in
/-- goes(one, two) -/
theorem c_M_goes (l : Launch) (D : va_G) (ty : Nat → ClassId) (ad : Nat → Nat) (sz : Nat) (n : Nat) (f : Nat → Int32) (th : Nat → Bool) (rt qu : Nat → Int32) (b w : SR) (T : Nat → TH) (g : Nat → Int32) (a : Nat → Nat → Int32) (o : Nat → Int64) (p1 p2 : Int32) : Met l y_M_goes w_M_goes ({ frames := 0, cells := 0, slots := 0, locals := 0 }) (va_Pc [.ref (ad 10), .int p1, .int p2] (kP D kCl (kTy ty) (gW n ty ad f th rt qu b w T g a o) sz)) (va_Qi (fun (r9 : Int32) (u9 : va_W) => r9 = (mG p1 p2) ∧ u9 = (gW n ty ad f th rt qu b w T (upd g 0 (mT p1 p2)) a o)) (kB D kCl (kTy ty) (va_A (gW n ty ad f th rt qu b w T g a o) sz)) (va_A (gW n ty ad f th rt qu b w T g a o) sz)) 0 0 (va_A (gW n ty ad f th rt qu b w T g a o) sz) := by
  refine Met.ofW (cc := b_M_goes) (maxL := 3) (ret := (some .boolean)) (by decide) rfl ?_
  intro p e s m args below meth cd s₁ B hml hv
  obtain ⟨rfl, hsz, hP, hK, hD0⟩ := hv
  have hx := B.exec
  have hb := B.bytes
  have hr := B.returns
  have hts := atoms_spec (ws := w_M_goes) B.pre
  have hown : s.vm.findClass R_M = some m.cls := findClass_of_methodNamed B.named
  have hlocks := B.notSynchronized
  subst hsz
  have hD := hD0.self (sz := s.heap.size)
  generalize hAe : va_A (gW n ty ad f th rt qu b w T g a o) s.heap.size = A at hD ⊢
  have hA : ∀ q : Nat, s.heap.size ≤ q → A q := fun q h => by rw [← hAe]; exact Or.inr h
  have hS : va_S A s.heap s.heap [] := va_S.rf
  have hl := lv_entry ([.ref (ad 10), .int p1, .int p2]) (n := 3) (Nat.le_of_ble_eq_true rfl)
  rw [lg_entry_eq]
  generalize (lg_sl ([.ref (ad 10), .int p1, .int p2]) ++ List.replicate (3 - (lg_sl ([.ref (ad 10), .int p1, .int p2])).length) Slot.unset).toArray = ls at hl ⊢
  have hl : lv_has ls 3 [(0, .ref (ad 10)), (1, .int p1), (2, .int p2)] := hl
  have J1 : ∀ (Q : State → Prop), W p l e (headSpec w_M_goes ({ frames := 0, cells := 0, slots := 0, locals := 0 })).room s m ([.ref (ad 10), .int p1, .int p2] : List Value).toArray below meth cd s.heap [] 0 0 Q (F0 m 18 ls [.int (mT p1 p2), .ref (ad 10)]) → W p l e (headSpec w_M_goes ({ frames := 0, cells := 0, slots := 0, locals := 0 })).room s m ([.ref (ad 10), .int p1, .int p2] : List Value).toArray below meth cd s.heap [] 0 0 Q (F0 m 0 ls []) := by
    intro Q kx
    refine lv_aload_n hx hb d_M_goes_0 rfl (lv_at hl 0 rfl) ?_
    refine lv_iload_n hx hb d_M_goes_1 rfl (lv_at hl 1 rfl) ?_
    refine lv_if_ne (tgt := 9) hx hb d_M_goes_2 (by decide) (fun c_2 => ?_) (fun c_2 => ?_)
    · refine lv_iload_n hx hb d_M_goes_9 rfl (lv_at hl 2 rfl) ?_
      refine lv_if_ne (tgt := 17) hx hb d_M_goes_10 (by decide) (fun c_10 => ?_) (fun c_10 => ?_)
      · refine lv_iconst (v := 0) hx hb d_M_goes_17 (by decide) ?_
        have hj : mT p1 p2 = 0 := by simp [mT, c_2, c_10]
        rw [hj] at kx
        exact kx
      · refine lv_iconst (v := 2) hx hb d_M_goes_13 (by decide) ?_
        refine lv_goto (tgt := 18) hx hb d_M_goes_14 (by decide) ?_
        have hj : mT p1 p2 = 2 := by simp [mT, c_2, c_10]
        rw [hj] at kx
        exact kx
    · refine lv_iconst (v := 1) hx hb d_M_goes_5 (by decide) ?_
      refine lv_goto (tgt := 18) hx hb d_M_goes_6 (by decide) ?_
      have hj : mT p1 p2 = 1 := by simp [mT, c_2]
      rw [hj] at kx
      exact kx
  refine J1 _ ?_
  refine va_put (D := D) (ci := 3) (v := .int (mT p1 p2)) (ty := .int) (C := R_M) (T := F_M) (N := 16) hx hb hts (fun w h => kS1 w (i_M w h)) tt_M tt_M_ok n_M hown hK hP hD hS 10 gw_10 rfl 0 (by decide) (hts _ (kS1 _ m_M_41)) (fun _ h9 => h9) rfl (by decide +kernel) rfl rfl (Nat.le_of_ble_eq_true rfl) d_M_goes_18 (fun H locs hP hD hS => ?_)
  have hP := kw_P (gw_sM0 (v := mT p1 p2)) hP
  have hD := kw_D (gw_sM0 (v := mT p1 p2)) hD
  refine lv_aload_n hx hb d_M_goes_21 rfl (lv_at hl 0 rfl) ?_
  refine va_get (D := D) (ci := 3) (v := .int (mT p1 p2)) (C := R_M) (T := F_M) (N := 16) hx hb hts (fun w h => kS1 w (i_M w h)) hown hK hP 10 gw_10 rfl 0 (by decide) (hts _ (kS1 _ m_M_41)) (fun _ h9 => h9) rfl d_M_goes_22 ?_
  refine lv_if_ne (tgt := 32) hx hb d_M_goes_25 (by decide) (fun c_25 => ?_) (fun c_25 => ?_)
  · refine lv_iconst (v := 0) hx hb d_M_goes_32 (by decide) ?_
    have hu : (gW n ty ad f th rt qu b w T (upd g 0 (mT p1 p2)) a o : va_W) = gW n ty ad f th rt qu b w T (upd g 0 (mT p1 p2)) a o := by rfl
    have hv : (0 : Int32) = mG p1 p2 := by rw [mG_eq, if_neg c_25]
    exact W.zret (v := 0) hx hb hr rfl (fun t ht hW => ⟨⟨_, _, rfl, ⟨hv, hu⟩, by rw [ht]; exact hP, va_K.moved hW.alike hK, hD⟩, hS.F ht⟩) hS.2.2 d_M_goes_33
  · refine lv_iconst (v := 1) hx hb d_M_goes_28 (by decide) ?_
    refine lv_goto (tgt := 33) hx hb d_M_goes_29 (by decide) ?_
    have hu : (gW n ty ad f th rt qu b w T (upd g 0 (mT p1 p2)) a o : va_W) = gW n ty ad f th rt qu b w T (upd g 0 (mT p1 p2)) a o := by rfl
    have hv : (1 : Int32) = mG p1 p2 := by rw [mG_eq, if_pos c_25]
    exact W.zret (v := 1) hx hb hr rfl (fun t ht hW => ⟨⟨_, _, rfl, ⟨hv, hu⟩, by rw [ht]; exact hP, va_K.moved hW.alike hK, hD⟩, hS.F ht⟩) hS.2.2 d_M_goes_33
set_option maxHeartbeats 4000000 in
set_option maxRecDepth 100000 in
/-- make(kd, z): refused -/
theorem c_M_make_n (l : Launch) (D : va_G) (ty : Nat → ClassId) (ad : Nat → Nat) (sz : Nat) (n : Nat) (f : Nat → Int32) (th : Nat → Bool) (rt qu : Nat → Int32) (b w : SR) (T : Nat → TH) (g : Nat → Int32) (a : Nat → Nat → Int32) (o : Nat → Int64) (hg1 : g 1 = nI n) (hn3 : n ≤ 300) (kd z : Int32) (hc : mG (mkP kd z) (mkQ g) = 0) : Met l y_M_make w_M_make ({ frames := 1, cells := 0, slots := 0, locals := 22 }) (va_Pc [.ref (ad 10), .int kd, .int z] (kP D kCl (kTy ty) (gW n ty ad f th rt qu b w T g a o) sz)) (va_Qi (fun (r9 : Int32) (u9 : va_W) => r9 = 0 ∧ u9 = (gW n ty ad f th rt qu b w T (upd g 0 (mT (mkP kd z) (mkQ g))) a o)) (kB D kCl (kTy ty) (va_A (gW n ty ad f th rt qu b w T g a o) sz)) (va_A (gW n ty ad f th rt qu b w T g a o) sz)) 0 0 (va_A (gW n ty ad f th rt qu b w T g a o) sz) := by
  refine Met.ofW (cc := b_M_make) (maxL := 3) (ret := (some .int)) (by decide) rfl ?_
  intro p e s m args below meth cd s₁ B hml hv
  obtain ⟨rfl, hsz, hP, hK, hD0⟩ := hv
  have hx := B.exec
  have hb := B.bytes
  have hr := B.returns
  have hts := atoms_spec (ws := w_M_make) B.pre
  have hown : s.vm.findClass R_M = some m.cls := findClass_of_methodNamed B.named
  have hlocks := B.notSynchronized
  subst hsz
  have hD := hD0.self (sz := s.heap.size)
  generalize hAe : va_A (gW n ty ad f th rt qu b w T g a o) s.heap.size = A at hD ⊢
  have hA : ∀ q : Nat, s.heap.size ≤ q → A q := fun q h => by rw [← hAe]; exact Or.inr h
  have hS : va_S A s.heap s.heap [] := va_S.rf
  have hl := lv_entry ([.ref (ad 10), .int kd, .int z]) (n := 3) (Nat.le_of_ble_eq_true rfl)
  rw [lg_entry_eq]
  generalize (lg_sl ([.ref (ad 10), .int kd, .int z]) ++ List.replicate (3 - (lg_sl ([.ref (ad 10), .int kd, .int z])).length) Slot.unset).toArray = ls at hl ⊢
  have hl : lv_has ls 3 [(0, .ref (ad 10)), (1, .int kd), (2, .int z)] := hl
  refine lv_aload_n hx hb d_M_make_0 rfl (lv_at hl 0 rfl) ?_
  have J1 : ∀ (Q : State → Prop), W p l e (headSpec w_M_make ({ frames := 1, cells := 0, slots := 0, locals := 22 })).room s m ([.ref (ad 10), .int kd, .int z] : List Value).toArray below meth cd s.heap [] 0 0 Q (F0 m 34 ls [.int (mkP kd z), .ref (ad 10)]) → W p l e (headSpec w_M_make ({ frames := 1, cells := 0, slots := 0, locals := 22 })).room s m ([.ref (ad 10), .int kd, .int z] : List Value).toArray below meth cd s.heap [] 0 0 Q (F0 m 1 ls [.ref (ad 10)]) := by
    intro Q kx
    refine lv_iload_n hx hb d_M_make_1 rfl (lv_at hl 1 rfl) ?_
    refine lv_if_lt (tgt := 33) hx hb d_M_make_2 (by decide) (fun c_2 => ?_) (fun c_2 => ?_)
    · refine lv_iconst (v := 0) hx hb d_M_make_33 (by decide) ?_
      have hj : mkP kd z = 0 := by simp [mkP, c_2]
      rw [hj] at kx
      exact kx
    · refine lv_iload_n hx hb d_M_make_5 rfl (lv_at hl 1 rfl) ?_
      refine lv_iconst (v := 2) hx hb d_M_make_6 (by decide) ?_
      refine lv_icmp_gt (tgt := 33) hx hb d_M_make_7 (by decide) (fun c_7 => ?_) (fun c_7 => ?_)
      · refine lv_iconst (v := 0) hx hb d_M_make_33 (by decide) ?_
        have hj : mkP kd z = 0 := by simp [mkP, c_2, c_7]
        rw [hj] at kx
        exact kx
      · refine lv_iload_n hx hb d_M_make_10 rfl (lv_at hl 2 rfl) ?_
        refine lv_if_lt (tgt := 33) hx hb d_M_make_11 (by decide) (fun c_11 => ?_) (fun c_11 => ?_)
        · refine lv_iconst (v := 0) hx hb d_M_make_33 (by decide) ?_
          have hj : mkP kd z = 0 := by simp [mkP, c_2, c_7, c_11]
          rw [hj] at kx
          exact kx
        · refine lv_iload_n hx hb d_M_make_14 rfl (lv_at hl 2 rfl) ?_
          refine lv_bipush (v := 12) hx hb d_M_make_15 (by decide) ?_
          refine lv_icmp_gt (tgt := 33) hx hb d_M_make_17 (by decide) (fun c_17 => ?_) (fun c_17 => ?_)
          · refine lv_iconst (v := 0) hx hb d_M_make_33 (by decide) ?_
            have hj : mkP kd z = 0 := by simp [mkP, c_2, c_7, c_11, c_17]
            rw [hj] at kx
            exact kx
          · refine lv_iload_n hx hb d_M_make_20 rfl (lv_at hl 1 rfl) ?_
            refine lv_iconst (v := 1) hx hb d_M_make_21 (by decide) ?_
            refine lv_icmp_ne (tgt := 29) hx hb d_M_make_22 (by decide) (fun c_22 => ?_) (fun c_22 => ?_)
            · refine lv_iconst (v := 1) hx hb d_M_make_29 (by decide) ?_
              refine lv_goto (tgt := 34) hx hb d_M_make_30 (by decide) ?_
              have hj : mkP kd z = 1 := by simp [mkP, c_2, c_7, c_11, c_17, c_22]
              rw [hj] at kx
              exact kx
            · refine lv_iload_n hx hb d_M_make_25 rfl (lv_at hl 2 rfl) ?_
              refine lv_if_le (tgt := 33) hx hb d_M_make_26 (by decide) (fun c_26 => ?_) (fun c_26 => ?_)
              · refine lv_iconst (v := 0) hx hb d_M_make_33 (by decide) ?_
                have hj : mkP kd z = 0 := by simp [mkP, c_2, c_7, c_11, c_17, c_22, c_26]
                rw [hj] at kx
                exact kx
              · refine lv_iconst (v := 1) hx hb d_M_make_29 (by decide) ?_
                refine lv_goto (tgt := 34) hx hb d_M_make_30 (by decide) ?_
                have hj : mkP kd z = 1 := by simp [mkP, c_2, c_7, c_11, c_17, c_22, c_26]
                rw [hj] at kx
                exact kx
  refine J1 _ ?_
  have J2 : ∀ (Q : State → Prop), W p l e (headSpec w_M_make ({ frames := 1, cells := 0, slots := 0, locals := 22 })).room s m ([.ref (ad 10), .int kd, .int z] : List Value).toArray below meth cd s.heap [] 0 0 Q (F0 m 49 ls [.int (mkQ g), .int (mkP kd z), .ref (ad 10)]) → W p l e (headSpec w_M_make ({ frames := 1, cells := 0, slots := 0, locals := 22 })).room s m ([.ref (ad 10), .int kd, .int z] : List Value).toArray below meth cd s.heap [] 0 0 Q (F0 m 34 ls [.int (mkP kd z), .ref (ad 10)]) := by
    intro Q kx
    refine lv_aload_n hx hb d_M_make_34 rfl (lv_at hl 0 rfl) ?_
    refine va_get (D := D) (ci := 3) (v := .int (g 1)) (C := R_M) (T := F_M) (N := 16) hx hb hts (fun w h => kS1 w (i_M w h)) hown hK hP 10 gw_10 rfl 1 (by decide) (hts _ (kS1 _ m_M_45)) (fun _ h9 => h9) rfl d_M_make_35 ?_
    refine lv_sipush (v := 300) hx hb d_M_make_38 (by decide) ?_
    refine lv_icmp_ge (tgt := 48) hx hb d_M_make_41 (by decide) (fun c_41 => ?_) (fun c_41 => ?_)
    · refine lv_iconst (v := 0) hx hb d_M_make_48 (by decide) ?_
      have hj : mkQ g = 0 := by simp [mkQ, c_41]
      rw [hj] at kx
      exact kx
    · refine lv_iconst (v := 1) hx hb d_M_make_44 (by decide) ?_
      refine lv_goto (tgt := 49) hx hb d_M_make_45 (by decide) ?_
      have hj : mkQ g = 1 := by simp [mkQ, c_41]
      rw [hj] at kx
      exact kx
  refine J2 _ ?_
  refine kc_i (va_runV (As := [.int (mkP kd z), .int (mkQ g)]) (rest := []) ⟨hx, hb, hml, hown, hts⟩ (c_M_goes l D ty ad _ n f th rt qu b w T g a o (mkP kd z) (mkQ g)) (cwV 2 hts (kGV kS1 m_M_52 m_im_M_goes m_sel_M_goes m_ini_M m_code_M_goes) rfl rfl rfl (by decide +kernel) ⟨Nat.le_of_ble_eq_true rfl, Nat.le_of_ble_eq_true rfl⟩) ⟨kP_blind, va_recv hK hP (ci := 3) (q0 := 10) rfl gw_10, fun U hU hW => ⟨rfl, kP_at hK hP hD U hU hW⟩⟩ rfl rfl hl.1 rfl (lv_room (Nat.le_of_ble_eq_true rfl)) d_M_make_49 ⟨Nat.le_of_ble_eq_true rfl, Nat.le_of_ble_eq_true rfl⟩) hD hS hA (fun r u H locs hu hP hD hS hz => ?_)
  obtain ⟨rfl, rfl⟩ := hu
  refine lv_if_ne (tgt := 57) hx hb d_M_make_52 (by decide) (fun c_52 => absurd hc c_52) (fun c_52 => ?_)
  refine lv_iconst (v := 0) hx hb d_M_make_55 (by decide) ?_
  have hu : (gW n ty ad f th rt qu b w T (upd g 0 (mT (mkP kd z) (mkQ g))) a o : va_W) = gW n ty ad f th rt qu b w T (upd g 0 (mT (mkP kd z) (mkQ g))) a o := by simp [c_52]
  have hv : (0 : Int32) = 0 := by simp [c_52]
  exact W.iret (v := 0) hx hb hr (fun t ht hW => ⟨⟨_, _, rfl, ⟨hv, hu⟩, by rw [ht]; exact hP, va_K.moved hW.alike hK, hD⟩, hS.F ht⟩) hS.2.2 d_M_make_56
set_option maxHeartbeats 4000000 in
set_option maxRecDepth 100000 in
/-- make(kd, z): it goes -/
theorem c_M_make_y (l : Launch) (D : va_G) (ty : Nat → ClassId) (ad : Nat → Nat) (sz : Nat) (n : Nat) (f : Nat → Int32) (th : Nat → Bool) (rt qu : Nat → Int32) (b w : SR) (T : Nat → TH) (g : Nat → Int32) (a : Nat → Nat → Int32) (o : Nat → Int64) (hg1 : g 1 = nI n) (hn3 : n ≤ 300) (kd z : Int32) (hc : ¬ mG (mkP kd z) (mkQ g) = 0) : Met l y_M_make w_M_make ({ frames := 1, cells := 0, slots := 0, locals := 22 }) (va_Pc [.ref (ad 10), .int kd, .int z] (kP D kCl (kTy ty) (gW n ty ad f th rt qu b w T g a o) sz)) (va_Qi (fun (r9 : Int32) (u9 : va_W) => r9 = (g 1 + 1 - 1) ∧ u9 = (gW n ty ad f th rt qu b w T (upd (upd g 0 (mT (mkP kd z) (mkQ g))) 1 (g 1 + 1)) (va_up (va_up (va_up a 2 (upd (a 2) n 1)) 3 (upd (a 3) n kd)) 4 (upd (a 4) n z)) o)) (kB D kCl (kTy ty) (va_A (gW n ty ad f th rt qu b w T g a o) sz)) (va_A (gW n ty ad f th rt qu b w T g a o) sz)) 0 0 (va_A (gW n ty ad f th rt qu b w T g a o) sz) := by
  refine Met.ofW (cc := b_M_make) (maxL := 3) (ret := (some .int)) (by decide) rfl ?_
  intro p e s m args below meth cd s₁ B hml hv
  obtain ⟨rfl, hsz, hP, hK, hD0⟩ := hv
  have hx := B.exec
  have hb := B.bytes
  have hr := B.returns
  have hts := atoms_spec (ws := w_M_make) B.pre
  have hown : s.vm.findClass R_M = some m.cls := findClass_of_methodNamed B.named
  have hlocks := B.notSynchronized
  subst hsz
  have hD := hD0.self (sz := s.heap.size)
  generalize hAe : va_A (gW n ty ad f th rt qu b w T g a o) s.heap.size = A at hD ⊢
  have hA : ∀ q : Nat, s.heap.size ≤ q → A q := fun q h => by rw [← hAe]; exact Or.inr h
  have hS : va_S A s.heap s.heap [] := va_S.rf
  have hl := lv_entry ([.ref (ad 10), .int kd, .int z]) (n := 3) (Nat.le_of_ble_eq_true rfl)
  rw [lg_entry_eq]
  generalize (lg_sl ([.ref (ad 10), .int kd, .int z]) ++ List.replicate (3 - (lg_sl ([.ref (ad 10), .int kd, .int z])).length) Slot.unset).toArray = ls at hl ⊢
  have hl : lv_has ls 3 [(0, .ref (ad 10)), (1, .int kd), (2, .int z)] := hl
  refine lv_aload_n hx hb d_M_make_0 rfl (lv_at hl 0 rfl) ?_
  have J1 : ∀ (Q : State → Prop), W p l e (headSpec w_M_make ({ frames := 1, cells := 0, slots := 0, locals := 22 })).room s m ([.ref (ad 10), .int kd, .int z] : List Value).toArray below meth cd s.heap [] 0 0 Q (F0 m 34 ls [.int (mkP kd z), .ref (ad 10)]) → W p l e (headSpec w_M_make ({ frames := 1, cells := 0, slots := 0, locals := 22 })).room s m ([.ref (ad 10), .int kd, .int z] : List Value).toArray below meth cd s.heap [] 0 0 Q (F0 m 1 ls [.ref (ad 10)]) := by
    intro Q kx
    refine lv_iload_n hx hb d_M_make_1 rfl (lv_at hl 1 rfl) ?_
    refine lv_if_lt (tgt := 33) hx hb d_M_make_2 (by decide) (fun c_2 => ?_) (fun c_2 => ?_)
    · refine lv_iconst (v := 0) hx hb d_M_make_33 (by decide) ?_
      have hj : mkP kd z = 0 := by simp [mkP, c_2]
      rw [hj] at kx
      exact kx
    · refine lv_iload_n hx hb d_M_make_5 rfl (lv_at hl 1 rfl) ?_
      refine lv_iconst (v := 2) hx hb d_M_make_6 (by decide) ?_
      refine lv_icmp_gt (tgt := 33) hx hb d_M_make_7 (by decide) (fun c_7 => ?_) (fun c_7 => ?_)
      · refine lv_iconst (v := 0) hx hb d_M_make_33 (by decide) ?_
        have hj : mkP kd z = 0 := by simp [mkP, c_2, c_7]
        rw [hj] at kx
        exact kx
      · refine lv_iload_n hx hb d_M_make_10 rfl (lv_at hl 2 rfl) ?_
        refine lv_if_lt (tgt := 33) hx hb d_M_make_11 (by decide) (fun c_11 => ?_) (fun c_11 => ?_)
        · refine lv_iconst (v := 0) hx hb d_M_make_33 (by decide) ?_
          have hj : mkP kd z = 0 := by simp [mkP, c_2, c_7, c_11]
          rw [hj] at kx
          exact kx
        · refine lv_iload_n hx hb d_M_make_14 rfl (lv_at hl 2 rfl) ?_
          refine lv_bipush (v := 12) hx hb d_M_make_15 (by decide) ?_
          refine lv_icmp_gt (tgt := 33) hx hb d_M_make_17 (by decide) (fun c_17 => ?_) (fun c_17 => ?_)
          · refine lv_iconst (v := 0) hx hb d_M_make_33 (by decide) ?_
            have hj : mkP kd z = 0 := by simp [mkP, c_2, c_7, c_11, c_17]
            rw [hj] at kx
            exact kx
          · refine lv_iload_n hx hb d_M_make_20 rfl (lv_at hl 1 rfl) ?_
            refine lv_iconst (v := 1) hx hb d_M_make_21 (by decide) ?_
            refine lv_icmp_ne (tgt := 29) hx hb d_M_make_22 (by decide) (fun c_22 => ?_) (fun c_22 => ?_)
            · refine lv_iconst (v := 1) hx hb d_M_make_29 (by decide) ?_
              refine lv_goto (tgt := 34) hx hb d_M_make_30 (by decide) ?_
              have hj : mkP kd z = 1 := by simp [mkP, c_2, c_7, c_11, c_17, c_22]
              rw [hj] at kx
              exact kx
            · refine lv_iload_n hx hb d_M_make_25 rfl (lv_at hl 2 rfl) ?_
              refine lv_if_le (tgt := 33) hx hb d_M_make_26 (by decide) (fun c_26 => ?_) (fun c_26 => ?_)
              · refine lv_iconst (v := 0) hx hb d_M_make_33 (by decide) ?_
                have hj : mkP kd z = 0 := by simp [mkP, c_2, c_7, c_11, c_17, c_22, c_26]
                rw [hj] at kx
                exact kx
              · refine lv_iconst (v := 1) hx hb d_M_make_29 (by decide) ?_
                refine lv_goto (tgt := 34) hx hb d_M_make_30 (by decide) ?_
                have hj : mkP kd z = 1 := by simp [mkP, c_2, c_7, c_11, c_17, c_22, c_26]
                rw [hj] at kx
                exact kx
  refine J1 _ ?_
  have J2 : ∀ (Q : State → Prop), W p l e (headSpec w_M_make ({ frames := 1, cells := 0, slots := 0, locals := 22 })).room s m ([.ref (ad 10), .int kd, .int z] : List Value).toArray below meth cd s.heap [] 0 0 Q (F0 m 49 ls [.int (mkQ g), .int (mkP kd z), .ref (ad 10)]) → W p l e (headSpec w_M_make ({ frames := 1, cells := 0, slots := 0, locals := 22 })).room s m ([.ref (ad 10), .int kd, .int z] : List Value).toArray below meth cd s.heap [] 0 0 Q (F0 m 34 ls [.int (mkP kd z), .ref (ad 10)]) := by
    intro Q kx
    refine lv_aload_n hx hb d_M_make_34 rfl (lv_at hl 0 rfl) ?_
    refine va_get (D := D) (ci := 3) (v := .int (g 1)) (C := R_M) (T := F_M) (N := 16) hx hb hts (fun w h => kS1 w (i_M w h)) hown hK hP 10 gw_10 rfl 1 (by decide) (hts _ (kS1 _ m_M_45)) (fun _ h9 => h9) rfl d_M_make_35 ?_
    refine lv_sipush (v := 300) hx hb d_M_make_38 (by decide) ?_
    refine lv_icmp_ge (tgt := 48) hx hb d_M_make_41 (by decide) (fun c_41 => ?_) (fun c_41 => ?_)
    · refine lv_iconst (v := 0) hx hb d_M_make_48 (by decide) ?_
      have hj : mkQ g = 0 := by simp [mkQ, c_41]
      rw [hj] at kx
      exact kx
    · refine lv_iconst (v := 1) hx hb d_M_make_44 (by decide) ?_
      refine lv_goto (tgt := 49) hx hb d_M_make_45 (by decide) ?_
      have hj : mkQ g = 1 := by simp [mkQ, c_41]
      rw [hj] at kx
      exact kx
  refine J2 _ ?_
  refine kc_i (va_runV (As := [.int (mkP kd z), .int (mkQ g)]) (rest := []) ⟨hx, hb, hml, hown, hts⟩ (c_M_goes l D ty ad _ n f th rt qu b w T g a o (mkP kd z) (mkQ g)) (cwV 2 hts (kGV kS1 m_M_52 m_im_M_goes m_sel_M_goes m_ini_M m_code_M_goes) rfl rfl rfl (by decide +kernel) ⟨Nat.le_of_ble_eq_true rfl, Nat.le_of_ble_eq_true rfl⟩) ⟨kP_blind, va_recv hK hP (ci := 3) (q0 := 10) rfl gw_10, fun U hU hW => ⟨rfl, kP_at hK hP hD U hU hW⟩⟩ rfl rfl hl.1 rfl (lv_room (Nat.le_of_ble_eq_true rfl)) d_M_make_49 ⟨Nat.le_of_ble_eq_true rfl, Nat.le_of_ble_eq_true rfl⟩) hD hS hA (fun r u H locs hu hP hD hS hz => ?_)
  obtain ⟨rfl, rfl⟩ := hu
  refine lv_if_ne (tgt := 57) hx hb d_M_make_52 (by decide) (fun c_52 => ?_) (fun c_52 => absurd c_52 hc)
  refine lv_aload_n hx hb d_M_make_57 rfl (lv_at hl 0 rfl) ?_
  refine va_get (D := D) (ci := 3) (v := .ref (ad 11)) (C := R_M) (T := F_M) (N := 16) hx hb hts (fun w h => kS1 w (i_M w h)) hown hK hP 10 gw_10 rfl 2 (by decide) (hts _ (kS1 _ m_M_7)) (fun _ h9 => h9) rfl d_M_make_58 ?_
  refine lv_aload_n hx hb d_M_make_61 rfl (lv_at hl 0 rfl) ?_
  refine va_get (D := D) (ci := 3) (v := .int (g 1)) (C := R_M) (T := F_M) (N := 16) hx hb hts (fun w h => kS1 w (i_M w h)) hown hK hP 10 gw_10 rfl 1 (by decide) (hts _ (kS1 _ m_M_45)) (fun _ h9 => h9) rfl d_M_make_62 ?_
  refine lv_iconst (v := 1) hx hb d_M_make_65 (by decide) ?_
  refine va_zast (f := a 2) hx hb hK hP hD hS 11 1 gw_11 rfl (by rw [hg1]; exact vp_in_nI (mkQ_lt hg1 hn3 hc) (by omega)) d_M_make_66 (fun H locs hP hD hS => ?_)
  have hP := kw_P (gw_sa2 (r := upd (a 2) ((g 1).toNatClampNeg) (vp_nar .boolean 1))) hP
  have hD := kw_D (gw_sa2 (r := upd (a 2) ((g 1).toNatClampNeg) (vp_nar .boolean 1))) hD
  refine lv_aload_n hx hb d_M_make_67 rfl (lv_at hl 0 rfl) ?_
  refine va_get (D := D) (ci := 3) (v := .ref (ad 12)) (C := R_M) (T := F_M) (N := 16) hx hb hts (fun w h => kS1 w (i_M w h)) hown hK hP 10 gw_10 rfl 3 (by decide) (hts _ (kS1 _ m_M_13)) (fun _ h9 => h9) rfl d_M_make_68 ?_
  refine lv_aload_n hx hb d_M_make_71 rfl (lv_at hl 0 rfl) ?_
  refine va_get (D := D) (ci := 3) (v := .int (g 1)) (C := R_M) (T := F_M) (N := 16) hx hb hts (fun w h => kS1 w (i_M w h)) hown hK hP 10 gw_10 rfl 1 (by decide) (hts _ (kS1 _ m_M_45)) (fun _ h9 => h9) rfl d_M_make_72 ?_
  refine lv_iload_n hx hb d_M_make_75 rfl (lv_at hl 1 rfl) ?_
  refine va_iast (f := a 3) hx hb hK hP hD hS 12 0 gw_12 rfl (by rw [hg1]; exact vp_in_nI (mkQ_lt hg1 hn3 hc) (by omega)) d_M_make_76 (fun H locs hP hD hS => ?_)
  have hP := kw_P (gw_sa3 (r := upd (a 3) ((g 1).toNatClampNeg) kd)) hP
  have hD := kw_D (gw_sa3 (r := upd (a 3) ((g 1).toNatClampNeg) kd)) hD
  refine lv_aload_n hx hb d_M_make_77 rfl (lv_at hl 0 rfl) ?_
  refine va_get (D := D) (ci := 3) (v := .ref (ad 13)) (C := R_M) (T := F_M) (N := 16) hx hb hts (fun w h => kS1 w (i_M w h)) hown hK hP 10 gw_10 rfl 4 (by decide) (hts _ (kS1 _ m_M_17)) (fun _ h9 => h9) rfl d_M_make_78 ?_
  refine lv_aload_n hx hb d_M_make_81 rfl (lv_at hl 0 rfl) ?_
  refine va_get (D := D) (ci := 3) (v := .int (g 1)) (C := R_M) (T := F_M) (N := 16) hx hb hts (fun w h => kS1 w (i_M w h)) hown hK hP 10 gw_10 rfl 1 (by decide) (hts _ (kS1 _ m_M_45)) (fun _ h9 => h9) rfl d_M_make_82 ?_
  refine lv_iload_n hx hb d_M_make_85 rfl (lv_at hl 2 rfl) ?_
  refine va_iast (f := a 4) hx hb hK hP hD hS 13 0 gw_13 rfl (by rw [hg1]; exact vp_in_nI (mkQ_lt hg1 hn3 hc) (by omega)) d_M_make_86 (fun H locs hP hD hS => ?_)
  have hP := kw_P (gw_sa4 (r := upd (a 4) ((g 1).toNatClampNeg) z)) hP
  have hD := kw_D (gw_sa4 (r := upd (a 4) ((g 1).toNatClampNeg) z)) hD
  refine lv_aload_n hx hb d_M_make_87 rfl (lv_at hl 0 rfl) ?_
  refine lv_dup hx hb d_M_make_88 rfl ?_
  refine va_get (D := D) (ci := 3) (v := .int (g 1)) (C := R_M) (T := F_M) (N := 16) hx hb hts (fun w h => kS1 w (i_M w h)) hown hK hP 10 gw_10 rfl 1 (by decide) (hts _ (kS1 _ m_M_45)) (fun _ h9 => h9) rfl d_M_make_89 ?_
  refine lv_iconst (v := 1) hx hb d_M_make_92 (by decide) ?_
  refine lv_iadd hx hb d_M_make_93 ?_
  refine va_put (D := D) (ci := 3) (v := .int ((g 1) + 1)) (ty := .int) (C := R_M) (T := F_M) (N := 16) hx hb hts (fun w h => kS1 w (i_M w h)) tt_M tt_M_ok n_M hown hK hP hD hS 10 gw_10 rfl 1 (by decide) (hts _ (kS1 _ m_M_45)) (fun _ h9 => h9) rfl (by decide +kernel) rfl rfl (Nat.le_of_ble_eq_true rfl) d_M_make_94 (fun H locs hP hD hS => ?_)
  have hP := kw_P (gw_sM1 (v := (g 1) + 1)) hP
  have hD := kw_D (gw_sM1 (v := (g 1) + 1)) hD
  refine lv_aload_n hx hb d_M_make_97 rfl (lv_at hl 0 rfl) ?_
  refine va_get (D := D) (ci := 3) (v := .int ((g 1) + 1)) (C := R_M) (T := F_M) (N := 16) hx hb hts (fun w h => kS1 w (i_M w h)) hown hK hP 10 gw_10 rfl 1 (by decide) (hts _ (kS1 _ m_M_45)) (fun _ h9 => h9) rfl d_M_make_98 ?_
  refine lv_iconst (v := 1) hx hb d_M_make_101 (by decide) ?_
  refine lv_isub hx hb d_M_make_102 ?_
  have hu : (gW n ty ad f th rt qu b w T (upd (upd g 0 (mT (mkP kd z) (mkQ g))) 1 ((g 1) + 1)) (va_up (va_up (va_up a 2 (upd (a 2) ((g 1).toNatClampNeg) (vp_nar .boolean 1))) 3 (upd (a 3) ((g 1).toNatClampNeg) kd)) 4 (upd (a 4) ((g 1).toNatClampNeg) z)) o : va_W) = gW n ty ad f th rt qu b w T (upd (upd g 0 (mT (mkP kd z) (mkQ g))) 1 (g 1 + 1)) (va_up (va_up (va_up a 2 (upd (a 2) n 1)) 3 (upd (a 3) n kd)) 4 (upd (a 4) n z)) o := by simp [hg1, nI_clamp (show n < 2 ^ 31 by omega), kb1, c_52]
  have hv : (((g 1) + 1) - 1 : Int32) = g 1 + 1 - 1 := by simp [hg1, nI_clamp (show n < 2 ^ 31 by omega), kb1, c_52]
  exact W.iret (v := ((g 1) + 1) - 1) hx hb hr (fun t ht hW => ⟨⟨_, _, rfl, ⟨hv, hu⟩, by rw [ht]; exact hP, va_K.moved hW.alike hK, hD⟩, hS.F ht⟩) hS.2.2 d_M_make_103
set_option maxHeartbeats 4000000 in
set_option maxRecDepth 100000 in
/-- set(x, y, u): refused -/
theorem c_M_set_n (l : Launch) (D : va_G) (ty : Nat → ClassId) (ad : Nat → Nat) (sz : Nat) (n : Nat) (f : Nat → Int32) (th : Nat → Bool) (rt qu : Nat → Int32) (b w : SR) (T : Nat → TH) (g : Nat → Int32) (a : Nat → Nat → Int32) (o : Nat → Int64) (hg1 : g 1 = nI n) (hn3 : n ≤ 300) (hL : ∀ k, k < n → ∃ v, v ≤ 12 ∧ a 4 k = nI v) (x y u : Int32) (hc : mG (mA (mF g a x y) (mO g a u)) 1 = 0) : Met l y_M_set w_M_set ({ frames := 2, cells := 0, slots := 0, locals := 43 }) (va_Pc [.ref (ad 10), .int x, .int y, .int u] (kP D kCl (kTy ty) (gW n ty ad f th rt qu b w T g a o) sz)) (va_Qi (fun (r9 : Int32) (u9 : va_W) => r9 = 0 ∧ u9 = (gW n ty ad f th rt qu b w T (upd g 0 (mT (mA (mF g a x y) (mO g a u)) 1)) a o)) (kB D kCl (kTy ty) (va_A (gW n ty ad f th rt qu b w T g a o) sz)) (va_A (gW n ty ad f th rt qu b w T g a o) sz)) 0 0 (va_A (gW n ty ad f th rt qu b w T g a o) sz) := by
  refine Met.ofW (cc := b_M_set) (maxL := 5) (ret := (some .int)) (by decide) rfl ?_
  intro p e s m args below meth cd s₁ B hml hv
  obtain ⟨rfl, hsz, hP, hK, hD0⟩ := hv
  have hx := B.exec
  have hb := B.bytes
  have hr := B.returns
  have hts := atoms_spec (ws := w_M_set) B.pre
  have hown : s.vm.findClass R_M = some m.cls := findClass_of_methodNamed B.named
  have hlocks := B.notSynchronized
  subst hsz
  have hD := hD0.self (sz := s.heap.size)
  generalize hAe : va_A (gW n ty ad f th rt qu b w T g a o) s.heap.size = A at hD ⊢
  have hA : ∀ q : Nat, s.heap.size ≤ q → A q := fun q h => by rw [← hAe]; exact Or.inr h
  have hS : va_S A s.heap s.heap [] := va_S.rf
  have hl := lv_entry ([.ref (ad 10), .int x, .int y, .int u]) (n := 5) (Nat.le_of_ble_eq_true rfl)
  rw [lg_entry_eq]
  generalize (lg_sl ([.ref (ad 10), .int x, .int y, .int u]) ++ List.replicate (5 - (lg_sl ([.ref (ad 10), .int x, .int y, .int u])).length) Slot.unset).toArray = ls at hl ⊢
  have hl : lv_has ls 5 [(0, .ref (ad 10)), (1, .int x), (2, .int y), (3, .int u)] := hl
  refine lv_aload_n hx hb d_M_set_0 rfl (lv_at hl 0 rfl) ?_
  have J1 : ∀ (Q : State → Prop), W p l e (headSpec w_M_set ({ frames := 2, cells := 0, slots := 0, locals := 43 })).room s m ([.ref (ad 10), .int x, .int y, .int u] : List Value).toArray below meth cd s.heap [] 0 0 Q (F0 m 23 ls [.int (mA (mF g a x y) (mO g a u)), .ref (ad 10)]) → W p l e (headSpec w_M_set ({ frames := 2, cells := 0, slots := 0, locals := 43 })).room s m ([.ref (ad 10), .int x, .int y, .int u] : List Value).toArray below meth cd s.heap [] 0 0 Q (F0 m 1 ls [.ref (ad 10)]) := by
    intro Q kx
    refine lv_aload_n hx hb d_M_set_1 rfl (lv_at hl 0 rfl) ?_
    refine lv_iload_n hx hb d_M_set_2 rfl (lv_at hl 1 rfl) ?_
    refine lv_iload_n hx hb d_M_set_3 rfl (lv_at hl 2 rfl) ?_
    refine kc_R (va_runV (As := [.int x, .int y]) (rest := [.ref (ad 10)]) ⟨hx, hb, hml, hown, hts⟩ (c_M_isField l D ty ad _ n f th rt qu b w T g a o hg1 hn3 x y) (cwV 2 hts (kGV kS1 m_M_56 m_im_M_isField m_sel_M_isField m_ini_M m_code_M_isField) rfl rfl rfl (by decide +kernel) ⟨Nat.le_of_ble_eq_true rfl, Nat.le_of_ble_eq_true rfl⟩) ⟨kP_blind, va_recv hK hP (ci := 3) (q0 := 10) rfl gw_10, fun U hU hW => ⟨rfl, kP_at hK hP hD U hU hW⟩⟩ rfl rfl hl.1 rfl (lv_room (Nat.le_of_ble_eq_true rfl)) d_M_set_4 ⟨Nat.le_of_ble_eq_true rfl, Nat.le_of_ble_eq_true rfl⟩) ?_
    refine lv_if_eq (tgt := 22) hx hb d_M_set_7 (by decide) (fun c_7 => ?_) (fun c_7 => ?_)
    · refine lv_iconst (v := 0) hx hb d_M_set_22 (by decide) ?_
      have hj : mA (mF g a x y) (mO g a u) = 0 := by simp [mA, c_7]
      rw [hj] at kx
      exact kx
    · refine lv_aload_n hx hb d_M_set_10 rfl (lv_at hl 0 rfl) ?_
      refine lv_iload_n hx hb d_M_set_11 rfl (lv_at hl 3 rfl) ?_
      refine kc_R (va_runV (As := [.int u]) (rest := [.ref (ad 10)]) ⟨hx, hb, hml, hown, hts⟩ (c_M_isOrNone l D ty ad _ n f th rt qu b w T g a o hg1 hn3 u) (cwV 1 hts (kGV kS1 m_M_60 m_im_M_isOrNone m_sel_M_isOrNone m_ini_M m_code_M_isOrNone) rfl rfl rfl (by decide +kernel) ⟨Nat.le_of_ble_eq_true rfl, Nat.le_of_ble_eq_true rfl⟩) ⟨kP_blind, va_recv hK hP (ci := 3) (q0 := 10) rfl gw_10, fun U hU hW => ⟨rfl, kP_at hK hP hD U hU hW⟩⟩ rfl rfl hl.1 rfl (lv_room (Nat.le_of_ble_eq_true rfl)) d_M_set_12 ⟨Nat.le_of_ble_eq_true rfl, Nat.le_of_ble_eq_true rfl⟩) ?_
      refine lv_if_eq (tgt := 22) hx hb d_M_set_15 (by decide) (fun c_15 => ?_) (fun c_15 => ?_)
      · refine lv_iconst (v := 0) hx hb d_M_set_22 (by decide) ?_
        have hj : mA (mF g a x y) (mO g a u) = 0 := by simp [mA, c_7, c_15]
        rw [hj] at kx
        exact kx
      · refine lv_iconst (v := 1) hx hb d_M_set_18 (by decide) ?_
        refine lv_goto (tgt := 23) hx hb d_M_set_19 (by decide) ?_
        have hj : mA (mF g a x y) (mO g a u) = 1 := by simp [mA, c_7, c_15]
        rw [hj] at kx
        exact kx
  refine J1 _ ?_
  refine lv_iconst (v := 1) hx hb d_M_set_23 (by decide) ?_
  refine kc_i (va_runV (As := [.int (mA (mF g a x y) (mO g a u)), .int 1]) (rest := []) ⟨hx, hb, hml, hown, hts⟩ (c_M_goes l D ty ad _ n f th rt qu b w T g a o (mA (mF g a x y) (mO g a u)) 1) (cwV 2 hts (kGV kS1 m_M_52 m_im_M_goes m_sel_M_goes m_ini_M m_code_M_goes) rfl rfl rfl (by decide +kernel) ⟨Nat.le_of_ble_eq_true rfl, Nat.le_of_ble_eq_true rfl⟩) ⟨kP_blind, va_recv hK hP (ci := 3) (q0 := 10) rfl gw_10, fun U hU hW => ⟨rfl, kP_at hK hP hD U hU hW⟩⟩ rfl rfl hl.1 rfl (lv_room (Nat.le_of_ble_eq_true rfl)) d_M_set_24 ⟨Nat.le_of_ble_eq_true rfl, Nat.le_of_ble_eq_true rfl⟩) hD hS hA (fun r u H locs hu hP hD hS hz => ?_)
  obtain ⟨rfl, rfl⟩ := hu
  refine lv_if_ne (tgt := 32) hx hb d_M_set_27 (by decide) (fun c_27 => absurd hc c_27) (fun c_27 => ?_)
  refine lv_iconst (v := 0) hx hb d_M_set_30 (by decide) ?_
  have hu : (gW n ty ad f th rt qu b w T (upd g 0 (mT (mA (mF g a x y) (mO g a u)) 1)) a o : va_W) = gW n ty ad f th rt qu b w T (upd g 0 (mT (mA (mF g a x y) (mO g a u)) 1)) a o := by simp [c_27]
  have hv : (0 : Int32) = 0 := by simp [c_27]
  exact W.iret (v := 0) hx hb hr (fun t ht hW => ⟨⟨_, _, rfl, ⟨hv, hu⟩, by rw [ht]; exact hP, va_K.moved hW.alike hK, hD⟩, hS.F ht⟩) hS.2.2 d_M_set_31
set_option maxHeartbeats 4000000 in
set_option maxRecDepth 100000 in
/-- set(x, y, u): it goes -/
theorem c_M_set_y (l : Launch) (D : va_G) (ty : Nat → ClassId) (ad : Nat → Nat) (sz : Nat) (n : Nat) (f : Nat → Int32) (th : Nat → Bool) (rt qu : Nat → Int32) (b w : SR) (T : Nat → TH) (g : Nat → Int32) (a : Nat → Nat → Int32) (o : Nat → Int64) (hg1 : g 1 = nI n) (hn3 : n ≤ 300) (hL : ∀ k, k < n → ∃ v, v ≤ 12 ∧ a 4 k = nI v) (x y u : Int32) (hc : ¬ mG (mA (mF g a x y) (mO g a u)) 1 = 0) : Met l y_M_set w_M_set ({ frames := 2, cells := 0, slots := 0, locals := 43 }) (va_Pc [.ref (ad 10), .int x, .int y, .int u] (kP D kCl (kTy ty) (gW n ty ad f th rt qu b w T g a o) sz)) (va_Qi (fun (r9 : Int32) (u9 : va_W) => r9 = (a 5 (12 * x + y).toNatClampNeg - 1) ∧ u9 = (gW n ty ad f th rt qu b w T (upd g 0 (mT (mA (mF g a x y) (mO g a u)) 1)) (va_up a 5 (upd (a 5) (12 * x + y).toNatClampNeg (u + 1))) o)) (kB D kCl (kTy ty) (va_A (gW n ty ad f th rt qu b w T g a o) sz)) (va_A (gW n ty ad f th rt qu b w T g a o) sz)) 0 0 (va_A (gW n ty ad f th rt qu b w T g a o) sz) := by
  refine Met.ofW (cc := b_M_set) (maxL := 5) (ret := (some .int)) (by decide) rfl ?_
  intro p e s m args below meth cd s₁ B hml hv
  obtain ⟨rfl, hsz, hP, hK, hD0⟩ := hv
  have hx := B.exec
  have hb := B.bytes
  have hr := B.returns
  have hts := atoms_spec (ws := w_M_set) B.pre
  have hown : s.vm.findClass R_M = some m.cls := findClass_of_methodNamed B.named
  have hlocks := B.notSynchronized
  subst hsz
  have hD := hD0.self (sz := s.heap.size)
  generalize hAe : va_A (gW n ty ad f th rt qu b w T g a o) s.heap.size = A at hD ⊢
  have hA : ∀ q : Nat, s.heap.size ≤ q → A q := fun q h => by rw [← hAe]; exact Or.inr h
  have hS : va_S A s.heap s.heap [] := va_S.rf
  have hl := lv_entry ([.ref (ad 10), .int x, .int y, .int u]) (n := 5) (Nat.le_of_ble_eq_true rfl)
  rw [lg_entry_eq]
  generalize (lg_sl ([.ref (ad 10), .int x, .int y, .int u]) ++ List.replicate (5 - (lg_sl ([.ref (ad 10), .int x, .int y, .int u])).length) Slot.unset).toArray = ls at hl ⊢
  have hl : lv_has ls 5 [(0, .ref (ad 10)), (1, .int x), (2, .int y), (3, .int u)] := hl
  refine lv_aload_n hx hb d_M_set_0 rfl (lv_at hl 0 rfl) ?_
  have J1 : ∀ (Q : State → Prop), W p l e (headSpec w_M_set ({ frames := 2, cells := 0, slots := 0, locals := 43 })).room s m ([.ref (ad 10), .int x, .int y, .int u] : List Value).toArray below meth cd s.heap [] 0 0 Q (F0 m 23 ls [.int (mA (mF g a x y) (mO g a u)), .ref (ad 10)]) → W p l e (headSpec w_M_set ({ frames := 2, cells := 0, slots := 0, locals := 43 })).room s m ([.ref (ad 10), .int x, .int y, .int u] : List Value).toArray below meth cd s.heap [] 0 0 Q (F0 m 1 ls [.ref (ad 10)]) := by
    intro Q kx
    refine lv_aload_n hx hb d_M_set_1 rfl (lv_at hl 0 rfl) ?_
    refine lv_iload_n hx hb d_M_set_2 rfl (lv_at hl 1 rfl) ?_
    refine lv_iload_n hx hb d_M_set_3 rfl (lv_at hl 2 rfl) ?_
    refine kc_R (va_runV (As := [.int x, .int y]) (rest := [.ref (ad 10)]) ⟨hx, hb, hml, hown, hts⟩ (c_M_isField l D ty ad _ n f th rt qu b w T g a o hg1 hn3 x y) (cwV 2 hts (kGV kS1 m_M_56 m_im_M_isField m_sel_M_isField m_ini_M m_code_M_isField) rfl rfl rfl (by decide +kernel) ⟨Nat.le_of_ble_eq_true rfl, Nat.le_of_ble_eq_true rfl⟩) ⟨kP_blind, va_recv hK hP (ci := 3) (q0 := 10) rfl gw_10, fun U hU hW => ⟨rfl, kP_at hK hP hD U hU hW⟩⟩ rfl rfl hl.1 rfl (lv_room (Nat.le_of_ble_eq_true rfl)) d_M_set_4 ⟨Nat.le_of_ble_eq_true rfl, Nat.le_of_ble_eq_true rfl⟩) ?_
    refine lv_if_eq (tgt := 22) hx hb d_M_set_7 (by decide) (fun c_7 => ?_) (fun c_7 => ?_)
    · refine lv_iconst (v := 0) hx hb d_M_set_22 (by decide) ?_
      have hj : mA (mF g a x y) (mO g a u) = 0 := by simp [mA, c_7]
      rw [hj] at kx
      exact kx
    · refine lv_aload_n hx hb d_M_set_10 rfl (lv_at hl 0 rfl) ?_
      refine lv_iload_n hx hb d_M_set_11 rfl (lv_at hl 3 rfl) ?_
      refine kc_R (va_runV (As := [.int u]) (rest := [.ref (ad 10)]) ⟨hx, hb, hml, hown, hts⟩ (c_M_isOrNone l D ty ad _ n f th rt qu b w T g a o hg1 hn3 u) (cwV 1 hts (kGV kS1 m_M_60 m_im_M_isOrNone m_sel_M_isOrNone m_ini_M m_code_M_isOrNone) rfl rfl rfl (by decide +kernel) ⟨Nat.le_of_ble_eq_true rfl, Nat.le_of_ble_eq_true rfl⟩) ⟨kP_blind, va_recv hK hP (ci := 3) (q0 := 10) rfl gw_10, fun U hU hW => ⟨rfl, kP_at hK hP hD U hU hW⟩⟩ rfl rfl hl.1 rfl (lv_room (Nat.le_of_ble_eq_true rfl)) d_M_set_12 ⟨Nat.le_of_ble_eq_true rfl, Nat.le_of_ble_eq_true rfl⟩) ?_
      refine lv_if_eq (tgt := 22) hx hb d_M_set_15 (by decide) (fun c_15 => ?_) (fun c_15 => ?_)
      · refine lv_iconst (v := 0) hx hb d_M_set_22 (by decide) ?_
        have hj : mA (mF g a x y) (mO g a u) = 0 := by simp [mA, c_7, c_15]
        rw [hj] at kx
        exact kx
      · refine lv_iconst (v := 1) hx hb d_M_set_18 (by decide) ?_
        refine lv_goto (tgt := 23) hx hb d_M_set_19 (by decide) ?_
        have hj : mA (mF g a x y) (mO g a u) = 1 := by simp [mA, c_7, c_15]
        rw [hj] at kx
        exact kx
  refine J1 _ ?_
  refine lv_iconst (v := 1) hx hb d_M_set_23 (by decide) ?_
  refine kc_i (va_runV (As := [.int (mA (mF g a x y) (mO g a u)), .int 1]) (rest := []) ⟨hx, hb, hml, hown, hts⟩ (c_M_goes l D ty ad _ n f th rt qu b w T g a o (mA (mF g a x y) (mO g a u)) 1) (cwV 2 hts (kGV kS1 m_M_52 m_im_M_goes m_sel_M_goes m_ini_M m_code_M_goes) rfl rfl rfl (by decide +kernel) ⟨Nat.le_of_ble_eq_true rfl, Nat.le_of_ble_eq_true rfl⟩) ⟨kP_blind, va_recv hK hP (ci := 3) (q0 := 10) rfl gw_10, fun U hU hW => ⟨rfl, kP_at hK hP hD U hU hW⟩⟩ rfl rfl hl.1 rfl (lv_room (Nat.le_of_ble_eq_true rfl)) d_M_set_24 ⟨Nat.le_of_ble_eq_true rfl, Nat.le_of_ble_eq_true rfl⟩) hD hS hA (fun r u H locs hu hP hD hS hz => ?_)
  obtain ⟨rfl, rfl⟩ := hu
  refine lv_if_ne (tgt := 32) hx hb d_M_set_27 (by decide) (fun c_27 => ?_) (fun c_27 => absurd c_27 hc)
  refine lv_aload_n hx hb d_M_set_32 rfl (lv_at hl 0 rfl) ?_
  refine va_get (D := D) (ci := 3) (v := .ref (ad 14)) (C := R_M) (T := F_M) (N := 16) hx hb hts (fun w h => kS1 w (i_M w h)) hown hK hP 10 gw_10 rfl 5 (by decide) (hts _ (kS1 _ m_M_20)) (fun _ h9 => h9) rfl d_M_set_33 ?_
  refine lv_bipush (v := 12) hx hb d_M_set_36 (by decide) ?_
  refine lv_iload_n hx hb d_M_set_38 rfl (lv_at hl 1 rfl) ?_
  refine lv_imul hx hb d_M_set_39 ?_
  refine lv_iload_n hx hb d_M_set_40 rfl (lv_at hl 2 rfl) ?_
  refine lv_iadd hx hb d_M_set_41 ?_
  refine va_iald (f := a 5) hx hb hK hP 14 0 gw_14 rfl (mF_in hg1 hn3 hL (mA_1 (mG_1 hc))) d_M_set_42 ?_
  refine lv_istore (lv' := [(4, .int ((a 5) (((12 * x) + y).toNatClampNeg))), (0, .ref (ad 10)), (1, .int x), (2, .int y), (3, .int u)]) hx hb d_M_set_43 hl (by decide) rfl (fun ls hl => ?_)
  refine lv_aload_n hx hb d_M_set_45 rfl (lv_at hl 1 rfl) ?_
  refine va_get (D := D) (ci := 3) (v := .ref (ad 14)) (C := R_M) (T := F_M) (N := 16) hx hb hts (fun w h => kS1 w (i_M w h)) hown hK hP 10 gw_10 rfl 5 (by decide) (hts _ (kS1 _ m_M_20)) (fun _ h9 => h9) rfl d_M_set_46 ?_
  refine lv_bipush (v := 12) hx hb d_M_set_49 (by decide) ?_
  refine lv_iload_n hx hb d_M_set_51 rfl (lv_at hl 2 rfl) ?_
  refine lv_imul hx hb d_M_set_52 ?_
  refine lv_iload_n hx hb d_M_set_53 rfl (lv_at hl 3 rfl) ?_
  refine lv_iadd hx hb d_M_set_54 ?_
  refine lv_iload_n hx hb d_M_set_55 rfl (lv_at hl 4 rfl) ?_
  refine lv_iconst (v := 1) hx hb d_M_set_56 (by decide) ?_
  refine lv_iadd hx hb d_M_set_57 ?_
  refine va_iast (f := a 5) hx hb hK hP hD hS 14 0 gw_14 rfl (mF_in hg1 hn3 hL (mA_1 (mG_1 hc))) d_M_set_58 (fun H locs hP hD hS => ?_)
  have hP := kw_P (gw_sa5 (r := upd (a 5) (((12 * x) + y).toNatClampNeg) (u + 1))) hP
  have hD := kw_D (gw_sa5 (r := upd (a 5) (((12 * x) + y).toNatClampNeg) (u + 1))) hD
  refine lv_iload hx hb d_M_set_59 (lv_at hl 0 rfl) ?_
  refine lv_iconst (v := 1) hx hb d_M_set_61 (by decide) ?_
  refine lv_isub hx hb d_M_set_62 ?_
  have hu : (gW n ty ad f th rt qu b w T (upd g 0 (mT (mA (mF g a x y) (mO g a u)) 1)) (va_up a 5 (upd (a 5) (((12 * x) + y).toNatClampNeg) (u + 1))) o : va_W) = gW n ty ad f th rt qu b w T (upd g 0 (mT (mA (mF g a x y) (mO g a u)) 1)) (va_up a 5 (upd (a 5) (12 * x + y).toNatClampNeg (u + 1))) o := by simp [c_27]
  have hv : (((a 5) (((12 * x) + y).toNatClampNeg)) - 1 : Int32) = a 5 (12 * x + y).toNatClampNeg - 1 := by simp [c_27]
  exact W.iret (v := ((a 5) (((12 * x) + y).toNatClampNeg)) - 1) hx hb hr (fun t ht hW => ⟨⟨_, _, rfl, ⟨hv, hu⟩, by rw [ht]; exact hP, va_K.moved hW.alike hK, hD⟩, hS.F ht⟩) hS.2.2 d_M_set_63
set_option maxHeartbeats 4000000 in
set_option maxRecDepth 100000 in
/-- get(x, y): refused -/
theorem c_M_get_n (l : Launch) (D : va_G) (ty : Nat → ClassId) (ad : Nat → Nat) (sz : Nat) (n : Nat) (f : Nat → Int32) (th : Nat → Bool) (rt qu : Nat → Int32) (b w : SR) (T : Nat → TH) (g : Nat → Int32) (a : Nat → Nat → Int32) (o : Nat → Int64) (hg1 : g 1 = nI n) (hn3 : n ≤ 300) (hL : ∀ k, k < n → ∃ v, v ≤ 12 ∧ a 4 k = nI v) (x y : Int32) (hc : mG (mF g a x y) 1 = 0) : Met l y_M_get w_M_get ({ frames := 2, cells := 0, slots := 0, locals := 43 }) (va_Pc [.ref (ad 10), .int x, .int y] (kP D kCl (kTy ty) (gW n ty ad f th rt qu b w T g a o) sz)) (va_Qi (fun (r9 : Int32) (u9 : va_W) => r9 = 0 ∧ u9 = (gW n ty ad f th rt qu b w T (upd g 0 (mT (mF g a x y) 1)) a o)) (kB D kCl (kTy ty) (va_A (gW n ty ad f th rt qu b w T g a o) sz)) (va_A (gW n ty ad f th rt qu b w T g a o) sz)) 0 0 (va_A (gW n ty ad f th rt qu b w T g a o) sz) := by
  refine Met.ofW (cc := b_M_get) (maxL := 3) (ret := (some .int)) (by decide) rfl ?_
  intro p e s m args below meth cd s₁ B hml hv
  obtain ⟨rfl, hsz, hP, hK, hD0⟩ := hv
  have hx := B.exec
  have hb := B.bytes
  have hr := B.returns
  have hts := atoms_spec (ws := w_M_get) B.pre
  have hown : s.vm.findClass R_M = some m.cls := findClass_of_methodNamed B.named
  have hlocks := B.notSynchronized
  subst hsz
  have hD := hD0.self (sz := s.heap.size)
  generalize hAe : va_A (gW n ty ad f th rt qu b w T g a o) s.heap.size = A at hD ⊢
  have hA : ∀ q : Nat, s.heap.size ≤ q → A q := fun q h => by rw [← hAe]; exact Or.inr h
  have hS : va_S A s.heap s.heap [] := va_S.rf
  have hl := lv_entry ([.ref (ad 10), .int x, .int y]) (n := 3) (Nat.le_of_ble_eq_true rfl)
  rw [lg_entry_eq]
  generalize (lg_sl ([.ref (ad 10), .int x, .int y]) ++ List.replicate (3 - (lg_sl ([.ref (ad 10), .int x, .int y])).length) Slot.unset).toArray = ls at hl ⊢
  have hl : lv_has ls 3 [(0, .ref (ad 10)), (1, .int x), (2, .int y)] := hl
  refine lv_aload_n hx hb d_M_get_0 rfl (lv_at hl 0 rfl) ?_
  refine lv_aload_n hx hb d_M_get_1 rfl (lv_at hl 0 rfl) ?_
  refine lv_iload_n hx hb d_M_get_2 rfl (lv_at hl 1 rfl) ?_
  refine lv_iload_n hx hb d_M_get_3 rfl (lv_at hl 2 rfl) ?_
  refine kc_R (va_runV (As := [.int x, .int y]) (rest := [.ref (ad 10)]) ⟨hx, hb, hml, hown, hts⟩ (c_M_isField l D ty ad _ n f th rt qu b w T g a o hg1 hn3 x y) (cwV 2 hts (kGV kS1 m_M_56 m_im_M_isField m_sel_M_isField m_ini_M m_code_M_isField) rfl rfl rfl (by decide +kernel) ⟨Nat.le_of_ble_eq_true rfl, Nat.le_of_ble_eq_true rfl⟩) ⟨kP_blind, va_recv hK hP (ci := 3) (q0 := 10) rfl gw_10, fun U hU hW => ⟨rfl, kP_at hK hP hD U hU hW⟩⟩ rfl rfl hl.1 rfl (lv_room (Nat.le_of_ble_eq_true rfl)) d_M_get_4 ⟨Nat.le_of_ble_eq_true rfl, Nat.le_of_ble_eq_true rfl⟩) ?_
  refine lv_iconst (v := 1) hx hb d_M_get_7 (by decide) ?_
  refine kc_i (va_runV (As := [.int (mF g a x y), .int 1]) (rest := []) ⟨hx, hb, hml, hown, hts⟩ (c_M_goes l D ty ad _ n f th rt qu b w T g a o (mF g a x y) 1) (cwV 2 hts (kGV kS1 m_M_52 m_im_M_goes m_sel_M_goes m_ini_M m_code_M_goes) rfl rfl rfl (by decide +kernel) ⟨Nat.le_of_ble_eq_true rfl, Nat.le_of_ble_eq_true rfl⟩) ⟨kP_blind, va_recv hK hP (ci := 3) (q0 := 10) rfl gw_10, fun U hU hW => ⟨rfl, kP_at hK hP hD U hU hW⟩⟩ rfl rfl hl.1 rfl (lv_room (Nat.le_of_ble_eq_true rfl)) d_M_get_8 ⟨Nat.le_of_ble_eq_true rfl, Nat.le_of_ble_eq_true rfl⟩) hD hS hA (fun r u H locs hu hP hD hS hz => ?_)
  obtain ⟨rfl, rfl⟩ := hu
  refine lv_if_eq (tgt := 30) hx hb d_M_get_11 (by decide) (fun c_11 => ?_) (fun c_11 => absurd hc c_11)
  refine lv_iconst (v := 0) hx hb d_M_get_30 (by decide) ?_
  have hu : (gW n ty ad f th rt qu b w T (upd g 0 (mT (mF g a x y) 1)) a o : va_W) = gW n ty ad f th rt qu b w T (upd g 0 (mT (mF g a x y) 1)) a o := by simp [c_11]
  have hv : (0 : Int32) = 0 := by simp [c_11]
  exact W.iret (v := 0) hx hb hr (fun t ht hW => ⟨⟨_, _, rfl, ⟨hv, hu⟩, by rw [ht]; exact hP, va_K.moved hW.alike hK, hD⟩, hS.F ht⟩) hS.2.2 d_M_get_31
set_option maxHeartbeats 4000000 in
set_option maxRecDepth 100000 in
/-- get(x, y): it goes -/
theorem c_M_get_y (l : Launch) (D : va_G) (ty : Nat → ClassId) (ad : Nat → Nat) (sz : Nat) (n : Nat) (f : Nat → Int32) (th : Nat → Bool) (rt qu : Nat → Int32) (b w : SR) (T : Nat → TH) (g : Nat → Int32) (a : Nat → Nat → Int32) (o : Nat → Int64) (hg1 : g 1 = nI n) (hn3 : n ≤ 300) (hL : ∀ k, k < n → ∃ v, v ≤ 12 ∧ a 4 k = nI v) (x y : Int32) (hc : ¬ mG (mF g a x y) 1 = 0) : Met l y_M_get w_M_get ({ frames := 2, cells := 0, slots := 0, locals := 43 }) (va_Pc [.ref (ad 10), .int x, .int y] (kP D kCl (kTy ty) (gW n ty ad f th rt qu b w T g a o) sz)) (va_Qi (fun (r9 : Int32) (u9 : va_W) => r9 = (a 5 (12 * x + y).toNatClampNeg - 1) ∧ u9 = (gW n ty ad f th rt qu b w T (upd g 0 (mT (mF g a x y) 1)) a o)) (kB D kCl (kTy ty) (va_A (gW n ty ad f th rt qu b w T g a o) sz)) (va_A (gW n ty ad f th rt qu b w T g a o) sz)) 0 0 (va_A (gW n ty ad f th rt qu b w T g a o) sz) := by
  refine Met.ofW (cc := b_M_get) (maxL := 3) (ret := (some .int)) (by decide) rfl ?_
  intro p e s m args below meth cd s₁ B hml hv
  obtain ⟨rfl, hsz, hP, hK, hD0⟩ := hv
  have hx := B.exec
  have hb := B.bytes
  have hr := B.returns
  have hts := atoms_spec (ws := w_M_get) B.pre
  have hown : s.vm.findClass R_M = some m.cls := findClass_of_methodNamed B.named
  have hlocks := B.notSynchronized
  subst hsz
  have hD := hD0.self (sz := s.heap.size)
  generalize hAe : va_A (gW n ty ad f th rt qu b w T g a o) s.heap.size = A at hD ⊢
  have hA : ∀ q : Nat, s.heap.size ≤ q → A q := fun q h => by rw [← hAe]; exact Or.inr h
  have hS : va_S A s.heap s.heap [] := va_S.rf
  have hl := lv_entry ([.ref (ad 10), .int x, .int y]) (n := 3) (Nat.le_of_ble_eq_true rfl)
  rw [lg_entry_eq]
  generalize (lg_sl ([.ref (ad 10), .int x, .int y]) ++ List.replicate (3 - (lg_sl ([.ref (ad 10), .int x, .int y])).length) Slot.unset).toArray = ls at hl ⊢
  have hl : lv_has ls 3 [(0, .ref (ad 10)), (1, .int x), (2, .int y)] := hl
  refine lv_aload_n hx hb d_M_get_0 rfl (lv_at hl 0 rfl) ?_
  refine lv_aload_n hx hb d_M_get_1 rfl (lv_at hl 0 rfl) ?_
  refine lv_iload_n hx hb d_M_get_2 rfl (lv_at hl 1 rfl) ?_
  refine lv_iload_n hx hb d_M_get_3 rfl (lv_at hl 2 rfl) ?_
  refine kc_R (va_runV (As := [.int x, .int y]) (rest := [.ref (ad 10)]) ⟨hx, hb, hml, hown, hts⟩ (c_M_isField l D ty ad _ n f th rt qu b w T g a o hg1 hn3 x y) (cwV 2 hts (kGV kS1 m_M_56 m_im_M_isField m_sel_M_isField m_ini_M m_code_M_isField) rfl rfl rfl (by decide +kernel) ⟨Nat.le_of_ble_eq_true rfl, Nat.le_of_ble_eq_true rfl⟩) ⟨kP_blind, va_recv hK hP (ci := 3) (q0 := 10) rfl gw_10, fun U hU hW => ⟨rfl, kP_at hK hP hD U hU hW⟩⟩ rfl rfl hl.1 rfl (lv_room (Nat.le_of_ble_eq_true rfl)) d_M_get_4 ⟨Nat.le_of_ble_eq_true rfl, Nat.le_of_ble_eq_true rfl⟩) ?_
  refine lv_iconst (v := 1) hx hb d_M_get_7 (by decide) ?_
  refine kc_i (va_runV (As := [.int (mF g a x y), .int 1]) (rest := []) ⟨hx, hb, hml, hown, hts⟩ (c_M_goes l D ty ad _ n f th rt qu b w T g a o (mF g a x y) 1) (cwV 2 hts (kGV kS1 m_M_52 m_im_M_goes m_sel_M_goes m_ini_M m_code_M_goes) rfl rfl rfl (by decide +kernel) ⟨Nat.le_of_ble_eq_true rfl, Nat.le_of_ble_eq_true rfl⟩) ⟨kP_blind, va_recv hK hP (ci := 3) (q0 := 10) rfl gw_10, fun U hU hW => ⟨rfl, kP_at hK hP hD U hU hW⟩⟩ rfl rfl hl.1 rfl (lv_room (Nat.le_of_ble_eq_true rfl)) d_M_get_8 ⟨Nat.le_of_ble_eq_true rfl, Nat.le_of_ble_eq_true rfl⟩) hD hS hA (fun r u H locs hu hP hD hS hz => ?_)
  obtain ⟨rfl, rfl⟩ := hu
  refine lv_if_eq (tgt := 30) hx hb d_M_get_11 (by decide) (fun c_11 => absurd c_11 hc) (fun c_11 => ?_)
  refine lv_aload_n hx hb d_M_get_14 rfl (lv_at hl 0 rfl) ?_
  refine va_get (D := D) (ci := 3) (v := .ref (ad 14)) (C := R_M) (T := F_M) (N := 16) hx hb hts (fun w h => kS1 w (i_M w h)) hown hK hP 10 gw_10 rfl 5 (by decide) (hts _ (kS1 _ m_M_20)) (fun _ h9 => h9) rfl d_M_get_15 ?_
  refine lv_bipush (v := 12) hx hb d_M_get_18 (by decide) ?_
  refine lv_iload_n hx hb d_M_get_20 rfl (lv_at hl 1 rfl) ?_
  refine lv_imul hx hb d_M_get_21 ?_
  refine lv_iload_n hx hb d_M_get_22 rfl (lv_at hl 2 rfl) ?_
  refine lv_iadd hx hb d_M_get_23 ?_
  refine va_iald (f := a 5) hx hb hK hP 14 0 gw_14 rfl (mF_in hg1 hn3 hL (mG_1 hc)) d_M_get_24 ?_
  refine lv_iconst (v := 1) hx hb d_M_get_25 (by decide) ?_
  refine lv_isub hx hb d_M_get_26 ?_
  refine lv_goto (tgt := 31) hx hb d_M_get_27 (by decide) ?_
  have hu : (gW n ty ad f th rt qu b w T (upd g 0 (mT (mF g a x y) 1)) a o : va_W) = gW n ty ad f th rt qu b w T (upd g 0 (mT (mF g a x y) 1)) a o := by simp [c_11]
  have hv : (((a 5) (((12 * x) + y).toNatClampNeg)) - 1 : Int32) = a 5 (12 * x + y).toNatClampNeg - 1 := by simp [c_11]
  exact W.iret (v := ((a 5) (((12 * x) + y).toNatClampNeg)) - 1) hx hb hr (fun t ht hW => ⟨⟨_, _, rfl, ⟨hv, hu⟩, by rw [ht]; exact hP, va_K.moved hW.alike hK, hD⟩, hS.F ht⟩) hS.2.2 d_M_get_31
set_option maxHeartbeats 4000000 in
set_option maxRecDepth 100000 in
/-- root(x, u): refused -/
theorem c_M_root_n (l : Launch) (D : va_G) (ty : Nat → ClassId) (ad : Nat → Nat) (sz : Nat) (n : Nat) (f : Nat → Int32) (th : Nat → Bool) (rt qu : Nat → Int32) (b w : SR) (T : Nat → TH) (g : Nat → Int32) (a : Nat → Nat → Int32) (o : Nat → Int64) (hg1 : g 1 = nI n) (hn3 : n ≤ 300) (x u : Int32) (hc : mG (mR g a x u) 1 = 0) : Met l y_M_root w_M_root ({ frames := 2, cells := 0, slots := 0, locals := 42 }) (va_Pc [.ref (ad 10), .int x, .int u] (kP D kCl (kTy ty) (gW n ty ad f th rt qu b w T g a o) sz)) (va_Qi (fun (r9 : Int32) (u9 : va_W) => r9 = 0 ∧ u9 = (gW n ty ad f th rt qu b w T (upd g 0 (mT (mR g a x u) 1)) a o)) (kB D kCl (kTy ty) (va_A (gW n ty ad f th rt qu b w T g a o) sz)) (va_A (gW n ty ad f th rt qu b w T g a o) sz)) 0 0 (va_A (gW n ty ad f th rt qu b w T g a o) sz) := by
  refine Met.ofW (cc := b_M_root) (maxL := 4) (ret := (some .int)) (by decide) rfl ?_
  intro p e s m args below meth cd s₁ B hml hv
  obtain ⟨rfl, hsz, hP, hK, hD0⟩ := hv
  have hx := B.exec
  have hb := B.bytes
  have hr := B.returns
  have hts := atoms_spec (ws := w_M_root) B.pre
  have hown : s.vm.findClass R_M = some m.cls := findClass_of_methodNamed B.named
  have hlocks := B.notSynchronized
  subst hsz
  have hD := hD0.self (sz := s.heap.size)
  generalize hAe : va_A (gW n ty ad f th rt qu b w T g a o) s.heap.size = A at hD ⊢
  have hA : ∀ q : Nat, s.heap.size ≤ q → A q := fun q h => by rw [← hAe]; exact Or.inr h
  have hS : va_S A s.heap s.heap [] := va_S.rf
  have hl := lv_entry ([.ref (ad 10), .int x, .int u]) (n := 4) (Nat.le_of_ble_eq_true rfl)
  rw [lg_entry_eq]
  generalize (lg_sl ([.ref (ad 10), .int x, .int u]) ++ List.replicate (4 - (lg_sl ([.ref (ad 10), .int x, .int u])).length) Slot.unset).toArray = ls at hl ⊢
  have hl : lv_has ls 4 [(0, .ref (ad 10)), (1, .int x), (2, .int u)] := hl
  refine lv_aload_n hx hb d_M_root_0 rfl (lv_at hl 0 rfl) ?_
  have J1 : ∀ (Q : State → Prop), W p l e (headSpec w_M_root ({ frames := 2, cells := 0, slots := 0, locals := 42 })).room s m ([.ref (ad 10), .int x, .int u] : List Value).toArray below meth cd s.heap [] 0 0 Q (F0 m 24 ls [.int (mR g a x u), .ref (ad 10)]) → W p l e (headSpec w_M_root ({ frames := 2, cells := 0, slots := 0, locals := 42 })).room s m ([.ref (ad 10), .int x, .int u] : List Value).toArray below meth cd s.heap [] 0 0 Q (F0 m 1 ls [.ref (ad 10)]) := by
    intro Q kx
    refine lv_iload_n hx hb d_M_root_1 rfl (lv_at hl 1 rfl) ?_
    refine lv_if_lt (tgt := 23) hx hb d_M_root_2 (by decide) (fun c_2 => ?_) (fun c_2 => ?_)
    · refine lv_iconst (v := 0) hx hb d_M_root_23 (by decide) ?_
      have hj : mR g a x u = 0 := by simp [mR, c_2]
      rw [hj] at kx
      exact kx
    · refine lv_iload_n hx hb d_M_root_5 rfl (lv_at hl 1 rfl) ?_
      refine lv_bipush (v := 16) hx hb d_M_root_6 (by decide) ?_
      refine lv_icmp_ge (tgt := 23) hx hb d_M_root_8 (by decide) (fun c_8 => ?_) (fun c_8 => ?_)
      · refine lv_iconst (v := 0) hx hb d_M_root_23 (by decide) ?_
        have hj : mR g a x u = 0 := by simp [mR, c_2, c_8]
        rw [hj] at kx
        exact kx
      · refine lv_aload_n hx hb d_M_root_11 rfl (lv_at hl 0 rfl) ?_
        refine lv_iload_n hx hb d_M_root_12 rfl (lv_at hl 2 rfl) ?_
        refine kc_R (va_runV (As := [.int u]) (rest := [.ref (ad 10)]) ⟨hx, hb, hml, hown, hts⟩ (c_M_isOrNone l D ty ad _ n f th rt qu b w T g a o hg1 hn3 u) (cwV 1 hts (kGV kS1 m_M_60 m_im_M_isOrNone m_sel_M_isOrNone m_ini_M m_code_M_isOrNone) rfl rfl rfl (by decide +kernel) ⟨Nat.le_of_ble_eq_true rfl, Nat.le_of_ble_eq_true rfl⟩) ⟨kP_blind, va_recv hK hP (ci := 3) (q0 := 10) rfl gw_10, fun U hU hW => ⟨rfl, kP_at hK hP hD U hU hW⟩⟩ rfl rfl hl.1 rfl (lv_room (Nat.le_of_ble_eq_true rfl)) d_M_root_13 ⟨Nat.le_of_ble_eq_true rfl, Nat.le_of_ble_eq_true rfl⟩) ?_
        refine lv_if_eq (tgt := 23) hx hb d_M_root_16 (by decide) (fun c_16 => ?_) (fun c_16 => ?_)
        · refine lv_iconst (v := 0) hx hb d_M_root_23 (by decide) ?_
          have hj : mR g a x u = 0 := by simp [mR, c_2, c_8, c_16]
          rw [hj] at kx
          exact kx
        · refine lv_iconst (v := 1) hx hb d_M_root_19 (by decide) ?_
          refine lv_goto (tgt := 24) hx hb d_M_root_20 (by decide) ?_
          have hj : mR g a x u = 1 := by simp [mR, c_2, c_8, c_16]
          rw [hj] at kx
          exact kx
  refine J1 _ ?_
  refine lv_iconst (v := 1) hx hb d_M_root_24 (by decide) ?_
  refine kc_i (va_runV (As := [.int (mR g a x u), .int 1]) (rest := []) ⟨hx, hb, hml, hown, hts⟩ (c_M_goes l D ty ad _ n f th rt qu b w T g a o (mR g a x u) 1) (cwV 2 hts (kGV kS1 m_M_52 m_im_M_goes m_sel_M_goes m_ini_M m_code_M_goes) rfl rfl rfl (by decide +kernel) ⟨Nat.le_of_ble_eq_true rfl, Nat.le_of_ble_eq_true rfl⟩) ⟨kP_blind, va_recv hK hP (ci := 3) (q0 := 10) rfl gw_10, fun U hU hW => ⟨rfl, kP_at hK hP hD U hU hW⟩⟩ rfl rfl hl.1 rfl (lv_room (Nat.le_of_ble_eq_true rfl)) d_M_root_25 ⟨Nat.le_of_ble_eq_true rfl, Nat.le_of_ble_eq_true rfl⟩) hD hS hA (fun r u H locs hu hP hD hS hz => ?_)
  obtain ⟨rfl, rfl⟩ := hu
  refine lv_if_ne (tgt := 33) hx hb d_M_root_28 (by decide) (fun c_28 => absurd hc c_28) (fun c_28 => ?_)
  refine lv_iconst (v := 0) hx hb d_M_root_31 (by decide) ?_
  have hu : (gW n ty ad f th rt qu b w T (upd g 0 (mT (mR g a x u) 1)) a o : va_W) = gW n ty ad f th rt qu b w T (upd g 0 (mT (mR g a x u) 1)) a o := by simp [c_28]
  have hv : (0 : Int32) = 0 := by simp [c_28]
  exact W.iret (v := 0) hx hb hr (fun t ht hW => ⟨⟨_, _, rfl, ⟨hv, hu⟩, by rw [ht]; exact hP, va_K.moved hW.alike hK, hD⟩, hS.F ht⟩) hS.2.2 d_M_root_32
set_option maxHeartbeats 4000000 in
set_option maxRecDepth 100000 in
/-- root(x, u): it goes -/
theorem c_M_root_y (l : Launch) (D : va_G) (ty : Nat → ClassId) (ad : Nat → Nat) (sz : Nat) (n : Nat) (f : Nat → Int32) (th : Nat → Bool) (rt qu : Nat → Int32) (b w : SR) (T : Nat → TH) (g : Nat → Int32) (a : Nat → Nat → Int32) (o : Nat → Int64) (hg1 : g 1 = nI n) (hn3 : n ≤ 300) (x u : Int32) (hc : ¬ mG (mR g a x u) 1 = 0) : Met l y_M_root w_M_root ({ frames := 2, cells := 0, slots := 0, locals := 42 }) (va_Pc [.ref (ad 10), .int x, .int u] (kP D kCl (kTy ty) (gW n ty ad f th rt qu b w T g a o) sz)) (va_Qi (fun (r9 : Int32) (u9 : va_W) => r9 = (a 8 x.toNatClampNeg - 1) ∧ u9 = (gW n ty ad f th rt qu b w T (upd g 0 (mT (mR g a x u) 1)) (va_up a 8 (upd (a 8) x.toNatClampNeg (u + 1))) o)) (kB D kCl (kTy ty) (va_A (gW n ty ad f th rt qu b w T g a o) sz)) (va_A (gW n ty ad f th rt qu b w T g a o) sz)) 0 0 (va_A (gW n ty ad f th rt qu b w T g a o) sz) := by
  refine Met.ofW (cc := b_M_root) (maxL := 4) (ret := (some .int)) (by decide) rfl ?_
  intro p e s m args below meth cd s₁ B hml hv
  obtain ⟨rfl, hsz, hP, hK, hD0⟩ := hv
  have hx := B.exec
  have hb := B.bytes
  have hr := B.returns
  have hts := atoms_spec (ws := w_M_root) B.pre
  have hown : s.vm.findClass R_M = some m.cls := findClass_of_methodNamed B.named
  have hlocks := B.notSynchronized
  subst hsz
  have hD := hD0.self (sz := s.heap.size)
  generalize hAe : va_A (gW n ty ad f th rt qu b w T g a o) s.heap.size = A at hD ⊢
  have hA : ∀ q : Nat, s.heap.size ≤ q → A q := fun q h => by rw [← hAe]; exact Or.inr h
  have hS : va_S A s.heap s.heap [] := va_S.rf
  have hl := lv_entry ([.ref (ad 10), .int x, .int u]) (n := 4) (Nat.le_of_ble_eq_true rfl)
  rw [lg_entry_eq]
  generalize (lg_sl ([.ref (ad 10), .int x, .int u]) ++ List.replicate (4 - (lg_sl ([.ref (ad 10), .int x, .int u])).length) Slot.unset).toArray = ls at hl ⊢
  have hl : lv_has ls 4 [(0, .ref (ad 10)), (1, .int x), (2, .int u)] := hl
  refine lv_aload_n hx hb d_M_root_0 rfl (lv_at hl 0 rfl) ?_
  have J1 : ∀ (Q : State → Prop), W p l e (headSpec w_M_root ({ frames := 2, cells := 0, slots := 0, locals := 42 })).room s m ([.ref (ad 10), .int x, .int u] : List Value).toArray below meth cd s.heap [] 0 0 Q (F0 m 24 ls [.int (mR g a x u), .ref (ad 10)]) → W p l e (headSpec w_M_root ({ frames := 2, cells := 0, slots := 0, locals := 42 })).room s m ([.ref (ad 10), .int x, .int u] : List Value).toArray below meth cd s.heap [] 0 0 Q (F0 m 1 ls [.ref (ad 10)]) := by
    intro Q kx
    refine lv_iload_n hx hb d_M_root_1 rfl (lv_at hl 1 rfl) ?_
    refine lv_if_lt (tgt := 23) hx hb d_M_root_2 (by decide) (fun c_2 => ?_) (fun c_2 => ?_)
    · refine lv_iconst (v := 0) hx hb d_M_root_23 (by decide) ?_
      have hj : mR g a x u = 0 := by simp [mR, c_2]
      rw [hj] at kx
      exact kx
    · refine lv_iload_n hx hb d_M_root_5 rfl (lv_at hl 1 rfl) ?_
      refine lv_bipush (v := 16) hx hb d_M_root_6 (by decide) ?_
      refine lv_icmp_ge (tgt := 23) hx hb d_M_root_8 (by decide) (fun c_8 => ?_) (fun c_8 => ?_)
      · refine lv_iconst (v := 0) hx hb d_M_root_23 (by decide) ?_
        have hj : mR g a x u = 0 := by simp [mR, c_2, c_8]
        rw [hj] at kx
        exact kx
      · refine lv_aload_n hx hb d_M_root_11 rfl (lv_at hl 0 rfl) ?_
        refine lv_iload_n hx hb d_M_root_12 rfl (lv_at hl 2 rfl) ?_
        refine kc_R (va_runV (As := [.int u]) (rest := [.ref (ad 10)]) ⟨hx, hb, hml, hown, hts⟩ (c_M_isOrNone l D ty ad _ n f th rt qu b w T g a o hg1 hn3 u) (cwV 1 hts (kGV kS1 m_M_60 m_im_M_isOrNone m_sel_M_isOrNone m_ini_M m_code_M_isOrNone) rfl rfl rfl (by decide +kernel) ⟨Nat.le_of_ble_eq_true rfl, Nat.le_of_ble_eq_true rfl⟩) ⟨kP_blind, va_recv hK hP (ci := 3) (q0 := 10) rfl gw_10, fun U hU hW => ⟨rfl, kP_at hK hP hD U hU hW⟩⟩ rfl rfl hl.1 rfl (lv_room (Nat.le_of_ble_eq_true rfl)) d_M_root_13 ⟨Nat.le_of_ble_eq_true rfl, Nat.le_of_ble_eq_true rfl⟩) ?_
        refine lv_if_eq (tgt := 23) hx hb d_M_root_16 (by decide) (fun c_16 => ?_) (fun c_16 => ?_)
        · refine lv_iconst (v := 0) hx hb d_M_root_23 (by decide) ?_
          have hj : mR g a x u = 0 := by simp [mR, c_2, c_8, c_16]
          rw [hj] at kx
          exact kx
        · refine lv_iconst (v := 1) hx hb d_M_root_19 (by decide) ?_
          refine lv_goto (tgt := 24) hx hb d_M_root_20 (by decide) ?_
          have hj : mR g a x u = 1 := by simp [mR, c_2, c_8, c_16]
          rw [hj] at kx
          exact kx
  refine J1 _ ?_
  refine lv_iconst (v := 1) hx hb d_M_root_24 (by decide) ?_
  refine kc_i (va_runV (As := [.int (mR g a x u), .int 1]) (rest := []) ⟨hx, hb, hml, hown, hts⟩ (c_M_goes l D ty ad _ n f th rt qu b w T g a o (mR g a x u) 1) (cwV 2 hts (kGV kS1 m_M_52 m_im_M_goes m_sel_M_goes m_ini_M m_code_M_goes) rfl rfl rfl (by decide +kernel) ⟨Nat.le_of_ble_eq_true rfl, Nat.le_of_ble_eq_true rfl⟩) ⟨kP_blind, va_recv hK hP (ci := 3) (q0 := 10) rfl gw_10, fun U hU hW => ⟨rfl, kP_at hK hP hD U hU hW⟩⟩ rfl rfl hl.1 rfl (lv_room (Nat.le_of_ble_eq_true rfl)) d_M_root_25 ⟨Nat.le_of_ble_eq_true rfl, Nat.le_of_ble_eq_true rfl⟩) hD hS hA (fun r u H locs hu hP hD hS hz => ?_)
  obtain ⟨rfl, rfl⟩ := hu
  refine lv_if_ne (tgt := 33) hx hb d_M_root_28 (by decide) (fun c_28 => ?_) (fun c_28 => absurd c_28 hc)
  refine lv_aload_n hx hb d_M_root_33 rfl (lv_at hl 0 rfl) ?_
  refine va_get (D := D) (ci := 3) (v := .ref (ad 17)) (C := R_M) (T := F_M) (N := 16) hx hb hts (fun w h => kS1 w (i_M w h)) hown hK hP 10 gw_10 rfl 8 (by decide) (hts _ (kS1 _ m_M_29)) (fun _ h9 => h9) rfl d_M_root_34 ?_
  refine lv_iload_n hx hb d_M_root_37 rfl (lv_at hl 1 rfl) ?_
  refine va_iald (f := a 8) hx hb hK hP 17 0 gw_17 rfl (mR_in (mG_1 hc)) d_M_root_38 ?_
  refine lv_istore_n (lv' := [(3, .int ((a 8) x.toNatClampNeg)), (0, .ref (ad 10)), (1, .int x), (2, .int u)]) hx hb d_M_root_39 rfl hl (by decide) rfl (fun ls hl => ?_)
  refine lv_aload_n hx hb d_M_root_40 rfl (lv_at hl 1 rfl) ?_
  refine va_get (D := D) (ci := 3) (v := .ref (ad 17)) (C := R_M) (T := F_M) (N := 16) hx hb hts (fun w h => kS1 w (i_M w h)) hown hK hP 10 gw_10 rfl 8 (by decide) (hts _ (kS1 _ m_M_29)) (fun _ h9 => h9) rfl d_M_root_41 ?_
  refine lv_iload_n hx hb d_M_root_44 rfl (lv_at hl 2 rfl) ?_
  refine lv_iload_n hx hb d_M_root_45 rfl (lv_at hl 3 rfl) ?_
  refine lv_iconst (v := 1) hx hb d_M_root_46 (by decide) ?_
  refine lv_iadd hx hb d_M_root_47 ?_
  refine va_iast (f := a 8) hx hb hK hP hD hS 17 0 gw_17 rfl (mR_in (mG_1 hc)) d_M_root_48 (fun H locs hP hD hS => ?_)
  have hP := kw_P (gw_sa8 (r := upd (a 8) x.toNatClampNeg (u + 1))) hP
  have hD := kw_D (gw_sa8 (r := upd (a 8) x.toNatClampNeg (u + 1))) hD
  refine lv_iload_n hx hb d_M_root_49 rfl (lv_at hl 0 rfl) ?_
  refine lv_iconst (v := 1) hx hb d_M_root_50 (by decide) ?_
  refine lv_isub hx hb d_M_root_51 ?_
  have hu : (gW n ty ad f th rt qu b w T (upd g 0 (mT (mR g a x u) 1)) (va_up a 8 (upd (a 8) x.toNatClampNeg (u + 1))) o : va_W) = gW n ty ad f th rt qu b w T (upd g 0 (mT (mR g a x u) 1)) (va_up a 8 (upd (a 8) x.toNatClampNeg (u + 1))) o := by simp [c_28]
  have hv : (((a 8) x.toNatClampNeg) - 1 : Int32) = a 8 x.toNatClampNeg - 1 := by simp [c_28]
  exact W.iret (v := ((a 8) x.toNatClampNeg) - 1) hx hb hr (fun t ht hW => ⟨⟨_, _, rfl, ⟨hv, hu⟩, by rw [ht]; exact hP, va_K.moved hW.alike hK, hD⟩, hS.F ht⟩) hS.2.2 d_M_root_52
end
section
/-! Part 31: the model's find. -/
set_option maxHeartbeats 4000000 in
set_option maxRecDepth 100000 in
/-- find(kp) -/
theorem c_M_find (l : Launch) (D : va_G) (ty : Nat → ClassId) (ad : Nat → Nat) (sz : Nat) (n : Nat) (f : Nat → Int32) (th : Nat → Bool) (rt qu : Nat → Int32) (b w : SR) (T : Nat → TH) (g : Nat → Int32) (a : Nat → Nat → Int32) (o : Nat → Int64) (hg1 : g 1 = nI n) (hn3 : n ≤ 300) (kp : Int32) (q : Nat) (hq : g 9 = nI q) (hq3 : q ≤ 300) (hL : ∀ k, k < n → ∃ v, v ≤ 12 ∧ a 4 k = nI v) (hR : ∀ r, r < 16 → ∃ v, v ≤ 300 ∧ a 8 r = nI v) (hQ : ∀ i, i < q → ∃ v, v < 300 ∧ a 10 i = nI v) (hF : ∀ i, i < 3600 → ∃ v, v ≤ 300 ∧ a 5 i = nI v) (hW1 : ∀ k, k < n → a 3 k = 1 → 0 < (a 4 k).toNatClampNeg) : Met l y_M_find w_M_find ({ frames := 0, cells := 0, slots := 0, locals := 0 }) (va_Pc [.ref (ad 10), .int kp] (kP D kCl (kTy ty) (gW n ty ad f th rt qu b w T g a o) sz)) (va_Qi (fun (r9 : Int32) (u9 : va_W) => r9 = (it (mC (mD kp a n q (a 14))) n 0) ∧ u9 = (gW n ty ad f th rt qu b w T g (va_up a 14 (mD kp a n q (a 14))) o)) (kB D kCl (kTy ty) (va_A (gW n ty ad f th rt qu b w T g a o) sz)) (va_A (gW n ty ad f th rt qu b w T g a o) sz)) 0 0 (va_A (gW n ty ad f th rt qu b w T g a o) sz) := by
  refine Met.ofW (cc := b_M_find) (maxL := 6) (ret := (some .int)) (by decide) rfl ?_
  intro p e s m args below meth cd s₁ B hml hv
  obtain ⟨rfl, hsz, hP, hK, hD0⟩ := hv
  have hx := B.exec
  have hb := B.bytes
  have hr := B.returns
  have hts := atoms_spec (ws := w_M_find) B.pre
  have hown : s.vm.findClass R_M = some m.cls := findClass_of_methodNamed B.named
  have hlocks := B.notSynchronized
  subst hsz
  have hD := hD0.self (sz := s.heap.size)
  generalize hAe : va_A (gW n ty ad f th rt qu b w T g a o) s.heap.size = A at hD ⊢
  have hA : ∀ q : Nat, s.heap.size ≤ q → A q := fun q h => by rw [← hAe]; exact Or.inr h
  have hS : va_S A s.heap s.heap [] := va_S.rf
  have hl := lv_entry ([.ref (ad 10), .int kp]) (n := 6) (Nat.le_of_ble_eq_true rfl)
  rw [lg_entry_eq]
  generalize (lg_sl ([.ref (ad 10), .int kp]) ++ List.replicate (6 - (lg_sl ([.ref (ad 10), .int kp])).length) Slot.unset).toArray = ls at hl ⊢
  have hl : lv_has ls 6 [(0, .ref (ad 10)), (1, .int kp)] := hl
  have hLe : ∀ k, k < n → a 4 k ≤ nI (a 4 k).toNatClampNeg := fun k _ => kcl_le
  have hLt : ∀ k, k < n → ∀ {j : Nat}, j < (a 4 k).toNatClampNeg → ¬ a 4 k ≤ nI j := fun k _ j h => kcl_lt h
  have hL12 : ∀ k, k < n → ∀ {j : Nat}, j < (a 4 k).toNatClampNeg → j < 12 := fun k hk j h => by obtain ⟨v, hv, e⟩ := hL k hk; rw [e, nI_clamp (by omega)] at h; omega
  refine lv_iconst (v := 0) hx hb d_M_find_0 (by decide) ?_
  refine lv_istore_n (lv' := [(2, .int 0), (0, .ref (ad 10)), (1, .int kp)]) hx hb d_M_find_1 rfl hl (by decide) rfl (fun ls hl => ?_)
  have L1 : ∀ (Q : State → Prop) (rem i : Nat) (H : Heap) (locs : List Loc) (ls : Array Slot), i + rem = n → va_P D kCl (gW n ty ad f th rt qu b w T g (va_up a 14 (it (mD1 kp a) i (a 14))) o) H → va_D A (gW n ty ad f th rt qu b w T g (va_up a 14 (it (mD1 kp a) i (a 14))) o) → va_S A s.heap H locs → lv_has ls 6 [(0, .ref (ad 10)), (1, .int kp), (2, .int (nI i))] → (∀ (H : Heap) (locs : List Loc) (ls : Array Slot), va_P D kCl (gW n ty ad f th rt qu b w T g (va_up a 14 (it (mD1 kp a) n (a 14))) o) H → va_D A (gW n ty ad f th rt qu b w T g (va_up a 14 (it (mD1 kp a) n (a 14))) o) → va_S A s.heap H locs → lv_has ls 6 [(0, .ref (ad 10)), (1, .int kp)] → W p l e (headSpec w_M_find ({ frames := 0, cells := 0, slots := 0, locals := 0 })).room s m ([.ref (ad 10), .int kp] : List Value).toArray below meth cd H locs 0 0 Q (F0 m 59 ls [])) → W p l e (headSpec w_M_find ({ frames := 0, cells := 0, slots := 0, locals := 0 })).room s m ([.ref (ad 10), .int kp] : List Value).toArray below meth cd H locs 0 0 Q (F0 m 2 ls []) := by
    intro Q rem
    induction rem with
    | zero =>
      intro i H locs ls hir_i hP hD hS hl kx
      obtain rfl : n = i := by omega
      refine lv_iload_n hx hb d_M_find_2 rfl (lv_at hl 2 rfl) ?_
      refine lv_aload_n hx hb d_M_find_3 rfl (lv_at hl 0 rfl) ?_
      refine va_get (D := D) (ci := 3) (v := .int (g 1)) (C := R_M) (T := F_M) (N := 16) hx hb hts (fun w h => kS1 w (i_M w h)) hown hK hP 10 gw_10 rfl 1 (by decide) (hts _ (kS1 _ m_M_45)) (fun _ h9 => h9) rfl d_M_find_4 ?_
      refine lv_icmp_ge (tgt := 59) hx hb d_M_find_7 (by decide) (fun c_7' => ?_) (fun c_7' => absurd (by rw [hg1]; exact nI_le (Nat.le_refl _) (by omega)) c_7')
      have hl := lv_sub (l' := [(0, .ref (ad 10)), (1, .int kp)]) hl [0, 1] rfl
      exact kx _ _ ls hP hD hS hl
    | succ rem ih =>
      intro i H locs ls hir_i hP hD hS hl kx
      have hlt_i : i < n := by omega
      refine lv_iload_n hx hb d_M_find_2 rfl (lv_at hl 2 rfl) ?_
      refine lv_aload_n hx hb d_M_find_3 rfl (lv_at hl 0 rfl) ?_
      refine va_get (D := D) (ci := 3) (v := .int (g 1)) (C := R_M) (T := F_M) (N := 16) hx hb hts (fun w h => kS1 w (i_M w h)) hown hK hP 10 gw_10 rfl 1 (by decide) (hts _ (kS1 _ m_M_45)) (fun _ h9 => h9) rfl d_M_find_4 ?_
      refine lv_icmp_ge (tgt := 59) hx hb d_M_find_7 (by decide) (fun c_7' => absurd c_7' (by rw [hg1]; exact nI_ge hlt_i (by omega))) (fun c_7' => ?_)
      refine lv_aload_n hx hb d_M_find_10 rfl (lv_at hl 0 rfl) ?_
      refine va_get (D := D) (ci := 3) (v := .ref (ad 19)) (C := R_M) (T := F_M) (N := 16) hx hb hts (fun w h => kS1 w (i_M w h)) hown hK hP 10 gw_10 rfl 14 (by decide) (hts _ (kS1 _ m_M_35)) (fun _ h9 => h9) rfl d_M_find_11 ?_
      refine lv_iload_n hx hb d_M_find_14 rfl (lv_at hl 2 rfl) ?_
      refine lv_iload_n hx hb d_M_find_15 rfl (lv_at hl 1 rfl) ?_
      refine lv_if_eq (tgt := 51) hx hb d_M_find_16 (by decide) (fun c_16' => ?_) (fun c_16' => ?_)
      · refine lv_iconst (v := 0) hx hb d_M_find_51 (by decide) ?_
        refine va_zast (f := it (mD1 kp a) i (a 14)) hx hb hK hP hD hS 19 1 gw_19 rfl (vp_in_nI (N := 300) (by omega) (by omega)) d_M_find_52 (fun H locs hP hD hS => ?_)
        rw [nI_clamp (n := i) (by omega)] at hP hD
        have hP := kw_P ((gw_sa14 (r := upd (it (mD1 kp a) i (a 14)) i (vp_nar .boolean 0))).trans (by rw [bx_uu])) hP
        have hD := kw_D ((gw_sa14 (r := upd (it (mD1 kp a) i (a 14)) i (vp_nar .boolean 0))).trans (by rw [bx_uu])) hD
        refine lv_iinc (v := nI i + 1) (lv' := [(2, .int (nI i + 1)), (0, .ref (ad 10)), (1, .int kp)]) hx hb d_M_find_53 hl (k := 2) rfl rfl (by decide) rfl (fun ls hl => ?_)
        refine lv_goto (tgt := 2) hx hb d_M_find_56 (by decide) ?_
        have hl := lv_sub (l' := [(0, .ref (ad 10)), (1, .int kp), (2, .int (nI i + 1))]) hl [1, 2, 0] rfl
        have hqq9 : (.int (nI i + 1) : Value) = .int (nI (i + 1)) := by rw [nI_1]
        rw [hqq9] at hl
        have hE : (gW n ty ad f th rt qu b w T g (va_up a 14 (upd (it (mD1 kp a) i (a 14)) i (vp_nar .boolean 0))) o : va_W) = gW n ty ad f th rt qu b w T g (va_up a 14 (it (mD1 kp a) (i + 1) (a 14))) o := by rw [it_s, mD1, m1v]; simp [kb0, kb1, c_7', c_16']
        have hP := kw_P hE hP
        have hD := kw_D hE hD
        exact ih (i + 1) _ _ ls (by omega) hP hD hS hl kx
      · refine lv_aload_n hx hb d_M_find_19 rfl (lv_at hl 0 rfl) ?_
        refine va_get (D := D) (ci := 3) (v := .ref (ad 11)) (C := R_M) (T := F_M) (N := 16) hx hb hts (fun w h => kS1 w (i_M w h)) hown hK hP 10 gw_10 rfl 2 (by decide) (hts _ (kS1 _ m_M_7)) (fun _ h9 => h9) rfl d_M_find_20 ?_
        refine lv_iload_n hx hb d_M_find_23 rfl (lv_at hl 2 rfl) ?_
        refine va_zald (f := a 2) hx hb hK hP 11 1 gw_11 rfl (vp_in_nI (N := 300) (by omega) (by omega)) d_M_find_24 ?_
        rw [nI_clamp (n := i) (by omega)]
        refine lv_if_eq (tgt := 51) hx hb d_M_find_25 (by decide) (fun c_25' => ?_) (fun c_25' => ?_)
        · refine lv_iconst (v := 0) hx hb d_M_find_51 (by decide) ?_
          refine va_zast (f := it (mD1 kp a) i (a 14)) hx hb hK hP hD hS 19 1 gw_19 rfl (vp_in_nI (N := 300) (by omega) (by omega)) d_M_find_52 (fun H locs hP hD hS => ?_)
          rw [nI_clamp (n := i) (by omega)] at hP hD
          have hP := kw_P ((gw_sa14 (r := upd (it (mD1 kp a) i (a 14)) i (vp_nar .boolean 0))).trans (by rw [bx_uu])) hP
          have hD := kw_D ((gw_sa14 (r := upd (it (mD1 kp a) i (a 14)) i (vp_nar .boolean 0))).trans (by rw [bx_uu])) hD
          refine lv_iinc (v := nI i + 1) (lv' := [(2, .int (nI i + 1)), (0, .ref (ad 10)), (1, .int kp)]) hx hb d_M_find_53 hl (k := 2) rfl rfl (by decide) rfl (fun ls hl => ?_)
          refine lv_goto (tgt := 2) hx hb d_M_find_56 (by decide) ?_
          have hl := lv_sub (l' := [(0, .ref (ad 10)), (1, .int kp), (2, .int (nI i + 1))]) hl [1, 2, 0] rfl
          have hqq9 : (.int (nI i + 1) : Value) = .int (nI (i + 1)) := by rw [nI_1]
          rw [hqq9] at hl
          have hE : (gW n ty ad f th rt qu b w T g (va_up a 14 (upd (it (mD1 kp a) i (a 14)) i (vp_nar .boolean 0))) o : va_W) = gW n ty ad f th rt qu b w T g (va_up a 14 (it (mD1 kp a) (i + 1) (a 14))) o := by rw [it_s, mD1, m1v]; simp [kb0, kb1, c_7', c_16', c_25']
          have hP := kw_P hE hP
          have hD := kw_D hE hD
          exact ih (i + 1) _ _ ls (by omega) hP hD hS hl kx
        · refine lv_aload_n hx hb d_M_find_28 rfl (lv_at hl 0 rfl) ?_
          refine va_get (D := D) (ci := 3) (v := .ref (ad 12)) (C := R_M) (T := F_M) (N := 16) hx hb hts (fun w h => kS1 w (i_M w h)) hown hK hP 10 gw_10 rfl 3 (by decide) (hts _ (kS1 _ m_M_13)) (fun _ h9 => h9) rfl d_M_find_29 ?_
          refine lv_iload_n hx hb d_M_find_32 rfl (lv_at hl 2 rfl) ?_
          refine va_iald (f := a 3) hx hb hK hP 12 0 gw_12 rfl (vp_in_nI (N := 300) (by omega) (by omega)) d_M_find_33 ?_
          rw [nI_clamp (n := i) (by omega)]
          refine lv_iconst (v := 2) hx hb d_M_find_34 (by decide) ?_
          refine lv_icmp_ne (tgt := 51) hx hb d_M_find_35 (by decide) (fun c_35' => ?_) (fun c_35' => ?_)
          · refine lv_iconst (v := 0) hx hb d_M_find_51 (by decide) ?_
            refine va_zast (f := it (mD1 kp a) i (a 14)) hx hb hK hP hD hS 19 1 gw_19 rfl (vp_in_nI (N := 300) (by omega) (by omega)) d_M_find_52 (fun H locs hP hD hS => ?_)
            rw [nI_clamp (n := i) (by omega)] at hP hD
            have hP := kw_P ((gw_sa14 (r := upd (it (mD1 kp a) i (a 14)) i (vp_nar .boolean 0))).trans (by rw [bx_uu])) hP
            have hD := kw_D ((gw_sa14 (r := upd (it (mD1 kp a) i (a 14)) i (vp_nar .boolean 0))).trans (by rw [bx_uu])) hD
            refine lv_iinc (v := nI i + 1) (lv' := [(2, .int (nI i + 1)), (0, .ref (ad 10)), (1, .int kp)]) hx hb d_M_find_53 hl (k := 2) rfl rfl (by decide) rfl (fun ls hl => ?_)
            refine lv_goto (tgt := 2) hx hb d_M_find_56 (by decide) ?_
            have hl := lv_sub (l' := [(0, .ref (ad 10)), (1, .int kp), (2, .int (nI i + 1))]) hl [1, 2, 0] rfl
            have hqq9 : (.int (nI i + 1) : Value) = .int (nI (i + 1)) := by rw [nI_1]
            rw [hqq9] at hl
            have hE : (gW n ty ad f th rt qu b w T g (va_up a 14 (upd (it (mD1 kp a) i (a 14)) i (vp_nar .boolean 0))) o : va_W) = gW n ty ad f th rt qu b w T g (va_up a 14 (it (mD1 kp a) (i + 1) (a 14))) o := by rw [it_s, mD1, m1v]; simp [kb0, kb1, c_7', c_16', c_25', c_35']
            have hP := kw_P hE hP
            have hD := kw_D hE hD
            exact ih (i + 1) _ _ ls (by omega) hP hD hS hl kx
          · refine lv_aload_n hx hb d_M_find_38 rfl (lv_at hl 0 rfl) ?_
            refine va_get (D := D) (ci := 3) (v := .ref (ad 16)) (C := R_M) (T := F_M) (N := 16) hx hb hts (fun w h => kS1 w (i_M w h)) hown hK hP 10 gw_10 rfl 7 (by decide) (hts _ (kS1 _ m_M_26)) (fun _ h9 => h9) rfl d_M_find_39 ?_
            refine lv_iload_n hx hb d_M_find_42 rfl (lv_at hl 2 rfl) ?_
            refine va_zald (f := a 7) hx hb hK hP 16 1 gw_16 rfl (vp_in_nI (N := 300) (by omega) (by omega)) d_M_find_43 ?_
            rw [nI_clamp (n := i) (by omega)]
            refine lv_if_ne (tgt := 51) hx hb d_M_find_44 (by decide) (fun c_44' => ?_) (fun c_44' => ?_)
            · refine lv_iconst (v := 0) hx hb d_M_find_51 (by decide) ?_
              refine va_zast (f := it (mD1 kp a) i (a 14)) hx hb hK hP hD hS 19 1 gw_19 rfl (vp_in_nI (N := 300) (by omega) (by omega)) d_M_find_52 (fun H locs hP hD hS => ?_)
              rw [nI_clamp (n := i) (by omega)] at hP hD
              have hP := kw_P ((gw_sa14 (r := upd (it (mD1 kp a) i (a 14)) i (vp_nar .boolean 0))).trans (by rw [bx_uu])) hP
              have hD := kw_D ((gw_sa14 (r := upd (it (mD1 kp a) i (a 14)) i (vp_nar .boolean 0))).trans (by rw [bx_uu])) hD
              refine lv_iinc (v := nI i + 1) (lv' := [(2, .int (nI i + 1)), (0, .ref (ad 10)), (1, .int kp)]) hx hb d_M_find_53 hl (k := 2) rfl rfl (by decide) rfl (fun ls hl => ?_)
              refine lv_goto (tgt := 2) hx hb d_M_find_56 (by decide) ?_
              have hl := lv_sub (l' := [(0, .ref (ad 10)), (1, .int kp), (2, .int (nI i + 1))]) hl [1, 2, 0] rfl
              have hqq9 : (.int (nI i + 1) : Value) = .int (nI (i + 1)) := by rw [nI_1]
              rw [hqq9] at hl
              have hE : (gW n ty ad f th rt qu b w T g (va_up a 14 (upd (it (mD1 kp a) i (a 14)) i (vp_nar .boolean 0))) o : va_W) = gW n ty ad f th rt qu b w T g (va_up a 14 (it (mD1 kp a) (i + 1) (a 14))) o := by rw [it_s, mD1, m1v]; simp [kb0, kb1, c_7', c_16', c_25', c_35', c_44']
              have hP := kw_P hE hP
              have hD := kw_D hE hD
              exact ih (i + 1) _ _ ls (by omega) hP hD hS hl kx
            · refine lv_iconst (v := 1) hx hb d_M_find_47 (by decide) ?_
              refine lv_goto (tgt := 52) hx hb d_M_find_48 (by decide) ?_
              refine va_zast (f := it (mD1 kp a) i (a 14)) hx hb hK hP hD hS 19 1 gw_19 rfl (vp_in_nI (N := 300) (by omega) (by omega)) d_M_find_52 (fun H locs hP hD hS => ?_)
              rw [nI_clamp (n := i) (by omega)] at hP hD
              have hP := kw_P ((gw_sa14 (r := upd (it (mD1 kp a) i (a 14)) i (vp_nar .boolean 1))).trans (by rw [bx_uu])) hP
              have hD := kw_D ((gw_sa14 (r := upd (it (mD1 kp a) i (a 14)) i (vp_nar .boolean 1))).trans (by rw [bx_uu])) hD
              refine lv_iinc (v := nI i + 1) (lv' := [(2, .int (nI i + 1)), (0, .ref (ad 10)), (1, .int kp)]) hx hb d_M_find_53 hl (k := 2) rfl rfl (by decide) rfl (fun ls hl => ?_)
              refine lv_goto (tgt := 2) hx hb d_M_find_56 (by decide) ?_
              have hl := lv_sub (l' := [(0, .ref (ad 10)), (1, .int kp), (2, .int (nI i + 1))]) hl [1, 2, 0] rfl
              have hqq9 : (.int (nI i + 1) : Value) = .int (nI (i + 1)) := by rw [nI_1]
              rw [hqq9] at hl
              have hE : (gW n ty ad f th rt qu b w T g (va_up a 14 (upd (it (mD1 kp a) i (a 14)) i (vp_nar .boolean 1))) o : va_W) = gW n ty ad f th rt qu b w T g (va_up a 14 (it (mD1 kp a) (i + 1) (a 14))) o := by rw [it_s, mD1, m1v]; simp [kb0, kb1, c_7', c_16', c_25', c_35', c_44']
              have hP := kw_P hE hP
              have hD := kw_D hE hD
              exact ih (i + 1) _ _ ls (by omega) hP hD hS hl kx
  have hl := lv_sub (l' := [(0, .ref (ad 10)), (1, .int kp), (2, .int 0)]) hl [1, 2, 0] rfl
  have hqq9 : (.int 0 : Value) = .int (nI 0) := by rw [nI_0]
  rw [hqq9] at hl
  refine L1 _ (n - 0) 0 _ _ ls (by omega) hP hD hS hl (fun H locs ls hP hD hS hl => ?_)
  refine lv_iconst (v := 0) hx hb d_M_find_59 (by decide) ?_
  refine lv_istore_n (lv' := [(2, .int 0), (0, .ref (ad 10)), (1, .int kp)]) hx hb d_M_find_60 rfl hl (by decide) rfl (fun ls hl => ?_)
  have L2 : ∀ (Q : State → Prop) (rem i : Nat) (H : Heap) (locs : List Loc) (ls : Array Slot), i + rem = 16 → va_P D kCl (gW n ty ad f th rt qu b w T g (va_up a 14 (it (mD2 a) i (it (mD1 kp a) n (a 14)))) o) H → va_D A (gW n ty ad f th rt qu b w T g (va_up a 14 (it (mD2 a) i (it (mD1 kp a) n (a 14)))) o) → va_S A s.heap H locs → lv_has ls 6 [(0, .ref (ad 10)), (1, .int kp), (2, .int (nI i))] → (∀ (H : Heap) (locs : List Loc) (ls : Array Slot), va_P D kCl (gW n ty ad f th rt qu b w T g (va_up a 14 (it (mD2 a) 16 (it (mD1 kp a) n (a 14)))) o) H → va_D A (gW n ty ad f th rt qu b w T g (va_up a 14 (it (mD2 a) 16 (it (mD1 kp a) n (a 14)))) o) → va_S A s.heap H locs → lv_has ls 6 [(0, .ref (ad 10)), (1, .int kp)] → W p l e (headSpec w_M_find ({ frames := 0, cells := 0, slots := 0, locals := 0 })).room s m ([.ref (ad 10), .int kp] : List Value).toArray below meth cd H locs 0 0 Q (F0 m 96 ls [])) → W p l e (headSpec w_M_find ({ frames := 0, cells := 0, slots := 0, locals := 0 })).room s m ([.ref (ad 10), .int kp] : List Value).toArray below meth cd H locs 0 0 Q (F0 m 61 ls []) := by
    intro Q rem
    induction rem with
    | zero =>
      intro i H locs ls hir_i hP hD hS hl kx
      obtain rfl : 16 = i := by omega
      refine lv_iload_n hx hb d_M_find_61 rfl (lv_at hl 2 rfl) ?_
      refine lv_bipush (v := 16) hx hb d_M_find_62 (by decide) ?_
      refine lv_icmp_ge (tgt := 96) hx hb d_M_find_64 (by decide) (fun c_64' => ?_) (fun c_64' => absurd (nI_le (a := 16) (b := 16) (Nat.le_refl _) (by omega)) c_64')
      have hl := lv_sub (l' := [(0, .ref (ad 10)), (1, .int kp)]) hl [0, 1] rfl
      exact kx _ _ ls hP hD hS hl
    | succ rem ih =>
      intro i H locs ls hir_i hP hD hS hl kx
      have hlt_i : i < 16 := by omega
      refine lv_iload_n hx hb d_M_find_61 rfl (lv_at hl 2 rfl) ?_
      refine lv_bipush (v := 16) hx hb d_M_find_62 (by decide) ?_
      refine lv_icmp_ge (tgt := 96) hx hb d_M_find_64 (by decide) (fun c_64' => absurd c_64' (nI_ge (b := 16) hlt_i (by omega))) (fun c_64' => ?_)
      refine lv_aload_n hx hb d_M_find_67 rfl (lv_at hl 0 rfl) ?_
      refine va_get (D := D) (ci := 3) (v := .ref (ad 17)) (C := R_M) (T := F_M) (N := 16) hx hb hts (fun w h => kS1 w (i_M w h)) hown hK hP 10 gw_10 rfl 8 (by decide) (hts _ (kS1 _ m_M_29)) (fun _ h9 => h9) rfl d_M_find_68 ?_
      refine lv_iload_n hx hb d_M_find_71 rfl (lv_at hl 2 rfl) ?_
      refine va_iald (f := a 8) hx hb hK hP 17 0 gw_17 rfl (vp_in_nI hlt_i (by omega)) d_M_find_72 ?_
      rw [nI_clamp (n := i) (by omega)]
      refine lv_if_le (tgt := 90) hx hb d_M_find_73 (by decide) (fun c_73' => ?_) (fun c_73' => ?_)
      · refine lv_iinc (v := nI i + 1) (lv' := [(2, .int (nI i + 1)), (0, .ref (ad 10)), (1, .int kp)]) hx hb d_M_find_90 hl (k := 2) rfl rfl (by decide) rfl (fun ls hl => ?_)
        refine lv_goto (tgt := 61) hx hb d_M_find_93 (by decide) ?_
        have hl := lv_sub (l' := [(0, .ref (ad 10)), (1, .int kp), (2, .int (nI i + 1))]) hl [1, 2, 0] rfl
        have hqq9 : (.int (nI i + 1) : Value) = .int (nI (i + 1)) := by rw [nI_1]
        rw [hqq9] at hl
        have hE : (gW n ty ad f th rt qu b w T g (va_up a 14 (it (mD2 a) i (it (mD1 kp a) n (a 14)))) o : va_W) = gW n ty ad f th rt qu b w T g (va_up a 14 (it (mD2 a) (i + 1) (it (mD1 kp a) n (a 14)))) o := by rw [it_s, mD2]; simp [kb1, c_64', c_73']
        have hP := kw_P hE hP
        have hD := kw_D hE hD
        exact ih (i + 1) _ _ ls (by omega) hP hD hS hl kx
      · refine lv_aload_n hx hb d_M_find_76 rfl (lv_at hl 0 rfl) ?_
        refine va_get (D := D) (ci := 3) (v := .ref (ad 19)) (C := R_M) (T := F_M) (N := 16) hx hb hts (fun w h => kS1 w (i_M w h)) hown hK hP 10 gw_10 rfl 14 (by decide) (hts _ (kS1 _ m_M_35)) (fun _ h9 => h9) rfl d_M_find_77 ?_
        refine lv_aload_n hx hb d_M_find_80 rfl (lv_at hl 0 rfl) ?_
        refine va_get (D := D) (ci := 3) (v := .ref (ad 17)) (C := R_M) (T := F_M) (N := 16) hx hb hts (fun w h => kS1 w (i_M w h)) hown hK hP 10 gw_10 rfl 8 (by decide) (hts _ (kS1 _ m_M_29)) (fun _ h9 => h9) rfl d_M_find_81 ?_
        refine lv_iload_n hx hb d_M_find_84 rfl (lv_at hl 2 rfl) ?_
        refine va_iald (f := a 8) hx hb hK hP 17 0 gw_17 rfl (vp_in_nI hlt_i (by omega)) d_M_find_85 ?_
        rw [nI_clamp (n := i) (by omega)]
        refine lv_iconst (v := 1) hx hb d_M_find_86 (by decide) ?_
        refine lv_isub hx hb d_M_find_87 ?_
        refine lv_iconst (v := 1) hx hb d_M_find_88 (by decide) ?_
        refine va_zast (f := it (mD2 a) i (it (mD1 kp a) n (a 14))) hx hb hK hP hD hS 19 1 gw_19 rfl (kin8 (hR i hlt_i) c_73') d_M_find_89 (fun H locs hP hD hS => ?_)
        have hP := kw_P ((gw_sa14 (r := upd (it (mD2 a) i (it (mD1 kp a) n (a 14))) ((((a 8) i) - 1).toNatClampNeg) (vp_nar .boolean 1))).trans (by rw [bx_uu])) hP
        have hD := kw_D ((gw_sa14 (r := upd (it (mD2 a) i (it (mD1 kp a) n (a 14))) ((((a 8) i) - 1).toNatClampNeg) (vp_nar .boolean 1))).trans (by rw [bx_uu])) hD
        refine lv_iinc (v := nI i + 1) (lv' := [(2, .int (nI i + 1)), (0, .ref (ad 10)), (1, .int kp)]) hx hb d_M_find_90 hl (k := 2) rfl rfl (by decide) rfl (fun ls hl => ?_)
        refine lv_goto (tgt := 61) hx hb d_M_find_93 (by decide) ?_
        have hl := lv_sub (l' := [(0, .ref (ad 10)), (1, .int kp), (2, .int (nI i + 1))]) hl [1, 2, 0] rfl
        have hqq9 : (.int (nI i + 1) : Value) = .int (nI (i + 1)) := by rw [nI_1]
        rw [hqq9] at hl
        have hE : (gW n ty ad f th rt qu b w T g (va_up a 14 (upd (it (mD2 a) i (it (mD1 kp a) n (a 14))) ((((a 8) i) - 1).toNatClampNeg) (vp_nar .boolean 1))) o : va_W) = gW n ty ad f th rt qu b w T g (va_up a 14 (it (mD2 a) (i + 1) (it (mD1 kp a) n (a 14)))) o := by rw [it_s, mD2]; simp [kb1, c_64', c_73']
        have hP := kw_P hE hP
        have hD := kw_D hE hD
        exact ih (i + 1) _ _ ls (by omega) hP hD hS hl kx
  have hl := lv_sub (l' := [(0, .ref (ad 10)), (1, .int kp), (2, .int 0)]) hl [1, 2, 0] rfl
  have hqq9 : (.int 0 : Value) = .int (nI 0) := by rw [nI_0]
  rw [hqq9] at hl
  refine L2 _ (16 - 0) 0 _ _ ls (by omega) hP hD hS hl (fun H locs ls hP hD hS hl => ?_)
  refine lv_iconst (v := 0) hx hb d_M_find_96 (by decide) ?_
  refine lv_istore_n (lv' := [(2, .int 0), (0, .ref (ad 10)), (1, .int kp)]) hx hb d_M_find_97 rfl hl (by decide) rfl (fun ls hl => ?_)
  have L3 : ∀ (Q : State → Prop) (rem i : Nat) (H : Heap) (locs : List Loc) (ls : Array Slot), i + rem = q → va_P D kCl (gW n ty ad f th rt qu b w T g (va_up a 14 (it (mD3 a) i (it (mD2 a) 16 (it (mD1 kp a) n (a 14))))) o) H → va_D A (gW n ty ad f th rt qu b w T g (va_up a 14 (it (mD3 a) i (it (mD2 a) 16 (it (mD1 kp a) n (a 14))))) o) → va_S A s.heap H locs → lv_has ls 6 [(0, .ref (ad 10)), (1, .int kp), (2, .int (nI i))] → (∀ (H : Heap) (locs : List Loc) (ls : Array Slot), va_P D kCl (gW n ty ad f th rt qu b w T g (va_up a 14 (it (mD3 a) q (it (mD2 a) 16 (it (mD1 kp a) n (a 14))))) o) H → va_D A (gW n ty ad f th rt qu b w T g (va_up a 14 (it (mD3 a) q (it (mD2 a) 16 (it (mD1 kp a) n (a 14))))) o) → va_S A s.heap H locs → lv_has ls 6 [(0, .ref (ad 10)), (1, .int kp)] → W p l e (headSpec w_M_find ({ frames := 0, cells := 0, slots := 0, locals := 0 })).room s m ([.ref (ad 10), .int kp] : List Value).toArray below meth cd H locs 0 0 Q (F0 m 124 ls [])) → W p l e (headSpec w_M_find ({ frames := 0, cells := 0, slots := 0, locals := 0 })).room s m ([.ref (ad 10), .int kp] : List Value).toArray below meth cd H locs 0 0 Q (F0 m 98 ls []) := by
    intro Q rem
    induction rem with
    | zero =>
      intro i H locs ls hir_i hP hD hS hl kx
      obtain rfl : q = i := by omega
      refine lv_iload_n hx hb d_M_find_98 rfl (lv_at hl 2 rfl) ?_
      refine lv_aload_n hx hb d_M_find_99 rfl (lv_at hl 0 rfl) ?_
      refine va_get (D := D) (ci := 3) (v := .int (g 9)) (C := R_M) (T := F_M) (N := 16) hx hb hts (fun w h => kS1 w (i_M w h)) hown hK hP 10 gw_10 rfl 9 (by decide) (hts _ (kS1 _ m_M_63)) (fun _ h9 => h9) rfl d_M_find_100 ?_
      refine lv_icmp_ge (tgt := 124) hx hb d_M_find_103 (by decide) (fun c_103' => ?_) (fun c_103' => absurd (by rw [hq]; exact nI_le (Nat.le_refl _) (by omega)) c_103')
      have hl := lv_sub (l' := [(0, .ref (ad 10)), (1, .int kp)]) hl [0, 1] rfl
      exact kx _ _ ls hP hD hS hl
    | succ rem ih =>
      intro i H locs ls hir_i hP hD hS hl kx
      have hlt_i : i < q := by omega
      refine lv_iload_n hx hb d_M_find_98 rfl (lv_at hl 2 rfl) ?_
      refine lv_aload_n hx hb d_M_find_99 rfl (lv_at hl 0 rfl) ?_
      refine va_get (D := D) (ci := 3) (v := .int (g 9)) (C := R_M) (T := F_M) (N := 16) hx hb hts (fun w h => kS1 w (i_M w h)) hown hK hP 10 gw_10 rfl 9 (by decide) (hts _ (kS1 _ m_M_63)) (fun _ h9 => h9) rfl d_M_find_100 ?_
      refine lv_icmp_ge (tgt := 124) hx hb d_M_find_103 (by decide) (fun c_103' => absurd c_103' (by rw [hq]; exact nI_ge hlt_i (by omega))) (fun c_103' => ?_)
      refine lv_aload_n hx hb d_M_find_106 rfl (lv_at hl 0 rfl) ?_
      refine va_get (D := D) (ci := 3) (v := .ref (ad 19)) (C := R_M) (T := F_M) (N := 16) hx hb hts (fun w h => kS1 w (i_M w h)) hown hK hP 10 gw_10 rfl 14 (by decide) (hts _ (kS1 _ m_M_35)) (fun _ h9 => h9) rfl d_M_find_107 ?_
      refine lv_aload_n hx hb d_M_find_110 rfl (lv_at hl 0 rfl) ?_
      refine va_get (D := D) (ci := 3) (v := .ref (ad 18)) (C := R_M) (T := F_M) (N := 16) hx hb hts (fun w h => kS1 w (i_M w h)) hown hK hP 10 gw_10 rfl 10 (by decide) (hts _ (kS1 _ m_M_32)) (fun _ h9 => h9) rfl d_M_find_111 ?_
      refine lv_iload_n hx hb d_M_find_114 rfl (lv_at hl 2 rfl) ?_
      refine va_iald (f := a 10) hx hb hK hP 18 0 gw_18 rfl (vp_in_nI (N := 300) (by omega) (by omega)) d_M_find_115 ?_
      rw [nI_clamp (n := i) (by omega)]
      refine lv_iconst (v := 1) hx hb d_M_find_116 (by decide) ?_
      refine va_zast (f := it (mD3 a) i (it (mD2 a) 16 (it (mD1 kp a) n (a 14)))) hx hb hK hP hD hS 19 1 gw_19 rfl (kin9 (hQ i hlt_i)) d_M_find_117 (fun H locs hP hD hS => ?_)
      have hP := kw_P ((gw_sa14 (r := upd (it (mD3 a) i (it (mD2 a) 16 (it (mD1 kp a) n (a 14)))) (((a 10) i).toNatClampNeg) (vp_nar .boolean 1))).trans (by rw [bx_uu])) hP
      have hD := kw_D ((gw_sa14 (r := upd (it (mD3 a) i (it (mD2 a) 16 (it (mD1 kp a) n (a 14)))) (((a 10) i).toNatClampNeg) (vp_nar .boolean 1))).trans (by rw [bx_uu])) hD
      refine lv_iinc (v := nI i + 1) (lv' := [(2, .int (nI i + 1)), (0, .ref (ad 10)), (1, .int kp)]) hx hb d_M_find_118 hl (k := 2) rfl rfl (by decide) rfl (fun ls hl => ?_)
      refine lv_goto (tgt := 98) hx hb d_M_find_121 (by decide) ?_
      have hl := lv_sub (l' := [(0, .ref (ad 10)), (1, .int kp), (2, .int (nI i + 1))]) hl [1, 2, 0] rfl
      have hqq9 : (.int (nI i + 1) : Value) = .int (nI (i + 1)) := by rw [nI_1]
      rw [hqq9] at hl
      have hE : (gW n ty ad f th rt qu b w T g (va_up a 14 (upd (it (mD3 a) i (it (mD2 a) 16 (it (mD1 kp a) n (a 14)))) (((a 10) i).toNatClampNeg) (vp_nar .boolean 1))) o : va_W) = gW n ty ad f th rt qu b w T g (va_up a 14 (it (mD3 a) (i + 1) (it (mD2 a) 16 (it (mD1 kp a) n (a 14))))) o := by rw [kb1]; rfl
      have hP := kw_P hE hP
      have hD := kw_D hE hD
      exact ih (i + 1) _ _ ls (by omega) hP hD hS hl kx
  have hl := lv_sub (l' := [(0, .ref (ad 10)), (1, .int kp), (2, .int 0)]) hl [1, 2, 0] rfl
  have hqq9 : (.int 0 : Value) = .int (nI 0) := by rw [nI_0]
  rw [hqq9] at hl
  refine L3 _ (q - 0) 0 _ _ ls (by omega) hP hD hS hl (fun H locs ls hP hD hS hl => ?_)
  refine lv_iconst (v := 1) hx hb d_M_find_124 (by decide) ?_
  refine lv_istore_n (lv' := [(2, .int 1), (0, .ref (ad 10)), (1, .int kp)]) hx hb d_M_find_125 rfl hl (by decide) rfl (fun ls hl => ?_)
  refine lv_iload_n hx hb d_M_find_126 rfl (lv_at hl 0 rfl) ?_
  refine lv_if_eq (tgt := 239) hx hb d_M_find_127 (by decide) (fun c_127 => absurd c_127 (by decide)) (fun c_127 => ?_)
  have L6 : ∀ (Q : State → Prop) (fu : Nat) (fd : Nat → Int32) (H : Heap) (locs : List Loc) (ls : Array Slot), 300 < cn (fun k => fd k != 0) 300 + fu → va_P D kCl (gW n ty ad f th rt qu b w T g (va_up a 14 fd) o) H → va_D A (gW n ty ad f th rt qu b w T g (va_up a 14 fd) o) → va_S A s.heap H locs → lv_has ls 6 [(0, .ref (ad 10)), (1, .int kp)] → (∀ (H : Heap) (locs : List Loc) (ls : Array Slot), va_P D kCl (gW n ty ad f th rt qu b w T g (va_up a 14 (mW kp a n fu fd)) o) H → va_D A (gW n ty ad f th rt qu b w T g (va_up a 14 (mW kp a n fu fd)) o) → va_S A s.heap H locs → lv_has ls 6 [(0, .ref (ad 10)), (1, .int kp)] → W p l e (headSpec w_M_find ({ frames := 0, cells := 0, slots := 0, locals := 0 })).room s m ([.ref (ad 10), .int kp] : List Value).toArray below meth cd H locs 0 0 Q (F0 m 239 ls [])) → W p l e (headSpec w_M_find ({ frames := 0, cells := 0, slots := 0, locals := 0 })).room s m ([.ref (ad 10), .int kp] : List Value).toArray below meth cd H locs 0 0 Q (F0 m 130 ls []) := by
    intro Q fu
    induction fu with
    | zero =>
      intro fd H locs ls hm
      exact absurd (cn_le (fun k => fd k != 0) 300) (by omega)
    | succ fu ih =>
      intro fd H locs ls hm hP hD hS hl kx
      refine lv_iconst (v := 0) hx hb d_M_find_130 (by decide) ?_
      refine lv_istore_n (lv' := [(2, .int 0), (0, .ref (ad 10)), (1, .int kp)]) hx hb d_M_find_131 rfl hl (by decide) rfl (fun ls hl => ?_)
      refine lv_iconst (v := 0) hx hb d_M_find_132 (by decide) ?_
      refine lv_istore_n (lv' := [(3, .int 0), (2, .int 0), (0, .ref (ad 10)), (1, .int kp)]) hx hb d_M_find_133 rfl hl (by decide) rfl (fun ls hl => ?_)
      have L4 : ∀ (Q : State → Prop) (rem k : Nat) (H : Heap) (locs : List Loc) (ls : Array Slot), k + rem = n → va_P D kCl (gW n ty ad f th rt qu b w T g (va_up a 14 ((it (mK kp a) k (fd, 0)).1)) o) H → va_D A (gW n ty ad f th rt qu b w T g (va_up a 14 ((it (mK kp a) k (fd, 0)).1)) o) → va_S A s.heap H locs → lv_has ls 6 [(0, .ref (ad 10)), (1, .int kp), (2, .int ((it (mK kp a) k (fd, 0)).2)), (3, .int (nI k))] → (∀ (H : Heap) (locs : List Loc) (ls : Array Slot), va_P D kCl (gW n ty ad f th rt qu b w T g (va_up a 14 ((it (mK kp a) n (fd, 0)).1)) o) H → va_D A (gW n ty ad f th rt qu b w T g (va_up a 14 ((it (mK kp a) n (fd, 0)).1)) o) → va_S A s.heap H locs → lv_has ls 6 [(0, .ref (ad 10)), (1, .int kp), (2, .int ((it (mK kp a) n (fd, 0)).2))] → W p l e (headSpec w_M_find ({ frames := 0, cells := 0, slots := 0, locals := 0 })).room s m ([.ref (ad 10), .int kp] : List Value).toArray below meth cd H locs 0 0 Q (F0 m 236 ls [])) → W p l e (headSpec w_M_find ({ frames := 0, cells := 0, slots := 0, locals := 0 })).room s m ([.ref (ad 10), .int kp] : List Value).toArray below meth cd H locs 0 0 Q (F0 m 134 ls []) := by
        intro Q rem
        induction rem with
        | zero =>
          intro k H locs ls hir_k hP hD hS hl kx
          obtain rfl : n = k := by omega
          refine lv_iload_n hx hb d_M_find_134 rfl (lv_at hl 3 rfl) ?_
          refine lv_aload_n hx hb d_M_find_135 rfl (lv_at hl 0 rfl) ?_
          refine va_get (D := D) (ci := 3) (v := .int (g 1)) (C := R_M) (T := F_M) (N := 16) hx hb hts (fun w h => kS1 w (i_M w h)) hown hK hP 10 gw_10 rfl 1 (by decide) (hts _ (kS1 _ m_M_45)) (fun _ h9 => h9) rfl d_M_find_136 ?_
          refine lv_icmp_ge (tgt := 236) hx hb d_M_find_139 (by decide) (fun c_139'' => ?_) (fun c_139'' => absurd (by rw [hg1]; exact nI_le (Nat.le_refl _) (by omega)) c_139'')
          have hl := lv_sub (l' := [(0, .ref (ad 10)), (1, .int kp), (2, .int ((it (mK kp a) n (fd, 0)).2))]) hl [0, 1, 2] rfl
          exact kx _ _ ls hP hD hS hl
        | succ rem ih =>
          intro k H locs ls hir_k hP hD hS hl kx
          have hlt_k : k < n := by omega
          refine lv_iload_n hx hb d_M_find_134 rfl (lv_at hl 3 rfl) ?_
          refine lv_aload_n hx hb d_M_find_135 rfl (lv_at hl 0 rfl) ?_
          refine va_get (D := D) (ci := 3) (v := .int (g 1)) (C := R_M) (T := F_M) (N := 16) hx hb hts (fun w h => kS1 w (i_M w h)) hown hK hP 10 gw_10 rfl 1 (by decide) (hts _ (kS1 _ m_M_45)) (fun _ h9 => h9) rfl d_M_find_136 ?_
          refine lv_icmp_ge (tgt := 236) hx hb d_M_find_139 (by decide) (fun c_139'' => absurd c_139'' (by rw [hg1]; exact nI_ge hlt_k (by omega))) (fun c_139'' => ?_)
          refine lv_aload_n hx hb d_M_find_142 rfl (lv_at hl 0 rfl) ?_
          refine va_get (D := D) (ci := 3) (v := .ref (ad 12)) (C := R_M) (T := F_M) (N := 16) hx hb hts (fun w h => kS1 w (i_M w h)) hown hK hP 10 gw_10 rfl 3 (by decide) (hts _ (kS1 _ m_M_13)) (fun _ h9 => h9) rfl d_M_find_143 ?_
          refine lv_iload_n hx hb d_M_find_146 rfl (lv_at hl 3 rfl) ?_
          refine va_iald (f := a 3) hx hb hK hP 12 0 gw_12 rfl (vp_in_nI (N := 300) (by omega) (by omega)) d_M_find_147 ?_
          rw [nI_clamp (n := k) (by omega)]
          refine lv_iconst (v := 1) hx hb d_M_find_148 (by decide) ?_
          refine lv_icmp_ne (tgt := 160) hx hb d_M_find_149 (by decide) (fun c_149'' => ?_) (fun c_149'' => ?_)
          · refine lv_iconst (v := 0) hx hb d_M_find_160 (by decide) ?_
            refine lv_istore (lv' := [(4, .int 0), (0, .ref (ad 10)), (1, .int kp), (2, .int ((it (mK kp a) k (fd, 0)).2)), (3, .int (nI k))]) hx hb d_M_find_161 hl (by decide) rfl (fun ls hl => ?_)
            by_cases hfk : (it (mK kp a) k (fd, 0)).1 k = 0
            · refine lv_iload hx hb d_M_find_163 (lv_at hl 0 rfl) ?_
              refine lv_aload_n hx hb d_M_find_165 rfl (lv_at hl 1 rfl) ?_
              refine va_get (D := D) (ci := 3) (v := .ref (ad 13)) (C := R_M) (T := F_M) (N := 16) hx hb hts (fun w h => kS1 w (i_M w h)) hown hK hP 10 gw_10 rfl 4 (by decide) (hts _ (kS1 _ m_M_17)) (fun _ h9 => h9) rfl d_M_find_166 ?_
              refine lv_iload_n hx hb d_M_find_169 rfl (lv_at hl 4 rfl) ?_
              refine va_iald (f := a 4) hx hb hK hP 13 0 gw_13 rfl (vp_in_nI (N := 300) (by omega) (by omega)) d_M_find_170 ?_
              rw [nI_clamp (n := k) (by omega)]
              refine lv_icmp_ge (tgt := 230) hx hb d_M_find_171 (by decide) (fun c_171'' => ?_) (fun c_171'' => ?_)
              · refine lv_iinc (v := nI k + 1) (lv' := [(3, .int (nI k + 1)), (4, .int 0), (0, .ref (ad 10)), (1, .int kp), (2, .int ((it (mK kp a) k (fd, 0)).2))]) hx hb d_M_find_230 hl (k := 4) rfl rfl (by decide) rfl (fun ls hl => ?_)
                refine lv_goto (tgt := 134) hx hb d_M_find_233 (by decide) ?_
                have hl := lv_sub (l' := [(0, .ref (ad 10)), (1, .int kp), (2, .int ((it (mK kp a) k (fd, 0)).2)), (3, .int (nI k + 1))]) hl [2, 3, 4, 0] rfl
                have hqq9 : (.int ((it (mK kp a) k (fd, 0)).2) : Value) = .int ((it (mK kp a) (k + 1) (fd, 0)).2) := by rw [it_s, mK, if_pos hfk]
                rw [hqq9] at hl
                have hqq9 : (.int (nI k + 1) : Value) = .int (nI (k + 1)) := by rw [nI_1]
                rw [hqq9] at hl
                have hE : (gW n ty ad f th rt qu b w T g (va_up a 14 ((it (mK kp a) k (fd, 0)).1)) o : va_W) = gW n ty ad f th rt qu b w T g (va_up a 14 ((it (mK kp a) (k + 1) (fd, 0)).1)) o := by rw [it_s, mK, if_pos hfk]
                have hP := kw_P hE hP
                have hD := kw_D hE hD
                exact ih (k + 1) _ _ ls (by omega) hP hD hS hl kx
              · refine lv_aload_n hx hb d_M_find_174 rfl (lv_at hl 1 rfl) ?_
                refine va_get (D := D) (ci := 3) (v := .ref (ad 19)) (C := R_M) (T := F_M) (N := 16) hx hb hts (fun w h => kS1 w (i_M w h)) hown hK hP 10 gw_10 rfl 14 (by decide) (hts _ (kS1 _ m_M_35)) (fun _ h9 => h9) rfl d_M_find_175 ?_
                refine lv_iload_n hx hb d_M_find_178 rfl (lv_at hl 4 rfl) ?_
                refine va_zald (f := (it (mK kp a) k (fd, 0)).1) hx hb hK hP 19 1 gw_19 rfl (vp_in_nI (N := 300) (by omega) (by omega)) d_M_find_179 ?_
                rw [nI_clamp (n := k) (by omega)]
                refine lv_if_eq (tgt := 230) hx hb d_M_find_180 (by decide) (fun c_180'' => ?_) (fun c_180'' => absurd hfk c_180'')
                refine lv_iinc (v := nI k + 1) (lv' := [(3, .int (nI k + 1)), (4, .int 0), (0, .ref (ad 10)), (1, .int kp), (2, .int ((it (mK kp a) k (fd, 0)).2))]) hx hb d_M_find_230 hl (k := 4) rfl rfl (by decide) rfl (fun ls hl => ?_)
                refine lv_goto (tgt := 134) hx hb d_M_find_233 (by decide) ?_
                have hl := lv_sub (l' := [(0, .ref (ad 10)), (1, .int kp), (2, .int ((it (mK kp a) k (fd, 0)).2)), (3, .int (nI k + 1))]) hl [2, 3, 4, 0] rfl
                have hqq9 : (.int ((it (mK kp a) k (fd, 0)).2) : Value) = .int ((it (mK kp a) (k + 1) (fd, 0)).2) := by rw [it_s, mK, if_pos hfk]
                rw [hqq9] at hl
                have hqq9 : (.int (nI k + 1) : Value) = .int (nI (k + 1)) := by rw [nI_1]
                rw [hqq9] at hl
                have hE : (gW n ty ad f th rt qu b w T g (va_up a 14 ((it (mK kp a) k (fd, 0)).1)) o : va_W) = gW n ty ad f th rt qu b w T g (va_up a 14 ((it (mK kp a) (k + 1) (fd, 0)).1)) o := by rw [it_s, mK, if_pos hfk]
                have hP := kw_P hE hP
                have hD := kw_D hE hD
                exact ih (k + 1) _ _ ls (by omega) hP hD hS hl kx
            · have L5 : ∀ (Q : State → Prop) (rem j : Nat) (H : Heap) (locs : List Loc) (ls : Array Slot), j + rem = (a 4 k).toNatClampNeg → mS kp a k ≤ j → va_P D kCl (gW n ty ad f th rt qu b w T g (va_up a 14 ((it (mJs kp a k) j (it (mK kp a) k (fd, 0))).1)) o) H → va_D A (gW n ty ad f th rt qu b w T g (va_up a 14 ((it (mJs kp a k) j (it (mK kp a) k (fd, 0))).1)) o) → va_S A s.heap H locs → lv_has ls 6 [(0, .ref (ad 10)), (1, .int kp), (2, .int ((it (mJs kp a k) j (it (mK kp a) k (fd, 0))).2)), (3, .int (nI k)), (4, .int (nI j))] → (∀ (H : Heap) (locs : List Loc) (ls : Array Slot), va_P D kCl (gW n ty ad f th rt qu b w T g (va_up a 14 ((it (mJs kp a k) ((a 4 k).toNatClampNeg) (it (mK kp a) k (fd, 0))).1)) o) H → va_D A (gW n ty ad f th rt qu b w T g (va_up a 14 ((it (mJs kp a k) ((a 4 k).toNatClampNeg) (it (mK kp a) k (fd, 0))).1)) o) → va_S A s.heap H locs → lv_has ls 6 [(0, .ref (ad 10)), (1, .int kp), (2, .int ((it (mJs kp a k) ((a 4 k).toNatClampNeg) (it (mK kp a) k (fd, 0))).2)), (3, .int (nI k))] → W p l e (headSpec w_M_find ({ frames := 0, cells := 0, slots := 0, locals := 0 })).room s m ([.ref (ad 10), .int kp] : List Value).toArray below meth cd H locs 0 0 Q (F0 m 230 ls [])) → W p l e (headSpec w_M_find ({ frames := 0, cells := 0, slots := 0, locals := 0 })).room s m ([.ref (ad 10), .int kp] : List Value).toArray below meth cd H locs 0 0 Q (F0 m 163 ls []) := by
                intro Q rem
                induction rem with
                | zero =>
                  intro j H locs ls hir_j hinv_j hP hD hS hl kx
                  obtain rfl : (a 4 k).toNatClampNeg = j := by omega
                  refine lv_iload hx hb d_M_find_163 (lv_at hl 4 rfl) ?_
                  refine lv_aload_n hx hb d_M_find_165 rfl (lv_at hl 0 rfl) ?_
                  refine va_get (D := D) (ci := 3) (v := .ref (ad 13)) (C := R_M) (T := F_M) (N := 16) hx hb hts (fun w h => kS1 w (i_M w h)) hown hK hP 10 gw_10 rfl 4 (by decide) (hts _ (kS1 _ m_M_17)) (fun _ h9 => h9) rfl d_M_find_166 ?_
                  refine lv_iload_n hx hb d_M_find_169 rfl (lv_at hl 3 rfl) ?_
                  refine va_iald (f := a 4) hx hb hK hP 13 0 gw_13 rfl (vp_in_nI (N := 300) (by omega) (by omega)) d_M_find_170 ?_
                  rw [nI_clamp (n := k) (by omega)]
                  refine lv_icmp_ge (tgt := 230) hx hb d_M_find_171 (by decide) (fun c_171''' => ?_) (fun c_171''' => absurd (hLe k hlt_k) c_171''')
                  have hl := lv_sub (l' := [(0, .ref (ad 10)), (1, .int kp), (2, .int ((it (mJs kp a k) ((a 4 k).toNatClampNeg) (it (mK kp a) k (fd, 0))).2)), (3, .int (nI k))]) hl [0, 1, 2, 3] rfl
                  exact kx _ _ ls hP hD hS hl
                | succ rem ih =>
                  intro j H locs ls hir_j hinv_j hP hD hS hl kx
                  have hlt_j : j < (a 4 k).toNatClampNeg := by omega
                  refine lv_iload hx hb d_M_find_163 (lv_at hl 4 rfl) ?_
                  refine lv_aload_n hx hb d_M_find_165 rfl (lv_at hl 0 rfl) ?_
                  refine va_get (D := D) (ci := 3) (v := .ref (ad 13)) (C := R_M) (T := F_M) (N := 16) hx hb hts (fun w h => kS1 w (i_M w h)) hown hK hP 10 gw_10 rfl 4 (by decide) (hts _ (kS1 _ m_M_17)) (fun _ h9 => h9) rfl d_M_find_166 ?_
                  refine lv_iload_n hx hb d_M_find_169 rfl (lv_at hl 3 rfl) ?_
                  refine va_iald (f := a 4) hx hb hK hP 13 0 gw_13 rfl (vp_in_nI (N := 300) (by omega) (by omega)) d_M_find_170 ?_
                  rw [nI_clamp (n := k) (by omega)]
                  refine lv_icmp_ge (tgt := 230) hx hb d_M_find_171 (by decide) (fun c_171''' => absurd c_171''' (hLt k hlt_k hlt_j)) (fun c_171''' => ?_)
                  refine lv_aload_n hx hb d_M_find_174 rfl (lv_at hl 0 rfl) ?_
                  refine va_get (D := D) (ci := 3) (v := .ref (ad 19)) (C := R_M) (T := F_M) (N := 16) hx hb hts (fun w h => kS1 w (i_M w h)) hown hK hP 10 gw_10 rfl 14 (by decide) (hts _ (kS1 _ m_M_35)) (fun _ h9 => h9) rfl d_M_find_175 ?_
                  refine lv_iload_n hx hb d_M_find_178 rfl (lv_at hl 3 rfl) ?_
                  refine va_zald (f := (it (mJs kp a k) j (it (mK kp a) k (fd, 0))).1) hx hb hK hP 19 1 gw_19 rfl (vp_in_nI (N := 300) (by omega) (by omega)) d_M_find_179 ?_
                  rw [nI_clamp (n := k) (by omega)]
                  refine lv_if_eq (tgt := 230) hx hb d_M_find_180 (by decide) (fun c_180''' => absurd c_180''' (mJs_keep hfk)) (fun c_180''' => ?_)
                  have hj12 := hL12 k hlt_k hlt_j
                  refine lv_aload_n hx hb d_M_find_183 rfl (lv_at hl 0 rfl) ?_
                  refine va_get (D := D) (ci := 3) (v := .ref (ad 14)) (C := R_M) (T := F_M) (N := 16) hx hb hts (fun w h => kS1 w (i_M w h)) hown hK hP 10 gw_10 rfl 5 (by decide) (hts _ (kS1 _ m_M_20)) (fun _ h9 => h9) rfl d_M_find_184 ?_
                  refine lv_bipush (v := 12) hx hb d_M_find_187 (by decide) ?_
                  refine lv_iload_n hx hb d_M_find_189 rfl (lv_at hl 3 rfl) ?_
                  refine lv_imul hx hb d_M_find_190 ?_
                  refine lv_iload hx hb d_M_find_191 (lv_at hl 4 rfl) ?_
                  refine lv_iadd hx hb d_M_find_193 ?_
                  refine va_iald (f := a 5) hx hb hK hP 14 0 gw_14 rfl (k12i (by omega) (hL12 k hlt_k hlt_j)) d_M_find_194 ?_
                  rw [k12c (k := k) (j := j) (by omega) (by omega)]
                  refine lv_iconst (v := 1) hx hb d_M_find_195 (by decide) ?_
                  refine lv_isub hx hb d_M_find_196 ?_
                  refine lv_istore (lv' := [(5, .int (((a 5) (12 * k + j)) - 1)), (0, .ref (ad 10)), (1, .int kp), (2, .int ((it (mJs kp a k) j (it (mK kp a) k (fd, 0))).2)), (3, .int (nI k)), (4, .int (nI j))]) hx hb d_M_find_197 hl (by decide) rfl (fun ls hl => ?_)
                  refine lv_iload hx hb d_M_find_199 (lv_at hl 0 rfl) ?_
                  refine lv_if_lt (tgt := 224) hx hb d_M_find_201 (by decide) (fun c_201''' => ?_) (fun c_201''' => ?_)
                  · refine lv_iinc (v := nI j + 1) (lv' := [(4, .int (nI j + 1)), (5, .int (((a 5) (12 * k + j)) - 1)), (0, .ref (ad 10)), (1, .int kp), (2, .int ((it (mJs kp a k) j (it (mK kp a) k (fd, 0))).2)), (3, .int (nI k))]) hx hb d_M_find_224 hl (k := 5) rfl rfl (by decide) rfl (fun ls hl => ?_)
                    refine lv_goto (tgt := 163) hx hb d_M_find_227 (by decide) ?_
                    have hl := lv_sub (l' := [(0, .ref (ad 10)), (1, .int kp), (2, .int ((it (mJs kp a k) j (it (mK kp a) k (fd, 0))).2)), (3, .int (nI k)), (4, .int (nI j + 1))]) hl [2, 3, 4, 5, 0] rfl
                    have hqq9 : (.int ((it (mJs kp a k) j (it (mK kp a) k (fd, 0))).2) : Value) = .int ((it (mJs kp a k) (j + 1) (it (mK kp a) k (fd, 0))).2) := by rw [it_s, mJs, if_neg (by omega), mJ]; simp [kb1, c_171''', c_180''', c_201''']
                    rw [hqq9] at hl
                    have hqq9 : (.int (nI j + 1) : Value) = .int (nI (j + 1)) := by rw [nI_1]
                    rw [hqq9] at hl
                    have hE : (gW n ty ad f th rt qu b w T g (va_up a 14 ((it (mJs kp a k) j (it (mK kp a) k (fd, 0))).1)) o : va_W) = gW n ty ad f th rt qu b w T g (va_up a 14 ((it (mJs kp a k) (j + 1) (it (mK kp a) k (fd, 0))).1)) o := by rw [it_s, mJs, if_neg (by omega), mJ]; simp [kb1, c_171''', c_180''', c_201''']
                    have hP := kw_P hE hP
                    have hD := kw_D hE hD
                    exact ih (j + 1) _ _ ls (by omega) (by omega) hP hD hS hl kx
                  · refine lv_aload_n hx hb d_M_find_204 rfl (lv_at hl 1 rfl) ?_
                    refine va_get (D := D) (ci := 3) (v := .ref (ad 19)) (C := R_M) (T := F_M) (N := 16) hx hb hts (fun w h => kS1 w (i_M w h)) hown hK hP 10 gw_10 rfl 14 (by decide) (hts _ (kS1 _ m_M_35)) (fun _ h9 => h9) rfl d_M_find_205 ?_
                    refine lv_iload hx hb d_M_find_208 (lv_at hl 0 rfl) ?_
                    refine va_zald (f := (it (mJs kp a k) j (it (mK kp a) k (fd, 0))).1) hx hb hK hP 19 1 gw_19 rfl (kin5 (hF (12 * k + j) (by have := hL12 k hlt_k hlt_j; omega)) c_201''') d_M_find_210 ?_
                    refine lv_if_ne (tgt := 224) hx hb d_M_find_211 (by decide) (fun c_211''' => ?_) (fun c_211''' => ?_)
                    · refine lv_iinc (v := nI j + 1) (lv' := [(4, .int (nI j + 1)), (5, .int (((a 5) (12 * k + j)) - 1)), (0, .ref (ad 10)), (1, .int kp), (2, .int ((it (mJs kp a k) j (it (mK kp a) k (fd, 0))).2)), (3, .int (nI k))]) hx hb d_M_find_224 hl (k := 5) rfl rfl (by decide) rfl (fun ls hl => ?_)
                      refine lv_goto (tgt := 163) hx hb d_M_find_227 (by decide) ?_
                      have hl := lv_sub (l' := [(0, .ref (ad 10)), (1, .int kp), (2, .int ((it (mJs kp a k) j (it (mK kp a) k (fd, 0))).2)), (3, .int (nI k)), (4, .int (nI j + 1))]) hl [2, 3, 4, 5, 0] rfl
                      have hqq9 : (.int ((it (mJs kp a k) j (it (mK kp a) k (fd, 0))).2) : Value) = .int ((it (mJs kp a k) (j + 1) (it (mK kp a) k (fd, 0))).2) := by rw [it_s, mJs, if_neg (by omega), mJ]; simp [kb1, c_171''', c_180''', c_201''', c_211''']
                      rw [hqq9] at hl
                      have hqq9 : (.int (nI j + 1) : Value) = .int (nI (j + 1)) := by rw [nI_1]
                      rw [hqq9] at hl
                      have hE : (gW n ty ad f th rt qu b w T g (va_up a 14 ((it (mJs kp a k) j (it (mK kp a) k (fd, 0))).1)) o : va_W) = gW n ty ad f th rt qu b w T g (va_up a 14 ((it (mJs kp a k) (j + 1) (it (mK kp a) k (fd, 0))).1)) o := by rw [it_s, mJs, if_neg (by omega), mJ]; simp [kb1, c_171''', c_180''', c_201''', c_211''']
                      have hP := kw_P hE hP
                      have hD := kw_D hE hD
                      exact ih (j + 1) _ _ ls (by omega) (by omega) hP hD hS hl kx
                    · refine lv_aload_n hx hb d_M_find_214 rfl (lv_at hl 1 rfl) ?_
                      refine va_get (D := D) (ci := 3) (v := .ref (ad 19)) (C := R_M) (T := F_M) (N := 16) hx hb hts (fun w h => kS1 w (i_M w h)) hown hK hP 10 gw_10 rfl 14 (by decide) (hts _ (kS1 _ m_M_35)) (fun _ h9 => h9) rfl d_M_find_215 ?_
                      refine lv_iload hx hb d_M_find_218 (lv_at hl 0 rfl) ?_
                      refine lv_iconst (v := 1) hx hb d_M_find_220 (by decide) ?_
                      refine va_zast (f := (it (mJs kp a k) j (it (mK kp a) k (fd, 0))).1) hx hb hK hP hD hS 19 1 gw_19 rfl (kin5 (hF (12 * k + j) (by have := hL12 k hlt_k hlt_j; omega)) c_201''') d_M_find_221 (fun H locs hP hD hS => ?_)
                      have hP := kw_P ((gw_sa14 (r := upd ((it (mJs kp a k) j (it (mK kp a) k (fd, 0))).1) ((((a 5) (12 * k + j)) - 1).toNatClampNeg) (vp_nar .boolean 1))).trans (by rw [bx_uu])) hP
                      have hD := kw_D ((gw_sa14 (r := upd ((it (mJs kp a k) j (it (mK kp a) k (fd, 0))).1) ((((a 5) (12 * k + j)) - 1).toNatClampNeg) (vp_nar .boolean 1))).trans (by rw [bx_uu])) hD
                      refine lv_iconst (v := 1) hx hb d_M_find_222 (by decide) ?_
                      refine lv_istore_n (lv' := [(2, .int 1), (5, .int (((a 5) (12 * k + j)) - 1)), (0, .ref (ad 10)), (1, .int kp), (3, .int (nI k)), (4, .int (nI j))]) hx hb d_M_find_223 rfl hl (by decide) rfl (fun ls hl => ?_)
                      refine lv_iinc (v := nI j + 1) (lv' := [(4, .int (nI j + 1)), (2, .int 1), (5, .int (((a 5) (12 * k + j)) - 1)), (0, .ref (ad 10)), (1, .int kp), (3, .int (nI k))]) hx hb d_M_find_224 hl (k := 5) rfl rfl (by decide) rfl (fun ls hl => ?_)
                      refine lv_goto (tgt := 163) hx hb d_M_find_227 (by decide) ?_
                      have hl := lv_sub (l' := [(0, .ref (ad 10)), (1, .int kp), (2, .int 1), (3, .int (nI k)), (4, .int (nI j + 1))]) hl [3, 4, 1, 5, 0] rfl
                      have hqq9 : (.int 1 : Value) = .int ((it (mJs kp a k) (j + 1) (it (mK kp a) k (fd, 0))).2) := by rw [it_s, mJs, if_neg (by omega), mJ]; simp [kb1, c_171''', c_180''', c_201''', c_211''']
                      rw [hqq9] at hl
                      have hqq9 : (.int (nI j + 1) : Value) = .int (nI (j + 1)) := by rw [nI_1]
                      rw [hqq9] at hl
                      have hE : (gW n ty ad f th rt qu b w T g (va_up a 14 (upd ((it (mJs kp a k) j (it (mK kp a) k (fd, 0))).1) ((((a 5) (12 * k + j)) - 1).toNatClampNeg) (vp_nar .boolean 1))) o : va_W) = gW n ty ad f th rt qu b w T g (va_up a 14 ((it (mJs kp a k) (j + 1) (it (mK kp a) k (fd, 0))).1)) o := by rw [it_s, mJs, if_neg (by omega), mJ]; simp [kb1, c_171''', c_180''', c_201''', c_211''']
                      have hP := kw_P hE hP
                      have hD := kw_D hE hD
                      exact ih (j + 1) _ _ ls (by omega) (by omega) hP hD hS hl kx
              have hl := lv_sub (l' := [(0, .ref (ad 10)), (1, .int kp), (2, .int ((it (mK kp a) k (fd, 0)).2)), (3, .int (nI k)), (4, .int 0)]) hl [1, 2, 3, 4, 0] rfl
              have hqq9 : (.int ((it (mK kp a) k (fd, 0)).2) : Value) = .int ((it (mJs kp a k) 0 (it (mK kp a) k (fd, 0))).2) := by simp [it, mJs, mS, c_139'', c_149'']
              rw [hqq9] at hl
              have hqq9 : (.int 0 : Value) = .int (nI 0) := by rw [nI_0]
              rw [hqq9] at hl
              have hE : (gW n ty ad f th rt qu b w T g (va_up a 14 ((it (mK kp a) k (fd, 0)).1)) o : va_W) = gW n ty ad f th rt qu b w T g (va_up a 14 ((it (mJs kp a k) 0 (it (mK kp a) k (fd, 0))).1)) o := by simp [it, mJs, mS, c_139'', c_149'']
              have hP := kw_P hE hP
              have hD := kw_D hE hD
              refine L5 _ ((a 4 k).toNatClampNeg - 0) 0 _ _ ls (by omega) (by simp [mS, c_139'', c_149'']) hP hD hS hl (fun H locs ls hP hD hS hl => ?_)
              refine lv_iinc (v := nI k + 1) (lv' := [(3, .int (nI k + 1)), (0, .ref (ad 10)), (1, .int kp), (2, .int ((it (mJs kp a k) ((a 4 k).toNatClampNeg) (it (mK kp a) k (fd, 0))).2))]) hx hb d_M_find_230 hl (k := 3) rfl rfl (by decide) rfl (fun ls hl => ?_)
              refine lv_goto (tgt := 134) hx hb d_M_find_233 (by decide) ?_
              have hl := lv_sub (l' := [(0, .ref (ad 10)), (1, .int kp), (2, .int ((it (mJs kp a k) ((a 4 k).toNatClampNeg) (it (mK kp a) k (fd, 0))).2)), (3, .int (nI k + 1))]) hl [1, 2, 3, 0] rfl
              have hqq9 : (.int ((it (mJs kp a k) ((a 4 k).toNatClampNeg) (it (mK kp a) k (fd, 0))).2) : Value) = .int ((it (mK kp a) (k + 1) (fd, 0)).2) := by rw [it_s, mK, if_neg hfk]
              rw [hqq9] at hl
              have hqq9 : (.int (nI k + 1) : Value) = .int (nI (k + 1)) := by rw [nI_1]
              rw [hqq9] at hl
              have hE : (gW n ty ad f th rt qu b w T g (va_up a 14 ((it (mJs kp a k) ((a 4 k).toNatClampNeg) (it (mK kp a) k (fd, 0))).1)) o : va_W) = gW n ty ad f th rt qu b w T g (va_up a 14 ((it (mK kp a) (k + 1) (fd, 0)).1)) o := by rw [it_s, mK, if_neg hfk]
              have hP := kw_P hE hP
              have hD := kw_D hE hD
              exact ih (k + 1) _ _ ls (by omega) hP hD hS hl kx
          · refine lv_iload_n hx hb d_M_find_152 rfl (lv_at hl 1 rfl) ?_
            refine lv_if_ne (tgt := 160) hx hb d_M_find_153 (by decide) (fun c_153'' => ?_) (fun c_153'' => ?_)
            · refine lv_iconst (v := 0) hx hb d_M_find_160 (by decide) ?_
              refine lv_istore (lv' := [(4, .int 0), (0, .ref (ad 10)), (1, .int kp), (2, .int ((it (mK kp a) k (fd, 0)).2)), (3, .int (nI k))]) hx hb d_M_find_161 hl (by decide) rfl (fun ls hl => ?_)
              by_cases hfk : (it (mK kp a) k (fd, 0)).1 k = 0
              · refine lv_iload hx hb d_M_find_163 (lv_at hl 0 rfl) ?_
                refine lv_aload_n hx hb d_M_find_165 rfl (lv_at hl 1 rfl) ?_
                refine va_get (D := D) (ci := 3) (v := .ref (ad 13)) (C := R_M) (T := F_M) (N := 16) hx hb hts (fun w h => kS1 w (i_M w h)) hown hK hP 10 gw_10 rfl 4 (by decide) (hts _ (kS1 _ m_M_17)) (fun _ h9 => h9) rfl d_M_find_166 ?_
                refine lv_iload_n hx hb d_M_find_169 rfl (lv_at hl 4 rfl) ?_
                refine va_iald (f := a 4) hx hb hK hP 13 0 gw_13 rfl (vp_in_nI (N := 300) (by omega) (by omega)) d_M_find_170 ?_
                rw [nI_clamp (n := k) (by omega)]
                refine lv_icmp_ge (tgt := 230) hx hb d_M_find_171 (by decide) (fun c_171'' => ?_) (fun c_171'' => ?_)
                · refine lv_iinc (v := nI k + 1) (lv' := [(3, .int (nI k + 1)), (4, .int 0), (0, .ref (ad 10)), (1, .int kp), (2, .int ((it (mK kp a) k (fd, 0)).2))]) hx hb d_M_find_230 hl (k := 4) rfl rfl (by decide) rfl (fun ls hl => ?_)
                  refine lv_goto (tgt := 134) hx hb d_M_find_233 (by decide) ?_
                  have hl := lv_sub (l' := [(0, .ref (ad 10)), (1, .int kp), (2, .int ((it (mK kp a) k (fd, 0)).2)), (3, .int (nI k + 1))]) hl [2, 3, 4, 0] rfl
                  have hqq9 : (.int ((it (mK kp a) k (fd, 0)).2) : Value) = .int ((it (mK kp a) (k + 1) (fd, 0)).2) := by rw [it_s, mK, if_pos hfk]
                  rw [hqq9] at hl
                  have hqq9 : (.int (nI k + 1) : Value) = .int (nI (k + 1)) := by rw [nI_1]
                  rw [hqq9] at hl
                  have hE : (gW n ty ad f th rt qu b w T g (va_up a 14 ((it (mK kp a) k (fd, 0)).1)) o : va_W) = gW n ty ad f th rt qu b w T g (va_up a 14 ((it (mK kp a) (k + 1) (fd, 0)).1)) o := by rw [it_s, mK, if_pos hfk]
                  have hP := kw_P hE hP
                  have hD := kw_D hE hD
                  exact ih (k + 1) _ _ ls (by omega) hP hD hS hl kx
                · refine lv_aload_n hx hb d_M_find_174 rfl (lv_at hl 1 rfl) ?_
                  refine va_get (D := D) (ci := 3) (v := .ref (ad 19)) (C := R_M) (T := F_M) (N := 16) hx hb hts (fun w h => kS1 w (i_M w h)) hown hK hP 10 gw_10 rfl 14 (by decide) (hts _ (kS1 _ m_M_35)) (fun _ h9 => h9) rfl d_M_find_175 ?_
                  refine lv_iload_n hx hb d_M_find_178 rfl (lv_at hl 4 rfl) ?_
                  refine va_zald (f := (it (mK kp a) k (fd, 0)).1) hx hb hK hP 19 1 gw_19 rfl (vp_in_nI (N := 300) (by omega) (by omega)) d_M_find_179 ?_
                  rw [nI_clamp (n := k) (by omega)]
                  refine lv_if_eq (tgt := 230) hx hb d_M_find_180 (by decide) (fun c_180'' => ?_) (fun c_180'' => absurd hfk c_180'')
                  refine lv_iinc (v := nI k + 1) (lv' := [(3, .int (nI k + 1)), (4, .int 0), (0, .ref (ad 10)), (1, .int kp), (2, .int ((it (mK kp a) k (fd, 0)).2))]) hx hb d_M_find_230 hl (k := 4) rfl rfl (by decide) rfl (fun ls hl => ?_)
                  refine lv_goto (tgt := 134) hx hb d_M_find_233 (by decide) ?_
                  have hl := lv_sub (l' := [(0, .ref (ad 10)), (1, .int kp), (2, .int ((it (mK kp a) k (fd, 0)).2)), (3, .int (nI k + 1))]) hl [2, 3, 4, 0] rfl
                  have hqq9 : (.int ((it (mK kp a) k (fd, 0)).2) : Value) = .int ((it (mK kp a) (k + 1) (fd, 0)).2) := by rw [it_s, mK, if_pos hfk]
                  rw [hqq9] at hl
                  have hqq9 : (.int (nI k + 1) : Value) = .int (nI (k + 1)) := by rw [nI_1]
                  rw [hqq9] at hl
                  have hE : (gW n ty ad f th rt qu b w T g (va_up a 14 ((it (mK kp a) k (fd, 0)).1)) o : va_W) = gW n ty ad f th rt qu b w T g (va_up a 14 ((it (mK kp a) (k + 1) (fd, 0)).1)) o := by rw [it_s, mK, if_pos hfk]
                  have hP := kw_P hE hP
                  have hD := kw_D hE hD
                  exact ih (k + 1) _ _ ls (by omega) hP hD hS hl kx
              · have L5 : ∀ (Q : State → Prop) (rem j : Nat) (H : Heap) (locs : List Loc) (ls : Array Slot), j + rem = (a 4 k).toNatClampNeg → mS kp a k ≤ j → va_P D kCl (gW n ty ad f th rt qu b w T g (va_up a 14 ((it (mJs kp a k) j (it (mK kp a) k (fd, 0))).1)) o) H → va_D A (gW n ty ad f th rt qu b w T g (va_up a 14 ((it (mJs kp a k) j (it (mK kp a) k (fd, 0))).1)) o) → va_S A s.heap H locs → lv_has ls 6 [(0, .ref (ad 10)), (1, .int kp), (2, .int ((it (mJs kp a k) j (it (mK kp a) k (fd, 0))).2)), (3, .int (nI k)), (4, .int (nI j))] → (∀ (H : Heap) (locs : List Loc) (ls : Array Slot), va_P D kCl (gW n ty ad f th rt qu b w T g (va_up a 14 ((it (mJs kp a k) ((a 4 k).toNatClampNeg) (it (mK kp a) k (fd, 0))).1)) o) H → va_D A (gW n ty ad f th rt qu b w T g (va_up a 14 ((it (mJs kp a k) ((a 4 k).toNatClampNeg) (it (mK kp a) k (fd, 0))).1)) o) → va_S A s.heap H locs → lv_has ls 6 [(0, .ref (ad 10)), (1, .int kp), (2, .int ((it (mJs kp a k) ((a 4 k).toNatClampNeg) (it (mK kp a) k (fd, 0))).2)), (3, .int (nI k))] → W p l e (headSpec w_M_find ({ frames := 0, cells := 0, slots := 0, locals := 0 })).room s m ([.ref (ad 10), .int kp] : List Value).toArray below meth cd H locs 0 0 Q (F0 m 230 ls [])) → W p l e (headSpec w_M_find ({ frames := 0, cells := 0, slots := 0, locals := 0 })).room s m ([.ref (ad 10), .int kp] : List Value).toArray below meth cd H locs 0 0 Q (F0 m 163 ls []) := by
                  intro Q rem
                  induction rem with
                  | zero =>
                    intro j H locs ls hir_j hinv_j hP hD hS hl kx
                    obtain rfl : (a 4 k).toNatClampNeg = j := by omega
                    refine lv_iload hx hb d_M_find_163 (lv_at hl 4 rfl) ?_
                    refine lv_aload_n hx hb d_M_find_165 rfl (lv_at hl 0 rfl) ?_
                    refine va_get (D := D) (ci := 3) (v := .ref (ad 13)) (C := R_M) (T := F_M) (N := 16) hx hb hts (fun w h => kS1 w (i_M w h)) hown hK hP 10 gw_10 rfl 4 (by decide) (hts _ (kS1 _ m_M_17)) (fun _ h9 => h9) rfl d_M_find_166 ?_
                    refine lv_iload_n hx hb d_M_find_169 rfl (lv_at hl 3 rfl) ?_
                    refine va_iald (f := a 4) hx hb hK hP 13 0 gw_13 rfl (vp_in_nI (N := 300) (by omega) (by omega)) d_M_find_170 ?_
                    rw [nI_clamp (n := k) (by omega)]
                    refine lv_icmp_ge (tgt := 230) hx hb d_M_find_171 (by decide) (fun c_171''' => ?_) (fun c_171''' => absurd (hLe k hlt_k) c_171''')
                    have hl := lv_sub (l' := [(0, .ref (ad 10)), (1, .int kp), (2, .int ((it (mJs kp a k) ((a 4 k).toNatClampNeg) (it (mK kp a) k (fd, 0))).2)), (3, .int (nI k))]) hl [0, 1, 2, 3] rfl
                    exact kx _ _ ls hP hD hS hl
                  | succ rem ih =>
                    intro j H locs ls hir_j hinv_j hP hD hS hl kx
                    have hlt_j : j < (a 4 k).toNatClampNeg := by omega
                    refine lv_iload hx hb d_M_find_163 (lv_at hl 4 rfl) ?_
                    refine lv_aload_n hx hb d_M_find_165 rfl (lv_at hl 0 rfl) ?_
                    refine va_get (D := D) (ci := 3) (v := .ref (ad 13)) (C := R_M) (T := F_M) (N := 16) hx hb hts (fun w h => kS1 w (i_M w h)) hown hK hP 10 gw_10 rfl 4 (by decide) (hts _ (kS1 _ m_M_17)) (fun _ h9 => h9) rfl d_M_find_166 ?_
                    refine lv_iload_n hx hb d_M_find_169 rfl (lv_at hl 3 rfl) ?_
                    refine va_iald (f := a 4) hx hb hK hP 13 0 gw_13 rfl (vp_in_nI (N := 300) (by omega) (by omega)) d_M_find_170 ?_
                    rw [nI_clamp (n := k) (by omega)]
                    refine lv_icmp_ge (tgt := 230) hx hb d_M_find_171 (by decide) (fun c_171''' => absurd c_171''' (hLt k hlt_k hlt_j)) (fun c_171''' => ?_)
                    refine lv_aload_n hx hb d_M_find_174 rfl (lv_at hl 0 rfl) ?_
                    refine va_get (D := D) (ci := 3) (v := .ref (ad 19)) (C := R_M) (T := F_M) (N := 16) hx hb hts (fun w h => kS1 w (i_M w h)) hown hK hP 10 gw_10 rfl 14 (by decide) (hts _ (kS1 _ m_M_35)) (fun _ h9 => h9) rfl d_M_find_175 ?_
                    refine lv_iload_n hx hb d_M_find_178 rfl (lv_at hl 3 rfl) ?_
                    refine va_zald (f := (it (mJs kp a k) j (it (mK kp a) k (fd, 0))).1) hx hb hK hP 19 1 gw_19 rfl (vp_in_nI (N := 300) (by omega) (by omega)) d_M_find_179 ?_
                    rw [nI_clamp (n := k) (by omega)]
                    refine lv_if_eq (tgt := 230) hx hb d_M_find_180 (by decide) (fun c_180''' => absurd c_180''' (mJs_keep hfk)) (fun c_180''' => ?_)
                    have hj12 := hL12 k hlt_k hlt_j
                    refine lv_aload_n hx hb d_M_find_183 rfl (lv_at hl 0 rfl) ?_
                    refine va_get (D := D) (ci := 3) (v := .ref (ad 14)) (C := R_M) (T := F_M) (N := 16) hx hb hts (fun w h => kS1 w (i_M w h)) hown hK hP 10 gw_10 rfl 5 (by decide) (hts _ (kS1 _ m_M_20)) (fun _ h9 => h9) rfl d_M_find_184 ?_
                    refine lv_bipush (v := 12) hx hb d_M_find_187 (by decide) ?_
                    refine lv_iload_n hx hb d_M_find_189 rfl (lv_at hl 3 rfl) ?_
                    refine lv_imul hx hb d_M_find_190 ?_
                    refine lv_iload hx hb d_M_find_191 (lv_at hl 4 rfl) ?_
                    refine lv_iadd hx hb d_M_find_193 ?_
                    refine va_iald (f := a 5) hx hb hK hP 14 0 gw_14 rfl (k12i (by omega) (hL12 k hlt_k hlt_j)) d_M_find_194 ?_
                    rw [k12c (k := k) (j := j) (by omega) (by omega)]
                    refine lv_iconst (v := 1) hx hb d_M_find_195 (by decide) ?_
                    refine lv_isub hx hb d_M_find_196 ?_
                    refine lv_istore (lv' := [(5, .int (((a 5) (12 * k + j)) - 1)), (0, .ref (ad 10)), (1, .int kp), (2, .int ((it (mJs kp a k) j (it (mK kp a) k (fd, 0))).2)), (3, .int (nI k)), (4, .int (nI j))]) hx hb d_M_find_197 hl (by decide) rfl (fun ls hl => ?_)
                    refine lv_iload hx hb d_M_find_199 (lv_at hl 0 rfl) ?_
                    refine lv_if_lt (tgt := 224) hx hb d_M_find_201 (by decide) (fun c_201''' => ?_) (fun c_201''' => ?_)
                    · refine lv_iinc (v := nI j + 1) (lv' := [(4, .int (nI j + 1)), (5, .int (((a 5) (12 * k + j)) - 1)), (0, .ref (ad 10)), (1, .int kp), (2, .int ((it (mJs kp a k) j (it (mK kp a) k (fd, 0))).2)), (3, .int (nI k))]) hx hb d_M_find_224 hl (k := 5) rfl rfl (by decide) rfl (fun ls hl => ?_)
                      refine lv_goto (tgt := 163) hx hb d_M_find_227 (by decide) ?_
                      have hl := lv_sub (l' := [(0, .ref (ad 10)), (1, .int kp), (2, .int ((it (mJs kp a k) j (it (mK kp a) k (fd, 0))).2)), (3, .int (nI k)), (4, .int (nI j + 1))]) hl [2, 3, 4, 5, 0] rfl
                      have hqq9 : (.int ((it (mJs kp a k) j (it (mK kp a) k (fd, 0))).2) : Value) = .int ((it (mJs kp a k) (j + 1) (it (mK kp a) k (fd, 0))).2) := by rw [it_s, mJs, if_neg (by omega), mJ]; simp [kb1, c_171''', c_180''', c_201''']
                      rw [hqq9] at hl
                      have hqq9 : (.int (nI j + 1) : Value) = .int (nI (j + 1)) := by rw [nI_1]
                      rw [hqq9] at hl
                      have hE : (gW n ty ad f th rt qu b w T g (va_up a 14 ((it (mJs kp a k) j (it (mK kp a) k (fd, 0))).1)) o : va_W) = gW n ty ad f th rt qu b w T g (va_up a 14 ((it (mJs kp a k) (j + 1) (it (mK kp a) k (fd, 0))).1)) o := by rw [it_s, mJs, if_neg (by omega), mJ]; simp [kb1, c_171''', c_180''', c_201''']
                      have hP := kw_P hE hP
                      have hD := kw_D hE hD
                      exact ih (j + 1) _ _ ls (by omega) (by omega) hP hD hS hl kx
                    · refine lv_aload_n hx hb d_M_find_204 rfl (lv_at hl 1 rfl) ?_
                      refine va_get (D := D) (ci := 3) (v := .ref (ad 19)) (C := R_M) (T := F_M) (N := 16) hx hb hts (fun w h => kS1 w (i_M w h)) hown hK hP 10 gw_10 rfl 14 (by decide) (hts _ (kS1 _ m_M_35)) (fun _ h9 => h9) rfl d_M_find_205 ?_
                      refine lv_iload hx hb d_M_find_208 (lv_at hl 0 rfl) ?_
                      refine va_zald (f := (it (mJs kp a k) j (it (mK kp a) k (fd, 0))).1) hx hb hK hP 19 1 gw_19 rfl (kin5 (hF (12 * k + j) (by have := hL12 k hlt_k hlt_j; omega)) c_201''') d_M_find_210 ?_
                      refine lv_if_ne (tgt := 224) hx hb d_M_find_211 (by decide) (fun c_211''' => ?_) (fun c_211''' => ?_)
                      · refine lv_iinc (v := nI j + 1) (lv' := [(4, .int (nI j + 1)), (5, .int (((a 5) (12 * k + j)) - 1)), (0, .ref (ad 10)), (1, .int kp), (2, .int ((it (mJs kp a k) j (it (mK kp a) k (fd, 0))).2)), (3, .int (nI k))]) hx hb d_M_find_224 hl (k := 5) rfl rfl (by decide) rfl (fun ls hl => ?_)
                        refine lv_goto (tgt := 163) hx hb d_M_find_227 (by decide) ?_
                        have hl := lv_sub (l' := [(0, .ref (ad 10)), (1, .int kp), (2, .int ((it (mJs kp a k) j (it (mK kp a) k (fd, 0))).2)), (3, .int (nI k)), (4, .int (nI j + 1))]) hl [2, 3, 4, 5, 0] rfl
                        have hqq9 : (.int ((it (mJs kp a k) j (it (mK kp a) k (fd, 0))).2) : Value) = .int ((it (mJs kp a k) (j + 1) (it (mK kp a) k (fd, 0))).2) := by rw [it_s, mJs, if_neg (by omega), mJ]; simp [kb1, c_171''', c_180''', c_201''', c_211''']
                        rw [hqq9] at hl
                        have hqq9 : (.int (nI j + 1) : Value) = .int (nI (j + 1)) := by rw [nI_1]
                        rw [hqq9] at hl
                        have hE : (gW n ty ad f th rt qu b w T g (va_up a 14 ((it (mJs kp a k) j (it (mK kp a) k (fd, 0))).1)) o : va_W) = gW n ty ad f th rt qu b w T g (va_up a 14 ((it (mJs kp a k) (j + 1) (it (mK kp a) k (fd, 0))).1)) o := by rw [it_s, mJs, if_neg (by omega), mJ]; simp [kb1, c_171''', c_180''', c_201''', c_211''']
                        have hP := kw_P hE hP
                        have hD := kw_D hE hD
                        exact ih (j + 1) _ _ ls (by omega) (by omega) hP hD hS hl kx
                      · refine lv_aload_n hx hb d_M_find_214 rfl (lv_at hl 1 rfl) ?_
                        refine va_get (D := D) (ci := 3) (v := .ref (ad 19)) (C := R_M) (T := F_M) (N := 16) hx hb hts (fun w h => kS1 w (i_M w h)) hown hK hP 10 gw_10 rfl 14 (by decide) (hts _ (kS1 _ m_M_35)) (fun _ h9 => h9) rfl d_M_find_215 ?_
                        refine lv_iload hx hb d_M_find_218 (lv_at hl 0 rfl) ?_
                        refine lv_iconst (v := 1) hx hb d_M_find_220 (by decide) ?_
                        refine va_zast (f := (it (mJs kp a k) j (it (mK kp a) k (fd, 0))).1) hx hb hK hP hD hS 19 1 gw_19 rfl (kin5 (hF (12 * k + j) (by have := hL12 k hlt_k hlt_j; omega)) c_201''') d_M_find_221 (fun H locs hP hD hS => ?_)
                        have hP := kw_P ((gw_sa14 (r := upd ((it (mJs kp a k) j (it (mK kp a) k (fd, 0))).1) ((((a 5) (12 * k + j)) - 1).toNatClampNeg) (vp_nar .boolean 1))).trans (by rw [bx_uu])) hP
                        have hD := kw_D ((gw_sa14 (r := upd ((it (mJs kp a k) j (it (mK kp a) k (fd, 0))).1) ((((a 5) (12 * k + j)) - 1).toNatClampNeg) (vp_nar .boolean 1))).trans (by rw [bx_uu])) hD
                        refine lv_iconst (v := 1) hx hb d_M_find_222 (by decide) ?_
                        refine lv_istore_n (lv' := [(2, .int 1), (5, .int (((a 5) (12 * k + j)) - 1)), (0, .ref (ad 10)), (1, .int kp), (3, .int (nI k)), (4, .int (nI j))]) hx hb d_M_find_223 rfl hl (by decide) rfl (fun ls hl => ?_)
                        refine lv_iinc (v := nI j + 1) (lv' := [(4, .int (nI j + 1)), (2, .int 1), (5, .int (((a 5) (12 * k + j)) - 1)), (0, .ref (ad 10)), (1, .int kp), (3, .int (nI k))]) hx hb d_M_find_224 hl (k := 5) rfl rfl (by decide) rfl (fun ls hl => ?_)
                        refine lv_goto (tgt := 163) hx hb d_M_find_227 (by decide) ?_
                        have hl := lv_sub (l' := [(0, .ref (ad 10)), (1, .int kp), (2, .int 1), (3, .int (nI k)), (4, .int (nI j + 1))]) hl [3, 4, 1, 5, 0] rfl
                        have hqq9 : (.int 1 : Value) = .int ((it (mJs kp a k) (j + 1) (it (mK kp a) k (fd, 0))).2) := by rw [it_s, mJs, if_neg (by omega), mJ]; simp [kb1, c_171''', c_180''', c_201''', c_211''']
                        rw [hqq9] at hl
                        have hqq9 : (.int (nI j + 1) : Value) = .int (nI (j + 1)) := by rw [nI_1]
                        rw [hqq9] at hl
                        have hE : (gW n ty ad f th rt qu b w T g (va_up a 14 (upd ((it (mJs kp a k) j (it (mK kp a) k (fd, 0))).1) ((((a 5) (12 * k + j)) - 1).toNatClampNeg) (vp_nar .boolean 1))) o : va_W) = gW n ty ad f th rt qu b w T g (va_up a 14 ((it (mJs kp a k) (j + 1) (it (mK kp a) k (fd, 0))).1)) o := by rw [it_s, mJs, if_neg (by omega), mJ]; simp [kb1, c_171''', c_180''', c_201''', c_211''']
                        have hP := kw_P hE hP
                        have hD := kw_D hE hD
                        exact ih (j + 1) _ _ ls (by omega) (by omega) hP hD hS hl kx
                have hl := lv_sub (l' := [(0, .ref (ad 10)), (1, .int kp), (2, .int ((it (mK kp a) k (fd, 0)).2)), (3, .int (nI k)), (4, .int 0)]) hl [1, 2, 3, 4, 0] rfl
                have hqq9 : (.int ((it (mK kp a) k (fd, 0)).2) : Value) = .int ((it (mJs kp a k) 0 (it (mK kp a) k (fd, 0))).2) := by simp [it, mJs, mS, c_139'', c_149'', c_153'']
                rw [hqq9] at hl
                have hqq9 : (.int 0 : Value) = .int (nI 0) := by rw [nI_0]
                rw [hqq9] at hl
                have hE : (gW n ty ad f th rt qu b w T g (va_up a 14 ((it (mK kp a) k (fd, 0)).1)) o : va_W) = gW n ty ad f th rt qu b w T g (va_up a 14 ((it (mJs kp a k) 0 (it (mK kp a) k (fd, 0))).1)) o := by simp [it, mJs, mS, c_139'', c_149'', c_153'']
                have hP := kw_P hE hP
                have hD := kw_D hE hD
                refine L5 _ ((a 4 k).toNatClampNeg - 0) 0 _ _ ls (by omega) (by simp [mS, c_139'', c_149'', c_153'']) hP hD hS hl (fun H locs ls hP hD hS hl => ?_)
                refine lv_iinc (v := nI k + 1) (lv' := [(3, .int (nI k + 1)), (0, .ref (ad 10)), (1, .int kp), (2, .int ((it (mJs kp a k) ((a 4 k).toNatClampNeg) (it (mK kp a) k (fd, 0))).2))]) hx hb d_M_find_230 hl (k := 3) rfl rfl (by decide) rfl (fun ls hl => ?_)
                refine lv_goto (tgt := 134) hx hb d_M_find_233 (by decide) ?_
                have hl := lv_sub (l' := [(0, .ref (ad 10)), (1, .int kp), (2, .int ((it (mJs kp a k) ((a 4 k).toNatClampNeg) (it (mK kp a) k (fd, 0))).2)), (3, .int (nI k + 1))]) hl [1, 2, 3, 0] rfl
                have hqq9 : (.int ((it (mJs kp a k) ((a 4 k).toNatClampNeg) (it (mK kp a) k (fd, 0))).2) : Value) = .int ((it (mK kp a) (k + 1) (fd, 0)).2) := by rw [it_s, mK, if_neg hfk]
                rw [hqq9] at hl
                have hqq9 : (.int (nI k + 1) : Value) = .int (nI (k + 1)) := by rw [nI_1]
                rw [hqq9] at hl
                have hE : (gW n ty ad f th rt qu b w T g (va_up a 14 ((it (mJs kp a k) ((a 4 k).toNatClampNeg) (it (mK kp a) k (fd, 0))).1)) o : va_W) = gW n ty ad f th rt qu b w T g (va_up a 14 ((it (mK kp a) (k + 1) (fd, 0)).1)) o := by rw [it_s, mK, if_neg hfk]
                have hP := kw_P hE hP
                have hD := kw_D hE hD
                exact ih (k + 1) _ _ ls (by omega) hP hD hS hl kx
            · refine lv_iconst (v := 1) hx hb d_M_find_156 (by decide) ?_
              refine lv_goto (tgt := 161) hx hb d_M_find_157 (by decide) ?_
              refine lv_istore (lv' := [(4, .int 1), (0, .ref (ad 10)), (1, .int kp), (2, .int ((it (mK kp a) k (fd, 0)).2)), (3, .int (nI k))]) hx hb d_M_find_161 hl (by decide) rfl (fun ls hl => ?_)
              by_cases hfk : (it (mK kp a) k (fd, 0)).1 k = 0
              · refine lv_iload hx hb d_M_find_163 (lv_at hl 0 rfl) ?_
                refine lv_aload_n hx hb d_M_find_165 rfl (lv_at hl 1 rfl) ?_
                refine va_get (D := D) (ci := 3) (v := .ref (ad 13)) (C := R_M) (T := F_M) (N := 16) hx hb hts (fun w h => kS1 w (i_M w h)) hown hK hP 10 gw_10 rfl 4 (by decide) (hts _ (kS1 _ m_M_17)) (fun _ h9 => h9) rfl d_M_find_166 ?_
                refine lv_iload_n hx hb d_M_find_169 rfl (lv_at hl 4 rfl) ?_
                refine va_iald (f := a 4) hx hb hK hP 13 0 gw_13 rfl (vp_in_nI (N := 300) (by omega) (by omega)) d_M_find_170 ?_
                rw [nI_clamp (n := k) (by omega)]
                refine lv_icmp_ge (tgt := 230) hx hb d_M_find_171 (by decide) (fun c_171'' => ?_) (fun c_171'' => ?_)
                · refine lv_iinc (v := nI k + 1) (lv' := [(3, .int (nI k + 1)), (4, .int 1), (0, .ref (ad 10)), (1, .int kp), (2, .int ((it (mK kp a) k (fd, 0)).2))]) hx hb d_M_find_230 hl (k := 4) rfl rfl (by decide) rfl (fun ls hl => ?_)
                  refine lv_goto (tgt := 134) hx hb d_M_find_233 (by decide) ?_
                  have hl := lv_sub (l' := [(0, .ref (ad 10)), (1, .int kp), (2, .int ((it (mK kp a) k (fd, 0)).2)), (3, .int (nI k + 1))]) hl [2, 3, 4, 0] rfl
                  have hqq9 : (.int ((it (mK kp a) k (fd, 0)).2) : Value) = .int ((it (mK kp a) (k + 1) (fd, 0)).2) := by rw [it_s, mK, if_pos hfk]
                  rw [hqq9] at hl
                  have hqq9 : (.int (nI k + 1) : Value) = .int (nI (k + 1)) := by rw [nI_1]
                  rw [hqq9] at hl
                  have hE : (gW n ty ad f th rt qu b w T g (va_up a 14 ((it (mK kp a) k (fd, 0)).1)) o : va_W) = gW n ty ad f th rt qu b w T g (va_up a 14 ((it (mK kp a) (k + 1) (fd, 0)).1)) o := by rw [it_s, mK, if_pos hfk]
                  have hP := kw_P hE hP
                  have hD := kw_D hE hD
                  exact ih (k + 1) _ _ ls (by omega) hP hD hS hl kx
                · refine lv_aload_n hx hb d_M_find_174 rfl (lv_at hl 1 rfl) ?_
                  refine va_get (D := D) (ci := 3) (v := .ref (ad 19)) (C := R_M) (T := F_M) (N := 16) hx hb hts (fun w h => kS1 w (i_M w h)) hown hK hP 10 gw_10 rfl 14 (by decide) (hts _ (kS1 _ m_M_35)) (fun _ h9 => h9) rfl d_M_find_175 ?_
                  refine lv_iload_n hx hb d_M_find_178 rfl (lv_at hl 4 rfl) ?_
                  refine va_zald (f := (it (mK kp a) k (fd, 0)).1) hx hb hK hP 19 1 gw_19 rfl (vp_in_nI (N := 300) (by omega) (by omega)) d_M_find_179 ?_
                  rw [nI_clamp (n := k) (by omega)]
                  refine lv_if_eq (tgt := 230) hx hb d_M_find_180 (by decide) (fun c_180'' => ?_) (fun c_180'' => absurd hfk c_180'')
                  refine lv_iinc (v := nI k + 1) (lv' := [(3, .int (nI k + 1)), (4, .int 1), (0, .ref (ad 10)), (1, .int kp), (2, .int ((it (mK kp a) k (fd, 0)).2))]) hx hb d_M_find_230 hl (k := 4) rfl rfl (by decide) rfl (fun ls hl => ?_)
                  refine lv_goto (tgt := 134) hx hb d_M_find_233 (by decide) ?_
                  have hl := lv_sub (l' := [(0, .ref (ad 10)), (1, .int kp), (2, .int ((it (mK kp a) k (fd, 0)).2)), (3, .int (nI k + 1))]) hl [2, 3, 4, 0] rfl
                  have hqq9 : (.int ((it (mK kp a) k (fd, 0)).2) : Value) = .int ((it (mK kp a) (k + 1) (fd, 0)).2) := by rw [it_s, mK, if_pos hfk]
                  rw [hqq9] at hl
                  have hqq9 : (.int (nI k + 1) : Value) = .int (nI (k + 1)) := by rw [nI_1]
                  rw [hqq9] at hl
                  have hE : (gW n ty ad f th rt qu b w T g (va_up a 14 ((it (mK kp a) k (fd, 0)).1)) o : va_W) = gW n ty ad f th rt qu b w T g (va_up a 14 ((it (mK kp a) (k + 1) (fd, 0)).1)) o := by rw [it_s, mK, if_pos hfk]
                  have hP := kw_P hE hP
                  have hD := kw_D hE hD
                  exact ih (k + 1) _ _ ls (by omega) hP hD hS hl kx
              · have L5 : ∀ (Q : State → Prop) (rem j : Nat) (H : Heap) (locs : List Loc) (ls : Array Slot), j + rem = (a 4 k).toNatClampNeg → mS kp a k ≤ j → va_P D kCl (gW n ty ad f th rt qu b w T g (va_up a 14 ((it (mJs kp a k) j (it (mK kp a) k (fd, 0))).1)) o) H → va_D A (gW n ty ad f th rt qu b w T g (va_up a 14 ((it (mJs kp a k) j (it (mK kp a) k (fd, 0))).1)) o) → va_S A s.heap H locs → lv_has ls 6 [(0, .ref (ad 10)), (1, .int kp), (2, .int ((it (mJs kp a k) j (it (mK kp a) k (fd, 0))).2)), (3, .int (nI k)), (4, .int (nI j))] → (∀ (H : Heap) (locs : List Loc) (ls : Array Slot), va_P D kCl (gW n ty ad f th rt qu b w T g (va_up a 14 ((it (mJs kp a k) ((a 4 k).toNatClampNeg) (it (mK kp a) k (fd, 0))).1)) o) H → va_D A (gW n ty ad f th rt qu b w T g (va_up a 14 ((it (mJs kp a k) ((a 4 k).toNatClampNeg) (it (mK kp a) k (fd, 0))).1)) o) → va_S A s.heap H locs → lv_has ls 6 [(0, .ref (ad 10)), (1, .int kp), (2, .int ((it (mJs kp a k) ((a 4 k).toNatClampNeg) (it (mK kp a) k (fd, 0))).2)), (3, .int (nI k))] → W p l e (headSpec w_M_find ({ frames := 0, cells := 0, slots := 0, locals := 0 })).room s m ([.ref (ad 10), .int kp] : List Value).toArray below meth cd H locs 0 0 Q (F0 m 230 ls [])) → W p l e (headSpec w_M_find ({ frames := 0, cells := 0, slots := 0, locals := 0 })).room s m ([.ref (ad 10), .int kp] : List Value).toArray below meth cd H locs 0 0 Q (F0 m 163 ls []) := by
                  intro Q rem
                  induction rem with
                  | zero =>
                    intro j H locs ls hir_j hinv_j hP hD hS hl kx
                    obtain rfl : (a 4 k).toNatClampNeg = j := by omega
                    refine lv_iload hx hb d_M_find_163 (lv_at hl 4 rfl) ?_
                    refine lv_aload_n hx hb d_M_find_165 rfl (lv_at hl 0 rfl) ?_
                    refine va_get (D := D) (ci := 3) (v := .ref (ad 13)) (C := R_M) (T := F_M) (N := 16) hx hb hts (fun w h => kS1 w (i_M w h)) hown hK hP 10 gw_10 rfl 4 (by decide) (hts _ (kS1 _ m_M_17)) (fun _ h9 => h9) rfl d_M_find_166 ?_
                    refine lv_iload_n hx hb d_M_find_169 rfl (lv_at hl 3 rfl) ?_
                    refine va_iald (f := a 4) hx hb hK hP 13 0 gw_13 rfl (vp_in_nI (N := 300) (by omega) (by omega)) d_M_find_170 ?_
                    rw [nI_clamp (n := k) (by omega)]
                    refine lv_icmp_ge (tgt := 230) hx hb d_M_find_171 (by decide) (fun c_171''' => ?_) (fun c_171''' => absurd (hLe k hlt_k) c_171''')
                    have hl := lv_sub (l' := [(0, .ref (ad 10)), (1, .int kp), (2, .int ((it (mJs kp a k) ((a 4 k).toNatClampNeg) (it (mK kp a) k (fd, 0))).2)), (3, .int (nI k))]) hl [0, 1, 2, 3] rfl
                    exact kx _ _ ls hP hD hS hl
                  | succ rem ih =>
                    intro j H locs ls hir_j hinv_j hP hD hS hl kx
                    have hlt_j : j < (a 4 k).toNatClampNeg := by omega
                    refine lv_iload hx hb d_M_find_163 (lv_at hl 4 rfl) ?_
                    refine lv_aload_n hx hb d_M_find_165 rfl (lv_at hl 0 rfl) ?_
                    refine va_get (D := D) (ci := 3) (v := .ref (ad 13)) (C := R_M) (T := F_M) (N := 16) hx hb hts (fun w h => kS1 w (i_M w h)) hown hK hP 10 gw_10 rfl 4 (by decide) (hts _ (kS1 _ m_M_17)) (fun _ h9 => h9) rfl d_M_find_166 ?_
                    refine lv_iload_n hx hb d_M_find_169 rfl (lv_at hl 3 rfl) ?_
                    refine va_iald (f := a 4) hx hb hK hP 13 0 gw_13 rfl (vp_in_nI (N := 300) (by omega) (by omega)) d_M_find_170 ?_
                    rw [nI_clamp (n := k) (by omega)]
                    refine lv_icmp_ge (tgt := 230) hx hb d_M_find_171 (by decide) (fun c_171''' => absurd c_171''' (hLt k hlt_k hlt_j)) (fun c_171''' => ?_)
                    refine lv_aload_n hx hb d_M_find_174 rfl (lv_at hl 0 rfl) ?_
                    refine va_get (D := D) (ci := 3) (v := .ref (ad 19)) (C := R_M) (T := F_M) (N := 16) hx hb hts (fun w h => kS1 w (i_M w h)) hown hK hP 10 gw_10 rfl 14 (by decide) (hts _ (kS1 _ m_M_35)) (fun _ h9 => h9) rfl d_M_find_175 ?_
                    refine lv_iload_n hx hb d_M_find_178 rfl (lv_at hl 3 rfl) ?_
                    refine va_zald (f := (it (mJs kp a k) j (it (mK kp a) k (fd, 0))).1) hx hb hK hP 19 1 gw_19 rfl (vp_in_nI (N := 300) (by omega) (by omega)) d_M_find_179 ?_
                    rw [nI_clamp (n := k) (by omega)]
                    refine lv_if_eq (tgt := 230) hx hb d_M_find_180 (by decide) (fun c_180''' => absurd c_180''' (mJs_keep hfk)) (fun c_180''' => ?_)
                    have hj12 := hL12 k hlt_k hlt_j
                    refine lv_aload_n hx hb d_M_find_183 rfl (lv_at hl 0 rfl) ?_
                    refine va_get (D := D) (ci := 3) (v := .ref (ad 14)) (C := R_M) (T := F_M) (N := 16) hx hb hts (fun w h => kS1 w (i_M w h)) hown hK hP 10 gw_10 rfl 5 (by decide) (hts _ (kS1 _ m_M_20)) (fun _ h9 => h9) rfl d_M_find_184 ?_
                    refine lv_bipush (v := 12) hx hb d_M_find_187 (by decide) ?_
                    refine lv_iload_n hx hb d_M_find_189 rfl (lv_at hl 3 rfl) ?_
                    refine lv_imul hx hb d_M_find_190 ?_
                    refine lv_iload hx hb d_M_find_191 (lv_at hl 4 rfl) ?_
                    refine lv_iadd hx hb d_M_find_193 ?_
                    refine va_iald (f := a 5) hx hb hK hP 14 0 gw_14 rfl (k12i (by omega) (hL12 k hlt_k hlt_j)) d_M_find_194 ?_
                    rw [k12c (k := k) (j := j) (by omega) (by omega)]
                    refine lv_iconst (v := 1) hx hb d_M_find_195 (by decide) ?_
                    refine lv_isub hx hb d_M_find_196 ?_
                    refine lv_istore (lv' := [(5, .int (((a 5) (12 * k + j)) - 1)), (0, .ref (ad 10)), (1, .int kp), (2, .int ((it (mJs kp a k) j (it (mK kp a) k (fd, 0))).2)), (3, .int (nI k)), (4, .int (nI j))]) hx hb d_M_find_197 hl (by decide) rfl (fun ls hl => ?_)
                    refine lv_iload hx hb d_M_find_199 (lv_at hl 0 rfl) ?_
                    refine lv_if_lt (tgt := 224) hx hb d_M_find_201 (by decide) (fun c_201''' => ?_) (fun c_201''' => ?_)
                    · refine lv_iinc (v := nI j + 1) (lv' := [(4, .int (nI j + 1)), (5, .int (((a 5) (12 * k + j)) - 1)), (0, .ref (ad 10)), (1, .int kp), (2, .int ((it (mJs kp a k) j (it (mK kp a) k (fd, 0))).2)), (3, .int (nI k))]) hx hb d_M_find_224 hl (k := 5) rfl rfl (by decide) rfl (fun ls hl => ?_)
                      refine lv_goto (tgt := 163) hx hb d_M_find_227 (by decide) ?_
                      have hl := lv_sub (l' := [(0, .ref (ad 10)), (1, .int kp), (2, .int ((it (mJs kp a k) j (it (mK kp a) k (fd, 0))).2)), (3, .int (nI k)), (4, .int (nI j + 1))]) hl [2, 3, 4, 5, 0] rfl
                      have hqq9 : (.int ((it (mJs kp a k) j (it (mK kp a) k (fd, 0))).2) : Value) = .int ((it (mJs kp a k) (j + 1) (it (mK kp a) k (fd, 0))).2) := by rw [it_s, mJs, if_neg (by omega), mJ]; simp [kb1, c_171''', c_180''', c_201''']
                      rw [hqq9] at hl
                      have hqq9 : (.int (nI j + 1) : Value) = .int (nI (j + 1)) := by rw [nI_1]
                      rw [hqq9] at hl
                      have hE : (gW n ty ad f th rt qu b w T g (va_up a 14 ((it (mJs kp a k) j (it (mK kp a) k (fd, 0))).1)) o : va_W) = gW n ty ad f th rt qu b w T g (va_up a 14 ((it (mJs kp a k) (j + 1) (it (mK kp a) k (fd, 0))).1)) o := by rw [it_s, mJs, if_neg (by omega), mJ]; simp [kb1, c_171''', c_180''', c_201''']
                      have hP := kw_P hE hP
                      have hD := kw_D hE hD
                      exact ih (j + 1) _ _ ls (by omega) (by omega) hP hD hS hl kx
                    · refine lv_aload_n hx hb d_M_find_204 rfl (lv_at hl 1 rfl) ?_
                      refine va_get (D := D) (ci := 3) (v := .ref (ad 19)) (C := R_M) (T := F_M) (N := 16) hx hb hts (fun w h => kS1 w (i_M w h)) hown hK hP 10 gw_10 rfl 14 (by decide) (hts _ (kS1 _ m_M_35)) (fun _ h9 => h9) rfl d_M_find_205 ?_
                      refine lv_iload hx hb d_M_find_208 (lv_at hl 0 rfl) ?_
                      refine va_zald (f := (it (mJs kp a k) j (it (mK kp a) k (fd, 0))).1) hx hb hK hP 19 1 gw_19 rfl (kin5 (hF (12 * k + j) (by have := hL12 k hlt_k hlt_j; omega)) c_201''') d_M_find_210 ?_
                      refine lv_if_ne (tgt := 224) hx hb d_M_find_211 (by decide) (fun c_211''' => ?_) (fun c_211''' => ?_)
                      · refine lv_iinc (v := nI j + 1) (lv' := [(4, .int (nI j + 1)), (5, .int (((a 5) (12 * k + j)) - 1)), (0, .ref (ad 10)), (1, .int kp), (2, .int ((it (mJs kp a k) j (it (mK kp a) k (fd, 0))).2)), (3, .int (nI k))]) hx hb d_M_find_224 hl (k := 5) rfl rfl (by decide) rfl (fun ls hl => ?_)
                        refine lv_goto (tgt := 163) hx hb d_M_find_227 (by decide) ?_
                        have hl := lv_sub (l' := [(0, .ref (ad 10)), (1, .int kp), (2, .int ((it (mJs kp a k) j (it (mK kp a) k (fd, 0))).2)), (3, .int (nI k)), (4, .int (nI j + 1))]) hl [2, 3, 4, 5, 0] rfl
                        have hqq9 : (.int ((it (mJs kp a k) j (it (mK kp a) k (fd, 0))).2) : Value) = .int ((it (mJs kp a k) (j + 1) (it (mK kp a) k (fd, 0))).2) := by rw [it_s, mJs, if_neg (by omega), mJ]; simp [kb1, c_171''', c_180''', c_201''', c_211''']
                        rw [hqq9] at hl
                        have hqq9 : (.int (nI j + 1) : Value) = .int (nI (j + 1)) := by rw [nI_1]
                        rw [hqq9] at hl
                        have hE : (gW n ty ad f th rt qu b w T g (va_up a 14 ((it (mJs kp a k) j (it (mK kp a) k (fd, 0))).1)) o : va_W) = gW n ty ad f th rt qu b w T g (va_up a 14 ((it (mJs kp a k) (j + 1) (it (mK kp a) k (fd, 0))).1)) o := by rw [it_s, mJs, if_neg (by omega), mJ]; simp [kb1, c_171''', c_180''', c_201''', c_211''']
                        have hP := kw_P hE hP
                        have hD := kw_D hE hD
                        exact ih (j + 1) _ _ ls (by omega) (by omega) hP hD hS hl kx
                      · refine lv_aload_n hx hb d_M_find_214 rfl (lv_at hl 1 rfl) ?_
                        refine va_get (D := D) (ci := 3) (v := .ref (ad 19)) (C := R_M) (T := F_M) (N := 16) hx hb hts (fun w h => kS1 w (i_M w h)) hown hK hP 10 gw_10 rfl 14 (by decide) (hts _ (kS1 _ m_M_35)) (fun _ h9 => h9) rfl d_M_find_215 ?_
                        refine lv_iload hx hb d_M_find_218 (lv_at hl 0 rfl) ?_
                        refine lv_iconst (v := 1) hx hb d_M_find_220 (by decide) ?_
                        refine va_zast (f := (it (mJs kp a k) j (it (mK kp a) k (fd, 0))).1) hx hb hK hP hD hS 19 1 gw_19 rfl (kin5 (hF (12 * k + j) (by have := hL12 k hlt_k hlt_j; omega)) c_201''') d_M_find_221 (fun H locs hP hD hS => ?_)
                        have hP := kw_P ((gw_sa14 (r := upd ((it (mJs kp a k) j (it (mK kp a) k (fd, 0))).1) ((((a 5) (12 * k + j)) - 1).toNatClampNeg) (vp_nar .boolean 1))).trans (by rw [bx_uu])) hP
                        have hD := kw_D ((gw_sa14 (r := upd ((it (mJs kp a k) j (it (mK kp a) k (fd, 0))).1) ((((a 5) (12 * k + j)) - 1).toNatClampNeg) (vp_nar .boolean 1))).trans (by rw [bx_uu])) hD
                        refine lv_iconst (v := 1) hx hb d_M_find_222 (by decide) ?_
                        refine lv_istore_n (lv' := [(2, .int 1), (5, .int (((a 5) (12 * k + j)) - 1)), (0, .ref (ad 10)), (1, .int kp), (3, .int (nI k)), (4, .int (nI j))]) hx hb d_M_find_223 rfl hl (by decide) rfl (fun ls hl => ?_)
                        refine lv_iinc (v := nI j + 1) (lv' := [(4, .int (nI j + 1)), (2, .int 1), (5, .int (((a 5) (12 * k + j)) - 1)), (0, .ref (ad 10)), (1, .int kp), (3, .int (nI k))]) hx hb d_M_find_224 hl (k := 5) rfl rfl (by decide) rfl (fun ls hl => ?_)
                        refine lv_goto (tgt := 163) hx hb d_M_find_227 (by decide) ?_
                        have hl := lv_sub (l' := [(0, .ref (ad 10)), (1, .int kp), (2, .int 1), (3, .int (nI k)), (4, .int (nI j + 1))]) hl [3, 4, 1, 5, 0] rfl
                        have hqq9 : (.int 1 : Value) = .int ((it (mJs kp a k) (j + 1) (it (mK kp a) k (fd, 0))).2) := by rw [it_s, mJs, if_neg (by omega), mJ]; simp [kb1, c_171''', c_180''', c_201''', c_211''']
                        rw [hqq9] at hl
                        have hqq9 : (.int (nI j + 1) : Value) = .int (nI (j + 1)) := by rw [nI_1]
                        rw [hqq9] at hl
                        have hE : (gW n ty ad f th rt qu b w T g (va_up a 14 (upd ((it (mJs kp a k) j (it (mK kp a) k (fd, 0))).1) ((((a 5) (12 * k + j)) - 1).toNatClampNeg) (vp_nar .boolean 1))) o : va_W) = gW n ty ad f th rt qu b w T g (va_up a 14 ((it (mJs kp a k) (j + 1) (it (mK kp a) k (fd, 0))).1)) o := by rw [it_s, mJs, if_neg (by omega), mJ]; simp [kb1, c_171''', c_180''', c_201''', c_211''']
                        have hP := kw_P hE hP
                        have hD := kw_D hE hD
                        exact ih (j + 1) _ _ ls (by omega) (by omega) hP hD hS hl kx
                have hl := lv_sub (l' := [(0, .ref (ad 10)), (1, .int kp), (2, .int ((it (mK kp a) k (fd, 0)).2)), (3, .int (nI k)), (4, .int 1)]) hl [1, 2, 3, 4, 0] rfl
                have hqq9 : (.int ((it (mK kp a) k (fd, 0)).2) : Value) = .int ((it (mJs kp a k) 1 (it (mK kp a) k (fd, 0))).2) := by simp [it, mJs, mS, c_139'', c_149'', c_153'']
                rw [hqq9] at hl
                have hqq9 : (.int 1 : Value) = .int (nI 1) := by rfl
                rw [hqq9] at hl
                have hE : (gW n ty ad f th rt qu b w T g (va_up a 14 ((it (mK kp a) k (fd, 0)).1)) o : va_W) = gW n ty ad f th rt qu b w T g (va_up a 14 ((it (mJs kp a k) 1 (it (mK kp a) k (fd, 0))).1)) o := by simp [it, mJs, mS, c_139'', c_149'', c_153'']
                have hP := kw_P hE hP
                have hD := kw_D hE hD
                refine L5 _ ((a 4 k).toNatClampNeg - 1) 1 _ _ ls (by have := hW1 k hlt_k c_149''; omega) (by simp [mS, c_139'', c_149'', c_153'']) hP hD hS hl (fun H locs ls hP hD hS hl => ?_)
                refine lv_iinc (v := nI k + 1) (lv' := [(3, .int (nI k + 1)), (0, .ref (ad 10)), (1, .int kp), (2, .int ((it (mJs kp a k) ((a 4 k).toNatClampNeg) (it (mK kp a) k (fd, 0))).2))]) hx hb d_M_find_230 hl (k := 3) rfl rfl (by decide) rfl (fun ls hl => ?_)
                refine lv_goto (tgt := 134) hx hb d_M_find_233 (by decide) ?_
                have hl := lv_sub (l' := [(0, .ref (ad 10)), (1, .int kp), (2, .int ((it (mJs kp a k) ((a 4 k).toNatClampNeg) (it (mK kp a) k (fd, 0))).2)), (3, .int (nI k + 1))]) hl [1, 2, 3, 0] rfl
                have hqq9 : (.int ((it (mJs kp a k) ((a 4 k).toNatClampNeg) (it (mK kp a) k (fd, 0))).2) : Value) = .int ((it (mK kp a) (k + 1) (fd, 0)).2) := by rw [it_s, mK, if_neg hfk]
                rw [hqq9] at hl
                have hqq9 : (.int (nI k + 1) : Value) = .int (nI (k + 1)) := by rw [nI_1]
                rw [hqq9] at hl
                have hE : (gW n ty ad f th rt qu b w T g (va_up a 14 ((it (mJs kp a k) ((a 4 k).toNatClampNeg) (it (mK kp a) k (fd, 0))).1)) o : va_W) = gW n ty ad f th rt qu b w T g (va_up a 14 ((it (mK kp a) (k + 1) (fd, 0)).1)) o := by rw [it_s, mK, if_neg hfk]
                have hP := kw_P hE hP
                have hD := kw_D hE hD
                exact ih (k + 1) _ _ ls (by omega) hP hD hS hl kx
      have hl := lv_sub (l' := [(0, .ref (ad 10)), (1, .int kp), (2, .int 0), (3, .int 0)]) hl [2, 3, 1, 0] rfl
      have hqq9 : (.int 0 : Value) = .int (nI 0) := by rw [nI_0]
      rw [hqq9] at hl
      refine L4 _ (n - 0) 0 _ _ ls (by omega) hP hD hS hl (fun H locs ls hP hD hS hl => ?_)
      refine lv_goto (tgt := 126) hx hb d_M_find_236 (by decide) ?_
      refine lv_iload_n hx hb d_M_find_126 rfl (lv_at hl 2 rfl) ?_
      refine lv_if_eq (tgt := 239) hx hb d_M_find_127 (by decide) (fun c_127' => ?_) (fun c_127' => ?_)
      · have hl := lv_sub (l' := [(0, .ref (ad 10)), (1, .int kp)]) hl [0, 1] rfl
        have hE : (gW n ty ad f th rt qu b w T g (va_up a 14 ((it (mK kp a) n (fd, 0)).1)) o : va_W) = gW n ty ad f th rt qu b w T g (va_up a 14 (mW kp a n (fu + 1) fd)) o := by rw [mW, if_pos c_127']
        exact kx _ _ ls (kw_P hE hP) (kw_D hE hD) hS hl
      · have hl := lv_sub (l' := [(0, .ref (ad 10)), (1, .int kp)]) hl [0, 1] rfl
        have hE : (gW n ty ad f th rt qu b w T g (va_up a 14 (mW kp a n fu (it (mK kp a) n (fd, 0)).1)) o : va_W) = gW n ty ad f th rt qu b w T g (va_up a 14 (mW kp a n (fu + 1) fd)) o := by rw [mW, if_neg c_127']
        exact ih _ _ _ ls (by have := mP_grow (kp := kp) (n := n) (fd := fd) hF hL hn3 c_127'; omega) hP hD hS hl (fun H locs ls hP hD hS hl => kx H locs ls (kw_P hE hP) (kw_D hE hD) hS hl)
  have hl := lv_sub (l' := [(0, .ref (ad 10)), (1, .int kp)]) hl [1, 2] rfl
  refine L6 _ 301 _ _ _ ls (by omega) hP hD hS hl (fun H locs ls hP hD hS hl => ?_)
  refine lv_iconst (v := 0) hx hb d_M_find_239 (by decide) ?_
  refine lv_istore_n (lv' := [(3, .int 0), (0, .ref (ad 10)), (1, .int kp)]) hx hb d_M_find_240 rfl hl (by decide) rfl (fun ls hl => ?_)
  refine lv_iconst (v := 0) hx hb d_M_find_241 (by decide) ?_
  refine lv_istore (lv' := [(4, .int 0), (3, .int 0), (0, .ref (ad 10)), (1, .int kp)]) hx hb d_M_find_242 hl (by decide) rfl (fun ls hl => ?_)
  have L7 : ∀ (Q : State → Prop) (rem i : Nat) (H : Heap) (locs : List Loc) (ls : Array Slot), i + rem = n → va_P D kCl (gW n ty ad f th rt qu b w T g (va_up a 14 (mD kp a n q (a 14))) o) H → va_D A (gW n ty ad f th rt qu b w T g (va_up a 14 (mD kp a n q (a 14))) o) → va_S A s.heap H locs → lv_has ls 6 [(0, .ref (ad 10)), (3, .int (it (mC (mD kp a n q (a 14))) i 0)), (4, .int (nI i))] → (∀ (H : Heap) (locs : List Loc) (ls : Array Slot), va_P D kCl (gW n ty ad f th rt qu b w T g (va_up a 14 (mD kp a n q (a 14))) o) H → va_D A (gW n ty ad f th rt qu b w T g (va_up a 14 (mD kp a n q (a 14))) o) → va_S A s.heap H locs → lv_has ls 6 [(0, .ref (ad 10)), (3, .int (it (mC (mD kp a n q (a 14))) n 0))] → W p l e (headSpec w_M_find ({ frames := 0, cells := 0, slots := 0, locals := 0 })).room s m ([.ref (ad 10), .int kp] : List Value).toArray below meth cd H locs 0 0 Q (F0 m 277 ls [])) → W p l e (headSpec w_M_find ({ frames := 0, cells := 0, slots := 0, locals := 0 })).room s m ([.ref (ad 10), .int kp] : List Value).toArray below meth cd H locs 0 0 Q (F0 m 244 ls []) := by
    intro Q rem
    induction rem with
    | zero =>
      intro i H locs ls hir_i hP hD hS hl kx
      obtain rfl : n = i := by omega
      refine lv_iload hx hb d_M_find_244 (lv_at hl 2 rfl) ?_
      refine lv_aload_n hx hb d_M_find_246 rfl (lv_at hl 0 rfl) ?_
      refine va_get (D := D) (ci := 3) (v := .int (g 1)) (C := R_M) (T := F_M) (N := 16) hx hb hts (fun w h => kS1 w (i_M w h)) hown hK hP 10 gw_10 rfl 1 (by decide) (hts _ (kS1 _ m_M_45)) (fun _ h9 => h9) rfl d_M_find_247 ?_
      refine lv_icmp_ge (tgt := 277) hx hb d_M_find_250 (by decide) (fun c_250' => ?_) (fun c_250' => absurd (by rw [hg1]; exact nI_le (Nat.le_refl _) (by omega)) c_250')
      have hl := lv_sub (l' := [(0, .ref (ad 10)), (3, .int (it (mC (mD kp a n q (a 14))) n 0))]) hl [0, 1] rfl
      exact kx _ _ ls hP hD hS hl
    | succ rem ih =>
      intro i H locs ls hir_i hP hD hS hl kx
      have hlt_i : i < n := by omega
      refine lv_iload hx hb d_M_find_244 (lv_at hl 2 rfl) ?_
      refine lv_aload_n hx hb d_M_find_246 rfl (lv_at hl 0 rfl) ?_
      refine va_get (D := D) (ci := 3) (v := .int (g 1)) (C := R_M) (T := F_M) (N := 16) hx hb hts (fun w h => kS1 w (i_M w h)) hown hK hP 10 gw_10 rfl 1 (by decide) (hts _ (kS1 _ m_M_45)) (fun _ h9 => h9) rfl d_M_find_247 ?_
      refine lv_icmp_ge (tgt := 277) hx hb d_M_find_250 (by decide) (fun c_250' => absurd c_250' (by rw [hg1]; exact nI_ge hlt_i (by omega))) (fun c_250' => ?_)
      refine lv_aload_n hx hb d_M_find_253 rfl (lv_at hl 0 rfl) ?_
      refine va_get (D := D) (ci := 3) (v := .ref (ad 19)) (C := R_M) (T := F_M) (N := 16) hx hb hts (fun w h => kS1 w (i_M w h)) hown hK hP 10 gw_10 rfl 14 (by decide) (hts _ (kS1 _ m_M_35)) (fun _ h9 => h9) rfl d_M_find_254 ?_
      refine lv_iload hx hb d_M_find_257 (lv_at hl 2 rfl) ?_
      refine va_zald (f := mD kp a n q (a 14)) hx hb hK hP 19 1 gw_19 rfl (vp_in_nI (N := 300) (by omega) (by omega)) d_M_find_259 ?_
      rw [nI_clamp (n := i) (by omega)]
      refine lv_if_eq (tgt := 269) hx hb d_M_find_260 (by decide) (fun c_260' => ?_) (fun c_260' => ?_)
      · refine lv_iload_n hx hb d_M_find_269 rfl (lv_at hl 1 rfl) ?_
        refine lv_istore_n (lv' := [(3, .int (it (mC (mD kp a n q (a 14))) i 0)), (0, .ref (ad 10)), (4, .int (nI i))]) hx hb d_M_find_270 rfl hl (by decide) rfl (fun ls hl => ?_)
        refine lv_iinc (v := nI i + 1) (lv' := [(4, .int (nI i + 1)), (3, .int (it (mC (mD kp a n q (a 14))) i 0)), (0, .ref (ad 10))]) hx hb d_M_find_271 hl (k := 2) rfl rfl (by decide) rfl (fun ls hl => ?_)
        refine lv_goto (tgt := 244) hx hb d_M_find_274 (by decide) ?_
        have hl := lv_sub (l' := [(0, .ref (ad 10)), (3, .int (it (mC (mD kp a n q (a 14))) i 0)), (4, .int (nI i + 1))]) hl [2, 1, 0] rfl
        have hqq9 : (.int (it (mC (mD kp a n q (a 14))) i 0) : Value) = .int (it (mC (mD kp a n q (a 14))) (i + 1) 0) := by rw [it_s, mC]; simp [c_250', c_260']
        rw [hqq9] at hl
        have hqq9 : (.int (nI i + 1) : Value) = .int (nI (i + 1)) := by rw [nI_1]
        rw [hqq9] at hl
        exact ih (i + 1) _ _ ls (by omega) hP hD hS hl kx
      · refine lv_iload_n hx hb d_M_find_263 rfl (lv_at hl 1 rfl) ?_
        refine lv_iconst (v := 1) hx hb d_M_find_264 (by decide) ?_
        refine lv_iadd hx hb d_M_find_265 ?_
        refine lv_goto (tgt := 270) hx hb d_M_find_266 (by decide) ?_
        refine lv_istore_n (lv' := [(3, .int ((it (mC (mD kp a n q (a 14))) i 0) + 1)), (0, .ref (ad 10)), (4, .int (nI i))]) hx hb d_M_find_270 rfl hl (by decide) rfl (fun ls hl => ?_)
        refine lv_iinc (v := nI i + 1) (lv' := [(4, .int (nI i + 1)), (3, .int ((it (mC (mD kp a n q (a 14))) i 0) + 1)), (0, .ref (ad 10))]) hx hb d_M_find_271 hl (k := 2) rfl rfl (by decide) rfl (fun ls hl => ?_)
        refine lv_goto (tgt := 244) hx hb d_M_find_274 (by decide) ?_
        have hl := lv_sub (l' := [(0, .ref (ad 10)), (3, .int ((it (mC (mD kp a n q (a 14))) i 0) + 1)), (4, .int (nI i + 1))]) hl [2, 1, 0] rfl
        have hqq9 : (.int ((it (mC (mD kp a n q (a 14))) i 0) + 1) : Value) = .int (it (mC (mD kp a n q (a 14))) (i + 1) 0) := by rw [it_s, mC]; simp [c_250', c_260']
        rw [hqq9] at hl
        have hqq9 : (.int (nI i + 1) : Value) = .int (nI (i + 1)) := by rw [nI_1]
        rw [hqq9] at hl
        exact ih (i + 1) _ _ ls (by omega) hP hD hS hl kx
  have hl := lv_sub (l' := [(0, .ref (ad 10)), (3, .int 0), (4, .int 0)]) hl [2, 1, 0] rfl
  have hqq9 : (.int 0 : Value) = .int (nI 0) := by rw [nI_0]
  rw [hqq9] at hl
  have hE : (gW n ty ad f th rt qu b w T g (va_up a 14 (mW kp a n 301 (it (mD3 a) q (it (mD2 a) 16 (it (mD1 kp a) n (a 14)))))) o : va_W) = gW n ty ad f th rt qu b w T g (va_up a 14 (mD kp a n q (a 14))) o := by rfl
  have hP := kw_P hE hP
  have hD := kw_D hE hD
  refine L7 _ (n - 0) 0 _ _ ls (by omega) hP hD hS hl (fun H locs ls hP hD hS hl => ?_)
  refine lv_iload_n hx hb d_M_find_277 rfl (lv_at hl 1 rfl) ?_
  have hu : (gW n ty ad f th rt qu b w T g (va_up a 14 (mD kp a n q (a 14))) o : va_W) = gW n ty ad f th rt qu b w T g (va_up a 14 (mD kp a n q (a 14))) o := by rfl
  have hv : (it (mC (mD kp a n q (a 14))) n 0 : Int32) = it (mC (mD kp a n q (a 14))) n 0 := by simp [c_127]
  exact W.iret (v := it (mC (mD kp a n q (a 14))) n 0) hx hb hr (fun t ht hW => ⟨⟨_, _, rfl, ⟨hv, hu⟩, by rw [ht]; exact hP, va_K.moved hW.alike hK, hD⟩, hS.F ht⟩) hS.2.2 d_M_find_278
end
