/-! Part 02: the base. Word lists over one table of good words; contracts that only read (kR), that write the world (Met over kB), that throw (kM); their calls. -/
-- ===== the words =====
/-- the tables' words that hold at every later state of the run -/
def kT : List Cond := lw_tbl.filter goodWord
theorem kT_tbl {w : Cond} (h : w ∈ kT) : w ∈ lw_tbl := (List.mem_filter.mp h).1
theorem kT_ok {w : Cond} (h : w ∈ kT) : (w.onTables && w.keeps) = true ∨ ∃ ty, w = .arrayClass ty := good_of_word (List.mem_filter.mp h).2
theorem kT_of {w : Cond} (i : Nat) (h : lw_tbl[i]? = some w) (hg : goodWord w = true) : w ∈ kT := List.mem_filter.mpr ⟨List.mem_of_getElem? h, hg⟩
theorem kG {Ts : List Cond} {cy : Cond} (hs : ∀ w ∈ kT, w ∈ Ts) (h : cy ∈ kT) : GoodIn Ts (cy :: kT) := fun w hw => by
  rcases List.mem_cons.mp hw with rfl | hw
  · exact ⟨hs _ h, kT_ok h⟩
  · exact ⟨hs _ hw, kT_ok hw⟩
theorem kGV {Ts : List Cond} {cy : Cond} {own : String} {idx : Nat} {C : String} {y : MethodName} (hs : ∀ w ∈ kT, w ∈ Ts) (h1 : Cond.methodLink own idx y ∈ kT) (h2 : Cond.instanceMethod y ∈ kT) (h3 : Cond.selects C y y ∈ kT) (h4 : Cond.initialized C ∈ kT) (h : cy ∈ kT) : GoodIn Ts (wsV own idx C y (cy :: kT)) := by
  intro w hw
  rcases List.mem_append.mp hw with hw | hw
  · have hk : w ∈ kT := by
      simp only [List.mem_cons, List.not_mem_nil, or_false] at hw
      rcases hw with rfl | rfl | rfl | rfl <;> assumption
    exact ⟨hs _ hk, kT_ok hk⟩
  · exact kG hs h w hw
theorem kGS {Ts : List Cond} {cy : Cond} {own : String} {idx : Nat} {y : MethodName} (hs : ∀ w ∈ kT, w ∈ Ts) (h1 : Cond.methodLink own idx y ∈ kT) (h2 : Cond.static y ∈ kT) (h4 : Cond.initialized y.cls ∈ kT) (h : cy ∈ kT) : GoodIn Ts (va_wsS own idx y (cy :: kT)) := by
  intro w hw
  rcases List.mem_append.mp hw with hw | hw
  · have hk : w ∈ kT := by
      simp only [List.mem_cons, List.not_mem_nil, or_false] at hw
      rcases hw with rfl | rfl | rfl <;> assumption
    exact ⟨hs _ hk, kT_ok hk⟩
  · exact kG hs h w hw
/-- the words of other kinds that a throw needs, and that stay where the tables grow warmer -/
def kNk : Cond → Bool
  | .castable _ _ => true
  | .declares _ => true
  | .stringRef _ _ _ => true
  | _ => false
def kNs : List Cond := lw_tbl.filter kNk
def kN (U : State) : Prop := ∀ w ∈ kNs, va_Nw w U
theorem kN_of {w : Cond} (i : Nat) (h : lw_tbl[i]? = some w) (hg : kNk w = true) : w ∈ kNs := List.mem_filter.mpr ⟨List.mem_of_getElem? h, hg⟩
theorem kN_str {own tx : String} {k : Nat} {A A' : Array Value} {u U : State} (hv : U.vm = u.vm) (h : (Cond.stringRef own k tx).before A u = true) : (Cond.stringRef own k tx).before A' U = true := by
  simp only [Cond.before, Cond.holds, Cond.value, State.names, State.poolOf?, State.resolvedAt?, hv] at h ⊢
  exact h
theorem kNk_same {w : Cond} (hk : kNk w = true) {A A' : Array Value} {u U : State} (hv : U.vm = u.vm) (h : w.before A u = true) : w.before A' U = true := by
  cases w <;> first | exact va_tabs rfl hv.symm h | exact kN_str hv h | cases hk
theorem kN.warm {s U : State} (hW : s.WarmedH U.vm) (h : kN s) : kN U := by
  intro w hw
  have h1 := h w hw
  have h2 := (List.mem_filter.mp hw).2
  cases w <;> first | exact va_Nw.warmC hW h1 | exact va_Nw.warmD hW h1 | exact kN_str (u := s.setVm U.vm) (A := #[]) rfl (Cond.stringRef_warmed hW h1) | cases h2
theorem kN.same {u U : State} (hv : U.vm = u.vm) (h : kN u) : kN U := fun w hw => kNk_same (List.mem_filter.mp hw).2 hv (h w hw)
theorem kN.use {s : State} {args : Array Value} (h : kN s) {w : Cond} (hw : w ∈ kNs) : w.before args s = true := kNk_same (List.mem_filter.mp hw).2 rfl (h w hw)
theorem kN.at {s : State} {args : Array Value} (h : ∀ w ∈ lw_tbl, w.before args s = true) : kN s := fun w hw => kNk_same (List.mem_filter.mp hw).2 rfl (h w (List.mem_filter.mp hw).1)
theorem kS1 {cx : Cond} : ∀ w ∈ kT, w ∈ cx :: kT := fun _ h => List.mem_cons_of_mem _ h
-- ===== a method's start and end =====
/-- the world ws lies in the heap of sz cells -/
def kP (D : va_G) (cl : List vw_C) (tys : List (ClassId × FieldType)) (ws : va_W) (sz : Nat) (U : State) : Prop := U.heap.size = sz ∧ va_P D cl ws U.heap ∧ va_K D cl tys U ∧ va_D (fun _ => True) ws
/-- the world u lies there behind it -/
def kB (D : va_G) (cl : List vw_C) (tys : List (ClassId × FieldType)) (A : Nat → Prop) (u : va_W) (t : State) : Prop := va_P D cl u t.heap ∧ va_K D cl tys t ∧ va_D A u
/-- Throwable's two statics, at cells that A doesn't name -/
def kZ (A : Nat → Prop) (U : State) (H : Heap) : Prop := vx_Zq Bundle.tN "UNASSIGNED_STACK" Bundle.steD A U H ∧ vx_Zq Bundle.tN "SUPPRESSED_SENTINEL" Bundle.listD A U H ∧ kN U
/-- it answers rv and has changed nothing -/
def kQr (rv : Option Value) : Array Value → State → Outcome → State → Prop := fun _ st o t => o = .returned rv ∧ t.heap = st.heap
/-- it threw a plain object of class E, and no cell that was there has changed -/
def kQt (E : String) (mc ms : Nat) : Array Value → State → Outcome → State → Prop := fun _ st o t => ∃ (x : Addr) (cell : Cell), o = .threw x ∧ st.WarmedH t.vm ∧ st.sameButNew ({ t with vm := st.vm } : State) [] mc ms ∧ t.heap[x]? = some cell ∧ cell.vm = .none ∧ st.vm.findClass E = some cell.cls
/-- a contract of a road that ends in a throw -/
def kM (l : Launch) (y : MethodName) (ws : List Cond) (rm : Room) (Pc : Array Value → State → Prop) (E : String) (mc ms : Nat) : Prop := MetFree l y (headSpec ws rm) Pc (fun _ _ _ _ _ => True) (kQt E mc ms)
/-- the end of a walk that throws -/
def kMQ (below : List Frame) (E : String) (a : Array Value) (s : State) (mc ms : Nat) : State → Prop := fun t => ∃ o, t.status = .running ∧ Ended t below o ∧ kQt E mc ms a s o t
theorem kP_blind {D : va_G} {cl : List vw_C} {tys : List (ClassId × FieldType)} {ws : va_W} {sz : Nat} {av : List Value} : FrameBlind (va_Pc av (kP D cl tys ws sz)) := fun a U g mk q => by
  obtain ⟨q0, q1, qP, qK, qD⟩ := q
  exact ⟨q0, q1, qP, va_K.moved (u := U) (U := U.calling g mk a) (Vm.Alike.refl U.vm) qK, qD⟩
theorem kPZ_blind {D : va_G} {cl : List vw_C} {tys : List (ClassId × FieldType)} {ws : va_W} {sz : Nat} {av : List Value} {A : Nat → Prop} : FrameBlind (va_Pc av (fun U => kP D cl tys ws sz U ∧ kZ A U U.heap)) := fun a U g mk q => by
  obtain ⟨q0, ⟨q1, qP, qK, qD⟩, z1, z2, z3⟩ := q
  exact ⟨q0, ⟨q1, qP, va_K.moved (u := U) (U := U.calling g mk a) (Vm.Alike.refl U.vm) qK, qD⟩, vx_Zq.moved (u := U) (U := U.calling g mk a) (Vm.Alike.refl U.vm) z1, vx_Zq.moved (u := U) (U := U.calling g mk a) (Vm.Alike.refl U.vm) z2, kN.same (u := U) (U := U.calling g mk a) rfl z3⟩
theorem kP_at {D : va_G} {cl : List vw_C} {tys : List (ClassId × FieldType)} {ws : va_W} {A : Nat → Prop} {s : State} {H : Heap} (hK : va_K D cl tys s) (hP : va_P D cl ws H) (hD : va_D A ws) (U : State) (hU : U.heap = H) (hW : s.WarmedH U.vm) : kP D cl tys ws H.size U := ⟨by rw [hU], by rw [hU]; exact hP, va_K.moved hW.alike hK, hD.weaken (fun _ _ _ _ => trivial)⟩
theorem kZ.at {A B : Nat → Prop} {s : State} {H : Heap} {locs : List Loc} (hZ : kZ A s s.heap) (hS : va_S A s.heap H locs) (hAB : ∀ q, B q → A q) (U : State) (hU : U.heap = H) (hW : s.WarmedH U.vm) : kZ B U U.heap := by
  rw [hU]
  exact ⟨vx_Zq.moved hW.alike ((hZ.1.kept (fun a h1 h2 => hS.2.1 a h1 h2)).narrow hAB), vx_Zq.moved hW.alike ((hZ.2.1.kept (fun a h1 h2 => hS.2.1 a h1 h2)).narrow hAB), hZ.2.2.warm hW⟩
theorem kA_free {A : Nat → Prop} {ws : va_W} {H0 H : Heap} {locs : List Loc} (hD : va_D A ws) (hS : va_S A H0 H locs) (hA : ∀ q, H0.size ≤ q → A q) : ∀ q, va_A ws H.size q → A q := fun q h => by
  rcases h with ⟨k, e, h⟩ | h
  · exact hD.2 k (q, e) h
  · exact hA q (Nat.le_trans hS.1 h)
section KB
variable {p : Program} {l : Launch} {e : Env} {R : Room} {s : State} {m : MethodId} {args : Array Value} {below : List Frame} {meth : Method} {c : Code} {H : Heap} {locs : List Loc} {cells slots : Nat} {Q : State → Prop}
variable {pc : Nat} {ls : Array Slot} {rest st0 : List Value} {a : Array Value} {A : Nat → Prop} {D : va_G} {cl : List vw_C} {tys : List (ClassId × FieldType)} {ws : va_W} {mc ms : Nat}
-- ===== calls =====
/-- behind a call that only read -/
theorem kc_R {rv : Option Value} (hr : va_Run p l e R s m args below meth c H locs cells slots 0 0 (F0 m pc ls st0) rest (kQr rv a) (fun _ => False))
    (kk : W p l e R s m args below meth c H locs cells slots Q (F0 m (pc + 3) ls (rv.toList ++ rest))) : W p l e R s m args below meth c H locs cells slots Q (F0 m pc ls st0) := by
  intro T hT X
  obtain ⟨v, st₀, t, T', L, h0, X', hL, e1, e2, ⟨hv, hh⟩, st⟩ := hr T hT X
  cases hv
  obtain ⟨t2, a1, b1⟩ := kk T' (by rw [e1, hh, h0]) (Stand.forget X' (fun q h => (hL q h).elim))
  exact ⟨t2, st t2 a1, b1⟩
/-- behind a call that answered an int and changed the world -/
theorem kc_i {post : Int32 → va_W → Prop} (hr : va_Run p l e R s m args below meth c H locs cells slots mc ms (F0 m pc ls st0) rest (va_Qi post (kB D cl tys (va_A ws H.size)) (va_A ws H.size) a) (va_A ws H.size)) (hD : va_D A ws) (hS : va_S A s.heap H locs) (hA : ∀ q, s.heap.size ≤ q → A q)
    (kk : ∀ (r : Int32) (u : va_W) (H1 : Heap) (locs1 : List Loc), post r u → va_P D cl u H1 → va_D A u → va_S A s.heap H1 locs1 → H.size ≤ H1.size → W p l e R s m args below meth c H1 locs1 (cells + mc) (slots + ms) Q (F0 m (pc + 3) ls (.int r :: rest))) : W p l e R s m args below meth c H locs cells slots Q (F0 m pc ls st0) := by
  have hF := kA_free hD hS hA
  refine va_calli hr hS (fun q _ h => hF q h) hF (fun r u t H1 locs1 ht hvm hw hB hz1 hk1 hS1 => ?_)
  obtain ⟨hP1, hK1, hD1⟩ := hB
  rw [ht] at hP1
  exact kk r u H1 locs1 hw hP1 (hD1.weaken (fun _ q _ h => hF q.1 h)) hS1 hz1
/-- .. that answered nothing -/
theorem kc_v {post : va_W → Prop} (hr : va_Run p l e R s m args below meth c H locs cells slots mc ms (F0 m pc ls st0) rest (va_Qv post (kB D cl tys (va_A ws H.size)) (va_A ws H.size) a) (va_A ws H.size)) (hD : va_D A ws) (hS : va_S A s.heap H locs) (hA : ∀ q, s.heap.size ≤ q → A q)
    (kk : ∀ (u : va_W) (H1 : Heap) (locs1 : List Loc), post u → va_P D cl u H1 → va_D A u → va_S A s.heap H1 locs1 → H.size ≤ H1.size → W p l e R s m args below meth c H1 locs1 (cells + mc) (slots + ms) Q (F0 m (pc + 3) ls rest)) : W p l e R s m args below meth c H locs cells slots Q (F0 m pc ls st0) := by
  have hF := kA_free hD hS hA
  refine va_callv hr hS (fun q _ h => hF q h) hF (fun u t H1 locs1 ht hvm hw hB hz1 hk1 hS1 => ?_)
  obtain ⟨hP1, hK1, hD1⟩ := hB
  rw [ht] at hP1
  exact kk u H1 locs1 hw hP1 (hD1.weaken (fun _ q _ h => hF q.1 h)) hS1 hz1
-- ===== throws =====
/-- a contract of a throwing road out of a walk -/
theorem kM.ofW {y : MethodName} {wl wl' : List Cond} {rm : Room} {Pc : Array Value → State → Prop} {E : String} {cc : ByteArray} {maxL : Nat} {ret : Option FieldType}
    (hy : plainName y.cls = true) (hw : wl = Cond.code y cc maxL ret :: wl')
    (body : ∀ p e s m args below meth c s₁, BodyLoose p l y (headSpec wl rm) cc maxL ret e s m args below meth c s₁ → c.maxLocals = maxL → Pc args s →
      W p l e (headSpec wl rm).room s m args below meth c s.heap [] 0 0 (kMQ below E args s mc ms) (entryFrame m args maxL)) : kM l y wl rm Pc E mc ms := by
  refine MetFree.of_bodyS (code := cc) (maxLocals := maxL) (ret := ret) hy ?_ ?_
  · intro args s m h hn
    obtain ⟨meth, c, h1, h2, h3, h4, h5, h6, -, -⟩ := Cond.code_spec hn (atoms_spec (ws := wl) h _ (by rw [hw]; exact List.mem_cons_self))
    exact ⟨meth, c, h1, h2, h3, h4, h5, h6⟩
  · intro p e s m args below meth c s₁ B hml hP _
    have hh0 : s₁.heap = s.heap := by rw [B.state]; rfl
    obtain ⟨t, a1, o, b1, b2, b3⟩ := body p e s m args below meth c s₁ B hml hP s₁ hh0 (Stand.of_body B)
    exact ⟨t, o, a1, b1, b2, b3⟩
/-- no handler in a method whose word is 'code' -/
theorem kNoH {x : MethodName} {S : Spec} {code : ByteArray} {maxLocals : Nat} {ret : Option FieldType} {s₁ : State} (B : BodyLoose p l x S code maxLocals ret e s m args below meth c s₁) (hc : (Cond.code x code maxLocals ret).before args s = true) (q : Nat) : ∀ x ∈ c.exceptionTable.toList, covers x q = false := covers_of_empty (B.noHandlers hc) q
/-- the words of a throw out of the table -/
def kAt (w : Cond) : Bool := goodWord w || kNk w
theorem kOA {own E : String} {ic : Nat} {names : List String} (hin : ∀ w ∈ (Bundle.ownAtoms own ic E names).filter vx_no, w ∈ lw_tbl ∧ kAt w = true) (hts : ∀ w ∈ kT, w.before args s = true) (hZ : kZ A s s.heap) : ∀ w ∈ Bundle.ownAtoms own ic E names, w.before args s = true := by
  refine vx_own (fun w hw => ?_) (vx_isRefq hZ.1.1) (vx_isRefq hZ.2.1.1) hZ.1.2.word hZ.2.1.2.word
  obtain ⟨h1, h2⟩ := hin w hw
  simp only [kAt, Bool.or_eq_true] at h2
  rcases h2 with h2 | h2
  · exact hts w (List.mem_filter.mpr ⟨h1, h2⟩)
  · exact hZ.2.2.use (List.mem_filter.mpr ⟨h1, h2⟩)
/-- 'throw new E("text")' in a method that has changed nothing and has no handler there: one cell of six slots -/
theorem kt_own {cc : ByteArray} {nL : Nat} {own E text : String} {names : List String} {ik is ic : Nat} (hx : p.tables.exec = Jvm.exec) (hb : c.code = cc) (hml : c.maxLocals = nL) (hown : s.vm.findClass own = some m.cls) (htr : l.stackTraces = false)
    (hcls : Bundle.fit E = true) (hnames : ∀ n ∈ names, Bundle.fit n = true) (hk : (Cond.classLink own ik E).before args s = true) (hini : (Cond.initialized E).before args s = true) (hs : (Cond.stringRef own is text).before args s = true)
    (h : ∀ w ∈ Bundle.ownAtoms own ic E names, w.before args s = true) (hsize : ls.size = nL)
    (d0 : decode cc pc = .ok (.new ik, 3)) (d3 : decode cc (pc + 3) = .ok (.dup, 1)) (d4 : decode cc (pc + 4) = .ok (.ldc is, 2)) (d6 : decode cc (pc + 6) = .ok (.invokespecial ic, 3)) (d9 : decode cc (pc + 9) = .ok (.athrow, 1))
    (hout : ∀ x ∈ c.exceptionTable.toList, covers x (pc + 9) = false) (hf : names.length + 3 < R.frames) (hl : 13 * (names.length + 1) + 44 ≤ R.locals) (hc1 : 1 ≤ R.cells) (hs6 : 6 ≤ R.slots) (hlocks : meth.locks = false) :
    W p l e R s m args below meth c s.heap [] 0 0 (kMQ below E args s 1 6) (F0 m pc ls []) := by
  intro T hT X
  subst hb
  have hins : (Cond.instantiable E 6).before args s = true := h _ (by simp [Bundle.ownAtoms])
  have htr' : e.platform.stackTraces = false := by rw [X.admits.platform]; exact htr
  obtain ⟨vm₁, cX, kX, hfX, hkX, -, -, X₁, st1⟩ := X.newCold hx (own := own) (C := E) (index := ik) (n := 6) hown hk hins hini (g := F0 m pc ls []) rfl d0 (by omega) (by omega)
  generalize hTe : (T.setVm vm₁).pushCell { cls := cX, slots := kX.instanceTypes.map defaultValue, vm := .none } = T1 at X₁ st1
  have hcellA : T1.heap[T.heap.size]? = some (freshCell cX kX) := by rw [← hTe]; exact State.heap_pushCell_size _ _
  obtain ⟨-, -, -, sa, -, -, -, -, -, hev⟩ := Cond.stringRef_spec hown hs
  obtain ⟨U, hsteps, hrun, hend, hW, hsame, ce, hce, K⟩ := X₁.ctorThrowS hx htr' (own := own) (cls := E) (names := names) (ic := ic) hown hcls hnames h (fun y hy => by cases hy) hfX hkX hcellA (by rw [hT]; exact Nat.le_refl _) (msg := .ref sa) rfl
    (g := F0 m (pc + 6) ls [.ref sa, .ref T.heap.size, .ref T.heap.size]) rfl (hsize.trans hml.symm) rfl rfl (rest := []) rfl d6 d9 hout hf (by simp [JFrame.monitorRoom, Value.category]; omega) hlocks
  refine ⟨U, ?_, .threw T.heap.size, hrun, hend, T.heap.size, ce, rfl, hW, by simpa using hsame, hce, K.vm, K.cls⟩
  refine st1 _ ?_
  show Steps p.tables e below (T1.setTop { method := m, pc := pc + 3, locals := ls, stack := [.ref T.heap.size], locked := none }) _
  jvm_step X₁.here [X₁.here.top, hx, d3, Value.category]
  exact X₁.ldcString hx (own := own) (text := text) (index := is) (a := sa) hown hs hev (g := F0 m (pc + 4) ls [.ref T.heap.size, .ref T.heap.size]) rfl d4 _ hsteps
/-- what a call comes to whose callee throws -/
def kt_Run (p : Program) (l : Launch) (e : Env) (R : Room) (s : State) (m : MethodId) (args : Array Value) (below : List Frame) (meth : Method) (c : Code) (H : Heap) (locs : List Loc) (cells slots mc ms : Nat) (g : JFrame) (rest : List Value) (E : String) : Prop :=
  ∀ T : State, T.heap = H → Stand p l e R s m args below meth c T locs cells slots → ∃ (x : Addr) (cell : Cell) (T' : State), Stand p l e R s m args below meth c T' locs (cells + mc) (slots + ms) ∧ H.size ≤ T'.heap.size ∧ (∀ (q : Addr) (d : Cell), H[q]? = some d → T'.heap[q]? = some d) ∧ T'.heap[x]? = some cell ∧ cell.vm = .none ∧ s.vm.findClass E = some cell.cls ∧
      ∀ target, Steps p.tables e below ((T'.setTop { g with stack := rest }).pushFrame (.throwing x)) target → Steps p.tables e below (T.setTop g) target
theorem kt_callV {y : MethodName} {cc bytes : ByteArray} {nL maxL n index : Nat} {ret : Option FieldType} {wl Ts : List Cond} {rm : Room} {Pc : Array Value → State → Prop} {E own C : String} {b : Addr} {As : List Value} {g : JFrame}
    (S : CallFix p m c cc nL s args Ts own) (hM : kM l y wl rm Pc E mc ms) (cw : CallW R s args own C index y bytes maxL ret wl rm mc ms n) (hp : PreV s H C b Pc As)
    (hg : g.method = m) (hn : As.length = n) (hsize : g.locals.size = nL) (hstack : g.stack = As.reverse ++ .ref b :: rest) (hW : 2 * g.monitorRoom + (rest.map fun v => v.category).sum ≤ 8) (hdg : decode cc g.pc = .ok (.invokevirtual index, 3)) (hf : cells + mc ≤ R.cells ∧ slots + ms ≤ R.slots) :
    kt_Run p l e R s m args below meth c H locs cells slots mc ms g rest E := by
  obtain ⟨⟨hrc, hrs, hfr, hlo, hws, hcw, hcode, hini, hy, hlen, hl⟩, hinst, hsel⟩ := cw
  obtain ⟨hx, hb, hml, ho, -⟩ := S
  obtain ⟨hbl, ⟨cellB, hcB, hoB, hclB⟩, hPc⟩ := hp
  subst hb
  intro T hT X
  obtain ⟨mk, methM, hnamed, hmethM, hstM, habM⟩ := Cond.instanceMethod_spec hinst
  obtain ⟨methM', cM, hmethM', -, -, -, -, -, -, hsigM⟩ := Cond.code_spec hnamed hcode
  cases hmethM.symm.trans hmethM'
  obtain ⟨c2, r2, m2, q1, q2, q3, q4, kP, hkP, hkPi⟩ := Cond.selects_spec hsel
  cases hclB.symm.trans q1
  cases (State.methodFound?_of_named hnamed hy).symm.trans q2
  cases hnamed.symm.trans q3
  have hselP : selectMethod e.platform s.vm cellB.cls mk = .method mk := by rw [Launch.admits_selectMethod X.admits]; exact q4
  obtain ⟨vm₁, X₁, hstep₁⟩ := X.invokevirtual hx ho hl hnamed hmethM hstM hkP hkPi hy (a := b) (cell := cellB) (by rw [hT]; exact hcB) (fun z h => by rw [h] at hoB; cases hoB) hselP hmethM habM hkP hkPi (g := g) hg (argsL := As) (rest := rest) (hn.trans (hlen _ hsigM)) hstack hdg
  have hPU : Pc (Value.ref b :: As).toArray (T.setVm vm₁) := hPc (T.setVm vm₁) hT X₁.warmed
  generalize hUe : T.setVm vm₁ = U at X₁ hstep₁ hPU
  have hUh : U.heap = H := by rw [← hUe]; exact hT
  generalize hge : ({ g with stack := rest } : JFrame) = g' at hstep₁
  have hg' : g'.method = m := by rw [← hge]; exact hg
  have hdg' : decode c.code g'.pc = .ok (.invokevirtual index, 3) := by rw [← hge]; exact hdg
  have hsz' : g'.locals.size = c.maxLocals := by rw [← hge]; exact hsize.trans hml.symm
  have hW' : 2 * g'.monitorRoom + (g'.stack.map fun v => v.category).sum ≤ 8 := by rw [← hge]; exact hW
  have hn1 : U.methodNamed? y = some mk := X₁.named hnamed
  have h1 : (headSpec wl rm).pre.before (Value.ref b :: As).toArray U = true := atoms_intro fun w hw => hws w hw _ _ X₁.warmed
  have h2 := hws _ hcw (Value.ref b :: As).toArray U X₁.warmed
  have h3 : (Cond.initialized y.cls).before (Value.ref b :: As).toArray U = true := word_at X₁.warmed (Or.inl (by first | rfl | simp [Cond.onTables, Cond.keeps, Cond.steady])) hini
  obtain ⟨methY, cY, hmY, hcY, -, hlY, -, -, -, -⟩ := Cond.code_spec hn1 h2
  obtain ⟨kY, hkY, -⟩ := className_of_methodNamed hn1
  have hinitY : kY.init = .initialized := Cond.initialized_spec (findClass_of_methodNamed hn1) hkY h3
  have h : At U g'.method c below := by rw [hg']; exact X₁.here
  have happ : (headSpec wl rm).appliesLoose y e.platform (U.calling g' mk (Value.ref b :: As).toArray) = true :=
    Spec.appliesLoose_calling (g := g') h hdg' hn1 hkY hinitY
      (X₁.room_calling (g := g') (R' := (headSpec wl rm).room) hsz' hmY hcY (show rm.frames + 1 ≤ R.frames from hfr) (by rw [hlY]; show _ + rm.locals ≤ _; omega) (by show cells + rm.cells ≤ _; rw [hrc]; exact hf.1) (by show slots + rm.slots ≤ _; rw [hrs]; exact hf.2)) h1
  obtain ⟨mid, hmid⟩ := h.above
  have hfrm : (U.setTop g').frames = (.java g' :: mid) ++ below := by rw [State.frames_setTop' g' h.top, hmid]; rfl
  obtain ⟨o, s₂, hsteps, -, hend, hq⟩ := Steps.callFree hM p X₁.admits X₁.cas X₁.clock (acts := []) hfrm happ (hbl _ _ _ _ hPU) trivial
  have hq : kQt E mc ms (Value.ref b :: As).toArray (U.calling g' mk (Value.ref b :: As).toArray) o s₂ := hq
  obtain ⟨x, cell, rfl, hW₂, ⟨e2, q2, q3, q4, q5, q6⟩, hcx, hcv, hcc⟩ := hq
  rw [State.frames_setTop' g' h.top] at hend
  have hf₂ : s₂.frames = .throwing x :: .java g' :: U.frames.tail := hend
  have e3 : s₂ = ({ (U.calling g' mk (Value.ref b :: As).toArray).setFrames s₂.frames with heap := s₂.heap, slotsUsed := s₂.slotsUsed } : State).setVm s₂.vm := by
    have : s₂ = ({ s₂ with vm := (U.calling g' mk (Value.ref b :: As).toArray).vm } : State).setVm s₂.vm := rfl
    rw [e2] at this
    exact this
  have hWU : U.WarmedH s₂.vm := hW₂
  obtain ⟨g₀, hg0⟩ := Option.isSome_iff_exists.mp h.top
  obtain ⟨r, hr⟩ := State.topJava?_eq_some.mp hg0
  have hs₂ : s₂ = ((({ U with heap := s₂.heap, slotsUsed := s₂.slotsUsed } : State).setVm s₂.vm).setTop g').pushFrame (.throwing x) := by
    have hr' : (({ U with heap := s₂.heap, slotsUsed := s₂.slotsUsed } : State).setVm s₂.vm).frames = .java g₀ :: r := hr
    refine e3.trans ?_
    rw [hf₂, State.calling_eq h.top, State.setFrames_setFrames, State.pushFrame, State.frames_setTop _ hr', State.setTop_of_frames _ hr', State.setFrames_setFrames, hr]
    rfl
  have hsame : U.sameButNew ({ U with heap := s₂.heap, slotsUsed := s₂.slotsUsed } : State) [] mc ms := by
    refine ⟨?_, q2, q3, q4, q5, q6⟩
    obtain ⟨t, ht, -⟩ := State.frames_cons hr
    show ({ U with heap := s₂.heap, slotsUsed := s₂.slotsUsed } : State) = { U.setFrames U.frames with heap := s₂.heap, slotsUsed := s₂.slotsUsed }
    rw [State.setFrames_self ht]
  have hkeep : ∀ (q : Addr) (d : Cell), H[q]? = some d → s₂.heap[q]? = some d := by
    intro q d hd
    obtain ⟨c', hc1, hc2, hc3, hc4⟩ := q6 q d (by show U.heap[q]? = some d; rw [hUh]; exact hd)
    have hsl : c'.slots = d.slots := Array.ext_getElem? (fun i => hc4 i (by simp))
    have : c' = d := by rw [hc2, hsl]
    rw [← this]
    exact hc1
  have hXs := X₁.same.trans (hsame.setVm s.vm)
  rw [List.append_nil] at hXs
  subst hg'
  refine ⟨x, cell, ({ U with heap := s₂.heap, slotsUsed := s₂.slotsUsed } : State).setVm s₂.vm, ⟨X₁.admits, X₁.cas, X₁.clock, X₁.frames, X₁.room, X₁.hears, X₁.method, X₁.code, (X₁.here.setHeapUsed s₂.heap s₂.slotsUsed).setVm hWU.alike, X₁.tail, State.WarmedH.trans X₁.warmed hWU, X₁.limits, X₁.bytes, hXs⟩,
    by rw [← hUh]; exact q2, hkeep, hcx, hcv, ?_, fun target hrest => ?_⟩
  · have : U.vm.findClass E = some cell.cls := hcc
    rw [X₁.warmed.alike.findClass] at this
    exact this
  · refine hstep₁ _ fun acts => ?_
    rw [doInvoke_state]
    refine hsteps.trans ?_
    rw [hs₂]
    exact hrest
/-- the callee throws, and this method passes it on -/
theorem kt_prop {E : String} (hr : kt_Run p l e R s m args below meth c s.heap [] 0 0 mc ms (F0 m pc ls st0) rest E) (hout : ∀ x ∈ c.exceptionTable.toList, covers x pc = false) (hlocks : meth.locks = false) :
    W p l e R s m args below meth c s.heap [] 0 0 (kMQ below E args s mc ms) (F0 m pc ls st0) := by
  intro T hT X
  obtain ⟨x, cell, T', X', hz, hk, hcx, hcv, hcc, st⟩ := hr T hT X
  obtain ⟨hwalk, hrun, hend, hW, hsame⟩ := X'.leaveThrown x (g := F0 m pc ls rest) rfl rfl rfl hout hlocks
  exact ⟨_, st _ hwalk, .threw x, hrun, hend, x, cell, rfl, hW, by simpa using hsame, hcx, hcv, hcc⟩
-- ===== handlers =====
/-- the search in the table: it finds the handler at hpc, and the tables grow only warmer -/
def kf_To (e : Env) (s : State) (f : JFrame) (a : Addr) (t : List ExceptionTableEntry) (hpc : Nat) (s0 : State) : Prop := ∃ vm' : Vm, s0.WarmedH vm' ∧ ∀ (Q : Handler → Pre) (E : CtlPost) (d : Bool) (acts : List Action), wp (findHandler.go f a t) Q E e d acts s ↔ Q (.found hpc) d acts (s.setVm vm')
/-- a row that takes it -/
theorem kf_hit {S : State} {f : JFrame} {x : Addr} {en : ExceptionTableEntry} {t : List ExceptionTableEntry} {own name E : String} {cell : Cell} (hpl : e.platform.magicAccessors = ({} : Platform).magicAccessors) (hown : s.vm.findClass own = some f.method.cls) (hW : s.WarmedH S.vm)
    (hcov : covers en f.pc = true) (h0 : en.catchType ≠ 0) (hlink : (Cond.classLink own en.catchType name).before args s = true) (hcast : (Cond.castable E name).before args s = true) (hcell : S.heap[x]? = some cell) (hvm : cell.vm = .none) (hE : s.vm.findClass E = some cell.cls) : kf_To e S f x (en :: t) en.handlerPc s := by
  obtain ⟨c', hc', hcl⟩ := Cond.classLink_spec hown hlink e.platform hpl
  obtain ⟨c3, t3, w1, w2, w3⟩ := Cond.castable_spec hcast
  cases hE.symm.trans w1
  cases hc'.symm.trans w2
  obtain ⟨dk, _, _, kt, hd, _, _, _, _, hkt, _, hopen⟩ := hcl.here
  have hl := hW.classLinks hcl
  have hal := hW.alike
  obtain ⟨k1, hk1⟩ := Vm.classAt_of_findClass hE
  refine ⟨S.vm.noted f.method.cls en.catchType (.cls c'), hW.noted hd hopen (State.rightAt_cls hcl), fun Q E' d acts => ?_⟩
  obtain ⟨ha, ht⟩ := (resolveClass_links e.toSetting hl).op (op := VmOp.resolveClass f.method.cls en.catchType) rfl
  have hal2 : s.vm.Alike (S.vm.noted f.method.cls en.catchType (.cls c')) := hal.trans ((Vm.Alike.refl S.vm).noted _ _ _)
  obtain ⟨k1', hk1', -⟩ := hal2.2.2 _ _ hk1
  obtain ⟨k2', hk2', -⟩ := hal2.2.2 _ _ hkt
  have hfit : (S.vm.noted f.method.cls en.catchType (.cls c')).assignable cell.cls c' = true := by rw [hal2.assignable]; exact w3
  have hobj : ∀ k, cell.vm ≠ .statics k := fun k hk => by rw [hvm] at hk; cases hk
  simp only [covers] at hcov
  simp [findHandler.go, hcov, h0, ha, ht, hcell, hobj, hk1', hk2', hfit, VmOp.dirties, VmOp.acts]
/-- a row that doesn't -/
theorem kf_miss {S : State} {f : JFrame} {x : Addr} {en : ExceptionTableEntry} {t : List ExceptionTableEntry} {own name E : String} {cell : Cell} {hpc : Nat} (hpl : e.platform.magicAccessors = ({} : Platform).magicAccessors) (hown : s.vm.findClass own = some f.method.cls) (hW : s.WarmedH S.vm)
    (hcov : covers en f.pc = true) (h0 : en.catchType ≠ 0) (hlink : (Cond.classLink own en.catchType name).before args s = true) (hno : ∀ cn, s.vm.findClass name = some cn → s.vm.assignable cell.cls cn = false) (hcell : S.heap[x]? = some cell) (hvm : cell.vm = .none) (hE : s.vm.findClass E = some cell.cls)
    (kk : ∀ S' : State, s.WarmedH S'.vm → S'.heap = S.heap → kf_To e S' f x t hpc s) : kf_To e S f x (en :: t) hpc s := by
  obtain ⟨c', hc', hcl⟩ := Cond.classLink_spec hown hlink e.platform hpl
  obtain ⟨dk, _, _, kt, hd, _, _, _, _, hkt, _, hopen⟩ := hcl.here
  have hl := hW.classLinks hcl
  have hal := hW.alike
  obtain ⟨k1, hk1⟩ := Vm.classAt_of_findClass hE
  have hW2 := hW.noted hd hopen (State.rightAt_cls hcl)
  obtain ⟨vm', hvm', hgo⟩ := kk (S.setVm (S.vm.noted f.method.cls en.catchType (.cls c'))) hW2 rfl
  refine ⟨vm', hvm', fun Q E' d acts => ?_⟩
  obtain ⟨ha, ht⟩ := (resolveClass_links e.toSetting hl).op (op := VmOp.resolveClass f.method.cls en.catchType) rfl
  have hal2 : s.vm.Alike (S.vm.noted f.method.cls en.catchType (.cls c')) := hal.trans ((Vm.Alike.refl S.vm).noted _ _ _)
  obtain ⟨k1', hk1', -⟩ := hal2.2.2 _ _ hk1
  obtain ⟨k2', hk2', -⟩ := hal2.2.2 _ _ hkt
  have hfit : (S.vm.noted f.method.cls en.catchType (.cls c')).assignable cell.cls c' = false := by rw [hal2.assignable]; exact hno c' hc'
  have hobj : ∀ k, cell.vm ≠ .statics k := fun k hk => by rw [hvm] at hk; cases hk
  simp only [covers] at hcov
  have hgo' := hgo Q E' d acts
  rw [← show (S.setVm (S.vm.noted f.method.cls en.catchType (.cls c'))).setVm vm' = S.setVm vm' from rfl]
  rw [← hgo']
  simp [findHandler.go, hcov, h0, ha, ht, hcell, hobj, hk1', hk2', hfit, VmOp.dirties, VmOp.acts]
/-- the callee throws, and this method's handler at hpc takes it -/
theorem kt_catch {E : String} {hpc : Nat} (hr : kt_Run p l e R s m args below meth c H locs cells slots mc ms (F0 m pc ls st0) rest E)
    (hfind : ∀ (S : State) (x : Addr) (cell : Cell), s.WarmedH S.vm → S.heap[x]? = some cell → cell.vm = .none → s.vm.findClass E = some cell.cls → kf_To e S (F0 m pc ls rest) x c.exceptionTable.toList hpc s)
    (kk : ∀ (x : Addr) (H1 : Heap), H.size ≤ H1.size → (∀ (q : Addr) (d : Cell), H[q]? = some d → H1[q]? = some d) → W p l e R s m args below meth c H1 locs (cells + mc) (slots + ms) Q (F0 m hpc ls [.ref x])) : W p l e R s m args below meth c H locs cells slots Q (F0 m pc ls st0) := by
  intro T hT X
  obtain ⟨x, cell, T', X', hz, hk, hcx, hcv, hcc, st⟩ := hr T hT X
  obtain ⟨vm', hW', hgo⟩ := hfind ((T'.setTop (F0 m pc ls rest)).pushFrame (.throwing x)) x cell X'.warmed hcx hcv hcc
  obtain ⟨t, a1, b1⟩ := kk x T'.heap hz hk (T'.setVm vm') rfl (X'.noted hW')
  refine ⟨t, st t ?_, b1⟩
  have h : At T' (F0 m pc ls rest).method c below := X'.here
  obtain ⟨hgo', hw⟩ := h.throwing x
  refine Steps.head hgo' hw ?_
  rw [stepThread_throwing (frames_entered h.top _)]
  have hstep : (stepThrowing e ((T'.setTop (F0 m pc ls rest)).pushFrame (.throwing x)) x (.java (F0 m pc ls rest) :: T'.frames.tail)).Is ((((T'.setTop (F0 m pc ls rest)).pushFrame (.throwing x)).setVm vm').setFrames (.java (F0 m hpc ls [.ref x]) :: T'.frames.tail)) [] := by
    simp only [stepThrowing, searchFrame, vmDo]
    generalize hres : Sem.go _ e false [] ((T'.setTop (F0 m pc ls rest)).pushFrame (.throwing x)) = res
    obtain ⟨as, rfl, ha⟩ := Sem.eq_ok_of hres (a := Handler.found hpc) (s' := ((T'.setTop (F0 m pc ls rest)).pushFrame (.throwing x)).setVm vm') (acts' := []) (by
      have hm : ((T'.setTop (F0 m pc ls rest)).pushFrame (.throwing x)).vm.method? (F0 m pc ls rest).method = some meth := X'.method'
      simp [W.findHandler_eq hm X'.code, hgo])
    exact ⟨rfl, ha⟩
  rw [hstep.1]
  obtain ⟨g₀, hg⟩ := Option.isSome_iff_exists.mp h.top
  obtain ⟨r, hr0⟩ := State.topJava?_eq_some.mp hg
  have hr' : (T'.setVm vm').frames = .java g₀ :: r := hr0
  have hsv : ∀ (u : State) (F G : List Frame), ((u.setFrames F).setVm vm').setFrames G = (u.setVm vm').setFrames G := fun u F G => by
    have h1 : (u.setFrames F).setVm vm' = (u.setVm vm').setFrames F := rfl
    rw [h1, State.setFrames_setFrames]
  rw [State.setTop_of_frames _ hr'] at a1
  rw [hr0, List.tail_cons, State.pushFrame, hsv, State.setTop_of_frames _ hr0, hsv]
  exact a1
end KB
