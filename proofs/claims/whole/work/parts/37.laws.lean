/-! Part 37: the law's eight calls that catch. -/
section VXS
variable {p : Program} {l : Launch} {e : Env} {R : Room} {s : State} {m : MethodId} {args : Array Value} {below : List Frame} {meth : Method} {c : Code} {T : State} {H : Heap} {locs : List Loc} {cells slots : Nat}
abbrev vx_CSW (R : Room) (s : State) (args : Array Value) (own : String) (index : Nat) (y : MethodName) (bytes : ByteArray) (maxL : Nat) (ret : Option FieldType) (hh : List (Nat × Nat × Nat × Nat)) (ws : List Cond) (rm : Room) (mc ms n : Nat) : Prop :=
  (rm.cells = mc ∧ rm.slots = ms ∧ rm.frames + 1 ≤ R.frames ∧ 8 + (maxL + 11) + rm.locals ≤ R.locals ∧ (∀ w ∈ ws, ∀ (a' : Array Value) (U : State), s.WarmedH U.vm → w.before a' U = true) ∧ Cond.codeWith y bytes maxL ret hh ∈ ws) ∧
  (Cond.codeWith y bytes maxL ret hh).before args s = true ∧ (Cond.initialized y.cls).before args s = true ∧ (y.cls ≠ "java/lang/invoke/MethodHandle" ∧ y.cls ≠ "java/lang/invoke/VarHandle") ∧
  (∀ sig, parseMethodDescriptor y.desc = some sig → n = sig.parameters.length) ∧ (Cond.methodLink own index y).before args s = true ∧ (Cond.static y).before args s = true
theorem vx_cwSW {own : String} {index maxL mc ms : Nat} {y : MethodName} {bytes : ByteArray} {ret : Option FieldType} {hh : List (Nat × Nat × Nat × Nat)} {Ts ws ws' : List Cond} {rm : Room} (n : Nat) (ht : ∀ w ∈ Ts, w.before args s = true) (hT : GoodIn Ts (va_wsS own index y ws)) (hw : ws = Cond.codeWith y bytes maxL ret hh :: ws') (hrc : rm.cells = mc) (hrs : rm.slots = ms)
    (hd : y.cls ≠ "java/lang/invoke/MethodHandle" ∧ y.cls ≠ "java/lang/invoke/VarHandle" ∧ (parseMethodDescriptor y.desc).map (fun d => d.parameters.length) = some n) (hR : rm.frames + 1 ≤ R.frames ∧ 8 + (maxL + 11) + rm.locals ≤ R.locals) :
    vx_CSW R s args own index y bytes maxL ret hh ws rm mc ms n := by
  have ok : ∀ w ∈ va_wsS own index y ws, w.before args s = true := fun w h => ht w (hT w h).1
  have hG : GoodIn Ts ws := fun w h => hT w (by unfold va_wsS; exact List.mem_append_right _ h)
  have hc : Cond.codeWith y bytes maxL ret hh ∈ ws := by rw [hw]; exact List.mem_cons_self
  refine ⟨⟨hrc, hrs, hR.1, hR.2, pay_in ht hG, hc⟩, ht _ (hG _ hc).1, ok _ (by simp [va_wsS]), ⟨hd.1, hd.2.1⟩, fun sig h => ?_, ok _ (by simp [va_wsS]), ok _ (by simp [va_wsS])⟩
  have h2 := hd.2.2
  rw [h] at h2
  exact (Option.some.inj h2).symm
theorem vx_callSW (X : Stand p l e R s m args below meth c T locs cells slots) (hexec : p.tables.exec = Jvm.exec) {own : String} {index : Nat} {y : MethodName} {bytes : ByteArray} {maxL : Nat} {ret : Option FieldType} {hh : List (Nat × Nat × Nat × Nat)}
    (hown : s.vm.findClass own = some m.cls) (hlink : (Cond.methodLink own index y).before args s = true) (hstat : (Cond.static y).before args s = true) (hinit : (Cond.initialized y.cls).before args s = true)
    (hcode : (Cond.codeWith y bytes maxL ret hh).before args s = true) (hy : y.cls ≠ "java/lang/invoke/MethodHandle" ∧ y.cls ≠ "java/lang/invoke/VarHandle")
    {W9 : Nat} {Pre : Pt → Array Value → Prop} {Post : Pt → Array Value → Option Value → Pt → Prop} (hK : Back l R p e below s args y 3 W9 Pre Post)
    {g : JFrame} (hg : g.method = m) (hsize : g.locals.size = c.maxLocals) {argsL rest : List Value} (hlen : ∀ sig, parseMethodDescriptor y.desc = some sig → argsL.length = sig.parameters.length)
    (hstack : g.stack = argsL.reverse ++ rest) (hW : 2 * g.monitorRoom + (rest.map fun v => v.category).sum ≤ W9) (hdg : decode c.code g.pc = .ok (.invokestatic index, 3))
    (hpre : ∀ vm₁, s.WarmedH vm₁ → Pre ⟨T.setVm vm₁, locs, cells, slots⟩ argsL.toArray) :
    ∃ (v : Option Value) (vm₁ : Vm) (B : Pt), s.WarmedH vm₁ ∧ Stand p l e R s m args below meth c B.U B.locs B.cells B.slots ∧ Post ⟨T.setVm vm₁, locs, cells, slots⟩ argsL.toArray v B ∧
      ∀ target, Steps p.tables e below (B.U.setTop { g with pc := g.pc + 3, stack := v.toList ++ rest }) target → Steps p.tables e below (T.setTop g) target := by
  obtain ⟨mk, methM, cM, hnamed, hmethM, -, -, -, -, -, -, hsigM⟩ := Cond.codeWith_spec hcode
  have hstatic : methM.isStatic = true := Cond.static_spec hnamed hmethM hstat
  obtain ⟨kP, hkP, -⟩ := className_of_methodNamed hnamed
  have hinitP : kP.init = .initialized := Cond.initialized_spec (findClass_of_methodNamed hnamed) hkP hinit
  obtain ⟨vm₁, X₁, hstep₁⟩ := X.invokestatic hexec hown hlink hnamed hmethM hstatic hkP hinitP hy (g := g) hg (argsL := argsL) (rest := rest) (hlen _ hsigM) hstack hdg
  obtain ⟨v, B, X', hpost, hsteps⟩ := hK m meth c ⟨T.setVm vm₁, locs, cells, slots⟩ { g with stack := rest } (.invokestatic index) mk argsL.toArray X₁ hg hsize hdg hW (X₁.named hnamed) (hpre vm₁ X₁.warmed)
  exact ⟨v, vm₁, B, X₁.warmed, X', hpost, fun target h => hstep₁ _ fun acts => by rw [doInvoke_state]; exact hsteps.trans h⟩
theorem vx_runSW {y : MethodName} {bytes cc : ByteArray} {maxL nL mc ms n index : Nat} {ret : Option FieldType} {hh : List (Nat × Nat × Nat × Nat)} {ws : List Cond} {rm : Room} {Pc : Array Value → State → Prop} {Qc : Array Value → State → Outcome → State → Prop} {free : Addr → Prop} {Ts : List Cond} {own : String} {As rest : List Value} {g : JFrame}
    (S : CallFix p m c cc nL s args Ts own) (hM : Met l y ws rm Pc Qc mc ms free) (cw : vx_CSW R s args own index y bytes maxL ret hh ws rm mc ms n) (hp : PreS s H Pc As)
    (hg : g.method = m) (hn : As.length = n) (hsize : g.locals.size = nL) (hstack : g.stack = As.reverse ++ rest) (hW : 2 * g.monitorRoom + (rest.map fun v => v.category).sum ≤ 8) (hdg : decode cc g.pc = .ok (.invokestatic index, 3)) (hf : cells + mc ≤ R.cells ∧ slots + ms ≤ R.slots) :
    va_Run p l e R s m args below meth c H locs cells slots mc ms g rest (Qc As.toArray) (free) := by
  obtain ⟨⟨hrc, hrs, hfr, hlo, hws, hcw⟩, hcode, hini, hy, hlen, hl, hstt⟩ := cw
  have hK : Back l R p e below s args y 3 8 (PreOf R mc ms Pc) (PostOf Qc mc ms free) := va_backW (hh := hh) (bytes := bytes) (maxL := maxL) (ret := ret) hM hp.1 hrc hrs hfr hlo hws hcw (fun a' U hW => word_at hW (Or.inl (by first | rfl | simp [Cond.onTables, Cond.keeps, Cond.steady])) hini)
  obtain ⟨hx, hb, hml, ho, -⟩ := S
  intro T hT X
  obtain ⟨v, vm₁, ⟨U', l2, c2, s2⟩, hW₁, X', ⟨g', mk, t, L, e1, e2, hq, h1, hL, h2, h3⟩, st⟩ := vx_callSW X hx (hh := hh) (bytes := bytes) (maxL := maxL) (ret := ret) ho hl hstt hini hcode hy hK hg (hsize.trans hml.symm) (argsL := As) (rest := rest) (fun sig h => hn.trans (hlen sig h)) hstack hW (by rw [hb]; exact hdg)
    (fun vm₁ hW₁ => ⟨hf.1, hf.2, hp.2 (T.setVm vm₁) hT hW₁⟩)
  dsimp only [Pt.U, Pt.locs, Pt.cells, Pt.slots] at X' e1 e2 h1 h2 h3 st
  subst h1; subst h2; subst h3
  exact ⟨v, (T.setVm vm₁).calling g' mk As.toArray, t, U', L, hT, X', hL, e1, e2, hq, st⟩
end VXS

/-- what a call that may throw needs of the start -/
def kY (A : Nat → Prop) (U : State) (H : Heap) : Prop := kZ A U H ∧ va_Nc "java/lang/IllegalStateException" "java/lang/IllegalArgumentException" U ∧ va_Nc "java/lang/IllegalArgumentException" "java/util/NoSuchElementException" U
theorem kPY_blind {D : va_G} {cl : List vw_C} {tys : List (ClassId × FieldType)} {ws : va_W} {sz : Nat} {av : List Value} {A : Nat → Prop} : FrameBlind (va_Pc av (fun U => kP D cl tys ws sz U ∧ kY A U U.heap)) := fun a U g mk q => by
  obtain ⟨q0, q1, q2, q3, q4⟩ := q
  obtain ⟨r0, r1, r2⟩ := kPZ_blind (D := D) (cl := cl) (tys := tys) (ws := ws) (sz := sz) (av := av) (A := A) a U g mk ⟨q0, q1, q2⟩
  exact ⟨r0, r1, r2, va_Nc.moved (u := U) (U := U.calling g mk a) (Vm.Alike.refl U.vm) q3, va_Nc.moved (u := U) (U := U.calling g mk a) (Vm.Alike.refl U.vm) q4⟩
theorem kY.at {A B : Nat → Prop} {s : State} {H : Heap} {locs : List Loc} (hZ : kY A s s.heap) (hS : va_S A s.heap H locs) (hAB : ∀ q, B q → A q) (U : State) (hU : U.heap = H) (hW : s.WarmedH U.vm) : kY B U U.heap := ⟨hZ.1.at hS hAB U hU hW, va_Nc.moved hW.alike hZ.2.1, va_Nc.moved hW.alike hZ.2.2⟩
theorem kNc {E nm : String} {s : State} {k : ClassId} (h : va_Nc E nm s) (hE : s.vm.findClass E = some k) : ∀ cn, s.vm.findClass nm = some cn → s.vm.assignable k cn = false := by
  intro cn hc
  obtain ⟨a, b, h1, h2, h3⟩ := h
  cases Option.some.inj (h1.symm.trans hE)
  cases Option.some.inj (h2.symm.trans hc)
  exact h3
theorem kh_eq {H H1 : Heap} (hk : ∀ (q : Addr) (d : Cell), H[q]? = some d → H1[q]? = some d) {q : Nat} (hq : q < H.size) : H1[q]? = H[q]? := by
  obtain ⟨d, hd⟩ : ∃ d, H[q]? = some d := ⟨H[q], by simp [hq]⟩
  rw [hd]; exact hk q d hd
theorem kx_table {p : Program} {l : Launch} {y : MethodName} {S : Spec} {cc bytes : ByteArray} {maxL maxL' : Nat} {ret ret' : Option FieldType} {e : Env} {s s₁ : State} {m : MethodId} {args : Array Value} {below : List Frame} {meth : Method} {c : Code} {hh : List (Nat × Nat × Nat × Nat)}
    (B : BodyLoose p l y S cc maxL ret e s m args below meth c s₁) (h : (Cond.codeWith y bytes maxL' ret' hh).before args s = true) : c.exceptionTable.toList = tableOf hh := by
  obtain ⟨m9, meth9, c9, hn9, h1, h2, -, -, h6, -⟩ := Cond.codeWith_spec h
  cases Option.some.inj (hn9.symm.trans B.named)
  cases Option.some.inj (h1.symm.trans B.method)
  cases Option.some.inj (h2.symm.trans (Stand.of_body B).code)
  rw [← h6, table_eq]
section KC
variable {p : Program} {l : Launch} {e : Env} {R : Room} {s : State} {m : MethodId} {args : Array Value} {below : List Frame} {meth : Method} {c : Code} {H : Heap} {locs : List Loc} {cells slots : Nat} {Q : State → Prop}
variable {pc : Nat} {ls : Array Slot} {rest st0 : List Value} {A : Nat → Prop} {D : va_G} {cl : List vw_C} {ws : va_W} {mc ms : Nat}
/-- behind a catch the world lies as it lay -/
theorem kt_catchW {E : String} {hpc : Nat} (hr : kt_Run p l e R s m args below meth c H locs cells slots mc ms (F0 m pc ls st0) rest E)
    (hfind : ∀ (S : State) (x : Addr) (cell : Cell), s.WarmedH S.vm → S.heap[x]? = some cell → cell.vm = .none → s.vm.findClass E = some cell.cls → kf_To e S (F0 m pc ls rest) x c.exceptionTable.toList hpc s)
    (hP : va_P D cl ws H) (hS : va_S A s.heap H locs)
    (kk : ∀ (x : Addr) (H1 : Heap), va_P D cl ws H1 → va_S A s.heap H1 locs → W p l e R s m args below meth c H1 locs (cells + mc) (slots + ms) Q (F0 m hpc ls [.ref x])) : W p l e R s m args below meth c H locs cells slots Q (F0 m pc ls st0) := by
  refine kt_catch hr hfind (fun x H1 hz hk => kk x H1 (hP.kept (fun k q h => kh_eq hk (hP k q h).lt)) ⟨Nat.le_trans hS.1 hz, fun q hq hA => ?_, hS.2.2⟩)
  rw [kh_eq hk (Nat.lt_of_lt_of_le hq hS.1)]
  exact hS.2.1 q hq hA
end KC
set_option maxHeartbeats 4000000 in
set_option maxRecDepth 100000 in
/-- make, where it answers -/
theorem c_L_make_r (l : Launch) (D : va_G) (ty : Nat → ClassId) (ad : Nat → Nat) (sz : Nat) (n : Nat) (f : Nat → Int32) (th : Nat → Bool) (rt qu : Nat → Int32) (b w : SR) (T : Nat → TH) (g : Nat → Int32) (a : Nat → Nat → Int32) (o : Nat → Int64) (hn : ∀ k, th k = true → k < n) (hn3 : n < 300) (hf7 : f 7 = nI n) (kd : Int32) (q : Nat) (h1 : ¬ kd < 0) (h2 : kd ≤ 2) (hq : q ≤ 12) (h5 : ¬ (kd = 1 ∧ nI q = 0)) : Met l y_L_make w_L_make ({ frames := 3, cells := 2, slots := 16, locals := 58 }) (va_Pc [.ref (ad 0), .int kd, .int (nI q), .ref (ad 21)] (kP D kCl (kTy ty) (gW n ty ad f th rt qu b w T g a o) sz)) (va_Qi (fun (r9 : Int32) (u9 : va_W) => r9 = 0 ∧ ∃ ad2 : Nat → Nat, (∀ i, i < 22 → ad2 i = ad i) ∧ u9 = gW (n + 1) ty ad2 (upd (upd f 7 (f 7 + 1)) 8 (f 8 + 1)) (va_up th n true) rt qu b w (va_up T n (kd, 0, -1, q, nf q)) g a (vp_updL o 0 (nI n).toInt64)) (kB D kCl (kTy ty) (va_A (gW n ty ad f th rt qu b w T g a o) sz)) (va_A (gW n ty ad f th rt qu b w T g a o) sz)) 2 16 (va_A (gW n ty ad f th rt qu b w T g a o) sz) := by
  refine va_MetW (cc := b_L_make) (maxL := 5) (ret := (some .int)) (by decide) rfl ?_
  intro p e s m args below meth cd s₁ B hml hv
  obtain ⟨rfl, hsz, hP, hK, hD0⟩ := hv
  have hx := B.exec
  have hb := B.bytes
  have hr := B.returns
  have hts := atoms_spec (ws := w_L_make) B.pre
  have hown : s.vm.findClass R_L = some m.cls := findClass_of_methodNamed B.named
  have hlocks := B.notSynchronized
  subst hsz
  have hD := hD0.self (sz := s.heap.size)
  generalize hAe : va_A (gW n ty ad f th rt qu b w T g a o) s.heap.size = A at hD ⊢
  have hA : ∀ q : Nat, s.heap.size ≤ q → A q := fun q h => by rw [← hAe]; exact Or.inr h
  have hS : va_S A s.heap s.heap [] := va_S.rf
  have hl := lv_entry ([.ref (ad 0), .int kd, .int (nI q), .ref (ad 21)]) (n := 5) (Nat.le_of_ble_eq_true rfl)
  rw [lg_entry_eq]
  generalize (lg_sl ([.ref (ad 0), .int kd, .int (nI q), .ref (ad 21)]) ++ List.replicate (5 - (lg_sl ([.ref (ad 0), .int kd, .int (nI q), .ref (ad 21)])).length) Slot.unset).toArray = ls at hl ⊢
  have hl : lv_has ls 5 [(0, .ref (ad 0)), (1, .int kd), (2, .int (nI q)), (3, .ref (ad 21))] := hl
  refine lv_aload_n hx hb d_L_make_0 rfl (lv_at hl 3 rfl) ?_
  refine lv_iconst (v := 0) hx hb d_L_make_1 (by decide) ?_
  refine lv_aload_n hx hb d_L_make_2 rfl (lv_at hl 0 rfl) ?_
  refine lv_iload_n hx hb d_L_make_3 rfl (lv_at hl 1 rfl) ?_
  refine lv_iload_n hx hb d_L_make_4 rfl (lv_at hl 2 rfl) ?_
  refine kc_i (va_runV (As := [.int kd, .int (nI q)]) (rest := [.int 0, .ref (ad 21)]) ⟨hx, hb, hml, hown, hts⟩ (c_K_make l D ty ad _ n f th rt qu b w T g a o hn hn3 hf7 kd q h1 h2 hq h5) (cwV 2 hts (kGV kS1 m_L_7 m_im_K_make m_sel_K_make m_ini_K m_code_K_make) rfl rfl rfl (by decide +kernel) ⟨Nat.le_of_ble_eq_true rfl, Nat.le_of_ble_eq_true rfl⟩) ⟨kP_blind, va_recv hK hP (ci := 0) (q0 := 0) rfl gw_0, fun U hU hW => ⟨rfl, kP_at hK hP hD U hU hW⟩⟩ rfl rfl hl.1 rfl (lv_room (Nat.le_of_ble_eq_true rfl)) d_L_make_5 ⟨Nat.le_of_ble_eq_true rfl, Nat.le_of_ble_eq_true rfl⟩) hD hS hA (fun r u H locs hu hP hD hS hz => ?_)
  obtain ⟨rfl, ad2, hA22, rfl⟩ := hu
  rw [← hA22 21 (by omega)]
  rw [← hA22 0 (by omega), ← hA22 21 (by omega)] at hl
  refine lv_i2l (v := (nI n).toInt64) hx hb d_L_make_8 rfl ?_
  refine va_last (f := o) hx hb hK hP hD hS 21 3 gw_21 rfl (by rw [← nI_0]; exact vp_in_nI (N := 1) (by omega) (by omega)) d_L_make_9 (fun H locs hP hD hS => ?_)
  rw [sb_cl0] at hP hD
  have hP := kw_P (gw_so (r := vp_updL o 0 ((nI n).toInt64))) hP
  have hD := kw_D (gw_so (r := vp_updL o 0 ((nI n).toInt64))) hD
  refine lv_goto (tgt := 21) hx hb d_L_make_10 (by decide) ?_
  refine lv_iconst (v := 0) hx hb d_L_make_21 (by decide) ?_
  have hu : (gW (n + 1) ty ad2 (upd (upd f 7 (f 7 + 1)) 8 (f 8 + 1)) (va_up th n true) rt qu b w (va_up T n (kd, 0, -1, q, nf q)) g a (vp_updL o 0 ((nI n).toInt64)) : va_W) = gW (n + 1) ty ad2 (upd (upd f 7 (f 7 + 1)) 8 (f 8 + 1)) (va_up th n true) rt qu b w (va_up T n (kd, 0, -1, q, nf q)) g a (vp_updL o 0 (nI n).toInt64) := rfl
  exact W.iret (v := 0) hx hb hr (fun t ht hW => ⟨⟨_, _, rfl, ⟨rfl, ad2, hA22, hu⟩, by rw [ht]; exact hP, va_K.moved hW.alike hK, hD⟩, hS.F ht⟩) hS.2.2 d_L_make_22
set_option maxHeartbeats 4000000 in
set_option maxRecDepth 100000 in
/-- make, 1 -/
theorem c_L_make_x (l : Launch) (D : va_G) (ty : Nat → ClassId) (ad : Nat → Nat) (sz : Nat) (n : Nat) (f : Nat → Int32) (th : Nat → Bool) (rt qu : Nat → Int32) (b w : SR) (T : Nat → TH) (g : Nat → Int32) (a : Nat → Nat → Int32) (o : Nat → Int64) (kd z : Int32) (hbad : kd < 0 ∨ ¬ kd ≤ 2 ∨ z < 0 ∨ ¬ z ≤ 12 ∨ (kd = 1 ∧ z = 0)) (htr : l.stackTraces = false) : Met l y_L_make w_L_make ({ frames := 7, cells := 1, slots := 6, locals := 106 }) (va_Pc [.ref (ad 0), .int kd, .int z, .ref (ad 21)] (fun U => kP D kCl (kTy ty) (gW n ty ad f th rt qu b w T g a o) sz U ∧ kY (va_A (gW n ty ad f th rt qu b w T g a o) sz) U U.heap)) (va_Qi (fun (r9 : Int32) (u9 : va_W) => r9 = 1 ∧ u9 = gW n ty ad f th rt qu b w T g a o) (kB D kCl (kTy ty) (va_A (gW n ty ad f th rt qu b w T g a o) sz)) (va_A (gW n ty ad f th rt qu b w T g a o) sz)) 1 6 (va_A (gW n ty ad f th rt qu b w T g a o) sz) := by
  refine va_MetW (cc := b_L_make) (maxL := 5) (ret := (some .int)) (by decide) rfl ?_
  intro p e s m args below meth cd s₁ B hml hv
  obtain ⟨rfl, ⟨hsz, hP, hK, hD0⟩, hZ⟩ := hv
  have hx := B.exec
  have hb := B.bytes
  have hr := B.returns
  have hts := atoms_spec (ws := w_L_make) B.pre
  have hown : s.vm.findClass R_L = some m.cls := findClass_of_methodNamed B.named
  have hlocks := B.notSynchronized
  subst hsz
  have hD := hD0.self (sz := s.heap.size)
  generalize hAe : va_A (gW n ty ad f th rt qu b w T g a o) s.heap.size = A at hD hZ ⊢
  have hA : ∀ q : Nat, s.heap.size ≤ q → A q := fun q h => by rw [← hAe]; exact Or.inr h
  have hS : va_S A s.heap s.heap [] := va_S.rf
  have hl := lv_entry ([.ref (ad 0), .int kd, .int z, .ref (ad 21)]) (n := 5) (Nat.le_of_ble_eq_true rfl)
  rw [lg_entry_eq]
  generalize (lg_sl ([.ref (ad 0), .int kd, .int z, .ref (ad 21)]) ++ List.replicate (5 - (lg_sl ([.ref (ad 0), .int kd, .int z, .ref (ad 21)])).length) Slot.unset).toArray = ls at hl ⊢
  have hl : lv_has ls 5 [(0, .ref (ad 0)), (1, .int kd), (2, .int z), (3, .ref (ad 21))] := hl
  have htb : cd.exceptionTable.toList = [⟨0, 10, 13, 13⟩, ⟨0, 10, 17, 15⟩] := kx_table B (hts _ List.mem_cons_self)
  have hpl : e.platform.magicAccessors = ({} : Platform).magicAccessors := by rw [(Stand.of_body B).admits.platform]
  refine lv_aload_n hx hb d_L_make_0 rfl (lv_at hl 3 rfl) ?_
  refine lv_iconst (v := 0) hx hb d_L_make_1 (by decide) ?_
  refine lv_aload_n hx hb d_L_make_2 rfl (lv_at hl 0 rfl) ?_
  refine lv_iload_n hx hb d_L_make_3 rfl (lv_at hl 1 rfl) ?_
  refine lv_iload_n hx hb d_L_make_4 rfl (lv_at hl 2 rfl) ?_
  refine kt_catchW (hpc := 13) (kt_callV (As := [.int kd, .int z]) (rest := [.int 0, .ref (ad 21)]) ⟨hx, hb, hml, hown, hts⟩ (c_K_make_x l D ty ad _ n f th rt qu b w T g a o kd z hbad htr) (cwV 2 hts (kGV kS1 m_L_7 m_im_K_make m_sel_K_make m_ini_K m_code_K_make) rfl rfl rfl (by decide +kernel) ⟨Nat.le_of_ble_eq_true rfl, Nat.le_of_ble_eq_true rfl⟩) ⟨kPZ_blind, va_recv hK hP (ci := 0) (q0 := 0) rfl gw_0, fun U hU hW => ⟨rfl, kP_at hK hP hD U hU hW, hZ.1.at hS (fun q h => by rw [← hAe]; exact h) U hU hW⟩⟩ rfl rfl hl.1 rfl (lv_room (Nat.le_of_ble_eq_true rfl)) d_L_make_5 ⟨Nat.le_of_ble_eq_true rfl, Nat.le_of_ble_eq_true rfl⟩) (fun S x cell hW hcx hcv hcc => by rw [htb]; exact kf_hit hpl hown hW rfl (by decide) (hts _ (kS1 _ m_L_13)) (hZ.1.2.2.use m_cast_IllegalArgumentException) hcx hcv hcc) hP hS (fun x9 H hP hS => ?_)
  refine lv_astore (lv' := [(4, .ref x9), (0, .ref (ad 0)), (1, .int kd), (2, .int z), (3, .ref (ad 21))]) hx hb d_L_make_13 hl (by decide) rfl (fun ls hl => ?_)
  refine lv_iconst (v := 1) hx hb d_L_make_15 (by decide) ?_
  have hu : (gW n ty ad f th rt qu b w T g a o : va_W) = gW n ty ad f th rt qu b w T g a o := rfl
  exact W.iret (v := 1) hx hb hr (fun t ht hW => ⟨⟨_, _, rfl, ⟨rfl, hu⟩, by rw [ht]; exact hP, va_K.moved hW.alike hK, hD⟩, hS.F ht⟩) hS.2.2 d_L_make_16
set_option maxHeartbeats 4000000 in
set_option maxRecDepth 100000 in
/-- make, 2 -/
theorem c_L_make_y (l : Launch) (D : va_G) (ty : Nat → ClassId) (ad : Nat → Nat) (sz : Nat) (n : Nat) (f : Nat → Int32) (th : Nat → Bool) (rt qu : Nat → Int32) (b w : SR) (T : Nat → TH) (g : Nat → Int32) (a : Nat → Nat → Int32) (o : Nat → Int64) (kd z : Int32) (h1 : ¬ kd < 0) (h2 : kd ≤ 2) (h3 : ¬ z < 0) (h4 : z ≤ 12) (h5 : ¬ (kd = 1 ∧ z = 0)) (hful : ¬ f 7 < 300) (htr : l.stackTraces = false) : Met l y_L_make w_L_make ({ frames := 7, cells := 1, slots := 6, locals := 106 }) (va_Pc [.ref (ad 0), .int kd, .int z, .ref (ad 21)] (fun U => kP D kCl (kTy ty) (gW n ty ad f th rt qu b w T g a o) sz U ∧ kY (va_A (gW n ty ad f th rt qu b w T g a o) sz) U U.heap)) (va_Qi (fun (r9 : Int32) (u9 : va_W) => r9 = 2 ∧ u9 = gW n ty ad f th rt qu b w T g a o) (kB D kCl (kTy ty) (va_A (gW n ty ad f th rt qu b w T g a o) sz)) (va_A (gW n ty ad f th rt qu b w T g a o) sz)) 1 6 (va_A (gW n ty ad f th rt qu b w T g a o) sz) := by
  refine va_MetW (cc := b_L_make) (maxL := 5) (ret := (some .int)) (by decide) rfl ?_
  intro p e s m args below meth cd s₁ B hml hv
  obtain ⟨rfl, ⟨hsz, hP, hK, hD0⟩, hZ⟩ := hv
  have hx := B.exec
  have hb := B.bytes
  have hr := B.returns
  have hts := atoms_spec (ws := w_L_make) B.pre
  have hown : s.vm.findClass R_L = some m.cls := findClass_of_methodNamed B.named
  have hlocks := B.notSynchronized
  subst hsz
  have hD := hD0.self (sz := s.heap.size)
  generalize hAe : va_A (gW n ty ad f th rt qu b w T g a o) s.heap.size = A at hD hZ ⊢
  have hA : ∀ q : Nat, s.heap.size ≤ q → A q := fun q h => by rw [← hAe]; exact Or.inr h
  have hS : va_S A s.heap s.heap [] := va_S.rf
  have hl := lv_entry ([.ref (ad 0), .int kd, .int z, .ref (ad 21)]) (n := 5) (Nat.le_of_ble_eq_true rfl)
  rw [lg_entry_eq]
  generalize (lg_sl ([.ref (ad 0), .int kd, .int z, .ref (ad 21)]) ++ List.replicate (5 - (lg_sl ([.ref (ad 0), .int kd, .int z, .ref (ad 21)])).length) Slot.unset).toArray = ls at hl ⊢
  have hl : lv_has ls 5 [(0, .ref (ad 0)), (1, .int kd), (2, .int z), (3, .ref (ad 21))] := hl
  have htb : cd.exceptionTable.toList = [⟨0, 10, 13, 13⟩, ⟨0, 10, 17, 15⟩] := kx_table B (hts _ List.mem_cons_self)
  have hpl : e.platform.magicAccessors = ({} : Platform).magicAccessors := by rw [(Stand.of_body B).admits.platform]
  refine lv_aload_n hx hb d_L_make_0 rfl (lv_at hl 3 rfl) ?_
  refine lv_iconst (v := 0) hx hb d_L_make_1 (by decide) ?_
  refine lv_aload_n hx hb d_L_make_2 rfl (lv_at hl 0 rfl) ?_
  refine lv_iload_n hx hb d_L_make_3 rfl (lv_at hl 1 rfl) ?_
  refine lv_iload_n hx hb d_L_make_4 rfl (lv_at hl 2 rfl) ?_
  refine kt_catchW (hpc := 17) (kt_callV (As := [.int kd, .int z]) (rest := [.int 0, .ref (ad 21)]) ⟨hx, hb, hml, hown, hts⟩ (c_K_make_y l D ty ad _ n f th rt qu b w T g a o kd z h1 h2 h3 h4 h5 hful htr) (cwV 2 hts (kGV kS1 m_L_7 m_im_K_make m_sel_K_make m_ini_K m_code_K_make) rfl rfl rfl (by decide +kernel) ⟨Nat.le_of_ble_eq_true rfl, Nat.le_of_ble_eq_true rfl⟩) ⟨kPZ_blind, va_recv hK hP (ci := 0) (q0 := 0) rfl gw_0, fun U hU hW => ⟨rfl, kP_at hK hP hD U hU hW, hZ.1.at hS (fun q h => by rw [← hAe]; exact h) U hU hW⟩⟩ rfl rfl hl.1 rfl (lv_room (Nat.le_of_ble_eq_true rfl)) d_L_make_5 ⟨Nat.le_of_ble_eq_true rfl, Nat.le_of_ble_eq_true rfl⟩) (fun S x cell hW hcx hcv hcc => by rw [htb]; exact kf_miss hpl hown hW rfl (by decide) (hts _ (kS1 _ m_L_13)) (kNc hZ.2.1 hcc) hcx hcv hcc (fun S' hW' hS' => kf_hit hpl hown hW' rfl (by decide) (hts _ (kS1 _ m_L_15)) (hZ.1.2.2.use m_cast_IllegalStateException) (by rw [hS']; exact hcx) hcv hcc)) hP hS (fun x9 H hP hS => ?_)
  refine lv_astore (lv' := [(4, .ref x9), (0, .ref (ad 0)), (1, .int kd), (2, .int z), (3, .ref (ad 21))]) hx hb d_L_make_17 hl (by decide) rfl (fun ls hl => ?_)
  refine lv_iconst (v := 2) hx hb d_L_make_19 (by decide) ?_
  have hu : (gW n ty ad f th rt qu b w T g a o : va_W) = gW n ty ad f th rt qu b w T g a o := rfl
  exact W.iret (v := 2) hx hb hr (fun t ht hW => ⟨⟨_, _, rfl, ⟨rfl, hu⟩, by rw [ht]; exact hP, va_K.moved hW.alike hK, hD⟩, hS.F ht⟩) hS.2.2 d_L_make_20
set_option maxHeartbeats 4000000 in
set_option maxRecDepth 100000 in
/-- set, where it answers -/
theorem c_L_set_r (l : Launch) (D : va_G) (ty : Nat → ClassId) (ad : Nat → Nat) (sz : Nat) (n : Nat) (f : Nat → Int32) (th : Nat → Bool) (rt qu : Nat → Int32) (b w : SR) (T : Nat → TH) (g : Nat → Int32) (a : Nat → Nat → Int32) (o : Nat → Int64) (hn : ∀ k, th k = true → k < n) (hn3 : n ≤ 300) (k j : Nat) (x : Int32) (hk : th k = true) (hj : j < (T k).2.2.2.1) (h12 : (T k).2.2.2.1 ≤ 12) (hx0 : x = -1 ∨ tOk th x = true) : Met l y_L_set w_L_set ({ frames := 4, cells := 0, slots := 0, locals := 91 }) (va_Pc [.ref (ad 0), .int (nI k), .int (nI j), .int x, .ref (ad 21)] (kP D kCl (kTy ty) (gW n ty ad f th rt qu b w T g a o) sz)) (va_Qi (fun (r9 : Int32) (u9 : va_W) => r9 = 0 ∧ u9 = gW n ty ad f th rt qu b w (va_up T k ((T k).1, (T k).2.1, (T k).2.2.1, (T k).2.2.2.1, upd (T k).2.2.2.2 j x)) g a (vp_updL o 0 ((T k).2.2.2.2 j).toInt64)) (kB D kCl (kTy ty) (va_A (gW n ty ad f th rt qu b w T g a o) sz)) (va_A (gW n ty ad f th rt qu b w T g a o) sz)) 0 0 (va_A (gW n ty ad f th rt qu b w T g a o) sz) := by
  refine va_MetW (cc := b_L_set) (maxL := 6) (ret := (some .int)) (by decide) rfl ?_
  intro p e s m args below meth cd s₁ B hml hv
  obtain ⟨rfl, hsz, hP, hK, hD0⟩ := hv
  have hx := B.exec
  have hb := B.bytes
  have hr := B.returns
  have hts := atoms_spec (ws := w_L_set) B.pre
  have hown : s.vm.findClass R_L = some m.cls := findClass_of_methodNamed B.named
  have hlocks := B.notSynchronized
  subst hsz
  have hD := hD0.self (sz := s.heap.size)
  generalize hAe : va_A (gW n ty ad f th rt qu b w T g a o) s.heap.size = A at hD ⊢
  have hA : ∀ q : Nat, s.heap.size ≤ q → A q := fun q h => by rw [← hAe]; exact Or.inr h
  have hS : va_S A s.heap s.heap [] := va_S.rf
  have hl := lv_entry ([.ref (ad 0), .int (nI k), .int (nI j), .int x, .ref (ad 21)]) (n := 6) (Nat.le_of_ble_eq_true rfl)
  rw [lg_entry_eq]
  generalize (lg_sl ([.ref (ad 0), .int (nI k), .int (nI j), .int x, .ref (ad 21)]) ++ List.replicate (6 - (lg_sl ([.ref (ad 0), .int (nI k), .int (nI j), .int x, .ref (ad 21)])).length) Slot.unset).toArray = ls at hl ⊢
  have hl : lv_has ls 6 [(0, .ref (ad 0)), (1, .int (nI k)), (2, .int (nI j)), (3, .int x), (4, .ref (ad 21))] := hl
  refine lv_aload hx hb d_L_set_0 (lv_at hl 4 rfl) ?_
  refine lv_iconst (v := 0) hx hb d_L_set_2 (by decide) ?_
  refine lv_aload_n hx hb d_L_set_3 rfl (lv_at hl 0 rfl) ?_
  refine lv_iload_n hx hb d_L_set_4 rfl (lv_at hl 1 rfl) ?_
  refine lv_iload_n hx hb d_L_set_5 rfl (lv_at hl 2 rfl) ?_
  refine lv_iload_n hx hb d_L_set_6 rfl (lv_at hl 3 rfl) ?_
  refine kc_i (va_runV (As := [.int (nI k), .int (nI j), .int x]) (rest := [.int 0, .ref (ad 21)]) ⟨hx, hb, hml, hown, hts⟩ (c_K_set l D ty ad _ n f th rt qu b w T g a o hn hn3 k j x hk hj h12 hx0) (cwV 3 hts (kGV kS1 m_L_17 m_im_K_set m_sel_K_set m_ini_K m_code_K_set) rfl rfl rfl (by decide +kernel) ⟨Nat.le_of_ble_eq_true rfl, Nat.le_of_ble_eq_true rfl⟩) ⟨kP_blind, va_recv hK hP (ci := 0) (q0 := 0) rfl gw_0, fun U hU hW => ⟨rfl, kP_at hK hP hD U hU hW⟩⟩ rfl rfl hl.1 rfl (lv_room (Nat.le_of_ble_eq_true rfl)) d_L_set_7 ⟨Nat.le_of_ble_eq_true rfl, Nat.le_of_ble_eq_true rfl⟩) hD hS hA (fun r u H locs hu hP hD hS hz => ?_)
  obtain ⟨rfl, rfl⟩ := hu
  refine lv_i2l (v := ((T k).2.2.2.2 j).toInt64) hx hb d_L_set_10 rfl ?_
  refine va_last (f := o) hx hb hK hP hD hS 21 3 gw_21 rfl (by rw [← nI_0]; exact vp_in_nI (N := 1) (by omega) (by omega)) d_L_set_11 (fun H locs hP hD hS => ?_)
  rw [sb_cl0] at hP hD
  have hP := kw_P (gw_so (r := vp_updL o 0 (((T k).2.2.2.2 j).toInt64))) hP
  have hD := kw_D (gw_so (r := vp_updL o 0 (((T k).2.2.2.2 j).toInt64))) hD
  refine lv_goto (tgt := 19) hx hb d_L_set_12 (by decide) ?_
  refine lv_iconst (v := 0) hx hb d_L_set_19 (by decide) ?_
  have hu : (gW n ty ad f th rt qu b w (va_up T k ((T k).1, (T k).2.1, (T k).2.2.1, (T k).2.2.2.1, upd (T k).2.2.2.2 j x)) g a (vp_updL o 0 (((T k).2.2.2.2 j).toInt64)) : va_W) = gW n ty ad f th rt qu b w (va_up T k ((T k).1, (T k).2.1, (T k).2.2.1, (T k).2.2.2.1, upd (T k).2.2.2.2 j x)) g a (vp_updL o 0 ((T k).2.2.2.2 j).toInt64) := rfl
  exact W.iret (v := 0) hx hb hr (fun t ht hW => ⟨⟨_, _, rfl, ⟨rfl, hu⟩, by rw [ht]; exact hP, va_K.moved hW.alike hK, hD⟩, hS.F ht⟩) hS.2.2 d_L_set_20
set_option maxHeartbeats 4000000 in
set_option maxRecDepth 100000 in
/-- set, 1 -/
theorem c_L_set_x (l : Launch) (D : va_G) (ty : Nat → ClassId) (ad : Nat → Nat) (sz : Nat) (n : Nat) (f : Nat → Int32) (th : Nat → Bool) (rt qu : Nat → Int32) (b w : SR) (T : Nat → TH) (g : Nat → Int32) (a : Nat → Nat → Int32) (o : Nat → Int64) (x : Int32) (hno : ¬ tOk th x = true) (y z : Int32) (htr : l.stackTraces = false) : Met l y_L_set w_L_set ({ frames := 9, cells := 1, slots := 6, locals := 153 }) (va_Pc [.ref (ad 0), .int x, .int y, .int z, .ref (ad 21)] (fun U => kP D kCl (kTy ty) (gW n ty ad f th rt qu b w T g a o) sz U ∧ kY (va_A (gW n ty ad f th rt qu b w T g a o) sz) U U.heap)) (va_Qi (fun (r9 : Int32) (u9 : va_W) => r9 = 1 ∧ u9 = gW n ty ad f th rt qu b w T g a o) (kB D kCl (kTy ty) (va_A (gW n ty ad f th rt qu b w T g a o) sz)) (va_A (gW n ty ad f th rt qu b w T g a o) sz)) 1 6 (va_A (gW n ty ad f th rt qu b w T g a o) sz) := by
  refine va_MetW (cc := b_L_set) (maxL := 6) (ret := (some .int)) (by decide) rfl ?_
  intro p e s m args below meth cd s₁ B hml hv
  obtain ⟨rfl, ⟨hsz, hP, hK, hD0⟩, hZ⟩ := hv
  have hx := B.exec
  have hb := B.bytes
  have hr := B.returns
  have hts := atoms_spec (ws := w_L_set) B.pre
  have hown : s.vm.findClass R_L = some m.cls := findClass_of_methodNamed B.named
  have hlocks := B.notSynchronized
  subst hsz
  have hD := hD0.self (sz := s.heap.size)
  generalize hAe : va_A (gW n ty ad f th rt qu b w T g a o) s.heap.size = A at hD hZ ⊢
  have hA : ∀ q : Nat, s.heap.size ≤ q → A q := fun q h => by rw [← hAe]; exact Or.inr h
  have hS : va_S A s.heap s.heap [] := va_S.rf
  have hl := lv_entry ([.ref (ad 0), .int x, .int y, .int z, .ref (ad 21)]) (n := 6) (Nat.le_of_ble_eq_true rfl)
  rw [lg_entry_eq]
  generalize (lg_sl ([.ref (ad 0), .int x, .int y, .int z, .ref (ad 21)]) ++ List.replicate (6 - (lg_sl ([.ref (ad 0), .int x, .int y, .int z, .ref (ad 21)])).length) Slot.unset).toArray = ls at hl ⊢
  have hl : lv_has ls 6 [(0, .ref (ad 0)), (1, .int x), (2, .int y), (3, .int z), (4, .ref (ad 21))] := hl
  have htb : cd.exceptionTable.toList = [⟨0, 12, 15, 21⟩] := kx_table B (hts _ List.mem_cons_self)
  have hpl : e.platform.magicAccessors = ({} : Platform).magicAccessors := by rw [(Stand.of_body B).admits.platform]
  refine lv_aload hx hb d_L_set_0 (lv_at hl 4 rfl) ?_
  refine lv_iconst (v := 0) hx hb d_L_set_2 (by decide) ?_
  refine lv_aload_n hx hb d_L_set_3 rfl (lv_at hl 0 rfl) ?_
  refine lv_iload_n hx hb d_L_set_4 rfl (lv_at hl 1 rfl) ?_
  refine lv_iload_n hx hb d_L_set_5 rfl (lv_at hl 2 rfl) ?_
  refine lv_iload_n hx hb d_L_set_6 rfl (lv_at hl 3 rfl) ?_
  refine kt_catchW (hpc := 15) (kt_callV (As := [.int x, .int y, .int z]) (rest := [.int 0, .ref (ad 21)]) ⟨hx, hb, hml, hown, hts⟩ (c_K_set_x l D ty ad _ n f th rt qu b w T g a o x hno y z htr) (cwV 3 hts (kGV kS1 m_L_17 m_im_K_set m_sel_K_set m_ini_K m_code_K_set) rfl rfl rfl (by decide +kernel) ⟨Nat.le_of_ble_eq_true rfl, Nat.le_of_ble_eq_true rfl⟩) ⟨kPZ_blind, va_recv hK hP (ci := 0) (q0 := 0) rfl gw_0, fun U hU hW => ⟨rfl, kP_at hK hP hD U hU hW, hZ.1.at hS (fun q h => by rw [← hAe]; exact h) U hU hW⟩⟩ rfl rfl hl.1 rfl (lv_room (Nat.le_of_ble_eq_true rfl)) d_L_set_7 ⟨Nat.le_of_ble_eq_true rfl, Nat.le_of_ble_eq_true rfl⟩) (fun S x cell hW hcx hcv hcc => by rw [htb]; exact kf_hit hpl hown hW rfl (by decide) (hts _ (kS1 _ m_L_21)) (hZ.1.2.2.use m_cast_NoSuchElementException) hcx hcv hcc) hP hS (fun x9 H hP hS => ?_)
  refine lv_astore (lv' := [(5, .ref x9), (0, .ref (ad 0)), (1, .int x), (2, .int y), (3, .int z), (4, .ref (ad 21))]) hx hb d_L_set_15 hl (by decide) rfl (fun ls hl => ?_)
  refine lv_iconst (v := 1) hx hb d_L_set_17 (by decide) ?_
  have hu : (gW n ty ad f th rt qu b w T g a o : va_W) = gW n ty ad f th rt qu b w T g a o := rfl
  exact W.iret (v := 1) hx hb hr (fun t ht hW => ⟨⟨_, _, rfl, ⟨rfl, hu⟩, by rw [ht]; exact hP, va_K.moved hW.alike hK, hD⟩, hS.F ht⟩) hS.2.2 d_L_set_18
set_option maxHeartbeats 4000000 in
set_option maxRecDepth 100000 in
/-- set, 1 -/
theorem c_L_set_y (l : Launch) (D : va_G) (ty : Nat → ClassId) (ad : Nat → Nat) (sz : Nat) (n : Nat) (f : Nat → Int32) (th : Nat → Bool) (rt qu : Nat → Int32) (b w : SR) (T : Nat → TH) (g : Nat → Int32) (a : Nat → Nat → Int32) (o : Nat → Int64) (hn : ∀ k, th k = true → k < n) (hn3 : n ≤ 300) (k : Nat) (y : Int32) (hk : th k = true) (hnf : tHasF (T k).2.2.2.1 y = 0) (z : Int32) (htr : l.stackTraces = false) : Met l y_L_set w_L_set ({ frames := 8, cells := 1, slots := 6, locals := 131 }) (va_Pc [.ref (ad 0), .int (nI k), .int y, .int z, .ref (ad 21)] (fun U => kP D kCl (kTy ty) (gW n ty ad f th rt qu b w T g a o) sz U ∧ kY (va_A (gW n ty ad f th rt qu b w T g a o) sz) U U.heap)) (va_Qi (fun (r9 : Int32) (u9 : va_W) => r9 = 1 ∧ u9 = gW n ty ad f th rt qu b w T g a o) (kB D kCl (kTy ty) (va_A (gW n ty ad f th rt qu b w T g a o) sz)) (va_A (gW n ty ad f th rt qu b w T g a o) sz)) 1 6 (va_A (gW n ty ad f th rt qu b w T g a o) sz) := by
  refine va_MetW (cc := b_L_set) (maxL := 6) (ret := (some .int)) (by decide) rfl ?_
  intro p e s m args below meth cd s₁ B hml hv
  obtain ⟨rfl, ⟨hsz, hP, hK, hD0⟩, hZ⟩ := hv
  have hx := B.exec
  have hb := B.bytes
  have hr := B.returns
  have hts := atoms_spec (ws := w_L_set) B.pre
  have hown : s.vm.findClass R_L = some m.cls := findClass_of_methodNamed B.named
  have hlocks := B.notSynchronized
  subst hsz
  have hD := hD0.self (sz := s.heap.size)
  generalize hAe : va_A (gW n ty ad f th rt qu b w T g a o) s.heap.size = A at hD hZ ⊢
  have hA : ∀ q : Nat, s.heap.size ≤ q → A q := fun q h => by rw [← hAe]; exact Or.inr h
  have hS : va_S A s.heap s.heap [] := va_S.rf
  have hl := lv_entry ([.ref (ad 0), .int (nI k), .int y, .int z, .ref (ad 21)]) (n := 6) (Nat.le_of_ble_eq_true rfl)
  rw [lg_entry_eq]
  generalize (lg_sl ([.ref (ad 0), .int (nI k), .int y, .int z, .ref (ad 21)]) ++ List.replicate (6 - (lg_sl ([.ref (ad 0), .int (nI k), .int y, .int z, .ref (ad 21)])).length) Slot.unset).toArray = ls at hl ⊢
  have hl : lv_has ls 6 [(0, .ref (ad 0)), (1, .int (nI k)), (2, .int y), (3, .int z), (4, .ref (ad 21))] := hl
  have htb : cd.exceptionTable.toList = [⟨0, 12, 15, 21⟩] := kx_table B (hts _ List.mem_cons_self)
  have hpl : e.platform.magicAccessors = ({} : Platform).magicAccessors := by rw [(Stand.of_body B).admits.platform]
  refine lv_aload hx hb d_L_set_0 (lv_at hl 4 rfl) ?_
  refine lv_iconst (v := 0) hx hb d_L_set_2 (by decide) ?_
  refine lv_aload_n hx hb d_L_set_3 rfl (lv_at hl 0 rfl) ?_
  refine lv_iload_n hx hb d_L_set_4 rfl (lv_at hl 1 rfl) ?_
  refine lv_iload_n hx hb d_L_set_5 rfl (lv_at hl 2 rfl) ?_
  refine lv_iload_n hx hb d_L_set_6 rfl (lv_at hl 3 rfl) ?_
  refine kt_catchW (hpc := 15) (kt_callV (As := [.int (nI k), .int y, .int z]) (rest := [.int 0, .ref (ad 21)]) ⟨hx, hb, hml, hown, hts⟩ (c_K_set_y l D ty ad _ n f th rt qu b w T g a o hn hn3 k y hk hnf z htr) (cwV 3 hts (kGV kS1 m_L_17 m_im_K_set m_sel_K_set m_ini_K m_code_K_set) rfl rfl rfl (by decide +kernel) ⟨Nat.le_of_ble_eq_true rfl, Nat.le_of_ble_eq_true rfl⟩) ⟨kPZ_blind, va_recv hK hP (ci := 0) (q0 := 0) rfl gw_0, fun U hU hW => ⟨rfl, kP_at hK hP hD U hU hW, hZ.1.at hS (fun q h => by rw [← hAe]; exact h) U hU hW⟩⟩ rfl rfl hl.1 rfl (lv_room (Nat.le_of_ble_eq_true rfl)) d_L_set_7 ⟨Nat.le_of_ble_eq_true rfl, Nat.le_of_ble_eq_true rfl⟩) (fun S x cell hW hcx hcv hcc => by rw [htb]; exact kf_hit hpl hown hW rfl (by decide) (hts _ (kS1 _ m_L_21)) (hZ.1.2.2.use m_cast_NoSuchElementException) hcx hcv hcc) hP hS (fun x9 H hP hS => ?_)
  refine lv_astore (lv' := [(5, .ref x9), (0, .ref (ad 0)), (1, .int (nI k)), (2, .int y), (3, .int z), (4, .ref (ad 21))]) hx hb d_L_set_15 hl (by decide) rfl (fun ls hl => ?_)
  refine lv_iconst (v := 1) hx hb d_L_set_17 (by decide) ?_
  have hu : (gW n ty ad f th rt qu b w T g a o : va_W) = gW n ty ad f th rt qu b w T g a o := rfl
  exact W.iret (v := 1) hx hb hr (fun t ht hW => ⟨⟨_, _, rfl, ⟨rfl, hu⟩, by rw [ht]; exact hP, va_K.moved hW.alike hK, hD⟩, hS.F ht⟩) hS.2.2 d_L_set_18
set_option maxHeartbeats 4000000 in
set_option maxRecDepth 100000 in
/-- set, 1 -/
theorem c_L_set_z (l : Launch) (D : va_G) (ty : Nat → ClassId) (ad : Nat → Nat) (sz : Nat) (n : Nat) (f : Nat → Int32) (th : Nat → Bool) (rt qu : Nat → Int32) (b w : SR) (T : Nat → TH) (g : Nat → Int32) (a : Nat → Nat → Int32) (o : Nat → Int64) (hn : ∀ k, th k = true → k < n) (hn3 : n ≤ 300) (k j : Nat) (hk : th k = true) (hj : j < (T k).2.2.2.1) (h12 : (T k).2.2.2.1 ≤ 12) (x : Int32) (hno : ¬ tOk th x = true) (hm : ¬ x = -1) (htr : l.stackTraces = false) : Met l y_L_set w_L_set ({ frames := 8, cells := 1, slots := 6, locals := 129 }) (va_Pc [.ref (ad 0), .int (nI k), .int (nI j), .int x, .ref (ad 21)] (fun U => kP D kCl (kTy ty) (gW n ty ad f th rt qu b w T g a o) sz U ∧ kY (va_A (gW n ty ad f th rt qu b w T g a o) sz) U U.heap)) (va_Qi (fun (r9 : Int32) (u9 : va_W) => r9 = 1 ∧ u9 = gW n ty ad f th rt qu b w T g a o) (kB D kCl (kTy ty) (va_A (gW n ty ad f th rt qu b w T g a o) sz)) (va_A (gW n ty ad f th rt qu b w T g a o) sz)) 1 6 (va_A (gW n ty ad f th rt qu b w T g a o) sz) := by
  refine va_MetW (cc := b_L_set) (maxL := 6) (ret := (some .int)) (by decide) rfl ?_
  intro p e s m args below meth cd s₁ B hml hv
  obtain ⟨rfl, ⟨hsz, hP, hK, hD0⟩, hZ⟩ := hv
  have hx := B.exec
  have hb := B.bytes
  have hr := B.returns
  have hts := atoms_spec (ws := w_L_set) B.pre
  have hown : s.vm.findClass R_L = some m.cls := findClass_of_methodNamed B.named
  have hlocks := B.notSynchronized
  subst hsz
  have hD := hD0.self (sz := s.heap.size)
  generalize hAe : va_A (gW n ty ad f th rt qu b w T g a o) s.heap.size = A at hD hZ ⊢
  have hA : ∀ q : Nat, s.heap.size ≤ q → A q := fun q h => by rw [← hAe]; exact Or.inr h
  have hS : va_S A s.heap s.heap [] := va_S.rf
  have hl := lv_entry ([.ref (ad 0), .int (nI k), .int (nI j), .int x, .ref (ad 21)]) (n := 6) (Nat.le_of_ble_eq_true rfl)
  rw [lg_entry_eq]
  generalize (lg_sl ([.ref (ad 0), .int (nI k), .int (nI j), .int x, .ref (ad 21)]) ++ List.replicate (6 - (lg_sl ([.ref (ad 0), .int (nI k), .int (nI j), .int x, .ref (ad 21)])).length) Slot.unset).toArray = ls at hl ⊢
  have hl : lv_has ls 6 [(0, .ref (ad 0)), (1, .int (nI k)), (2, .int (nI j)), (3, .int x), (4, .ref (ad 21))] := hl
  have htb : cd.exceptionTable.toList = [⟨0, 12, 15, 21⟩] := kx_table B (hts _ List.mem_cons_self)
  have hpl : e.platform.magicAccessors = ({} : Platform).magicAccessors := by rw [(Stand.of_body B).admits.platform]
  refine lv_aload hx hb d_L_set_0 (lv_at hl 4 rfl) ?_
  refine lv_iconst (v := 0) hx hb d_L_set_2 (by decide) ?_
  refine lv_aload_n hx hb d_L_set_3 rfl (lv_at hl 0 rfl) ?_
  refine lv_iload_n hx hb d_L_set_4 rfl (lv_at hl 1 rfl) ?_
  refine lv_iload_n hx hb d_L_set_5 rfl (lv_at hl 2 rfl) ?_
  refine lv_iload_n hx hb d_L_set_6 rfl (lv_at hl 3 rfl) ?_
  refine kt_catchW (hpc := 15) (kt_callV (As := [.int (nI k), .int (nI j), .int x]) (rest := [.int 0, .ref (ad 21)]) ⟨hx, hb, hml, hown, hts⟩ (c_K_set_z l D ty ad _ n f th rt qu b w T g a o hn hn3 k j hk hj h12 x hno hm htr) (cwV 3 hts (kGV kS1 m_L_17 m_im_K_set m_sel_K_set m_ini_K m_code_K_set) rfl rfl rfl (by decide +kernel) ⟨Nat.le_of_ble_eq_true rfl, Nat.le_of_ble_eq_true rfl⟩) ⟨kPZ_blind, va_recv hK hP (ci := 0) (q0 := 0) rfl gw_0, fun U hU hW => ⟨rfl, kP_at hK hP hD U hU hW, hZ.1.at hS (fun q h => by rw [← hAe]; exact h) U hU hW⟩⟩ rfl rfl hl.1 rfl (lv_room (Nat.le_of_ble_eq_true rfl)) d_L_set_7 ⟨Nat.le_of_ble_eq_true rfl, Nat.le_of_ble_eq_true rfl⟩) (fun S x cell hW hcx hcv hcc => by rw [htb]; exact kf_hit hpl hown hW rfl (by decide) (hts _ (kS1 _ m_L_21)) (hZ.1.2.2.use m_cast_NoSuchElementException) hcx hcv hcc) hP hS (fun x9 H hP hS => ?_)
  refine lv_astore (lv' := [(5, .ref x9), (0, .ref (ad 0)), (1, .int (nI k)), (2, .int (nI j)), (3, .int x), (4, .ref (ad 21))]) hx hb d_L_set_15 hl (by decide) rfl (fun ls hl => ?_)
  refine lv_iconst (v := 1) hx hb d_L_set_17 (by decide) ?_
  have hu : (gW n ty ad f th rt qu b w T g a o : va_W) = gW n ty ad f th rt qu b w T g a o := rfl
  exact W.iret (v := 1) hx hb hr (fun t ht hW => ⟨⟨_, _, rfl, ⟨rfl, hu⟩, by rw [ht]; exact hP, va_K.moved hW.alike hK, hD⟩, hS.F ht⟩) hS.2.2 d_L_set_18
set_option maxHeartbeats 4000000 in
set_option maxRecDepth 100000 in
/-- get, where it answers -/
theorem c_L_get_r (l : Launch) (D : va_G) (ty : Nat → ClassId) (ad : Nat → Nat) (sz : Nat) (n : Nat) (f : Nat → Int32) (th : Nat → Bool) (rt qu : Nat → Int32) (b w : SR) (T : Nat → TH) (g : Nat → Int32) (a : Nat → Nat → Int32) (o : Nat → Int64) (hn : ∀ k, th k = true → k < n) (hn3 : n ≤ 300) (k j : Nat) (hk : th k = true) (hj : j < (T k).2.2.2.1) (h12 : (T k).2.2.2.1 ≤ 12) : Met l y_L_get w_L_get ({ frames := 4, cells := 0, slots := 0, locals := 88 }) (va_Pc [.ref (ad 0), .int (nI k), .int (nI j), .ref (ad 21)] (kP D kCl (kTy ty) (gW n ty ad f th rt qu b w T g a o) sz)) (va_Qi (fun (r9 : Int32) (u9 : va_W) => r9 = 0 ∧ u9 = gW n ty ad f th rt qu b w T g a (vp_updL o 0 ((T k).2.2.2.2 j).toInt64)) (kB D kCl (kTy ty) (va_A (gW n ty ad f th rt qu b w T g a o) sz)) (va_A (gW n ty ad f th rt qu b w T g a o) sz)) 0 0 (va_A (gW n ty ad f th rt qu b w T g a o) sz) := by
  refine va_MetW (cc := b_L_get) (maxL := 5) (ret := (some .int)) (by decide) rfl ?_
  intro p e s m args below meth cd s₁ B hml hv
  obtain ⟨rfl, hsz, hP, hK, hD0⟩ := hv
  have hx := B.exec
  have hb := B.bytes
  have hr := B.returns
  have hts := atoms_spec (ws := w_L_get) B.pre
  have hown : s.vm.findClass R_L = some m.cls := findClass_of_methodNamed B.named
  have hlocks := B.notSynchronized
  subst hsz
  have hD := hD0.self (sz := s.heap.size)
  generalize hAe : va_A (gW n ty ad f th rt qu b w T g a o) s.heap.size = A at hD ⊢
  have hA : ∀ q : Nat, s.heap.size ≤ q → A q := fun q h => by rw [← hAe]; exact Or.inr h
  have hS : va_S A s.heap s.heap [] := va_S.rf
  have hl := lv_entry ([.ref (ad 0), .int (nI k), .int (nI j), .ref (ad 21)]) (n := 5) (Nat.le_of_ble_eq_true rfl)
  rw [lg_entry_eq]
  generalize (lg_sl ([.ref (ad 0), .int (nI k), .int (nI j), .ref (ad 21)]) ++ List.replicate (5 - (lg_sl ([.ref (ad 0), .int (nI k), .int (nI j), .ref (ad 21)])).length) Slot.unset).toArray = ls at hl ⊢
  have hl : lv_has ls 5 [(0, .ref (ad 0)), (1, .int (nI k)), (2, .int (nI j)), (3, .ref (ad 21))] := hl
  refine lv_aload_n hx hb d_L_get_0 rfl (lv_at hl 3 rfl) ?_
  refine lv_iconst (v := 0) hx hb d_L_get_1 (by decide) ?_
  refine lv_aload_n hx hb d_L_get_2 rfl (lv_at hl 0 rfl) ?_
  refine lv_iload_n hx hb d_L_get_3 rfl (lv_at hl 1 rfl) ?_
  refine lv_iload_n hx hb d_L_get_4 rfl (lv_at hl 2 rfl) ?_
  refine kc_R (va_runV (As := [.int (nI k), .int (nI j)]) (rest := [.int 0, .ref (ad 21)]) ⟨hx, hb, hml, hown, hts⟩ (c_K_get l D ty ad _ n f th rt qu b w T g a o hn hn3 k j hk hj h12) (cwV 2 hts (kGV kS1 m_L_23 m_im_K_get m_sel_K_get m_ini_K m_code_K_get) rfl rfl rfl (by decide +kernel) ⟨Nat.le_of_ble_eq_true rfl, Nat.le_of_ble_eq_true rfl⟩) ⟨kP_blind, va_recv hK hP (ci := 0) (q0 := 0) rfl gw_0, fun U hU hW => ⟨rfl, kP_at hK hP hD U hU hW⟩⟩ rfl rfl hl.1 rfl (lv_room (Nat.le_of_ble_eq_true rfl)) d_L_get_5 ⟨Nat.le_of_ble_eq_true rfl, Nat.le_of_ble_eq_true rfl⟩) ?_
  refine lv_i2l (v := ((T k).2.2.2.2 j).toInt64) hx hb d_L_get_8 rfl ?_
  refine va_last (f := o) hx hb hK hP hD hS 21 3 gw_21 rfl (by rw [← nI_0]; exact vp_in_nI (N := 1) (by omega) (by omega)) d_L_get_9 (fun H locs hP hD hS => ?_)
  rw [sb_cl0] at hP hD
  have hP := kw_P (gw_so (r := vp_updL o 0 (((T k).2.2.2.2 j).toInt64))) hP
  have hD := kw_D (gw_so (r := vp_updL o 0 (((T k).2.2.2.2 j).toInt64))) hD
  refine lv_goto (tgt := 17) hx hb d_L_get_10 (by decide) ?_
  refine lv_iconst (v := 0) hx hb d_L_get_17 (by decide) ?_
  have hu : (gW n ty ad f th rt qu b w T g a (vp_updL o 0 (((T k).2.2.2.2 j).toInt64)) : va_W) = gW n ty ad f th rt qu b w T g a (vp_updL o 0 ((T k).2.2.2.2 j).toInt64) := rfl
  exact W.iret (v := 0) hx hb hr (fun t ht hW => ⟨⟨_, _, rfl, ⟨rfl, hu⟩, by rw [ht]; exact hP, va_K.moved hW.alike hK, hD⟩, hS.F ht⟩) hS.2.2 d_L_get_18
set_option maxHeartbeats 4000000 in
set_option maxRecDepth 100000 in
/-- get, 1 -/
theorem c_L_get_x (l : Launch) (D : va_G) (ty : Nat → ClassId) (ad : Nat → Nat) (sz : Nat) (n : Nat) (f : Nat → Int32) (th : Nat → Bool) (rt qu : Nat → Int32) (b w : SR) (T : Nat → TH) (g : Nat → Int32) (a : Nat → Nat → Int32) (o : Nat → Int64) (x : Int32) (hno : ¬ tOk th x = true) (y : Int32) (htr : l.stackTraces = false) : Met l y_L_get w_L_get ({ frames := 9, cells := 1, slots := 6, locals := 150 }) (va_Pc [.ref (ad 0), .int x, .int y, .ref (ad 21)] (fun U => kP D kCl (kTy ty) (gW n ty ad f th rt qu b w T g a o) sz U ∧ kY (va_A (gW n ty ad f th rt qu b w T g a o) sz) U U.heap)) (va_Qi (fun (r9 : Int32) (u9 : va_W) => r9 = 1 ∧ u9 = gW n ty ad f th rt qu b w T g a o) (kB D kCl (kTy ty) (va_A (gW n ty ad f th rt qu b w T g a o) sz)) (va_A (gW n ty ad f th rt qu b w T g a o) sz)) 1 6 (va_A (gW n ty ad f th rt qu b w T g a o) sz) := by
  refine va_MetW (cc := b_L_get) (maxL := 5) (ret := (some .int)) (by decide) rfl ?_
  intro p e s m args below meth cd s₁ B hml hv
  obtain ⟨rfl, ⟨hsz, hP, hK, hD0⟩, hZ⟩ := hv
  have hx := B.exec
  have hb := B.bytes
  have hr := B.returns
  have hts := atoms_spec (ws := w_L_get) B.pre
  have hown : s.vm.findClass R_L = some m.cls := findClass_of_methodNamed B.named
  have hlocks := B.notSynchronized
  subst hsz
  have hD := hD0.self (sz := s.heap.size)
  generalize hAe : va_A (gW n ty ad f th rt qu b w T g a o) s.heap.size = A at hD hZ ⊢
  have hA : ∀ q : Nat, s.heap.size ≤ q → A q := fun q h => by rw [← hAe]; exact Or.inr h
  have hS : va_S A s.heap s.heap [] := va_S.rf
  have hl := lv_entry ([.ref (ad 0), .int x, .int y, .ref (ad 21)]) (n := 5) (Nat.le_of_ble_eq_true rfl)
  rw [lg_entry_eq]
  generalize (lg_sl ([.ref (ad 0), .int x, .int y, .ref (ad 21)]) ++ List.replicate (5 - (lg_sl ([.ref (ad 0), .int x, .int y, .ref (ad 21)])).length) Slot.unset).toArray = ls at hl ⊢
  have hl : lv_has ls 5 [(0, .ref (ad 0)), (1, .int x), (2, .int y), (3, .ref (ad 21))] := hl
  have htb : cd.exceptionTable.toList = [⟨0, 10, 13, 21⟩] := kx_table B (hts _ List.mem_cons_self)
  have hpl : e.platform.magicAccessors = ({} : Platform).magicAccessors := by rw [(Stand.of_body B).admits.platform]
  refine lv_aload_n hx hb d_L_get_0 rfl (lv_at hl 3 rfl) ?_
  refine lv_iconst (v := 0) hx hb d_L_get_1 (by decide) ?_
  refine lv_aload_n hx hb d_L_get_2 rfl (lv_at hl 0 rfl) ?_
  refine lv_iload_n hx hb d_L_get_3 rfl (lv_at hl 1 rfl) ?_
  refine lv_iload_n hx hb d_L_get_4 rfl (lv_at hl 2 rfl) ?_
  refine kt_catchW (hpc := 13) (kt_callV (As := [.int x, .int y]) (rest := [.int 0, .ref (ad 21)]) ⟨hx, hb, hml, hown, hts⟩ (c_K_get_x l D ty ad _ n f th rt qu b w T g a o x hno y htr) (cwV 2 hts (kGV kS1 m_L_23 m_im_K_get m_sel_K_get m_ini_K m_code_K_get) rfl rfl rfl (by decide +kernel) ⟨Nat.le_of_ble_eq_true rfl, Nat.le_of_ble_eq_true rfl⟩) ⟨kPZ_blind, va_recv hK hP (ci := 0) (q0 := 0) rfl gw_0, fun U hU hW => ⟨rfl, kP_at hK hP hD U hU hW, hZ.1.at hS (fun q h => by rw [← hAe]; exact h) U hU hW⟩⟩ rfl rfl hl.1 rfl (lv_room (Nat.le_of_ble_eq_true rfl)) d_L_get_5 ⟨Nat.le_of_ble_eq_true rfl, Nat.le_of_ble_eq_true rfl⟩) (fun S x cell hW hcx hcv hcc => by rw [htb]; exact kf_hit hpl hown hW rfl (by decide) (hts _ (kS1 _ m_L_21)) (hZ.1.2.2.use m_cast_NoSuchElementException) hcx hcv hcc) hP hS (fun x9 H hP hS => ?_)
  refine lv_astore (lv' := [(4, .ref x9), (0, .ref (ad 0)), (1, .int x), (2, .int y), (3, .ref (ad 21))]) hx hb d_L_get_13 hl (by decide) rfl (fun ls hl => ?_)
  refine lv_iconst (v := 1) hx hb d_L_get_15 (by decide) ?_
  have hu : (gW n ty ad f th rt qu b w T g a o : va_W) = gW n ty ad f th rt qu b w T g a o := rfl
  exact W.iret (v := 1) hx hb hr (fun t ht hW => ⟨⟨_, _, rfl, ⟨rfl, hu⟩, by rw [ht]; exact hP, va_K.moved hW.alike hK, hD⟩, hS.F ht⟩) hS.2.2 d_L_get_16
set_option maxHeartbeats 4000000 in
set_option maxRecDepth 100000 in
/-- get, 1 -/
theorem c_L_get_y (l : Launch) (D : va_G) (ty : Nat → ClassId) (ad : Nat → Nat) (sz : Nat) (n : Nat) (f : Nat → Int32) (th : Nat → Bool) (rt qu : Nat → Int32) (b w : SR) (T : Nat → TH) (g : Nat → Int32) (a : Nat → Nat → Int32) (o : Nat → Int64) (hn : ∀ k, th k = true → k < n) (hn3 : n ≤ 300) (k : Nat) (y : Int32) (hk : th k = true) (hnf : tHasF (T k).2.2.2.1 y = 0) (htr : l.stackTraces = false) : Met l y_L_get w_L_get ({ frames := 8, cells := 1, slots := 6, locals := 128 }) (va_Pc [.ref (ad 0), .int (nI k), .int y, .ref (ad 21)] (fun U => kP D kCl (kTy ty) (gW n ty ad f th rt qu b w T g a o) sz U ∧ kY (va_A (gW n ty ad f th rt qu b w T g a o) sz) U U.heap)) (va_Qi (fun (r9 : Int32) (u9 : va_W) => r9 = 1 ∧ u9 = gW n ty ad f th rt qu b w T g a o) (kB D kCl (kTy ty) (va_A (gW n ty ad f th rt qu b w T g a o) sz)) (va_A (gW n ty ad f th rt qu b w T g a o) sz)) 1 6 (va_A (gW n ty ad f th rt qu b w T g a o) sz) := by
  refine va_MetW (cc := b_L_get) (maxL := 5) (ret := (some .int)) (by decide) rfl ?_
  intro p e s m args below meth cd s₁ B hml hv
  obtain ⟨rfl, ⟨hsz, hP, hK, hD0⟩, hZ⟩ := hv
  have hx := B.exec
  have hb := B.bytes
  have hr := B.returns
  have hts := atoms_spec (ws := w_L_get) B.pre
  have hown : s.vm.findClass R_L = some m.cls := findClass_of_methodNamed B.named
  have hlocks := B.notSynchronized
  subst hsz
  have hD := hD0.self (sz := s.heap.size)
  generalize hAe : va_A (gW n ty ad f th rt qu b w T g a o) s.heap.size = A at hD hZ ⊢
  have hA : ∀ q : Nat, s.heap.size ≤ q → A q := fun q h => by rw [← hAe]; exact Or.inr h
  have hS : va_S A s.heap s.heap [] := va_S.rf
  have hl := lv_entry ([.ref (ad 0), .int (nI k), .int y, .ref (ad 21)]) (n := 5) (Nat.le_of_ble_eq_true rfl)
  rw [lg_entry_eq]
  generalize (lg_sl ([.ref (ad 0), .int (nI k), .int y, .ref (ad 21)]) ++ List.replicate (5 - (lg_sl ([.ref (ad 0), .int (nI k), .int y, .ref (ad 21)])).length) Slot.unset).toArray = ls at hl ⊢
  have hl : lv_has ls 5 [(0, .ref (ad 0)), (1, .int (nI k)), (2, .int y), (3, .ref (ad 21))] := hl
  have htb : cd.exceptionTable.toList = [⟨0, 10, 13, 21⟩] := kx_table B (hts _ List.mem_cons_self)
  have hpl : e.platform.magicAccessors = ({} : Platform).magicAccessors := by rw [(Stand.of_body B).admits.platform]
  refine lv_aload_n hx hb d_L_get_0 rfl (lv_at hl 3 rfl) ?_
  refine lv_iconst (v := 0) hx hb d_L_get_1 (by decide) ?_
  refine lv_aload_n hx hb d_L_get_2 rfl (lv_at hl 0 rfl) ?_
  refine lv_iload_n hx hb d_L_get_3 rfl (lv_at hl 1 rfl) ?_
  refine lv_iload_n hx hb d_L_get_4 rfl (lv_at hl 2 rfl) ?_
  refine kt_catchW (hpc := 13) (kt_callV (As := [.int (nI k), .int y]) (rest := [.int 0, .ref (ad 21)]) ⟨hx, hb, hml, hown, hts⟩ (c_K_get_y l D ty ad _ n f th rt qu b w T g a o hn hn3 k y hk hnf htr) (cwV 2 hts (kGV kS1 m_L_23 m_im_K_get m_sel_K_get m_ini_K m_code_K_get) rfl rfl rfl (by decide +kernel) ⟨Nat.le_of_ble_eq_true rfl, Nat.le_of_ble_eq_true rfl⟩) ⟨kPZ_blind, va_recv hK hP (ci := 0) (q0 := 0) rfl gw_0, fun U hU hW => ⟨rfl, kP_at hK hP hD U hU hW, hZ.1.at hS (fun q h => by rw [← hAe]; exact h) U hU hW⟩⟩ rfl rfl hl.1 rfl (lv_room (Nat.le_of_ble_eq_true rfl)) d_L_get_5 ⟨Nat.le_of_ble_eq_true rfl, Nat.le_of_ble_eq_true rfl⟩) (fun S x cell hW hcx hcv hcc => by rw [htb]; exact kf_hit hpl hown hW rfl (by decide) (hts _ (kS1 _ m_L_21)) (hZ.1.2.2.use m_cast_NoSuchElementException) hcx hcv hcc) hP hS (fun x9 H hP hS => ?_)
  refine lv_astore (lv' := [(4, .ref x9), (0, .ref (ad 0)), (1, .int (nI k)), (2, .int y), (3, .ref (ad 21))]) hx hb d_L_get_13 hl (by decide) rfl (fun ls hl => ?_)
  refine lv_iconst (v := 1) hx hb d_L_get_15 (by decide) ?_
  have hu : (gW n ty ad f th rt qu b w T g a o : va_W) = gW n ty ad f th rt qu b w T g a o := rfl
  exact W.iret (v := 1) hx hb hr (fun t ht hW => ⟨⟨_, _, rfl, ⟨rfl, hu⟩, by rw [ht]; exact hP, va_K.moved hW.alike hK, hD⟩, hS.F ht⟩) hS.2.2 d_L_get_16
set_option maxHeartbeats 4000000 in
set_option maxRecDepth 100000 in
/-- root, where it answers -/
theorem c_L_root_r (l : Launch) (D : va_G) (ty : Nat → ClassId) (ad : Nat → Nat) (sz : Nat) (n : Nat) (f : Nat → Int32) (th : Nat → Bool) (rt qu : Nat → Int32) (b w : SR) (T : Nat → TH) (g : Nat → Int32) (a : Nat → Nat → Int32) (o : Nat → Int64) (r : Nat) (x : Int32) (hr16 : r < 16) (hx0 : x = -1 ∨ tOk th x = true) : Met l y_L_root w_L_root ({ frames := 3, cells := 0, slots := 0, locals := 65 }) (va_Pc [.ref (ad 0), .int (nI r), .int x, .ref (ad 21)] (kP D kCl (kTy ty) (gW n ty ad f th rt qu b w T g a o) sz)) (va_Qi (fun (r9 : Int32) (u9 : va_W) => r9 = 0 ∧ u9 = gW n ty ad f th (upd rt r x) qu b w T g a (vp_updL o 0 (rt r).toInt64)) (kB D kCl (kTy ty) (va_A (gW n ty ad f th rt qu b w T g a o) sz)) (va_A (gW n ty ad f th rt qu b w T g a o) sz)) 0 0 (va_A (gW n ty ad f th rt qu b w T g a o) sz) := by
  refine va_MetW (cc := b_L_root) (maxL := 5) (ret := (some .int)) (by decide) rfl ?_
  intro p e s m args below meth cd s₁ B hml hv
  obtain ⟨rfl, hsz, hP, hK, hD0⟩ := hv
  have hx := B.exec
  have hb := B.bytes
  have hr := B.returns
  have hts := atoms_spec (ws := w_L_root) B.pre
  have hown : s.vm.findClass R_L = some m.cls := findClass_of_methodNamed B.named
  have hlocks := B.notSynchronized
  subst hsz
  have hD := hD0.self (sz := s.heap.size)
  generalize hAe : va_A (gW n ty ad f th rt qu b w T g a o) s.heap.size = A at hD ⊢
  have hA : ∀ q : Nat, s.heap.size ≤ q → A q := fun q h => by rw [← hAe]; exact Or.inr h
  have hS : va_S A s.heap s.heap [] := va_S.rf
  have hl := lv_entry ([.ref (ad 0), .int (nI r), .int x, .ref (ad 21)]) (n := 5) (Nat.le_of_ble_eq_true rfl)
  rw [lg_entry_eq]
  generalize (lg_sl ([.ref (ad 0), .int (nI r), .int x, .ref (ad 21)]) ++ List.replicate (5 - (lg_sl ([.ref (ad 0), .int (nI r), .int x, .ref (ad 21)])).length) Slot.unset).toArray = ls at hl ⊢
  have hl : lv_has ls 5 [(0, .ref (ad 0)), (1, .int (nI r)), (2, .int x), (3, .ref (ad 21))] := hl
  refine lv_aload_n hx hb d_L_root_0 rfl (lv_at hl 3 rfl) ?_
  refine lv_iconst (v := 0) hx hb d_L_root_1 (by decide) ?_
  refine lv_aload_n hx hb d_L_root_2 rfl (lv_at hl 0 rfl) ?_
  refine lv_iload_n hx hb d_L_root_3 rfl (lv_at hl 1 rfl) ?_
  refine lv_iload_n hx hb d_L_root_4 rfl (lv_at hl 2 rfl) ?_
  refine kc_i (va_runV (As := [.int (nI r), .int x]) (rest := [.int 0, .ref (ad 21)]) ⟨hx, hb, hml, hown, hts⟩ (c_K_root l D ty ad _ n f th rt qu b w T g a o r x hr16 hx0) (cwV 2 hts (kGV kS1 m_L_26 m_im_K_root m_sel_K_root m_ini_K m_code_K_root) rfl rfl rfl (by decide +kernel) ⟨Nat.le_of_ble_eq_true rfl, Nat.le_of_ble_eq_true rfl⟩) ⟨kP_blind, va_recv hK hP (ci := 0) (q0 := 0) rfl gw_0, fun U hU hW => ⟨rfl, kP_at hK hP hD U hU hW⟩⟩ rfl rfl hl.1 rfl (lv_room (Nat.le_of_ble_eq_true rfl)) d_L_root_5 ⟨Nat.le_of_ble_eq_true rfl, Nat.le_of_ble_eq_true rfl⟩) hD hS hA (fun r u H locs hu hP hD hS hz => ?_)
  obtain ⟨rfl, rfl⟩ := hu
  refine lv_i2l (v := (rt r).toInt64) hx hb d_L_root_8 rfl ?_
  refine va_last (f := o) hx hb hK hP hD hS 21 3 gw_21 rfl (by rw [← nI_0]; exact vp_in_nI (N := 1) (by omega) (by omega)) d_L_root_9 (fun H locs hP hD hS => ?_)
  rw [sb_cl0] at hP hD
  have hP := kw_P (gw_so (r := vp_updL o 0 ((rt r).toInt64))) hP
  have hD := kw_D (gw_so (r := vp_updL o 0 ((rt r).toInt64))) hD
  refine lv_goto (tgt := 17) hx hb d_L_root_10 (by decide) ?_
  refine lv_iconst (v := 0) hx hb d_L_root_17 (by decide) ?_
  have hu : (gW n ty ad f th (upd rt r x) qu b w T g a (vp_updL o 0 ((rt r).toInt64)) : va_W) = gW n ty ad f th (upd rt r x) qu b w T g a (vp_updL o 0 (rt r).toInt64) := rfl
  exact W.iret (v := 0) hx hb hr (fun t ht hW => ⟨⟨_, _, rfl, ⟨rfl, hu⟩, by rw [ht]; exact hP, va_K.moved hW.alike hK, hD⟩, hS.F ht⟩) hS.2.2 d_L_root_18
set_option maxHeartbeats 4000000 in
set_option maxRecDepth 100000 in
/-- root, 1 -/
theorem c_L_root_y (l : Launch) (D : va_G) (ty : Nat → ClassId) (ad : Nat → Nat) (sz : Nat) (n : Nat) (f : Nat → Int32) (th : Nat → Bool) (rt qu : Nat → Int32) (b w : SR) (T : Nat → TH) (g : Nat → Int32) (a : Nat → Nat → Int32) (o : Nat → Int64) (y x : Int32) (hbad : y < 0 ∨ ¬ y < 16) (htr : l.stackTraces = false) : Met l y_L_root w_L_root ({ frames := 7, cells := 1, slots := 6, locals := 106 }) (va_Pc [.ref (ad 0), .int y, .int x, .ref (ad 21)] (fun U => kP D kCl (kTy ty) (gW n ty ad f th rt qu b w T g a o) sz U ∧ kY (va_A (gW n ty ad f th rt qu b w T g a o) sz) U U.heap)) (va_Qi (fun (r9 : Int32) (u9 : va_W) => r9 = 1 ∧ u9 = gW n ty ad f th rt qu b w T g a o) (kB D kCl (kTy ty) (va_A (gW n ty ad f th rt qu b w T g a o) sz)) (va_A (gW n ty ad f th rt qu b w T g a o) sz)) 1 6 (va_A (gW n ty ad f th rt qu b w T g a o) sz) := by
  refine va_MetW (cc := b_L_root) (maxL := 5) (ret := (some .int)) (by decide) rfl ?_
  intro p e s m args below meth cd s₁ B hml hv
  obtain ⟨rfl, ⟨hsz, hP, hK, hD0⟩, hZ⟩ := hv
  have hx := B.exec
  have hb := B.bytes
  have hr := B.returns
  have hts := atoms_spec (ws := w_L_root) B.pre
  have hown : s.vm.findClass R_L = some m.cls := findClass_of_methodNamed B.named
  have hlocks := B.notSynchronized
  subst hsz
  have hD := hD0.self (sz := s.heap.size)
  generalize hAe : va_A (gW n ty ad f th rt qu b w T g a o) s.heap.size = A at hD hZ ⊢
  have hA : ∀ q : Nat, s.heap.size ≤ q → A q := fun q h => by rw [← hAe]; exact Or.inr h
  have hS : va_S A s.heap s.heap [] := va_S.rf
  have hl := lv_entry ([.ref (ad 0), .int y, .int x, .ref (ad 21)]) (n := 5) (Nat.le_of_ble_eq_true rfl)
  rw [lg_entry_eq]
  generalize (lg_sl ([.ref (ad 0), .int y, .int x, .ref (ad 21)]) ++ List.replicate (5 - (lg_sl ([.ref (ad 0), .int y, .int x, .ref (ad 21)])).length) Slot.unset).toArray = ls at hl ⊢
  have hl : lv_has ls 5 [(0, .ref (ad 0)), (1, .int y), (2, .int x), (3, .ref (ad 21))] := hl
  have htb : cd.exceptionTable.toList = [⟨0, 10, 13, 21⟩] := kx_table B (hts _ List.mem_cons_self)
  have hpl : e.platform.magicAccessors = ({} : Platform).magicAccessors := by rw [(Stand.of_body B).admits.platform]
  refine lv_aload_n hx hb d_L_root_0 rfl (lv_at hl 3 rfl) ?_
  refine lv_iconst (v := 0) hx hb d_L_root_1 (by decide) ?_
  refine lv_aload_n hx hb d_L_root_2 rfl (lv_at hl 0 rfl) ?_
  refine lv_iload_n hx hb d_L_root_3 rfl (lv_at hl 1 rfl) ?_
  refine lv_iload_n hx hb d_L_root_4 rfl (lv_at hl 2 rfl) ?_
  refine kt_catchW (hpc := 13) (kt_callV (As := [.int y, .int x]) (rest := [.int 0, .ref (ad 21)]) ⟨hx, hb, hml, hown, hts⟩ (c_K_root_r l D ty ad _ n f th rt qu b w T g a o y x hbad htr) (cwV 2 hts (kGV kS1 m_L_26 m_im_K_root m_sel_K_root m_ini_K m_code_K_root) rfl rfl rfl (by decide +kernel) ⟨Nat.le_of_ble_eq_true rfl, Nat.le_of_ble_eq_true rfl⟩) ⟨kPZ_blind, va_recv hK hP (ci := 0) (q0 := 0) rfl gw_0, fun U hU hW => ⟨rfl, kP_at hK hP hD U hU hW, hZ.1.at hS (fun q h => by rw [← hAe]; exact h) U hU hW⟩⟩ rfl rfl hl.1 rfl (lv_room (Nat.le_of_ble_eq_true rfl)) d_L_root_5 ⟨Nat.le_of_ble_eq_true rfl, Nat.le_of_ble_eq_true rfl⟩) (fun S x cell hW hcx hcv hcc => by rw [htb]; exact kf_hit hpl hown hW rfl (by decide) (hts _ (kS1 _ m_L_21)) (hZ.1.2.2.use m_cast_NoSuchElementException) hcx hcv hcc) hP hS (fun x9 H hP hS => ?_)
  refine lv_astore (lv' := [(4, .ref x9), (0, .ref (ad 0)), (1, .int y), (2, .int x), (3, .ref (ad 21))]) hx hb d_L_root_13 hl (by decide) rfl (fun ls hl => ?_)
  refine lv_iconst (v := 1) hx hb d_L_root_15 (by decide) ?_
  have hu : (gW n ty ad f th rt qu b w T g a o : va_W) = gW n ty ad f th rt qu b w T g a o := rfl
  exact W.iret (v := 1) hx hb hr (fun t ht hW => ⟨⟨_, _, rfl, ⟨rfl, hu⟩, by rw [ht]; exact hP, va_K.moved hW.alike hK, hD⟩, hS.F ht⟩) hS.2.2 d_L_root_16
set_option maxHeartbeats 4000000 in
set_option maxRecDepth 100000 in
/-- root, 1 -/
theorem c_L_root_x (l : Launch) (D : va_G) (ty : Nat → ClassId) (ad : Nat → Nat) (sz : Nat) (n : Nat) (f : Nat → Int32) (th : Nat → Bool) (rt qu : Nat → Int32) (b w : SR) (T : Nat → TH) (g : Nat → Int32) (a : Nat → Nat → Int32) (o : Nat → Int64) (r : Nat) (hr16 : r < 16) (x : Int32) (hno : ¬ tOk th x = true) (hm : ¬ x = -1) (htr : l.stackTraces = false) : Met l y_L_root w_L_root ({ frames := 8, cells := 1, slots := 6, locals := 127 }) (va_Pc [.ref (ad 0), .int (nI r), .int x, .ref (ad 21)] (fun U => kP D kCl (kTy ty) (gW n ty ad f th rt qu b w T g a o) sz U ∧ kY (va_A (gW n ty ad f th rt qu b w T g a o) sz) U U.heap)) (va_Qi (fun (r9 : Int32) (u9 : va_W) => r9 = 1 ∧ u9 = gW n ty ad f th rt qu b w T g a o) (kB D kCl (kTy ty) (va_A (gW n ty ad f th rt qu b w T g a o) sz)) (va_A (gW n ty ad f th rt qu b w T g a o) sz)) 1 6 (va_A (gW n ty ad f th rt qu b w T g a o) sz) := by
  refine va_MetW (cc := b_L_root) (maxL := 5) (ret := (some .int)) (by decide) rfl ?_
  intro p e s m args below meth cd s₁ B hml hv
  obtain ⟨rfl, ⟨hsz, hP, hK, hD0⟩, hZ⟩ := hv
  have hx := B.exec
  have hb := B.bytes
  have hr := B.returns
  have hts := atoms_spec (ws := w_L_root) B.pre
  have hown : s.vm.findClass R_L = some m.cls := findClass_of_methodNamed B.named
  have hlocks := B.notSynchronized
  subst hsz
  have hD := hD0.self (sz := s.heap.size)
  generalize hAe : va_A (gW n ty ad f th rt qu b w T g a o) s.heap.size = A at hD hZ ⊢
  have hA : ∀ q : Nat, s.heap.size ≤ q → A q := fun q h => by rw [← hAe]; exact Or.inr h
  have hS : va_S A s.heap s.heap [] := va_S.rf
  have hl := lv_entry ([.ref (ad 0), .int (nI r), .int x, .ref (ad 21)]) (n := 5) (Nat.le_of_ble_eq_true rfl)
  rw [lg_entry_eq]
  generalize (lg_sl ([.ref (ad 0), .int (nI r), .int x, .ref (ad 21)]) ++ List.replicate (5 - (lg_sl ([.ref (ad 0), .int (nI r), .int x, .ref (ad 21)])).length) Slot.unset).toArray = ls at hl ⊢
  have hl : lv_has ls 5 [(0, .ref (ad 0)), (1, .int (nI r)), (2, .int x), (3, .ref (ad 21))] := hl
  have htb : cd.exceptionTable.toList = [⟨0, 10, 13, 21⟩] := kx_table B (hts _ List.mem_cons_self)
  have hpl : e.platform.magicAccessors = ({} : Platform).magicAccessors := by rw [(Stand.of_body B).admits.platform]
  refine lv_aload_n hx hb d_L_root_0 rfl (lv_at hl 3 rfl) ?_
  refine lv_iconst (v := 0) hx hb d_L_root_1 (by decide) ?_
  refine lv_aload_n hx hb d_L_root_2 rfl (lv_at hl 0 rfl) ?_
  refine lv_iload_n hx hb d_L_root_3 rfl (lv_at hl 1 rfl) ?_
  refine lv_iload_n hx hb d_L_root_4 rfl (lv_at hl 2 rfl) ?_
  refine kt_catchW (hpc := 13) (kt_callV (As := [.int (nI r), .int x]) (rest := [.int 0, .ref (ad 21)]) ⟨hx, hb, hml, hown, hts⟩ (c_K_root_x l D ty ad _ n f th rt qu b w T g a o r hr16 x hno hm htr) (cwV 2 hts (kGV kS1 m_L_26 m_im_K_root m_sel_K_root m_ini_K m_code_K_root) rfl rfl rfl (by decide +kernel) ⟨Nat.le_of_ble_eq_true rfl, Nat.le_of_ble_eq_true rfl⟩) ⟨kPZ_blind, va_recv hK hP (ci := 0) (q0 := 0) rfl gw_0, fun U hU hW => ⟨rfl, kP_at hK hP hD U hU hW, hZ.1.at hS (fun q h => by rw [← hAe]; exact h) U hU hW⟩⟩ rfl rfl hl.1 rfl (lv_room (Nat.le_of_ble_eq_true rfl)) d_L_root_5 ⟨Nat.le_of_ble_eq_true rfl, Nat.le_of_ble_eq_true rfl⟩) (fun S x cell hW hcx hcv hcc => by rw [htb]; exact kf_hit hpl hown hW rfl (by decide) (hts _ (kS1 _ m_L_21)) (hZ.1.2.2.use m_cast_NoSuchElementException) hcx hcv hcc) hP hS (fun x9 H hP hS => ?_)
  refine lv_astore (lv' := [(4, .ref x9), (0, .ref (ad 0)), (1, .int (nI r)), (2, .int x), (3, .ref (ad 21))]) hx hb d_L_root_13 hl (by decide) rfl (fun ls hl => ?_)
  refine lv_iconst (v := 1) hx hb d_L_root_15 (by decide) ?_
  have hu : (gW n ty ad f th rt qu b w T g a o : va_W) = gW n ty ad f th rt qu b w T g a o := rfl
  exact W.iret (v := 1) hx hb hr (fun t ht hW => ⟨⟨_, _, rfl, ⟨rfl, hu⟩, by rw [ht]; exact hP, va_K.moved hW.alike hK, hD⟩, hS.F ht⟩) hS.2.2 d_L_root_16
set_option maxHeartbeats 4000000 in
set_option maxRecDepth 100000 in
/-- queued, where it answers -/
theorem c_L_queued_r (l : Launch) (D : va_G) (ty : Nat → ClassId) (ad : Nat → Nat) (sz : Nat) (n : Nat) (f : Nat → Int32) (th : Nat → Bool) (rt qu : Nat → Int32) (b w : SR) (T : Nat → TH) (g : Nat → Int32) (a : Nat → Nat → Int32) (o : Nat → Int64) (x : Int32) (hx0 : 0 ≤ x) : Met l y_L_queued w_L_queued ({ frames := 3, cells := 0, slots := 0, locals := 63 }) (va_Pc [.ref (ad 0), .int x, .ref (ad 21)] (kP D kCl (kTy ty) (gW n ty ad f th rt qu b w T g a o) sz)) (va_Qi (fun (r9 : Int32) (u9 : va_W) => r9 = 0 ∧ u9 = gW n ty ad f th rt qu b w T g a (vp_updL o 0 (kQp f qu x).toInt64)) (kB D kCl (kTy ty) (va_A (gW n ty ad f th rt qu b w T g a o) sz)) (va_A (gW n ty ad f th rt qu b w T g a o) sz)) 0 0 (va_A (gW n ty ad f th rt qu b w T g a o) sz) := by
  refine va_MetW (cc := b_L_queued) (maxL := 4) (ret := (some .int)) (by decide) rfl ?_
  intro p e s m args below meth cd s₁ B hml hv
  obtain ⟨rfl, hsz, hP, hK, hD0⟩ := hv
  have hx := B.exec
  have hb := B.bytes
  have hr := B.returns
  have hts := atoms_spec (ws := w_L_queued) B.pre
  have hown : s.vm.findClass R_L = some m.cls := findClass_of_methodNamed B.named
  have hlocks := B.notSynchronized
  subst hsz
  have hD := hD0.self (sz := s.heap.size)
  generalize hAe : va_A (gW n ty ad f th rt qu b w T g a o) s.heap.size = A at hD ⊢
  have hA : ∀ q : Nat, s.heap.size ≤ q → A q := fun q h => by rw [← hAe]; exact Or.inr h
  have hS : va_S A s.heap s.heap [] := va_S.rf
  have hl := lv_entry ([.ref (ad 0), .int x, .ref (ad 21)]) (n := 4) (Nat.le_of_ble_eq_true rfl)
  rw [lg_entry_eq]
  generalize (lg_sl ([.ref (ad 0), .int x, .ref (ad 21)]) ++ List.replicate (4 - (lg_sl ([.ref (ad 0), .int x, .ref (ad 21)])).length) Slot.unset).toArray = ls at hl ⊢
  have hl : lv_has ls 4 [(0, .ref (ad 0)), (1, .int x), (2, .ref (ad 21))] := hl
  refine lv_aload_n hx hb d_L_queued_0 rfl (lv_at hl 2 rfl) ?_
  refine lv_iconst (v := 0) hx hb d_L_queued_1 (by decide) ?_
  refine lv_aload_n hx hb d_L_queued_2 rfl (lv_at hl 0 rfl) ?_
  refine lv_iload_n hx hb d_L_queued_3 rfl (lv_at hl 1 rfl) ?_
  refine kc_R (va_runV (As := [.int x]) (rest := [.int 0, .ref (ad 21)]) ⟨hx, hb, hml, hown, hts⟩ (c_K_queued l D ty ad _ n f th rt qu b w T g a o x hx0) (cwV 1 hts (kGV kS1 m_L_29 m_im_K_queued m_sel_K_queued m_ini_K m_code_K_queued) rfl rfl rfl (by decide +kernel) ⟨Nat.le_of_ble_eq_true rfl, Nat.le_of_ble_eq_true rfl⟩) ⟨kP_blind, va_recv hK hP (ci := 0) (q0 := 0) rfl gw_0, fun U hU hW => ⟨rfl, kP_at hK hP hD U hU hW⟩⟩ rfl rfl hl.1 rfl (lv_room (Nat.le_of_ble_eq_true rfl)) d_L_queued_4 ⟨Nat.le_of_ble_eq_true rfl, Nat.le_of_ble_eq_true rfl⟩) ?_
  refine lv_i2l (v := (kQp f qu x).toInt64) hx hb d_L_queued_7 rfl ?_
  refine va_last (f := o) hx hb hK hP hD hS 21 3 gw_21 rfl (by rw [← nI_0]; exact vp_in_nI (N := 1) (by omega) (by omega)) d_L_queued_8 (fun H locs hP hD hS => ?_)
  rw [sb_cl0] at hP hD
  have hP := kw_P (gw_so (r := vp_updL o 0 ((kQp f qu x).toInt64))) hP
  have hD := kw_D (gw_so (r := vp_updL o 0 ((kQp f qu x).toInt64))) hD
  refine lv_goto (tgt := 15) hx hb d_L_queued_9 (by decide) ?_
  refine lv_iconst (v := 0) hx hb d_L_queued_15 (by decide) ?_
  have hu : (gW n ty ad f th rt qu b w T g a (vp_updL o 0 ((kQp f qu x).toInt64)) : va_W) = gW n ty ad f th rt qu b w T g a (vp_updL o 0 (kQp f qu x).toInt64) := rfl
  exact W.iret (v := 0) hx hb hr (fun t ht hW => ⟨⟨_, _, rfl, ⟨rfl, hu⟩, by rw [ht]; exact hP, va_K.moved hW.alike hK, hD⟩, hS.F ht⟩) hS.2.2 d_L_queued_16
set_option maxHeartbeats 4000000 in
set_option maxRecDepth 100000 in
/-- queued, 1 -/
theorem c_L_queued_x (l : Launch) (D : va_G) (ty : Nat → ClassId) (ad : Nat → Nat) (sz : Nat) (n : Nat) (f : Nat → Int32) (th : Nat → Bool) (rt qu : Nat → Int32) (b w : SR) (T : Nat → TH) (g : Nat → Int32) (a : Nat → Nat → Int32) (o : Nat → Int64) (x : Int32) (hx0 : ¬ 0 ≤ x) (htr : l.stackTraces = false) : Met l y_L_queued w_L_queued ({ frames := 7, cells := 1, slots := 6, locals := 104 }) (va_Pc [.ref (ad 0), .int x, .ref (ad 21)] (fun U => kP D kCl (kTy ty) (gW n ty ad f th rt qu b w T g a o) sz U ∧ kY (va_A (gW n ty ad f th rt qu b w T g a o) sz) U U.heap)) (va_Qi (fun (r9 : Int32) (u9 : va_W) => r9 = 1 ∧ u9 = gW n ty ad f th rt qu b w T g a o) (kB D kCl (kTy ty) (va_A (gW n ty ad f th rt qu b w T g a o) sz)) (va_A (gW n ty ad f th rt qu b w T g a o) sz)) 1 6 (va_A (gW n ty ad f th rt qu b w T g a o) sz) := by
  refine va_MetW (cc := b_L_queued) (maxL := 4) (ret := (some .int)) (by decide) rfl ?_
  intro p e s m args below meth cd s₁ B hml hv
  obtain ⟨rfl, ⟨hsz, hP, hK, hD0⟩, hZ⟩ := hv
  have hx := B.exec
  have hb := B.bytes
  have hr := B.returns
  have hts := atoms_spec (ws := w_L_queued) B.pre
  have hown : s.vm.findClass R_L = some m.cls := findClass_of_methodNamed B.named
  have hlocks := B.notSynchronized
  subst hsz
  have hD := hD0.self (sz := s.heap.size)
  generalize hAe : va_A (gW n ty ad f th rt qu b w T g a o) s.heap.size = A at hD hZ ⊢
  have hA : ∀ q : Nat, s.heap.size ≤ q → A q := fun q h => by rw [← hAe]; exact Or.inr h
  have hS : va_S A s.heap s.heap [] := va_S.rf
  have hl := lv_entry ([.ref (ad 0), .int x, .ref (ad 21)]) (n := 4) (Nat.le_of_ble_eq_true rfl)
  rw [lg_entry_eq]
  generalize (lg_sl ([.ref (ad 0), .int x, .ref (ad 21)]) ++ List.replicate (4 - (lg_sl ([.ref (ad 0), .int x, .ref (ad 21)])).length) Slot.unset).toArray = ls at hl ⊢
  have hl : lv_has ls 4 [(0, .ref (ad 0)), (1, .int x), (2, .ref (ad 21))] := hl
  have htb : cd.exceptionTable.toList = [⟨0, 9, 12, 13⟩] := kx_table B (hts _ List.mem_cons_self)
  have hpl : e.platform.magicAccessors = ({} : Platform).magicAccessors := by rw [(Stand.of_body B).admits.platform]
  refine lv_aload_n hx hb d_L_queued_0 rfl (lv_at hl 2 rfl) ?_
  refine lv_iconst (v := 0) hx hb d_L_queued_1 (by decide) ?_
  refine lv_aload_n hx hb d_L_queued_2 rfl (lv_at hl 0 rfl) ?_
  refine lv_iload_n hx hb d_L_queued_3 rfl (lv_at hl 1 rfl) ?_
  refine kt_catchW (hpc := 12) (kt_callV (As := [.int x]) (rest := [.int 0, .ref (ad 21)]) ⟨hx, hb, hml, hown, hts⟩ (c_K_queued_x l D ty ad _ n f th rt qu b w T g a o x hx0 htr) (cwV 1 hts (kGV kS1 m_L_29 m_im_K_queued m_sel_K_queued m_ini_K m_code_K_queued) rfl rfl rfl (by decide +kernel) ⟨Nat.le_of_ble_eq_true rfl, Nat.le_of_ble_eq_true rfl⟩) ⟨kPZ_blind, va_recv hK hP (ci := 0) (q0 := 0) rfl gw_0, fun U hU hW => ⟨rfl, kP_at hK hP hD U hU hW, hZ.1.at hS (fun q h => by rw [← hAe]; exact h) U hU hW⟩⟩ rfl rfl hl.1 rfl (lv_room (Nat.le_of_ble_eq_true rfl)) d_L_queued_4 ⟨Nat.le_of_ble_eq_true rfl, Nat.le_of_ble_eq_true rfl⟩) (fun S x cell hW hcx hcv hcc => by rw [htb]; exact kf_hit hpl hown hW rfl (by decide) (hts _ (kS1 _ m_L_13)) (hZ.1.2.2.use m_cast_IllegalArgumentException) hcx hcv hcc) hP hS (fun x9 H hP hS => ?_)
  refine lv_astore_n (lv' := [(3, .ref x9), (0, .ref (ad 0)), (1, .int x), (2, .ref (ad 21))]) hx hb d_L_queued_12 rfl hl (by decide) rfl (fun ls hl => ?_)
  refine lv_iconst (v := 1) hx hb d_L_queued_13 (by decide) ?_
  have hu : (gW n ty ad f th rt qu b w T g a o : va_W) = gW n ty ad f th rt qu b w T g a o := rfl
  exact W.iret (v := 1) hx hb hr (fun t ht hW => ⟨⟨_, _, rfl, ⟨rfl, hu⟩, by rw [ht]; exact hP, va_K.moved hW.alike hK, hD⟩, hS.F ht⟩) hS.2.2 d_L_queued_14
set_option maxHeartbeats 4000000 in
set_option maxRecDepth 100000 in
/-- identity, where it answers -/
theorem c_L_identity_r (l : Launch) (D : va_G) (ty : Nat → ClassId) (ad : Nat → Nat) (sz : Nat) (n : Nat) (f : Nat → Int32) (th : Nat → Bool) (rt qu : Nat → Int32) (b w : SR) (T : Nat → TH) (g : Nat → Int32) (a : Nat → Nat → Int32) (o : Nat → Int64) (hn : ∀ k, th k = true → k < n) (hn3 : n ≤ 300) (k : Nat) (hk : th k = true) : Met l y_L_identity w_L_identity ({ frames := 3, cells := 0, slots := 0, locals := 65 }) (va_Pc [.ref (ad 0), .int (nI k), .ref (ad 21)] (kP D kCl (kTy ty) (gW n ty ad f th rt qu b w T g a o) sz)) (va_Qi (fun (r9 : Int32) (u9 : va_W) => r9 = 0 ∧ u9 = gW n ty ad (if (T k).2.2.1 = -1 then upd f 11 (f 11 + 1) else f) th rt qu b w (if (T k).2.2.1 = -1 then va_up T k ((T k).1, (T k).2.1, f 11, (T k).2.2.2) else T) g a (vp_updL o 0 (if (T k).2.2.1 = -1 then f 11 else (T k).2.2.1).toInt64)) (kB D kCl (kTy ty) (va_A (gW n ty ad f th rt qu b w T g a o) sz)) (va_A (gW n ty ad f th rt qu b w T g a o) sz)) 0 0 (va_A (gW n ty ad f th rt qu b w T g a o) sz) := by
  refine va_MetW (cc := b_L_identity) (maxL := 4) (ret := (some .int)) (by decide) rfl ?_
  intro p e s m args below meth cd s₁ B hml hv
  obtain ⟨rfl, hsz, hP, hK, hD0⟩ := hv
  have hx := B.exec
  have hb := B.bytes
  have hr := B.returns
  have hts := atoms_spec (ws := w_L_identity) B.pre
  have hown : s.vm.findClass R_L = some m.cls := findClass_of_methodNamed B.named
  have hlocks := B.notSynchronized
  subst hsz
  have hD := hD0.self (sz := s.heap.size)
  generalize hAe : va_A (gW n ty ad f th rt qu b w T g a o) s.heap.size = A at hD ⊢
  have hA : ∀ q : Nat, s.heap.size ≤ q → A q := fun q h => by rw [← hAe]; exact Or.inr h
  have hS : va_S A s.heap s.heap [] := va_S.rf
  have hl := lv_entry ([.ref (ad 0), .int (nI k), .ref (ad 21)]) (n := 4) (Nat.le_of_ble_eq_true rfl)
  rw [lg_entry_eq]
  generalize (lg_sl ([.ref (ad 0), .int (nI k), .ref (ad 21)]) ++ List.replicate (4 - (lg_sl ([.ref (ad 0), .int (nI k), .ref (ad 21)])).length) Slot.unset).toArray = ls at hl ⊢
  have hl : lv_has ls 4 [(0, .ref (ad 0)), (1, .int (nI k)), (2, .ref (ad 21))] := hl
  refine lv_aload_n hx hb d_L_identity_0 rfl (lv_at hl 2 rfl) ?_
  refine lv_iconst (v := 0) hx hb d_L_identity_1 (by decide) ?_
  refine lv_aload_n hx hb d_L_identity_2 rfl (lv_at hl 0 rfl) ?_
  refine lv_iload_n hx hb d_L_identity_3 rfl (lv_at hl 1 rfl) ?_
  refine kc_i (va_runV (As := [.int (nI k)]) (rest := [.int 0, .ref (ad 21)]) ⟨hx, hb, hml, hown, hts⟩ (c_K_identity l D ty ad _ n f th rt qu b w T g a o hn hn3 k hk) (cwV 1 hts (kGV kS1 m_L_33 m_im_K_identity m_sel_K_identity m_ini_K m_code_K_identity) rfl rfl rfl (by decide +kernel) ⟨Nat.le_of_ble_eq_true rfl, Nat.le_of_ble_eq_true rfl⟩) ⟨kP_blind, va_recv hK hP (ci := 0) (q0 := 0) rfl gw_0, fun U hU hW => ⟨rfl, kP_at hK hP hD U hU hW⟩⟩ rfl rfl hl.1 rfl (lv_room (Nat.le_of_ble_eq_true rfl)) d_L_identity_4 ⟨Nat.le_of_ble_eq_true rfl, Nat.le_of_ble_eq_true rfl⟩) hD hS hA (fun r u H locs hu hP hD hS hz => ?_)
  obtain ⟨rfl, rfl⟩ := hu
  refine lv_i2l (v := (if (T k).2.2.1 = -1 then f 11 else (T k).2.2.1).toInt64) hx hb d_L_identity_7 rfl ?_
  refine va_last (f := o) hx hb hK hP hD hS 21 3 gw_21 rfl (by rw [← nI_0]; exact vp_in_nI (N := 1) (by omega) (by omega)) d_L_identity_8 (fun H locs hP hD hS => ?_)
  rw [sb_cl0] at hP hD
  have hP := kw_P (gw_so (r := vp_updL o 0 ((if (T k).2.2.1 = -1 then f 11 else (T k).2.2.1).toInt64))) hP
  have hD := kw_D (gw_so (r := vp_updL o 0 ((if (T k).2.2.1 = -1 then f 11 else (T k).2.2.1).toInt64))) hD
  refine lv_goto (tgt := 15) hx hb d_L_identity_9 (by decide) ?_
  refine lv_iconst (v := 0) hx hb d_L_identity_15 (by decide) ?_
  have hu : (gW n ty ad (if (T k).2.2.1 = -1 then upd f 11 (f 11 + 1) else f) th rt qu b w (if (T k).2.2.1 = -1 then va_up T k ((T k).1, (T k).2.1, f 11, (T k).2.2.2) else T) g a (vp_updL o 0 ((if (T k).2.2.1 = -1 then f 11 else (T k).2.2.1).toInt64)) : va_W) = gW n ty ad (if (T k).2.2.1 = -1 then upd f 11 (f 11 + 1) else f) th rt qu b w (if (T k).2.2.1 = -1 then va_up T k ((T k).1, (T k).2.1, f 11, (T k).2.2.2) else T) g a (vp_updL o 0 (if (T k).2.2.1 = -1 then f 11 else (T k).2.2.1).toInt64) := rfl
  exact W.iret (v := 0) hx hb hr (fun t ht hW => ⟨⟨_, _, rfl, ⟨rfl, hu⟩, by rw [ht]; exact hP, va_K.moved hW.alike hK, hD⟩, hS.F ht⟩) hS.2.2 d_L_identity_16
set_option maxHeartbeats 4000000 in
set_option maxRecDepth 100000 in
/-- identity, 1 -/
theorem c_L_identity_x (l : Launch) (D : va_G) (ty : Nat → ClassId) (ad : Nat → Nat) (sz : Nat) (n : Nat) (f : Nat → Int32) (th : Nat → Bool) (rt qu : Nat → Int32) (b w : SR) (T : Nat → TH) (g : Nat → Int32) (a : Nat → Nat → Int32) (o : Nat → Int64) (x : Int32) (hno : ¬ tOk th x = true) (htr : l.stackTraces = false) : Met l y_L_identity w_L_identity ({ frames := 8, cells := 1, slots := 6, locals := 127 }) (va_Pc [.ref (ad 0), .int x, .ref (ad 21)] (fun U => kP D kCl (kTy ty) (gW n ty ad f th rt qu b w T g a o) sz U ∧ kY (va_A (gW n ty ad f th rt qu b w T g a o) sz) U U.heap)) (va_Qi (fun (r9 : Int32) (u9 : va_W) => r9 = 1 ∧ u9 = gW n ty ad f th rt qu b w T g a o) (kB D kCl (kTy ty) (va_A (gW n ty ad f th rt qu b w T g a o) sz)) (va_A (gW n ty ad f th rt qu b w T g a o) sz)) 1 6 (va_A (gW n ty ad f th rt qu b w T g a o) sz) := by
  refine va_MetW (cc := b_L_identity) (maxL := 4) (ret := (some .int)) (by decide) rfl ?_
  intro p e s m args below meth cd s₁ B hml hv
  obtain ⟨rfl, ⟨hsz, hP, hK, hD0⟩, hZ⟩ := hv
  have hx := B.exec
  have hb := B.bytes
  have hr := B.returns
  have hts := atoms_spec (ws := w_L_identity) B.pre
  have hown : s.vm.findClass R_L = some m.cls := findClass_of_methodNamed B.named
  have hlocks := B.notSynchronized
  subst hsz
  have hD := hD0.self (sz := s.heap.size)
  generalize hAe : va_A (gW n ty ad f th rt qu b w T g a o) s.heap.size = A at hD hZ ⊢
  have hA : ∀ q : Nat, s.heap.size ≤ q → A q := fun q h => by rw [← hAe]; exact Or.inr h
  have hS : va_S A s.heap s.heap [] := va_S.rf
  have hl := lv_entry ([.ref (ad 0), .int x, .ref (ad 21)]) (n := 4) (Nat.le_of_ble_eq_true rfl)
  rw [lg_entry_eq]
  generalize (lg_sl ([.ref (ad 0), .int x, .ref (ad 21)]) ++ List.replicate (4 - (lg_sl ([.ref (ad 0), .int x, .ref (ad 21)])).length) Slot.unset).toArray = ls at hl ⊢
  have hl : lv_has ls 4 [(0, .ref (ad 0)), (1, .int x), (2, .ref (ad 21))] := hl
  have htb : cd.exceptionTable.toList = [⟨0, 9, 12, 21⟩] := kx_table B (hts _ List.mem_cons_self)
  have hpl : e.platform.magicAccessors = ({} : Platform).magicAccessors := by rw [(Stand.of_body B).admits.platform]
  refine lv_aload_n hx hb d_L_identity_0 rfl (lv_at hl 2 rfl) ?_
  refine lv_iconst (v := 0) hx hb d_L_identity_1 (by decide) ?_
  refine lv_aload_n hx hb d_L_identity_2 rfl (lv_at hl 0 rfl) ?_
  refine lv_iload_n hx hb d_L_identity_3 rfl (lv_at hl 1 rfl) ?_
  refine kt_catchW (hpc := 12) (kt_callV (As := [.int x]) (rest := [.int 0, .ref (ad 21)]) ⟨hx, hb, hml, hown, hts⟩ (c_K_identity_x l D ty ad _ n f th rt qu b w T g a o x hno htr) (cwV 1 hts (kGV kS1 m_L_33 m_im_K_identity m_sel_K_identity m_ini_K m_code_K_identity) rfl rfl rfl (by decide +kernel) ⟨Nat.le_of_ble_eq_true rfl, Nat.le_of_ble_eq_true rfl⟩) ⟨kPZ_blind, va_recv hK hP (ci := 0) (q0 := 0) rfl gw_0, fun U hU hW => ⟨rfl, kP_at hK hP hD U hU hW, hZ.1.at hS (fun q h => by rw [← hAe]; exact h) U hU hW⟩⟩ rfl rfl hl.1 rfl (lv_room (Nat.le_of_ble_eq_true rfl)) d_L_identity_4 ⟨Nat.le_of_ble_eq_true rfl, Nat.le_of_ble_eq_true rfl⟩) (fun S x cell hW hcx hcv hcc => by rw [htb]; exact kf_hit hpl hown hW rfl (by decide) (hts _ (kS1 _ m_L_21)) (hZ.1.2.2.use m_cast_NoSuchElementException) hcx hcv hcc) hP hS (fun x9 H hP hS => ?_)
  refine lv_astore_n (lv' := [(3, .ref x9), (0, .ref (ad 0)), (1, .int x), (2, .ref (ad 21))]) hx hb d_L_identity_12 rfl hl (by decide) rfl (fun ls hl => ?_)
  refine lv_iconst (v := 1) hx hb d_L_identity_13 (by decide) ?_
  have hu : (gW n ty ad f th rt qu b w T g a o : va_W) = gW n ty ad f th rt qu b w T g a o := rfl
  exact W.iret (v := 1) hx hb hr (fun t ht hW => ⟨⟨_, _, rfl, ⟨rfl, hu⟩, by rw [ht]; exact hP, va_K.moved hW.alike hK, hD⟩, hS.F ht⟩) hS.2.2 d_L_identity_14
set_option maxHeartbeats 4000000 in
set_option maxRecDepth 100000 in
/-- about(k, 0) -/
theorem c_L_about_0 (l : Launch) (D : va_G) (ty : Nat → ClassId) (ad : Nat → Nat) (sz : Nat) (n : Nat) (f : Nat → Int32) (th : Nat → Bool) (rt qu : Nat → Int32) (b w : SR) (T : Nat → TH) (g : Nat → Int32) (a : Nat → Nat → Int32) (o : Nat → Int64) (hn : ∀ k, th k = true → k < n) (hn3 : n ≤ 300) (h12 : ∀ k, (T k).2.2.2.1 ≤ 12) (k : Nat) (hk : th k = true) : Met l y_L_about w_L_about ({ frames := 5, cells := 0, slots := 0, locals := 113 }) (va_Pc [.ref (ad 0), .int (nI k), .int 0, .ref (ad 21)] (kP D kCl (kTy ty) (gW n ty ad f th rt qu b w T g a o) sz)) (va_Qi (fun (r9 : Int32) (u9 : va_W) => r9 = 0 ∧ u9 = gW n ty ad f th rt qu b w T g a (vp_updL o 0 ((T k).1).toInt64)) (kB D kCl (kTy ty) (va_A (gW n ty ad f th rt qu b w T g a o) sz)) (va_A (gW n ty ad f th rt qu b w T g a o) sz)) 0 0 (va_A (gW n ty ad f th rt qu b w T g a o) sz) := by
  refine va_MetW (cc := b_L_about) (maxL := 5) (ret := (some .int)) (by decide) rfl ?_
  intro p e s m args below meth cd s₁ B hml hv
  obtain ⟨rfl, hsz, hP, hK, hD0⟩ := hv
  have hx := B.exec
  have hb := B.bytes
  have hr := B.returns
  have hts := atoms_spec (ws := w_L_about) B.pre
  have hown : s.vm.findClass R_L = some m.cls := findClass_of_methodNamed B.named
  have hlocks := B.notSynchronized
  subst hsz
  have hD := hD0.self (sz := s.heap.size)
  generalize hAe : va_A (gW n ty ad f th rt qu b w T g a o) s.heap.size = A at hD ⊢
  have hA : ∀ q : Nat, s.heap.size ≤ q → A q := fun q h => by rw [← hAe]; exact Or.inr h
  have hS : va_S A s.heap s.heap [] := va_S.rf
  have hl := lv_entry ([.ref (ad 0), .int (nI k), .int 0, .ref (ad 21)]) (n := 5) (Nat.le_of_ble_eq_true rfl)
  rw [lg_entry_eq]
  generalize (lg_sl ([.ref (ad 0), .int (nI k), .int 0, .ref (ad 21)]) ++ List.replicate (5 - (lg_sl ([.ref (ad 0), .int (nI k), .int 0, .ref (ad 21)])).length) Slot.unset).toArray = ls at hl ⊢
  have hl : lv_has ls 5 [(0, .ref (ad 0)), (1, .int (nI k)), (2, .int 0), (3, .ref (ad 21))] := hl
  refine lv_aload_n hx hb d_L_about_0 rfl (lv_at hl 3 rfl) ?_
  refine lv_iconst (v := 0) hx hb d_L_about_1 (by decide) ?_
  refine lv_aload_n hx hb d_L_about_2 rfl (lv_at hl 0 rfl) ?_
  refine lv_iload_n hx hb d_L_about_3 rfl (lv_at hl 1 rfl) ?_
  refine lv_iload_n hx hb d_L_about_4 rfl (lv_at hl 2 rfl) ?_
  refine kc_i (va_runV (As := [.int (nI k), .int 0]) (rest := [.int 0, .ref (ad 21)]) ⟨hx, hb, hml, hown, hts⟩ (c_K_about0 l D ty ad _ n f th rt qu b w T g a o hn hn3 h12 k hk) (cwV 2 hts (kGV kS1 m_L_36 m_im_K_about m_sel_K_about m_ini_K m_code_K_about) rfl rfl rfl (by decide +kernel) ⟨Nat.le_of_ble_eq_true rfl, Nat.le_of_ble_eq_true rfl⟩) ⟨kP_blind, va_recv hK hP (ci := 0) (q0 := 0) rfl gw_0, fun U hU hW => ⟨rfl, kP_at hK hP hD U hU hW⟩⟩ rfl rfl hl.1 rfl (lv_room (Nat.le_of_ble_eq_true rfl)) d_L_about_5 ⟨Nat.le_of_ble_eq_true rfl, Nat.le_of_ble_eq_true rfl⟩) hD hS hA (fun r u H locs hu hP hD hS hz => ?_)
  obtain ⟨hr9, rfl⟩ := hu
  refine lv_i2l (v := (r).toInt64) hx hb d_L_about_8 rfl ?_
  refine va_last (f := o) hx hb hK hP hD hS 21 3 gw_21 rfl (by rw [← nI_0]; exact vp_in_nI (N := 1) (by omega) (by omega)) d_L_about_9 (fun H locs hP hD hS => ?_)
  rw [sb_cl0] at hP hD
  have hP := kw_P (gw_so (r := vp_updL o 0 ((r).toInt64))) hP
  have hD := kw_D (gw_so (r := vp_updL o 0 ((r).toInt64))) hD
  refine lv_goto (tgt := 21) hx hb d_L_about_10 (by decide) ?_
  refine lv_iconst (v := 0) hx hb d_L_about_21 (by decide) ?_
  have hu : (gW n ty ad f th rt qu b w T g a (vp_updL o 0 ((r).toInt64)) : va_W) = gW n ty ad f th rt qu b w T g a (vp_updL o 0 ((T k).1).toInt64) := by rw [hr9]
  exact W.iret (v := 0) hx hb hr (fun t ht hW => ⟨⟨_, _, rfl, ⟨rfl, hu⟩, by rw [ht]; exact hP, va_K.moved hW.alike hK, hD⟩, hS.F ht⟩) hS.2.2 d_L_about_22
set_option maxHeartbeats 4000000 in
set_option maxRecDepth 100000 in
/-- about(k, 1) -/
theorem c_L_about_1 (l : Launch) (D : va_G) (ty : Nat → ClassId) (ad : Nat → Nat) (sz : Nat) (n : Nat) (f : Nat → Int32) (th : Nat → Bool) (rt qu : Nat → Int32) (b w : SR) (T : Nat → TH) (g : Nat → Int32) (a : Nat → Nat → Int32) (o : Nat → Int64) (hn : ∀ k, th k = true → k < n) (hn3 : n ≤ 300) (h12 : ∀ k, (T k).2.2.2.1 ≤ 12) (k : Nat) (hk : th k = true) : Met l y_L_about w_L_about ({ frames := 5, cells := 0, slots := 0, locals := 113 }) (va_Pc [.ref (ad 0), .int (nI k), .int 1, .ref (ad 21)] (kP D kCl (kTy ty) (gW n ty ad f th rt qu b w T g a o) sz)) (va_Qi (fun (r9 : Int32) (u9 : va_W) => r9 = 0 ∧ u9 = gW n ty ad f th rt qu b w T g a (vp_updL o 0 (nI (T k).2.2.2.1).toInt64)) (kB D kCl (kTy ty) (va_A (gW n ty ad f th rt qu b w T g a o) sz)) (va_A (gW n ty ad f th rt qu b w T g a o) sz)) 0 0 (va_A (gW n ty ad f th rt qu b w T g a o) sz) := by
  refine va_MetW (cc := b_L_about) (maxL := 5) (ret := (some .int)) (by decide) rfl ?_
  intro p e s m args below meth cd s₁ B hml hv
  obtain ⟨rfl, hsz, hP, hK, hD0⟩ := hv
  have hx := B.exec
  have hb := B.bytes
  have hr := B.returns
  have hts := atoms_spec (ws := w_L_about) B.pre
  have hown : s.vm.findClass R_L = some m.cls := findClass_of_methodNamed B.named
  have hlocks := B.notSynchronized
  subst hsz
  have hD := hD0.self (sz := s.heap.size)
  generalize hAe : va_A (gW n ty ad f th rt qu b w T g a o) s.heap.size = A at hD ⊢
  have hA : ∀ q : Nat, s.heap.size ≤ q → A q := fun q h => by rw [← hAe]; exact Or.inr h
  have hS : va_S A s.heap s.heap [] := va_S.rf
  have hl := lv_entry ([.ref (ad 0), .int (nI k), .int 1, .ref (ad 21)]) (n := 5) (Nat.le_of_ble_eq_true rfl)
  rw [lg_entry_eq]
  generalize (lg_sl ([.ref (ad 0), .int (nI k), .int 1, .ref (ad 21)]) ++ List.replicate (5 - (lg_sl ([.ref (ad 0), .int (nI k), .int 1, .ref (ad 21)])).length) Slot.unset).toArray = ls at hl ⊢
  have hl : lv_has ls 5 [(0, .ref (ad 0)), (1, .int (nI k)), (2, .int 1), (3, .ref (ad 21))] := hl
  refine lv_aload_n hx hb d_L_about_0 rfl (lv_at hl 3 rfl) ?_
  refine lv_iconst (v := 0) hx hb d_L_about_1 (by decide) ?_
  refine lv_aload_n hx hb d_L_about_2 rfl (lv_at hl 0 rfl) ?_
  refine lv_iload_n hx hb d_L_about_3 rfl (lv_at hl 1 rfl) ?_
  refine lv_iload_n hx hb d_L_about_4 rfl (lv_at hl 2 rfl) ?_
  refine kc_i (va_runV (As := [.int (nI k), .int 1]) (rest := [.int 0, .ref (ad 21)]) ⟨hx, hb, hml, hown, hts⟩ (c_K_about1 l D ty ad _ n f th rt qu b w T g a o hn hn3 h12 k hk) (cwV 2 hts (kGV kS1 m_L_36 m_im_K_about m_sel_K_about m_ini_K m_code_K_about) rfl rfl rfl (by decide +kernel) ⟨Nat.le_of_ble_eq_true rfl, Nat.le_of_ble_eq_true rfl⟩) ⟨kP_blind, va_recv hK hP (ci := 0) (q0 := 0) rfl gw_0, fun U hU hW => ⟨rfl, kP_at hK hP hD U hU hW⟩⟩ rfl rfl hl.1 rfl (lv_room (Nat.le_of_ble_eq_true rfl)) d_L_about_5 ⟨Nat.le_of_ble_eq_true rfl, Nat.le_of_ble_eq_true rfl⟩) hD hS hA (fun r u H locs hu hP hD hS hz => ?_)
  obtain ⟨hr9, rfl⟩ := hu
  refine lv_i2l (v := (r).toInt64) hx hb d_L_about_8 rfl ?_
  refine va_last (f := o) hx hb hK hP hD hS 21 3 gw_21 rfl (by rw [← nI_0]; exact vp_in_nI (N := 1) (by omega) (by omega)) d_L_about_9 (fun H locs hP hD hS => ?_)
  rw [sb_cl0] at hP hD
  have hP := kw_P (gw_so (r := vp_updL o 0 ((r).toInt64))) hP
  have hD := kw_D (gw_so (r := vp_updL o 0 ((r).toInt64))) hD
  refine lv_goto (tgt := 21) hx hb d_L_about_10 (by decide) ?_
  refine lv_iconst (v := 0) hx hb d_L_about_21 (by decide) ?_
  have hu : (gW n ty ad f th rt qu b w T g a (vp_updL o 0 ((r).toInt64)) : va_W) = gW n ty ad f th rt qu b w T g a (vp_updL o 0 (nI (T k).2.2.2.1).toInt64) := by rw [hr9]
  exact W.iret (v := 0) hx hb hr (fun t ht hW => ⟨⟨_, _, rfl, ⟨rfl, hu⟩, by rw [ht]; exact hP, va_K.moved hW.alike hK, hD⟩, hS.F ht⟩) hS.2.2 d_L_about_22
set_option maxHeartbeats 4000000 in
set_option maxRecDepth 100000 in
/-- about(k, 2) -/
theorem c_L_about_2 (l : Launch) (D : va_G) (ty : Nat → ClassId) (ad : Nat → Nat) (sz : Nat) (n : Nat) (f : Nat → Int32) (th : Nat → Bool) (rt qu : Nat → Int32) (b w : SR) (T : Nat → TH) (g : Nat → Int32) (a : Nat → Nat → Int32) (o : Nat → Int64) (hn : ∀ k, th k = true → k < n) (hn3 : n ≤ 300) (h12 : ∀ k, (T k).2.2.2.1 ≤ 12) (k : Nat) (hk : th k = true) : Met l y_L_about w_L_about ({ frames := 5, cells := 0, slots := 0, locals := 113 }) (va_Pc [.ref (ad 0), .int (nI k), .int 2, .ref (ad 21)] (kP D kCl (kTy ty) (gW n ty ad f th rt qu b w T g a o) sz)) (va_Qi (fun (r9 : Int32) (u9 : va_W) => r9 = 0 ∧ u9 = gW n ty ad f th rt qu b (sReach f th rt qu T w) T g a (vp_updL o 0 (sHas (sReach f th rt qu T w) (nI k)).toInt64)) (kB D kCl (kTy ty) (va_A (gW n ty ad f th rt qu b w T g a o) sz)) (va_A (gW n ty ad f th rt qu b w T g a o) sz)) 0 0 (va_A (gW n ty ad f th rt qu b w T g a o) sz) := by
  refine va_MetW (cc := b_L_about) (maxL := 5) (ret := (some .int)) (by decide) rfl ?_
  intro p e s m args below meth cd s₁ B hml hv
  obtain ⟨rfl, hsz, hP, hK, hD0⟩ := hv
  have hx := B.exec
  have hb := B.bytes
  have hr := B.returns
  have hts := atoms_spec (ws := w_L_about) B.pre
  have hown : s.vm.findClass R_L = some m.cls := findClass_of_methodNamed B.named
  have hlocks := B.notSynchronized
  subst hsz
  have hD := hD0.self (sz := s.heap.size)
  generalize hAe : va_A (gW n ty ad f th rt qu b w T g a o) s.heap.size = A at hD ⊢
  have hA : ∀ q : Nat, s.heap.size ≤ q → A q := fun q h => by rw [← hAe]; exact Or.inr h
  have hS : va_S A s.heap s.heap [] := va_S.rf
  have hl := lv_entry ([.ref (ad 0), .int (nI k), .int 2, .ref (ad 21)]) (n := 5) (Nat.le_of_ble_eq_true rfl)
  rw [lg_entry_eq]
  generalize (lg_sl ([.ref (ad 0), .int (nI k), .int 2, .ref (ad 21)]) ++ List.replicate (5 - (lg_sl ([.ref (ad 0), .int (nI k), .int 2, .ref (ad 21)])).length) Slot.unset).toArray = ls at hl ⊢
  have hl : lv_has ls 5 [(0, .ref (ad 0)), (1, .int (nI k)), (2, .int 2), (3, .ref (ad 21))] := hl
  refine lv_aload_n hx hb d_L_about_0 rfl (lv_at hl 3 rfl) ?_
  refine lv_iconst (v := 0) hx hb d_L_about_1 (by decide) ?_
  refine lv_aload_n hx hb d_L_about_2 rfl (lv_at hl 0 rfl) ?_
  refine lv_iload_n hx hb d_L_about_3 rfl (lv_at hl 1 rfl) ?_
  refine lv_iload_n hx hb d_L_about_4 rfl (lv_at hl 2 rfl) ?_
  refine kc_i (va_runV (As := [.int (nI k), .int 2]) (rest := [.int 0, .ref (ad 21)]) ⟨hx, hb, hml, hown, hts⟩ (c_K_about2 l D ty ad _ n f th rt qu b w T g a o hn hn3 h12 k hk) (cwV 2 hts (kGV kS1 m_L_36 m_im_K_about m_sel_K_about m_ini_K m_code_K_about) rfl rfl rfl (by decide +kernel) ⟨Nat.le_of_ble_eq_true rfl, Nat.le_of_ble_eq_true rfl⟩) ⟨kP_blind, va_recv hK hP (ci := 0) (q0 := 0) rfl gw_0, fun U hU hW => ⟨rfl, kP_at hK hP hD U hU hW⟩⟩ rfl rfl hl.1 rfl (lv_room (Nat.le_of_ble_eq_true rfl)) d_L_about_5 ⟨Nat.le_of_ble_eq_true rfl, Nat.le_of_ble_eq_true rfl⟩) hD hS hA (fun r u H locs hu hP hD hS hz => ?_)
  obtain ⟨hr9, rfl⟩ := hu
  refine lv_i2l (v := (r).toInt64) hx hb d_L_about_8 rfl ?_
  refine va_last (f := o) hx hb hK hP hD hS 21 3 gw_21 rfl (by rw [← nI_0]; exact vp_in_nI (N := 1) (by omega) (by omega)) d_L_about_9 (fun H locs hP hD hS => ?_)
  rw [sb_cl0] at hP hD
  have hP := kw_P (gw_so (r := vp_updL o 0 ((r).toInt64))) hP
  have hD := kw_D (gw_so (r := vp_updL o 0 ((r).toInt64))) hD
  refine lv_goto (tgt := 21) hx hb d_L_about_10 (by decide) ?_
  refine lv_iconst (v := 0) hx hb d_L_about_21 (by decide) ?_
  have hu : (gW n ty ad f th rt qu b (sReach f th rt qu T w) T g a (vp_updL o 0 ((r).toInt64)) : va_W) = gW n ty ad f th rt qu b (sReach f th rt qu T w) T g a (vp_updL o 0 (sHas (sReach f th rt qu T w) (nI k)).toInt64) := by rw [hr9]
  exact W.iret (v := 0) hx hb hr (fun t ht hW => ⟨⟨_, _, rfl, ⟨rfl, hu⟩, by rw [ht]; exact hP, va_K.moved hW.alike hK, hD⟩, hS.F ht⟩) hS.2.2 d_L_about_22
set_option maxHeartbeats 4000000 in
set_option maxRecDepth 100000 in
/-- about(k, 3) -/
theorem c_L_about_3 (l : Launch) (D : va_G) (ty : Nat → ClassId) (ad : Nat → Nat) (sz : Nat) (n : Nat) (f : Nat → Int32) (th : Nat → Bool) (rt qu : Nat → Int32) (b w : SR) (T : Nat → TH) (g : Nat → Int32) (a : Nat → Nat → Int32) (o : Nat → Int64) (hn : ∀ k, th k = true → k < n) (hn3 : n ≤ 300) (h12 : ∀ k, (T k).2.2.2.1 ≤ 12) (k : Nat) (hk : th k = true) : Met l y_L_about w_L_about ({ frames := 5, cells := 0, slots := 0, locals := 113 }) (va_Pc [.ref (ad 0), .int (nI k), .int 3, .ref (ad 21)] (kP D kCl (kTy ty) (gW n ty ad f th rt qu b w T g a o) sz)) (va_Qi (fun (r9 : Int32) (u9 : va_W) => r9 = 0 ∧ u9 = gW n ty ad f th rt qu b (sKept f th rt qu T w) T g a (vp_updL o 0 (sHas (sKept f th rt qu T w) (nI k)).toInt64)) (kB D kCl (kTy ty) (va_A (gW n ty ad f th rt qu b w T g a o) sz)) (va_A (gW n ty ad f th rt qu b w T g a o) sz)) 0 0 (va_A (gW n ty ad f th rt qu b w T g a o) sz) := by
  refine va_MetW (cc := b_L_about) (maxL := 5) (ret := (some .int)) (by decide) rfl ?_
  intro p e s m args below meth cd s₁ B hml hv
  obtain ⟨rfl, hsz, hP, hK, hD0⟩ := hv
  have hx := B.exec
  have hb := B.bytes
  have hr := B.returns
  have hts := atoms_spec (ws := w_L_about) B.pre
  have hown : s.vm.findClass R_L = some m.cls := findClass_of_methodNamed B.named
  have hlocks := B.notSynchronized
  subst hsz
  have hD := hD0.self (sz := s.heap.size)
  generalize hAe : va_A (gW n ty ad f th rt qu b w T g a o) s.heap.size = A at hD ⊢
  have hA : ∀ q : Nat, s.heap.size ≤ q → A q := fun q h => by rw [← hAe]; exact Or.inr h
  have hS : va_S A s.heap s.heap [] := va_S.rf
  have hl := lv_entry ([.ref (ad 0), .int (nI k), .int 3, .ref (ad 21)]) (n := 5) (Nat.le_of_ble_eq_true rfl)
  rw [lg_entry_eq]
  generalize (lg_sl ([.ref (ad 0), .int (nI k), .int 3, .ref (ad 21)]) ++ List.replicate (5 - (lg_sl ([.ref (ad 0), .int (nI k), .int 3, .ref (ad 21)])).length) Slot.unset).toArray = ls at hl ⊢
  have hl : lv_has ls 5 [(0, .ref (ad 0)), (1, .int (nI k)), (2, .int 3), (3, .ref (ad 21))] := hl
  refine lv_aload_n hx hb d_L_about_0 rfl (lv_at hl 3 rfl) ?_
  refine lv_iconst (v := 0) hx hb d_L_about_1 (by decide) ?_
  refine lv_aload_n hx hb d_L_about_2 rfl (lv_at hl 0 rfl) ?_
  refine lv_iload_n hx hb d_L_about_3 rfl (lv_at hl 1 rfl) ?_
  refine lv_iload_n hx hb d_L_about_4 rfl (lv_at hl 2 rfl) ?_
  refine kc_i (va_runV (As := [.int (nI k), .int 3]) (rest := [.int 0, .ref (ad 21)]) ⟨hx, hb, hml, hown, hts⟩ (c_K_about3 l D ty ad _ n f th rt qu b w T g a o hn hn3 h12 k hk) (cwV 2 hts (kGV kS1 m_L_36 m_im_K_about m_sel_K_about m_ini_K m_code_K_about) rfl rfl rfl (by decide +kernel) ⟨Nat.le_of_ble_eq_true rfl, Nat.le_of_ble_eq_true rfl⟩) ⟨kP_blind, va_recv hK hP (ci := 0) (q0 := 0) rfl gw_0, fun U hU hW => ⟨rfl, kP_at hK hP hD U hU hW⟩⟩ rfl rfl hl.1 rfl (lv_room (Nat.le_of_ble_eq_true rfl)) d_L_about_5 ⟨Nat.le_of_ble_eq_true rfl, Nat.le_of_ble_eq_true rfl⟩) hD hS hA (fun r u H locs hu hP hD hS hz => ?_)
  obtain ⟨hr9, rfl⟩ := hu
  refine lv_i2l (v := (r).toInt64) hx hb d_L_about_8 rfl ?_
  refine va_last (f := o) hx hb hK hP hD hS 21 3 gw_21 rfl (by rw [← nI_0]; exact vp_in_nI (N := 1) (by omega) (by omega)) d_L_about_9 (fun H locs hP hD hS => ?_)
  rw [sb_cl0] at hP hD
  have hP := kw_P (gw_so (r := vp_updL o 0 ((r).toInt64))) hP
  have hD := kw_D (gw_so (r := vp_updL o 0 ((r).toInt64))) hD
  refine lv_goto (tgt := 21) hx hb d_L_about_10 (by decide) ?_
  refine lv_iconst (v := 0) hx hb d_L_about_21 (by decide) ?_
  have hu : (gW n ty ad f th rt qu b (sKept f th rt qu T w) T g a (vp_updL o 0 ((r).toInt64)) : va_W) = gW n ty ad f th rt qu b (sKept f th rt qu T w) T g a (vp_updL o 0 (sHas (sKept f th rt qu T w) (nI k)).toInt64) := by rw [hr9]
  exact W.iret (v := 0) hx hb hr (fun t ht hW => ⟨⟨_, _, rfl, ⟨rfl, hu⟩, by rw [ht]; exact hP, va_K.moved hW.alike hK, hD⟩, hS.F ht⟩) hS.2.2 d_L_about_22
set_option maxHeartbeats 4000000 in
set_option maxRecDepth 100000 in
/-- about, 1 -/
theorem c_L_about_x (l : Launch) (D : va_G) (ty : Nat → ClassId) (ad : Nat → Nat) (sz : Nat) (n : Nat) (f : Nat → Int32) (th : Nat → Bool) (rt qu : Nat → Int32) (b w : SR) (T : Nat → TH) (g : Nat → Int32) (a : Nat → Nat → Int32) (o : Nat → Int64) (x : Int32) (hno : ¬ tOk th x = true) (y : Int32) (htr : l.stackTraces = false) : Met l y_L_about w_L_about ({ frames := 8, cells := 1, slots := 6, locals := 128 }) (va_Pc [.ref (ad 0), .int x, .int y, .ref (ad 21)] (fun U => kP D kCl (kTy ty) (gW n ty ad f th rt qu b w T g a o) sz U ∧ kY (va_A (gW n ty ad f th rt qu b w T g a o) sz) U U.heap)) (va_Qi (fun (r9 : Int32) (u9 : va_W) => r9 = 1 ∧ u9 = gW n ty ad f th rt qu b w T g a o) (kB D kCl (kTy ty) (va_A (gW n ty ad f th rt qu b w T g a o) sz)) (va_A (gW n ty ad f th rt qu b w T g a o) sz)) 1 6 (va_A (gW n ty ad f th rt qu b w T g a o) sz) := by
  refine va_MetW (cc := b_L_about) (maxL := 5) (ret := (some .int)) (by decide) rfl ?_
  intro p e s m args below meth cd s₁ B hml hv
  obtain ⟨rfl, ⟨hsz, hP, hK, hD0⟩, hZ⟩ := hv
  have hx := B.exec
  have hb := B.bytes
  have hr := B.returns
  have hts := atoms_spec (ws := w_L_about) B.pre
  have hown : s.vm.findClass R_L = some m.cls := findClass_of_methodNamed B.named
  have hlocks := B.notSynchronized
  subst hsz
  have hD := hD0.self (sz := s.heap.size)
  generalize hAe : va_A (gW n ty ad f th rt qu b w T g a o) s.heap.size = A at hD hZ ⊢
  have hA : ∀ q : Nat, s.heap.size ≤ q → A q := fun q h => by rw [← hAe]; exact Or.inr h
  have hS : va_S A s.heap s.heap [] := va_S.rf
  have hl := lv_entry ([.ref (ad 0), .int x, .int y, .ref (ad 21)]) (n := 5) (Nat.le_of_ble_eq_true rfl)
  rw [lg_entry_eq]
  generalize (lg_sl ([.ref (ad 0), .int x, .int y, .ref (ad 21)]) ++ List.replicate (5 - (lg_sl ([.ref (ad 0), .int x, .int y, .ref (ad 21)])).length) Slot.unset).toArray = ls at hl ⊢
  have hl : lv_has ls 5 [(0, .ref (ad 0)), (1, .int x), (2, .int y), (3, .ref (ad 21))] := hl
  have htb : cd.exceptionTable.toList = [⟨0, 10, 13, 21⟩, ⟨0, 10, 17, 13⟩] := kx_table B (hts _ List.mem_cons_self)
  have hpl : e.platform.magicAccessors = ({} : Platform).magicAccessors := by rw [(Stand.of_body B).admits.platform]
  refine lv_aload_n hx hb d_L_about_0 rfl (lv_at hl 3 rfl) ?_
  refine lv_iconst (v := 0) hx hb d_L_about_1 (by decide) ?_
  refine lv_aload_n hx hb d_L_about_2 rfl (lv_at hl 0 rfl) ?_
  refine lv_iload_n hx hb d_L_about_3 rfl (lv_at hl 1 rfl) ?_
  refine lv_iload_n hx hb d_L_about_4 rfl (lv_at hl 2 rfl) ?_
  refine kt_catchW (hpc := 13) (kt_callV (As := [.int x, .int y]) (rest := [.int 0, .ref (ad 21)]) ⟨hx, hb, hml, hown, hts⟩ (c_K_about_x l D ty ad _ n f th rt qu b w T g a o x hno y htr) (cwV 2 hts (kGV kS1 m_L_36 m_im_K_about m_sel_K_about m_ini_K m_code_K_about) rfl rfl rfl (by decide +kernel) ⟨Nat.le_of_ble_eq_true rfl, Nat.le_of_ble_eq_true rfl⟩) ⟨kPZ_blind, va_recv hK hP (ci := 0) (q0 := 0) rfl gw_0, fun U hU hW => ⟨rfl, kP_at hK hP hD U hU hW, hZ.1.at hS (fun q h => by rw [← hAe]; exact h) U hU hW⟩⟩ rfl rfl hl.1 rfl (lv_room (Nat.le_of_ble_eq_true rfl)) d_L_about_5 ⟨Nat.le_of_ble_eq_true rfl, Nat.le_of_ble_eq_true rfl⟩) (fun S x cell hW hcx hcv hcc => by rw [htb]; exact kf_hit hpl hown hW rfl (by decide) (hts _ (kS1 _ m_L_21)) (hZ.1.2.2.use m_cast_NoSuchElementException) hcx hcv hcc) hP hS (fun x9 H hP hS => ?_)
  refine lv_astore (lv' := [(4, .ref x9), (0, .ref (ad 0)), (1, .int x), (2, .int y), (3, .ref (ad 21))]) hx hb d_L_about_13 hl (by decide) rfl (fun ls hl => ?_)
  refine lv_iconst (v := 1) hx hb d_L_about_15 (by decide) ?_
  have hu : (gW n ty ad f th rt qu b w T g a o : va_W) = gW n ty ad f th rt qu b w T g a o := rfl
  exact W.iret (v := 1) hx hb hr (fun t ht hW => ⟨⟨_, _, rfl, ⟨rfl, hu⟩, by rw [ht]; exact hP, va_K.moved hW.alike hK, hD⟩, hS.F ht⟩) hS.2.2 d_L_about_16
set_option maxHeartbeats 4000000 in
set_option maxRecDepth 100000 in
/-- about, 2 -/
theorem c_L_about_y (l : Launch) (D : va_G) (ty : Nat → ClassId) (ad : Nat → Nat) (sz : Nat) (n : Nat) (f : Nat → Int32) (th : Nat → Bool) (rt qu : Nat → Int32) (b w : SR) (T : Nat → TH) (g : Nat → Int32) (a : Nat → Nat → Int32) (o : Nat → Int64) (hn : ∀ k, th k = true → k < n) (hn3 : n ≤ 300) (k : Nat) (y : Int32) (hk : th k = true) (hbad : y.toInt < 0 ∨ 3 < y.toInt) (htr : l.stackTraces = false) : Met l y_L_about w_L_about ({ frames := 7, cells := 1, slots := 6, locals := 106 }) (va_Pc [.ref (ad 0), .int (nI k), .int y, .ref (ad 21)] (fun U => kP D kCl (kTy ty) (gW n ty ad f th rt qu b w T g a o) sz U ∧ kY (va_A (gW n ty ad f th rt qu b w T g a o) sz) U U.heap)) (va_Qi (fun (r9 : Int32) (u9 : va_W) => r9 = 2 ∧ u9 = gW n ty ad f th rt qu b w T g a o) (kB D kCl (kTy ty) (va_A (gW n ty ad f th rt qu b w T g a o) sz)) (va_A (gW n ty ad f th rt qu b w T g a o) sz)) 1 6 (va_A (gW n ty ad f th rt qu b w T g a o) sz) := by
  refine va_MetW (cc := b_L_about) (maxL := 5) (ret := (some .int)) (by decide) rfl ?_
  intro p e s m args below meth cd s₁ B hml hv
  obtain ⟨rfl, ⟨hsz, hP, hK, hD0⟩, hZ⟩ := hv
  have hx := B.exec
  have hb := B.bytes
  have hr := B.returns
  have hts := atoms_spec (ws := w_L_about) B.pre
  have hown : s.vm.findClass R_L = some m.cls := findClass_of_methodNamed B.named
  have hlocks := B.notSynchronized
  subst hsz
  have hD := hD0.self (sz := s.heap.size)
  generalize hAe : va_A (gW n ty ad f th rt qu b w T g a o) s.heap.size = A at hD hZ ⊢
  have hA : ∀ q : Nat, s.heap.size ≤ q → A q := fun q h => by rw [← hAe]; exact Or.inr h
  have hS : va_S A s.heap s.heap [] := va_S.rf
  have hl := lv_entry ([.ref (ad 0), .int (nI k), .int y, .ref (ad 21)]) (n := 5) (Nat.le_of_ble_eq_true rfl)
  rw [lg_entry_eq]
  generalize (lg_sl ([.ref (ad 0), .int (nI k), .int y, .ref (ad 21)]) ++ List.replicate (5 - (lg_sl ([.ref (ad 0), .int (nI k), .int y, .ref (ad 21)])).length) Slot.unset).toArray = ls at hl ⊢
  have hl : lv_has ls 5 [(0, .ref (ad 0)), (1, .int (nI k)), (2, .int y), (3, .ref (ad 21))] := hl
  have htb : cd.exceptionTable.toList = [⟨0, 10, 13, 21⟩, ⟨0, 10, 17, 13⟩] := kx_table B (hts _ List.mem_cons_self)
  have hpl : e.platform.magicAccessors = ({} : Platform).magicAccessors := by rw [(Stand.of_body B).admits.platform]
  refine lv_aload_n hx hb d_L_about_0 rfl (lv_at hl 3 rfl) ?_
  refine lv_iconst (v := 0) hx hb d_L_about_1 (by decide) ?_
  refine lv_aload_n hx hb d_L_about_2 rfl (lv_at hl 0 rfl) ?_
  refine lv_iload_n hx hb d_L_about_3 rfl (lv_at hl 1 rfl) ?_
  refine lv_iload_n hx hb d_L_about_4 rfl (lv_at hl 2 rfl) ?_
  refine kt_catchW (hpc := 17) (kt_callV (As := [.int (nI k), .int y]) (rest := [.int 0, .ref (ad 21)]) ⟨hx, hb, hml, hown, hts⟩ (c_K_about_y l D ty ad _ n f th rt qu b w T g a o hn hn3 k y hk hbad htr) (cwV 2 hts (kGV kS1 m_L_36 m_im_K_about m_sel_K_about m_ini_K m_code_K_about) rfl rfl rfl (by decide +kernel) ⟨Nat.le_of_ble_eq_true rfl, Nat.le_of_ble_eq_true rfl⟩) ⟨kPZ_blind, va_recv hK hP (ci := 0) (q0 := 0) rfl gw_0, fun U hU hW => ⟨rfl, kP_at hK hP hD U hU hW, hZ.1.at hS (fun q h => by rw [← hAe]; exact h) U hU hW⟩⟩ rfl rfl hl.1 rfl (lv_room (Nat.le_of_ble_eq_true rfl)) d_L_about_5 ⟨Nat.le_of_ble_eq_true rfl, Nat.le_of_ble_eq_true rfl⟩) (fun S x cell hW hcx hcv hcc => by rw [htb]; exact kf_miss hpl hown hW rfl (by decide) (hts _ (kS1 _ m_L_21)) (kNc hZ.2.2 hcc) hcx hcv hcc (fun S' hW' hS' => kf_hit hpl hown hW' rfl (by decide) (hts _ (kS1 _ m_L_13)) (hZ.1.2.2.use m_cast_IllegalArgumentException) (by rw [hS']; exact hcx) hcv hcc)) hP hS (fun x9 H hP hS => ?_)
  refine lv_astore (lv' := [(4, .ref x9), (0, .ref (ad 0)), (1, .int (nI k)), (2, .int y), (3, .ref (ad 21))]) hx hb d_L_about_17 hl (by decide) rfl (fun ls hl => ?_)
  refine lv_iconst (v := 2) hx hb d_L_about_19 (by decide) ?_
  have hu : (gW n ty ad f th rt qu b w T g a o : va_W) = gW n ty ad f th rt qu b w T g a o := rfl
  exact W.iret (v := 2) hx hb hr (fun t ht hW => ⟨⟨_, _, rfl, ⟨rfl, hu⟩, by rw [ht]; exact hP, va_K.moved hW.alike hK, hD⟩, hS.F ht⟩) hS.2.2 d_L_about_20
set_option maxHeartbeats 4000000 in
set_option maxRecDepth 100000 in
/-- count(0) -/
theorem c_L_count_0 (l : Launch) (D : va_G) (ty : Nat → ClassId) (ad : Nat → Nat) (sz : Nat) (n : Nat) (f : Nat → Int32) (th : Nat → Bool) (rt qu : Nat → Int32) (b w : SR) (T : Nat → TH) (g : Nat → Int32) (a : Nat → Nat → Int32) (o : Nat → Int64) (hn : ∀ k, th k = true → k < n) (h12 : ∀ k, (T k).2.2.2.1 ≤ 12) : Met l y_L_count w_L_count ({ frames := 5, cells := 0, slots := 0, locals := 111 }) (va_Pc [.ref (ad 0), .int 0, .ref (ad 21)] (kP D kCl (kTy ty) (gW n ty ad f th rt qu b w T g a o) sz)) (va_Qi (fun (r9 : Int32) (u9 : va_W) => r9 = 0 ∧ u9 = gW n ty ad f th rt qu b w T g a (vp_updL o 0 (f 8).toInt64)) (kB D kCl (kTy ty) (va_A (gW n ty ad f th rt qu b w T g a o) sz)) (va_A (gW n ty ad f th rt qu b w T g a o) sz)) 0 0 (va_A (gW n ty ad f th rt qu b w T g a o) sz) := by
  refine va_MetW (cc := b_L_count) (maxL := 4) (ret := (some .int)) (by decide) rfl ?_
  intro p e s m args below meth cd s₁ B hml hv
  obtain ⟨rfl, hsz, hP, hK, hD0⟩ := hv
  have hx := B.exec
  have hb := B.bytes
  have hr := B.returns
  have hts := atoms_spec (ws := w_L_count) B.pre
  have hown : s.vm.findClass R_L = some m.cls := findClass_of_methodNamed B.named
  have hlocks := B.notSynchronized
  subst hsz
  have hD := hD0.self (sz := s.heap.size)
  generalize hAe : va_A (gW n ty ad f th rt qu b w T g a o) s.heap.size = A at hD ⊢
  have hA : ∀ q : Nat, s.heap.size ≤ q → A q := fun q h => by rw [← hAe]; exact Or.inr h
  have hS : va_S A s.heap s.heap [] := va_S.rf
  have hl := lv_entry ([.ref (ad 0), .int 0, .ref (ad 21)]) (n := 4) (Nat.le_of_ble_eq_true rfl)
  rw [lg_entry_eq]
  generalize (lg_sl ([.ref (ad 0), .int 0, .ref (ad 21)]) ++ List.replicate (4 - (lg_sl ([.ref (ad 0), .int 0, .ref (ad 21)])).length) Slot.unset).toArray = ls at hl ⊢
  have hl : lv_has ls 4 [(0, .ref (ad 0)), (1, .int 0), (2, .ref (ad 21))] := hl
  refine lv_aload_n hx hb d_L_count_0 rfl (lv_at hl 2 rfl) ?_
  refine lv_iconst (v := 0) hx hb d_L_count_1 (by decide) ?_
  refine lv_aload_n hx hb d_L_count_2 rfl (lv_at hl 0 rfl) ?_
  refine lv_iload_n hx hb d_L_count_3 rfl (lv_at hl 1 rfl) ?_
  refine kc_i (va_runV (As := [.int 0]) (rest := [.int 0, .ref (ad 21)]) ⟨hx, hb, hml, hown, hts⟩ (c_K_count0 l D ty ad _ n f th rt qu b w T g a o hn h12) (cwV 1 hts (kGV kS1 m_L_39 m_im_K_count m_sel_K_count m_ini_K m_code_K_count) rfl rfl rfl (by decide +kernel) ⟨Nat.le_of_ble_eq_true rfl, Nat.le_of_ble_eq_true rfl⟩) ⟨kP_blind, va_recv hK hP (ci := 0) (q0 := 0) rfl gw_0, fun U hU hW => ⟨rfl, kP_at hK hP hD U hU hW⟩⟩ rfl rfl hl.1 rfl (lv_room (Nat.le_of_ble_eq_true rfl)) d_L_count_4 ⟨Nat.le_of_ble_eq_true rfl, Nat.le_of_ble_eq_true rfl⟩) hD hS hA (fun r u H locs hu hP hD hS hz => ?_)
  obtain ⟨hr9, rfl⟩ := hu
  refine lv_i2l (v := (r).toInt64) hx hb d_L_count_7 rfl ?_
  refine va_last (f := o) hx hb hK hP hD hS 21 3 gw_21 rfl (by rw [← nI_0]; exact vp_in_nI (N := 1) (by omega) (by omega)) d_L_count_8 (fun H locs hP hD hS => ?_)
  rw [sb_cl0] at hP hD
  have hP := kw_P (gw_so (r := vp_updL o 0 ((r).toInt64))) hP
  have hD := kw_D (gw_so (r := vp_updL o 0 ((r).toInt64))) hD
  refine lv_goto (tgt := 15) hx hb d_L_count_9 (by decide) ?_
  refine lv_iconst (v := 0) hx hb d_L_count_15 (by decide) ?_
  have hu : (gW n ty ad f th rt qu b w T g a (vp_updL o 0 ((r).toInt64)) : va_W) = gW n ty ad f th rt qu b w T g a (vp_updL o 0 (f 8).toInt64) := by rw [hr9]
  exact W.iret (v := 0) hx hb hr (fun t ht hW => ⟨⟨_, _, rfl, ⟨rfl, hu⟩, by rw [ht]; exact hP, va_K.moved hW.alike hK, hD⟩, hS.F ht⟩) hS.2.2 d_L_count_16
set_option maxHeartbeats 4000000 in
set_option maxRecDepth 100000 in
/-- count(1) -/
theorem c_L_count_1 (l : Launch) (D : va_G) (ty : Nat → ClassId) (ad : Nat → Nat) (sz : Nat) (n : Nat) (f : Nat → Int32) (th : Nat → Bool) (rt qu : Nat → Int32) (b w : SR) (T : Nat → TH) (g : Nat → Int32) (a : Nat → Nat → Int32) (o : Nat → Int64) (hn : ∀ k, th k = true → k < n) (h12 : ∀ k, (T k).2.2.2.1 ≤ 12) : Met l y_L_count w_L_count ({ frames := 5, cells := 0, slots := 0, locals := 111 }) (va_Pc [.ref (ad 0), .int 1, .ref (ad 21)] (kP D kCl (kTy ty) (gW n ty ad f th rt qu b w T g a o) sz)) (va_Qi (fun (r9 : Int32) (u9 : va_W) => r9 = 0 ∧ u9 = gW n ty ad f th rt qu b (sReach f th rt qu T w) T g a (vp_updL o 0 ((sReach f th rt qu T w).2.2).toInt64)) (kB D kCl (kTy ty) (va_A (gW n ty ad f th rt qu b w T g a o) sz)) (va_A (gW n ty ad f th rt qu b w T g a o) sz)) 0 0 (va_A (gW n ty ad f th rt qu b w T g a o) sz) := by
  refine va_MetW (cc := b_L_count) (maxL := 4) (ret := (some .int)) (by decide) rfl ?_
  intro p e s m args below meth cd s₁ B hml hv
  obtain ⟨rfl, hsz, hP, hK, hD0⟩ := hv
  have hx := B.exec
  have hb := B.bytes
  have hr := B.returns
  have hts := atoms_spec (ws := w_L_count) B.pre
  have hown : s.vm.findClass R_L = some m.cls := findClass_of_methodNamed B.named
  have hlocks := B.notSynchronized
  subst hsz
  have hD := hD0.self (sz := s.heap.size)
  generalize hAe : va_A (gW n ty ad f th rt qu b w T g a o) s.heap.size = A at hD ⊢
  have hA : ∀ q : Nat, s.heap.size ≤ q → A q := fun q h => by rw [← hAe]; exact Or.inr h
  have hS : va_S A s.heap s.heap [] := va_S.rf
  have hl := lv_entry ([.ref (ad 0), .int 1, .ref (ad 21)]) (n := 4) (Nat.le_of_ble_eq_true rfl)
  rw [lg_entry_eq]
  generalize (lg_sl ([.ref (ad 0), .int 1, .ref (ad 21)]) ++ List.replicate (4 - (lg_sl ([.ref (ad 0), .int 1, .ref (ad 21)])).length) Slot.unset).toArray = ls at hl ⊢
  have hl : lv_has ls 4 [(0, .ref (ad 0)), (1, .int 1), (2, .ref (ad 21))] := hl
  refine lv_aload_n hx hb d_L_count_0 rfl (lv_at hl 2 rfl) ?_
  refine lv_iconst (v := 0) hx hb d_L_count_1 (by decide) ?_
  refine lv_aload_n hx hb d_L_count_2 rfl (lv_at hl 0 rfl) ?_
  refine lv_iload_n hx hb d_L_count_3 rfl (lv_at hl 1 rfl) ?_
  refine kc_i (va_runV (As := [.int 1]) (rest := [.int 0, .ref (ad 21)]) ⟨hx, hb, hml, hown, hts⟩ (c_K_count1 l D ty ad _ n f th rt qu b w T g a o hn h12) (cwV 1 hts (kGV kS1 m_L_39 m_im_K_count m_sel_K_count m_ini_K m_code_K_count) rfl rfl rfl (by decide +kernel) ⟨Nat.le_of_ble_eq_true rfl, Nat.le_of_ble_eq_true rfl⟩) ⟨kP_blind, va_recv hK hP (ci := 0) (q0 := 0) rfl gw_0, fun U hU hW => ⟨rfl, kP_at hK hP hD U hU hW⟩⟩ rfl rfl hl.1 rfl (lv_room (Nat.le_of_ble_eq_true rfl)) d_L_count_4 ⟨Nat.le_of_ble_eq_true rfl, Nat.le_of_ble_eq_true rfl⟩) hD hS hA (fun r u H locs hu hP hD hS hz => ?_)
  obtain ⟨hr9, rfl⟩ := hu
  refine lv_i2l (v := (r).toInt64) hx hb d_L_count_7 rfl ?_
  refine va_last (f := o) hx hb hK hP hD hS 21 3 gw_21 rfl (by rw [← nI_0]; exact vp_in_nI (N := 1) (by omega) (by omega)) d_L_count_8 (fun H locs hP hD hS => ?_)
  rw [sb_cl0] at hP hD
  have hP := kw_P (gw_so (r := vp_updL o 0 ((r).toInt64))) hP
  have hD := kw_D (gw_so (r := vp_updL o 0 ((r).toInt64))) hD
  refine lv_goto (tgt := 15) hx hb d_L_count_9 (by decide) ?_
  refine lv_iconst (v := 0) hx hb d_L_count_15 (by decide) ?_
  have hu : (gW n ty ad f th rt qu b (sReach f th rt qu T w) T g a (vp_updL o 0 ((r).toInt64)) : va_W) = gW n ty ad f th rt qu b (sReach f th rt qu T w) T g a (vp_updL o 0 ((sReach f th rt qu T w).2.2).toInt64) := by rw [hr9]
  exact W.iret (v := 0) hx hb hr (fun t ht hW => ⟨⟨_, _, rfl, ⟨rfl, hu⟩, by rw [ht]; exact hP, va_K.moved hW.alike hK, hD⟩, hS.F ht⟩) hS.2.2 d_L_count_16
set_option maxHeartbeats 4000000 in
set_option maxRecDepth 100000 in
/-- count(2) -/
theorem c_L_count_2 (l : Launch) (D : va_G) (ty : Nat → ClassId) (ad : Nat → Nat) (sz : Nat) (n : Nat) (f : Nat → Int32) (th : Nat → Bool) (rt qu : Nat → Int32) (b w : SR) (T : Nat → TH) (g : Nat → Int32) (a : Nat → Nat → Int32) (o : Nat → Int64) (hn : ∀ k, th k = true → k < n) (h12 : ∀ k, (T k).2.2.2.1 ≤ 12) : Met l y_L_count w_L_count ({ frames := 5, cells := 0, slots := 0, locals := 111 }) (va_Pc [.ref (ad 0), .int 2, .ref (ad 21)] (kP D kCl (kTy ty) (gW n ty ad f th rt qu b w T g a o) sz)) (va_Qi (fun (r9 : Int32) (u9 : va_W) => r9 = 0 ∧ u9 = gW n ty ad f th rt qu b (sKept f th rt qu T w) T g a (vp_updL o 0 ((sKept f th rt qu T w).2.2).toInt64)) (kB D kCl (kTy ty) (va_A (gW n ty ad f th rt qu b w T g a o) sz)) (va_A (gW n ty ad f th rt qu b w T g a o) sz)) 0 0 (va_A (gW n ty ad f th rt qu b w T g a o) sz) := by
  refine va_MetW (cc := b_L_count) (maxL := 4) (ret := (some .int)) (by decide) rfl ?_
  intro p e s m args below meth cd s₁ B hml hv
  obtain ⟨rfl, hsz, hP, hK, hD0⟩ := hv
  have hx := B.exec
  have hb := B.bytes
  have hr := B.returns
  have hts := atoms_spec (ws := w_L_count) B.pre
  have hown : s.vm.findClass R_L = some m.cls := findClass_of_methodNamed B.named
  have hlocks := B.notSynchronized
  subst hsz
  have hD := hD0.self (sz := s.heap.size)
  generalize hAe : va_A (gW n ty ad f th rt qu b w T g a o) s.heap.size = A at hD ⊢
  have hA : ∀ q : Nat, s.heap.size ≤ q → A q := fun q h => by rw [← hAe]; exact Or.inr h
  have hS : va_S A s.heap s.heap [] := va_S.rf
  have hl := lv_entry ([.ref (ad 0), .int 2, .ref (ad 21)]) (n := 4) (Nat.le_of_ble_eq_true rfl)
  rw [lg_entry_eq]
  generalize (lg_sl ([.ref (ad 0), .int 2, .ref (ad 21)]) ++ List.replicate (4 - (lg_sl ([.ref (ad 0), .int 2, .ref (ad 21)])).length) Slot.unset).toArray = ls at hl ⊢
  have hl : lv_has ls 4 [(0, .ref (ad 0)), (1, .int 2), (2, .ref (ad 21))] := hl
  refine lv_aload_n hx hb d_L_count_0 rfl (lv_at hl 2 rfl) ?_
  refine lv_iconst (v := 0) hx hb d_L_count_1 (by decide) ?_
  refine lv_aload_n hx hb d_L_count_2 rfl (lv_at hl 0 rfl) ?_
  refine lv_iload_n hx hb d_L_count_3 rfl (lv_at hl 1 rfl) ?_
  refine kc_i (va_runV (As := [.int 2]) (rest := [.int 0, .ref (ad 21)]) ⟨hx, hb, hml, hown, hts⟩ (c_K_count2 l D ty ad _ n f th rt qu b w T g a o hn h12) (cwV 1 hts (kGV kS1 m_L_39 m_im_K_count m_sel_K_count m_ini_K m_code_K_count) rfl rfl rfl (by decide +kernel) ⟨Nat.le_of_ble_eq_true rfl, Nat.le_of_ble_eq_true rfl⟩) ⟨kP_blind, va_recv hK hP (ci := 0) (q0 := 0) rfl gw_0, fun U hU hW => ⟨rfl, kP_at hK hP hD U hU hW⟩⟩ rfl rfl hl.1 rfl (lv_room (Nat.le_of_ble_eq_true rfl)) d_L_count_4 ⟨Nat.le_of_ble_eq_true rfl, Nat.le_of_ble_eq_true rfl⟩) hD hS hA (fun r u H locs hu hP hD hS hz => ?_)
  obtain ⟨hr9, rfl⟩ := hu
  refine lv_i2l (v := (r).toInt64) hx hb d_L_count_7 rfl ?_
  refine va_last (f := o) hx hb hK hP hD hS 21 3 gw_21 rfl (by rw [← nI_0]; exact vp_in_nI (N := 1) (by omega) (by omega)) d_L_count_8 (fun H locs hP hD hS => ?_)
  rw [sb_cl0] at hP hD
  have hP := kw_P (gw_so (r := vp_updL o 0 ((r).toInt64))) hP
  have hD := kw_D (gw_so (r := vp_updL o 0 ((r).toInt64))) hD
  refine lv_goto (tgt := 15) hx hb d_L_count_9 (by decide) ?_
  refine lv_iconst (v := 0) hx hb d_L_count_15 (by decide) ?_
  have hu : (gW n ty ad f th rt qu b (sKept f th rt qu T w) T g a (vp_updL o 0 ((r).toInt64)) : va_W) = gW n ty ad f th rt qu b (sKept f th rt qu T w) T g a (vp_updL o 0 ((sKept f th rt qu T w).2.2).toInt64) := by rw [hr9]
  exact W.iret (v := 0) hx hb hr (fun t ht hW => ⟨⟨_, _, rfl, ⟨rfl, hu⟩, by rw [ht]; exact hP, va_K.moved hW.alike hK, hD⟩, hS.F ht⟩) hS.2.2 d_L_count_16
set_option maxHeartbeats 4000000 in
set_option maxRecDepth 100000 in
/-- count(3) -/
theorem c_L_count_3 (l : Launch) (D : va_G) (ty : Nat → ClassId) (ad : Nat → Nat) (sz : Nat) (n : Nat) (f : Nat → Int32) (th : Nat → Bool) (rt qu : Nat → Int32) (b w : SR) (T : Nat → TH) (g : Nat → Int32) (a : Nat → Nat → Int32) (o : Nat → Int64) (hn : ∀ k, th k = true → k < n) (h12 : ∀ k, (T k).2.2.2.1 ≤ 12) : Met l y_L_count w_L_count ({ frames := 5, cells := 0, slots := 0, locals := 111 }) (va_Pc [.ref (ad 0), .int 3, .ref (ad 21)] (kP D kCl (kTy ty) (gW n ty ad f th rt qu b w T g a o) sz)) (va_Qi (fun (r9 : Int32) (u9 : va_W) => r9 = 0 ∧ u9 = gW n ty ad f th rt qu b w T g a (vp_updL o 0 (f 4 - f 3).toInt64)) (kB D kCl (kTy ty) (va_A (gW n ty ad f th rt qu b w T g a o) sz)) (va_A (gW n ty ad f th rt qu b w T g a o) sz)) 0 0 (va_A (gW n ty ad f th rt qu b w T g a o) sz) := by
  refine va_MetW (cc := b_L_count) (maxL := 4) (ret := (some .int)) (by decide) rfl ?_
  intro p e s m args below meth cd s₁ B hml hv
  obtain ⟨rfl, hsz, hP, hK, hD0⟩ := hv
  have hx := B.exec
  have hb := B.bytes
  have hr := B.returns
  have hts := atoms_spec (ws := w_L_count) B.pre
  have hown : s.vm.findClass R_L = some m.cls := findClass_of_methodNamed B.named
  have hlocks := B.notSynchronized
  subst hsz
  have hD := hD0.self (sz := s.heap.size)
  generalize hAe : va_A (gW n ty ad f th rt qu b w T g a o) s.heap.size = A at hD ⊢
  have hA : ∀ q : Nat, s.heap.size ≤ q → A q := fun q h => by rw [← hAe]; exact Or.inr h
  have hS : va_S A s.heap s.heap [] := va_S.rf
  have hl := lv_entry ([.ref (ad 0), .int 3, .ref (ad 21)]) (n := 4) (Nat.le_of_ble_eq_true rfl)
  rw [lg_entry_eq]
  generalize (lg_sl ([.ref (ad 0), .int 3, .ref (ad 21)]) ++ List.replicate (4 - (lg_sl ([.ref (ad 0), .int 3, .ref (ad 21)])).length) Slot.unset).toArray = ls at hl ⊢
  have hl : lv_has ls 4 [(0, .ref (ad 0)), (1, .int 3), (2, .ref (ad 21))] := hl
  refine lv_aload_n hx hb d_L_count_0 rfl (lv_at hl 2 rfl) ?_
  refine lv_iconst (v := 0) hx hb d_L_count_1 (by decide) ?_
  refine lv_aload_n hx hb d_L_count_2 rfl (lv_at hl 0 rfl) ?_
  refine lv_iload_n hx hb d_L_count_3 rfl (lv_at hl 1 rfl) ?_
  refine kc_i (va_runV (As := [.int 3]) (rest := [.int 0, .ref (ad 21)]) ⟨hx, hb, hml, hown, hts⟩ (c_K_count3 l D ty ad _ n f th rt qu b w T g a o hn h12) (cwV 1 hts (kGV kS1 m_L_39 m_im_K_count m_sel_K_count m_ini_K m_code_K_count) rfl rfl rfl (by decide +kernel) ⟨Nat.le_of_ble_eq_true rfl, Nat.le_of_ble_eq_true rfl⟩) ⟨kP_blind, va_recv hK hP (ci := 0) (q0 := 0) rfl gw_0, fun U hU hW => ⟨rfl, kP_at hK hP hD U hU hW⟩⟩ rfl rfl hl.1 rfl (lv_room (Nat.le_of_ble_eq_true rfl)) d_L_count_4 ⟨Nat.le_of_ble_eq_true rfl, Nat.le_of_ble_eq_true rfl⟩) hD hS hA (fun r u H locs hu hP hD hS hz => ?_)
  obtain ⟨hr9, rfl⟩ := hu
  refine lv_i2l (v := (r).toInt64) hx hb d_L_count_7 rfl ?_
  refine va_last (f := o) hx hb hK hP hD hS 21 3 gw_21 rfl (by rw [← nI_0]; exact vp_in_nI (N := 1) (by omega) (by omega)) d_L_count_8 (fun H locs hP hD hS => ?_)
  rw [sb_cl0] at hP hD
  have hP := kw_P (gw_so (r := vp_updL o 0 ((r).toInt64))) hP
  have hD := kw_D (gw_so (r := vp_updL o 0 ((r).toInt64))) hD
  refine lv_goto (tgt := 15) hx hb d_L_count_9 (by decide) ?_
  refine lv_iconst (v := 0) hx hb d_L_count_15 (by decide) ?_
  have hu : (gW n ty ad f th rt qu b w T g a (vp_updL o 0 ((r).toInt64)) : va_W) = gW n ty ad f th rt qu b w T g a (vp_updL o 0 (f 4 - f 3).toInt64) := by rw [hr9]
  exact W.iret (v := 0) hx hb hr (fun t ht hW => ⟨⟨_, _, rfl, ⟨rfl, hu⟩, by rw [ht]; exact hP, va_K.moved hW.alike hK, hD⟩, hS.F ht⟩) hS.2.2 d_L_count_16
set_option maxHeartbeats 4000000 in
set_option maxRecDepth 100000 in
/-- count(4) -/
theorem c_L_count_4 (l : Launch) (D : va_G) (ty : Nat → ClassId) (ad : Nat → Nat) (sz : Nat) (n : Nat) (f : Nat → Int32) (th : Nat → Bool) (rt qu : Nat → Int32) (b w : SR) (T : Nat → TH) (g : Nat → Int32) (a : Nat → Nat → Int32) (o : Nat → Int64) (hn : ∀ k, th k = true → k < n) (h12 : ∀ k, (T k).2.2.2.1 ≤ 12) : Met l y_L_count w_L_count ({ frames := 5, cells := 0, slots := 0, locals := 111 }) (va_Pc [.ref (ad 0), .int 4, .ref (ad 21)] (kP D kCl (kTy ty) (gW n ty ad f th rt qu b w T g a o) sz)) (va_Qi (fun (r9 : Int32) (u9 : va_W) => r9 = 0 ∧ u9 = gW n ty ad f th rt qu b w T g a (vp_updL o 0 (it (kWt th T) 300 0).toInt64)) (kB D kCl (kTy ty) (va_A (gW n ty ad f th rt qu b w T g a o) sz)) (va_A (gW n ty ad f th rt qu b w T g a o) sz)) 0 0 (va_A (gW n ty ad f th rt qu b w T g a o) sz) := by
  refine va_MetW (cc := b_L_count) (maxL := 4) (ret := (some .int)) (by decide) rfl ?_
  intro p e s m args below meth cd s₁ B hml hv
  obtain ⟨rfl, hsz, hP, hK, hD0⟩ := hv
  have hx := B.exec
  have hb := B.bytes
  have hr := B.returns
  have hts := atoms_spec (ws := w_L_count) B.pre
  have hown : s.vm.findClass R_L = some m.cls := findClass_of_methodNamed B.named
  have hlocks := B.notSynchronized
  subst hsz
  have hD := hD0.self (sz := s.heap.size)
  generalize hAe : va_A (gW n ty ad f th rt qu b w T g a o) s.heap.size = A at hD ⊢
  have hA : ∀ q : Nat, s.heap.size ≤ q → A q := fun q h => by rw [← hAe]; exact Or.inr h
  have hS : va_S A s.heap s.heap [] := va_S.rf
  have hl := lv_entry ([.ref (ad 0), .int 4, .ref (ad 21)]) (n := 4) (Nat.le_of_ble_eq_true rfl)
  rw [lg_entry_eq]
  generalize (lg_sl ([.ref (ad 0), .int 4, .ref (ad 21)]) ++ List.replicate (4 - (lg_sl ([.ref (ad 0), .int 4, .ref (ad 21)])).length) Slot.unset).toArray = ls at hl ⊢
  have hl : lv_has ls 4 [(0, .ref (ad 0)), (1, .int 4), (2, .ref (ad 21))] := hl
  refine lv_aload_n hx hb d_L_count_0 rfl (lv_at hl 2 rfl) ?_
  refine lv_iconst (v := 0) hx hb d_L_count_1 (by decide) ?_
  refine lv_aload_n hx hb d_L_count_2 rfl (lv_at hl 0 rfl) ?_
  refine lv_iload_n hx hb d_L_count_3 rfl (lv_at hl 1 rfl) ?_
  refine kc_i (va_runV (As := [.int 4]) (rest := [.int 0, .ref (ad 21)]) ⟨hx, hb, hml, hown, hts⟩ (c_K_count4 l D ty ad _ n f th rt qu b w T g a o hn h12) (cwV 1 hts (kGV kS1 m_L_39 m_im_K_count m_sel_K_count m_ini_K m_code_K_count) rfl rfl rfl (by decide +kernel) ⟨Nat.le_of_ble_eq_true rfl, Nat.le_of_ble_eq_true rfl⟩) ⟨kP_blind, va_recv hK hP (ci := 0) (q0 := 0) rfl gw_0, fun U hU hW => ⟨rfl, kP_at hK hP hD U hU hW⟩⟩ rfl rfl hl.1 rfl (lv_room (Nat.le_of_ble_eq_true rfl)) d_L_count_4 ⟨Nat.le_of_ble_eq_true rfl, Nat.le_of_ble_eq_true rfl⟩) hD hS hA (fun r u H locs hu hP hD hS hz => ?_)
  obtain ⟨hr9, rfl⟩ := hu
  refine lv_i2l (v := (r).toInt64) hx hb d_L_count_7 rfl ?_
  refine va_last (f := o) hx hb hK hP hD hS 21 3 gw_21 rfl (by rw [← nI_0]; exact vp_in_nI (N := 1) (by omega) (by omega)) d_L_count_8 (fun H locs hP hD hS => ?_)
  rw [sb_cl0] at hP hD
  have hP := kw_P (gw_so (r := vp_updL o 0 ((r).toInt64))) hP
  have hD := kw_D (gw_so (r := vp_updL o 0 ((r).toInt64))) hD
  refine lv_goto (tgt := 15) hx hb d_L_count_9 (by decide) ?_
  refine lv_iconst (v := 0) hx hb d_L_count_15 (by decide) ?_
  have hu : (gW n ty ad f th rt qu b w T g a (vp_updL o 0 ((r).toInt64)) : va_W) = gW n ty ad f th rt qu b w T g a (vp_updL o 0 (it (kWt th T) 300 0).toInt64) := by rw [hr9]
  exact W.iret (v := 0) hx hb hr (fun t ht hW => ⟨⟨_, _, rfl, ⟨rfl, hu⟩, by rw [ht]; exact hP, va_K.moved hW.alike hK, hD⟩, hS.F ht⟩) hS.2.2 d_L_count_16
set_option maxHeartbeats 4000000 in
set_option maxRecDepth 100000 in
/-- count(5) -/
theorem c_L_count_5 (l : Launch) (D : va_G) (ty : Nat → ClassId) (ad : Nat → Nat) (sz : Nat) (n : Nat) (f : Nat → Int32) (th : Nat → Bool) (rt qu : Nat → Int32) (b w : SR) (T : Nat → TH) (g : Nat → Int32) (a : Nat → Nat → Int32) (o : Nat → Int64) (hn : ∀ k, th k = true → k < n) (h12 : ∀ k, (T k).2.2.2.1 ≤ 12) : Met l y_L_count w_L_count ({ frames := 5, cells := 0, slots := 0, locals := 111 }) (va_Pc [.ref (ad 0), .int 5, .ref (ad 21)] (kP D kCl (kTy ty) (gW n ty ad f th rt qu b w T g a o) sz)) (va_Qi (fun (r9 : Int32) (u9 : va_W) => r9 = 0 ∧ u9 = gW n ty ad f th rt qu b w T g a (vp_updL o 0 (f 9).toInt64)) (kB D kCl (kTy ty) (va_A (gW n ty ad f th rt qu b w T g a o) sz)) (va_A (gW n ty ad f th rt qu b w T g a o) sz)) 0 0 (va_A (gW n ty ad f th rt qu b w T g a o) sz) := by
  refine va_MetW (cc := b_L_count) (maxL := 4) (ret := (some .int)) (by decide) rfl ?_
  intro p e s m args below meth cd s₁ B hml hv
  obtain ⟨rfl, hsz, hP, hK, hD0⟩ := hv
  have hx := B.exec
  have hb := B.bytes
  have hr := B.returns
  have hts := atoms_spec (ws := w_L_count) B.pre
  have hown : s.vm.findClass R_L = some m.cls := findClass_of_methodNamed B.named
  have hlocks := B.notSynchronized
  subst hsz
  have hD := hD0.self (sz := s.heap.size)
  generalize hAe : va_A (gW n ty ad f th rt qu b w T g a o) s.heap.size = A at hD ⊢
  have hA : ∀ q : Nat, s.heap.size ≤ q → A q := fun q h => by rw [← hAe]; exact Or.inr h
  have hS : va_S A s.heap s.heap [] := va_S.rf
  have hl := lv_entry ([.ref (ad 0), .int 5, .ref (ad 21)]) (n := 4) (Nat.le_of_ble_eq_true rfl)
  rw [lg_entry_eq]
  generalize (lg_sl ([.ref (ad 0), .int 5, .ref (ad 21)]) ++ List.replicate (4 - (lg_sl ([.ref (ad 0), .int 5, .ref (ad 21)])).length) Slot.unset).toArray = ls at hl ⊢
  have hl : lv_has ls 4 [(0, .ref (ad 0)), (1, .int 5), (2, .ref (ad 21))] := hl
  refine lv_aload_n hx hb d_L_count_0 rfl (lv_at hl 2 rfl) ?_
  refine lv_iconst (v := 0) hx hb d_L_count_1 (by decide) ?_
  refine lv_aload_n hx hb d_L_count_2 rfl (lv_at hl 0 rfl) ?_
  refine lv_iload_n hx hb d_L_count_3 rfl (lv_at hl 1 rfl) ?_
  refine kc_i (va_runV (As := [.int 5]) (rest := [.int 0, .ref (ad 21)]) ⟨hx, hb, hml, hown, hts⟩ (c_K_count5 l D ty ad _ n f th rt qu b w T g a o hn h12) (cwV 1 hts (kGV kS1 m_L_39 m_im_K_count m_sel_K_count m_ini_K m_code_K_count) rfl rfl rfl (by decide +kernel) ⟨Nat.le_of_ble_eq_true rfl, Nat.le_of_ble_eq_true rfl⟩) ⟨kP_blind, va_recv hK hP (ci := 0) (q0 := 0) rfl gw_0, fun U hU hW => ⟨rfl, kP_at hK hP hD U hU hW⟩⟩ rfl rfl hl.1 rfl (lv_room (Nat.le_of_ble_eq_true rfl)) d_L_count_4 ⟨Nat.le_of_ble_eq_true rfl, Nat.le_of_ble_eq_true rfl⟩) hD hS hA (fun r u H locs hu hP hD hS hz => ?_)
  obtain ⟨hr9, rfl⟩ := hu
  refine lv_i2l (v := (r).toInt64) hx hb d_L_count_7 rfl ?_
  refine va_last (f := o) hx hb hK hP hD hS 21 3 gw_21 rfl (by rw [← nI_0]; exact vp_in_nI (N := 1) (by omega) (by omega)) d_L_count_8 (fun H locs hP hD hS => ?_)
  rw [sb_cl0] at hP hD
  have hP := kw_P (gw_so (r := vp_updL o 0 ((r).toInt64))) hP
  have hD := kw_D (gw_so (r := vp_updL o 0 ((r).toInt64))) hD
  refine lv_goto (tgt := 15) hx hb d_L_count_9 (by decide) ?_
  refine lv_iconst (v := 0) hx hb d_L_count_15 (by decide) ?_
  have hu : (gW n ty ad f th rt qu b w T g a (vp_updL o 0 ((r).toInt64)) : va_W) = gW n ty ad f th rt qu b w T g a (vp_updL o 0 (f 9).toInt64) := by rw [hr9]
  exact W.iret (v := 0) hx hb hr (fun t ht hW => ⟨⟨_, _, rfl, ⟨rfl, hu⟩, by rw [ht]; exact hP, va_K.moved hW.alike hK, hD⟩, hS.F ht⟩) hS.2.2 d_L_count_16
set_option maxHeartbeats 4000000 in
set_option maxRecDepth 100000 in
/-- count(6) -/
theorem c_L_count_6 (l : Launch) (D : va_G) (ty : Nat → ClassId) (ad : Nat → Nat) (sz : Nat) (n : Nat) (f : Nat → Int32) (th : Nat → Bool) (rt qu : Nat → Int32) (b w : SR) (T : Nat → TH) (g : Nat → Int32) (a : Nat → Nat → Int32) (o : Nat → Int64) (hn : ∀ k, th k = true → k < n) (h12 : ∀ k, (T k).2.2.2.1 ≤ 12) : Met l y_L_count w_L_count ({ frames := 5, cells := 0, slots := 0, locals := 111 }) (va_Pc [.ref (ad 0), .int 6, .ref (ad 21)] (kP D kCl (kTy ty) (gW n ty ad f th rt qu b w T g a o) sz)) (va_Qi (fun (r9 : Int32) (u9 : va_W) => r9 = 0 ∧ u9 = gW n ty ad f th rt qu b w T g a (vp_updL o 0 (f 10).toInt64)) (kB D kCl (kTy ty) (va_A (gW n ty ad f th rt qu b w T g a o) sz)) (va_A (gW n ty ad f th rt qu b w T g a o) sz)) 0 0 (va_A (gW n ty ad f th rt qu b w T g a o) sz) := by
  refine va_MetW (cc := b_L_count) (maxL := 4) (ret := (some .int)) (by decide) rfl ?_
  intro p e s m args below meth cd s₁ B hml hv
  obtain ⟨rfl, hsz, hP, hK, hD0⟩ := hv
  have hx := B.exec
  have hb := B.bytes
  have hr := B.returns
  have hts := atoms_spec (ws := w_L_count) B.pre
  have hown : s.vm.findClass R_L = some m.cls := findClass_of_methodNamed B.named
  have hlocks := B.notSynchronized
  subst hsz
  have hD := hD0.self (sz := s.heap.size)
  generalize hAe : va_A (gW n ty ad f th rt qu b w T g a o) s.heap.size = A at hD ⊢
  have hA : ∀ q : Nat, s.heap.size ≤ q → A q := fun q h => by rw [← hAe]; exact Or.inr h
  have hS : va_S A s.heap s.heap [] := va_S.rf
  have hl := lv_entry ([.ref (ad 0), .int 6, .ref (ad 21)]) (n := 4) (Nat.le_of_ble_eq_true rfl)
  rw [lg_entry_eq]
  generalize (lg_sl ([.ref (ad 0), .int 6, .ref (ad 21)]) ++ List.replicate (4 - (lg_sl ([.ref (ad 0), .int 6, .ref (ad 21)])).length) Slot.unset).toArray = ls at hl ⊢
  have hl : lv_has ls 4 [(0, .ref (ad 0)), (1, .int 6), (2, .ref (ad 21))] := hl
  refine lv_aload_n hx hb d_L_count_0 rfl (lv_at hl 2 rfl) ?_
  refine lv_iconst (v := 0) hx hb d_L_count_1 (by decide) ?_
  refine lv_aload_n hx hb d_L_count_2 rfl (lv_at hl 0 rfl) ?_
  refine lv_iload_n hx hb d_L_count_3 rfl (lv_at hl 1 rfl) ?_
  refine kc_i (va_runV (As := [.int 6]) (rest := [.int 0, .ref (ad 21)]) ⟨hx, hb, hml, hown, hts⟩ (c_K_count6 l D ty ad _ n f th rt qu b w T g a o hn h12) (cwV 1 hts (kGV kS1 m_L_39 m_im_K_count m_sel_K_count m_ini_K m_code_K_count) rfl rfl rfl (by decide +kernel) ⟨Nat.le_of_ble_eq_true rfl, Nat.le_of_ble_eq_true rfl⟩) ⟨kP_blind, va_recv hK hP (ci := 0) (q0 := 0) rfl gw_0, fun U hU hW => ⟨rfl, kP_at hK hP hD U hU hW⟩⟩ rfl rfl hl.1 rfl (lv_room (Nat.le_of_ble_eq_true rfl)) d_L_count_4 ⟨Nat.le_of_ble_eq_true rfl, Nat.le_of_ble_eq_true rfl⟩) hD hS hA (fun r u H locs hu hP hD hS hz => ?_)
  obtain ⟨hr9, rfl⟩ := hu
  refine lv_i2l (v := (r).toInt64) hx hb d_L_count_7 rfl ?_
  refine va_last (f := o) hx hb hK hP hD hS 21 3 gw_21 rfl (by rw [← nI_0]; exact vp_in_nI (N := 1) (by omega) (by omega)) d_L_count_8 (fun H locs hP hD hS => ?_)
  rw [sb_cl0] at hP hD
  have hP := kw_P (gw_so (r := vp_updL o 0 ((r).toInt64))) hP
  have hD := kw_D (gw_so (r := vp_updL o 0 ((r).toInt64))) hD
  refine lv_goto (tgt := 15) hx hb d_L_count_9 (by decide) ?_
  refine lv_iconst (v := 0) hx hb d_L_count_15 (by decide) ?_
  have hu : (gW n ty ad f th rt qu b w T g a (vp_updL o 0 ((r).toInt64)) : va_W) = gW n ty ad f th rt qu b w T g a (vp_updL o 0 (f 10).toInt64) := by rw [hr9]
  exact W.iret (v := 0) hx hb hr (fun t ht hW => ⟨⟨_, _, rfl, ⟨rfl, hu⟩, by rw [ht]; exact hP, va_K.moved hW.alike hK, hD⟩, hS.F ht⟩) hS.2.2 d_L_count_16
set_option maxHeartbeats 4000000 in
set_option maxRecDepth 100000 in
/-- count(7) -/
theorem c_L_count_7 (l : Launch) (D : va_G) (ty : Nat → ClassId) (ad : Nat → Nat) (sz : Nat) (n : Nat) (f : Nat → Int32) (th : Nat → Bool) (rt qu : Nat → Int32) (b w : SR) (T : Nat → TH) (g : Nat → Int32) (a : Nat → Nat → Int32) (o : Nat → Int64) (hn : ∀ k, th k = true → k < n) (h12 : ∀ k, (T k).2.2.2.1 ≤ 12) : Met l y_L_count w_L_count ({ frames := 5, cells := 0, slots := 0, locals := 111 }) (va_Pc [.ref (ad 0), .int 7, .ref (ad 21)] (kP D kCl (kTy ty) (gW n ty ad f th rt qu b w T g a o) sz)) (va_Qi (fun (r9 : Int32) (u9 : va_W) => r9 = 0 ∧ u9 = gW n ty ad f th rt qu b w T g a (vp_updL o 0 (f 11).toInt64)) (kB D kCl (kTy ty) (va_A (gW n ty ad f th rt qu b w T g a o) sz)) (va_A (gW n ty ad f th rt qu b w T g a o) sz)) 0 0 (va_A (gW n ty ad f th rt qu b w T g a o) sz) := by
  refine va_MetW (cc := b_L_count) (maxL := 4) (ret := (some .int)) (by decide) rfl ?_
  intro p e s m args below meth cd s₁ B hml hv
  obtain ⟨rfl, hsz, hP, hK, hD0⟩ := hv
  have hx := B.exec
  have hb := B.bytes
  have hr := B.returns
  have hts := atoms_spec (ws := w_L_count) B.pre
  have hown : s.vm.findClass R_L = some m.cls := findClass_of_methodNamed B.named
  have hlocks := B.notSynchronized
  subst hsz
  have hD := hD0.self (sz := s.heap.size)
  generalize hAe : va_A (gW n ty ad f th rt qu b w T g a o) s.heap.size = A at hD ⊢
  have hA : ∀ q : Nat, s.heap.size ≤ q → A q := fun q h => by rw [← hAe]; exact Or.inr h
  have hS : va_S A s.heap s.heap [] := va_S.rf
  have hl := lv_entry ([.ref (ad 0), .int 7, .ref (ad 21)]) (n := 4) (Nat.le_of_ble_eq_true rfl)
  rw [lg_entry_eq]
  generalize (lg_sl ([.ref (ad 0), .int 7, .ref (ad 21)]) ++ List.replicate (4 - (lg_sl ([.ref (ad 0), .int 7, .ref (ad 21)])).length) Slot.unset).toArray = ls at hl ⊢
  have hl : lv_has ls 4 [(0, .ref (ad 0)), (1, .int 7), (2, .ref (ad 21))] := hl
  refine lv_aload_n hx hb d_L_count_0 rfl (lv_at hl 2 rfl) ?_
  refine lv_iconst (v := 0) hx hb d_L_count_1 (by decide) ?_
  refine lv_aload_n hx hb d_L_count_2 rfl (lv_at hl 0 rfl) ?_
  refine lv_iload_n hx hb d_L_count_3 rfl (lv_at hl 1 rfl) ?_
  refine kc_i (va_runV (As := [.int 7]) (rest := [.int 0, .ref (ad 21)]) ⟨hx, hb, hml, hown, hts⟩ (c_K_count7 l D ty ad _ n f th rt qu b w T g a o hn h12) (cwV 1 hts (kGV kS1 m_L_39 m_im_K_count m_sel_K_count m_ini_K m_code_K_count) rfl rfl rfl (by decide +kernel) ⟨Nat.le_of_ble_eq_true rfl, Nat.le_of_ble_eq_true rfl⟩) ⟨kP_blind, va_recv hK hP (ci := 0) (q0 := 0) rfl gw_0, fun U hU hW => ⟨rfl, kP_at hK hP hD U hU hW⟩⟩ rfl rfl hl.1 rfl (lv_room (Nat.le_of_ble_eq_true rfl)) d_L_count_4 ⟨Nat.le_of_ble_eq_true rfl, Nat.le_of_ble_eq_true rfl⟩) hD hS hA (fun r u H locs hu hP hD hS hz => ?_)
  obtain ⟨hr9, rfl⟩ := hu
  refine lv_i2l (v := (r).toInt64) hx hb d_L_count_7 rfl ?_
  refine va_last (f := o) hx hb hK hP hD hS 21 3 gw_21 rfl (by rw [← nI_0]; exact vp_in_nI (N := 1) (by omega) (by omega)) d_L_count_8 (fun H locs hP hD hS => ?_)
  rw [sb_cl0] at hP hD
  have hP := kw_P (gw_so (r := vp_updL o 0 ((r).toInt64))) hP
  have hD := kw_D (gw_so (r := vp_updL o 0 ((r).toInt64))) hD
  refine lv_goto (tgt := 15) hx hb d_L_count_9 (by decide) ?_
  refine lv_iconst (v := 0) hx hb d_L_count_15 (by decide) ?_
  have hu : (gW n ty ad f th rt qu b w T g a (vp_updL o 0 ((r).toInt64)) : va_W) = gW n ty ad f th rt qu b w T g a (vp_updL o 0 (f 11).toInt64) := by rw [hr9]
  exact W.iret (v := 0) hx hb hr (fun t ht hW => ⟨⟨_, _, rfl, ⟨rfl, hu⟩, by rw [ht]; exact hP, va_K.moved hW.alike hK, hD⟩, hS.F ht⟩) hS.2.2 d_L_count_16
set_option maxHeartbeats 4000000 in
set_option maxRecDepth 100000 in
/-- count(8) -/
theorem c_L_count_8 (l : Launch) (D : va_G) (ty : Nat → ClassId) (ad : Nat → Nat) (sz : Nat) (n : Nat) (f : Nat → Int32) (th : Nat → Bool) (rt qu : Nat → Int32) (b w : SR) (T : Nat → TH) (g : Nat → Int32) (a : Nat → Nat → Int32) (o : Nat → Int64) (hn : ∀ k, th k = true → k < n) (h12 : ∀ k, (T k).2.2.2.1 ≤ 12) : Met l y_L_count w_L_count ({ frames := 5, cells := 0, slots := 0, locals := 111 }) (va_Pc [.ref (ad 0), .int 8, .ref (ad 21)] (kP D kCl (kTy ty) (gW n ty ad f th rt qu b w T g a o) sz)) (va_Qi (fun (r9 : Int32) (u9 : va_W) => r9 = 0 ∧ u9 = gW n ty ad f th rt qu b w T g a (vp_updL o 0 (f 7).toInt64)) (kB D kCl (kTy ty) (va_A (gW n ty ad f th rt qu b w T g a o) sz)) (va_A (gW n ty ad f th rt qu b w T g a o) sz)) 0 0 (va_A (gW n ty ad f th rt qu b w T g a o) sz) := by
  refine va_MetW (cc := b_L_count) (maxL := 4) (ret := (some .int)) (by decide) rfl ?_
  intro p e s m args below meth cd s₁ B hml hv
  obtain ⟨rfl, hsz, hP, hK, hD0⟩ := hv
  have hx := B.exec
  have hb := B.bytes
  have hr := B.returns
  have hts := atoms_spec (ws := w_L_count) B.pre
  have hown : s.vm.findClass R_L = some m.cls := findClass_of_methodNamed B.named
  have hlocks := B.notSynchronized
  subst hsz
  have hD := hD0.self (sz := s.heap.size)
  generalize hAe : va_A (gW n ty ad f th rt qu b w T g a o) s.heap.size = A at hD ⊢
  have hA : ∀ q : Nat, s.heap.size ≤ q → A q := fun q h => by rw [← hAe]; exact Or.inr h
  have hS : va_S A s.heap s.heap [] := va_S.rf
  have hl := lv_entry ([.ref (ad 0), .int 8, .ref (ad 21)]) (n := 4) (Nat.le_of_ble_eq_true rfl)
  rw [lg_entry_eq]
  generalize (lg_sl ([.ref (ad 0), .int 8, .ref (ad 21)]) ++ List.replicate (4 - (lg_sl ([.ref (ad 0), .int 8, .ref (ad 21)])).length) Slot.unset).toArray = ls at hl ⊢
  have hl : lv_has ls 4 [(0, .ref (ad 0)), (1, .int 8), (2, .ref (ad 21))] := hl
  refine lv_aload_n hx hb d_L_count_0 rfl (lv_at hl 2 rfl) ?_
  refine lv_iconst (v := 0) hx hb d_L_count_1 (by decide) ?_
  refine lv_aload_n hx hb d_L_count_2 rfl (lv_at hl 0 rfl) ?_
  refine lv_iload_n hx hb d_L_count_3 rfl (lv_at hl 1 rfl) ?_
  refine kc_i (va_runV (As := [.int 8]) (rest := [.int 0, .ref (ad 21)]) ⟨hx, hb, hml, hown, hts⟩ (c_K_count8 l D ty ad _ n f th rt qu b w T g a o hn h12) (cwV 1 hts (kGV kS1 m_L_39 m_im_K_count m_sel_K_count m_ini_K m_code_K_count) rfl rfl rfl (by decide +kernel) ⟨Nat.le_of_ble_eq_true rfl, Nat.le_of_ble_eq_true rfl⟩) ⟨kP_blind, va_recv hK hP (ci := 0) (q0 := 0) rfl gw_0, fun U hU hW => ⟨rfl, kP_at hK hP hD U hU hW⟩⟩ rfl rfl hl.1 rfl (lv_room (Nat.le_of_ble_eq_true rfl)) d_L_count_4 ⟨Nat.le_of_ble_eq_true rfl, Nat.le_of_ble_eq_true rfl⟩) hD hS hA (fun r u H locs hu hP hD hS hz => ?_)
  obtain ⟨hr9, rfl⟩ := hu
  refine lv_i2l (v := (r).toInt64) hx hb d_L_count_7 rfl ?_
  refine va_last (f := o) hx hb hK hP hD hS 21 3 gw_21 rfl (by rw [← nI_0]; exact vp_in_nI (N := 1) (by omega) (by omega)) d_L_count_8 (fun H locs hP hD hS => ?_)
  rw [sb_cl0] at hP hD
  have hP := kw_P (gw_so (r := vp_updL o 0 ((r).toInt64))) hP
  have hD := kw_D (gw_so (r := vp_updL o 0 ((r).toInt64))) hD
  refine lv_goto (tgt := 15) hx hb d_L_count_9 (by decide) ?_
  refine lv_iconst (v := 0) hx hb d_L_count_15 (by decide) ?_
  have hu : (gW n ty ad f th rt qu b w T g a (vp_updL o 0 ((r).toInt64)) : va_W) = gW n ty ad f th rt qu b w T g a (vp_updL o 0 (f 7).toInt64) := by rw [hr9]
  exact W.iret (v := 0) hx hb hr (fun t ht hW => ⟨⟨_, _, rfl, ⟨rfl, hu⟩, by rw [ht]; exact hP, va_K.moved hW.alike hK, hD⟩, hS.F ht⟩) hS.2.2 d_L_count_16
set_option maxHeartbeats 4000000 in
set_option maxRecDepth 100000 in
/-- count, 1 -/
theorem c_L_count_x (l : Launch) (D : va_G) (ty : Nat → ClassId) (ad : Nat → Nat) (sz : Nat) (n : Nat) (f : Nat → Int32) (th : Nat → Bool) (rt qu : Nat → Int32) (b w : SR) (T : Nat → TH) (g : Nat → Int32) (a : Nat → Nat → Int32) (o : Nat → Int64) (x : Int32) (hbad : x.toInt < 0 ∨ 8 < x.toInt) (htr : l.stackTraces = false) : Met l y_L_count w_L_count ({ frames := 7, cells := 1, slots := 6, locals := 104 }) (va_Pc [.ref (ad 0), .int x, .ref (ad 21)] (fun U => kP D kCl (kTy ty) (gW n ty ad f th rt qu b w T g a o) sz U ∧ kY (va_A (gW n ty ad f th rt qu b w T g a o) sz) U U.heap)) (va_Qi (fun (r9 : Int32) (u9 : va_W) => r9 = 1 ∧ u9 = gW n ty ad f th rt qu b w T g a o) (kB D kCl (kTy ty) (va_A (gW n ty ad f th rt qu b w T g a o) sz)) (va_A (gW n ty ad f th rt qu b w T g a o) sz)) 1 6 (va_A (gW n ty ad f th rt qu b w T g a o) sz) := by
  refine va_MetW (cc := b_L_count) (maxL := 4) (ret := (some .int)) (by decide) rfl ?_
  intro p e s m args below meth cd s₁ B hml hv
  obtain ⟨rfl, ⟨hsz, hP, hK, hD0⟩, hZ⟩ := hv
  have hx := B.exec
  have hb := B.bytes
  have hr := B.returns
  have hts := atoms_spec (ws := w_L_count) B.pre
  have hown : s.vm.findClass R_L = some m.cls := findClass_of_methodNamed B.named
  have hlocks := B.notSynchronized
  subst hsz
  have hD := hD0.self (sz := s.heap.size)
  generalize hAe : va_A (gW n ty ad f th rt qu b w T g a o) s.heap.size = A at hD hZ ⊢
  have hA : ∀ q : Nat, s.heap.size ≤ q → A q := fun q h => by rw [← hAe]; exact Or.inr h
  have hS : va_S A s.heap s.heap [] := va_S.rf
  have hl := lv_entry ([.ref (ad 0), .int x, .ref (ad 21)]) (n := 4) (Nat.le_of_ble_eq_true rfl)
  rw [lg_entry_eq]
  generalize (lg_sl ([.ref (ad 0), .int x, .ref (ad 21)]) ++ List.replicate (4 - (lg_sl ([.ref (ad 0), .int x, .ref (ad 21)])).length) Slot.unset).toArray = ls at hl ⊢
  have hl : lv_has ls 4 [(0, .ref (ad 0)), (1, .int x), (2, .ref (ad 21))] := hl
  have htb : cd.exceptionTable.toList = [⟨0, 9, 12, 13⟩] := kx_table B (hts _ List.mem_cons_self)
  have hpl : e.platform.magicAccessors = ({} : Platform).magicAccessors := by rw [(Stand.of_body B).admits.platform]
  refine lv_aload_n hx hb d_L_count_0 rfl (lv_at hl 2 rfl) ?_
  refine lv_iconst (v := 0) hx hb d_L_count_1 (by decide) ?_
  refine lv_aload_n hx hb d_L_count_2 rfl (lv_at hl 0 rfl) ?_
  refine lv_iload_n hx hb d_L_count_3 rfl (lv_at hl 1 rfl) ?_
  refine kt_catchW (hpc := 12) (kt_callV (As := [.int x]) (rest := [.int 0, .ref (ad 21)]) ⟨hx, hb, hml, hown, hts⟩ (c_K_count_x l D ty ad _ n f th rt qu b w T g a o x hbad htr) (cwV 1 hts (kGV kS1 m_L_39 m_im_K_count m_sel_K_count m_ini_K m_code_K_count) rfl rfl rfl (by decide +kernel) ⟨Nat.le_of_ble_eq_true rfl, Nat.le_of_ble_eq_true rfl⟩) ⟨kPZ_blind, va_recv hK hP (ci := 0) (q0 := 0) rfl gw_0, fun U hU hW => ⟨rfl, kP_at hK hP hD U hU hW, hZ.1.at hS (fun q h => by rw [← hAe]; exact h) U hU hW⟩⟩ rfl rfl hl.1 rfl (lv_room (Nat.le_of_ble_eq_true rfl)) d_L_count_4 ⟨Nat.le_of_ble_eq_true rfl, Nat.le_of_ble_eq_true rfl⟩) (fun S x cell hW hcx hcv hcc => by rw [htb]; exact kf_hit hpl hown hW rfl (by decide) (hts _ (kS1 _ m_L_13)) (hZ.1.2.2.use m_cast_IllegalArgumentException) hcx hcv hcc) hP hS (fun x9 H hP hS => ?_)
  refine lv_astore_n (lv' := [(3, .ref x9), (0, .ref (ad 0)), (1, .int x), (2, .ref (ad 21))]) hx hb d_L_count_12 rfl hl (by decide) rfl (fun ls hl => ?_)
  refine lv_iconst (v := 1) hx hb d_L_count_13 (by decide) ?_
  have hu : (gW n ty ad f th rt qu b w T g a o : va_W) = gW n ty ad f th rt qu b w T g a o := rfl
  exact W.iret (v := 1) hx hb hr (fun t ht hW => ⟨⟨_, _, rfl, ⟨rfl, hu⟩, by rw [ht]; exact hP, va_K.moved hW.alike hK, hD⟩, hS.F ht⟩) hS.2.2 d_L_count_14
