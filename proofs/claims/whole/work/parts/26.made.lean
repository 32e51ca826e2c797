/-! Part 26: constructors. -/
theorem va_RA_inj {s : State} {c1 c2 : ClassId} {ty : FieldType} (h1 : va_RA s c1 ty) (h2 : va_RA s c2 ty) : c1 = c2 := by
  cases ty with
  | object C =>
    obtain ⟨_, _, _, _, _, e1⟩ := h1
    obtain ⟨_, _, _, _, _, e2⟩ := h2
    exact Option.some.inj (e1.symm.trans e2)
  | _ =>
    have e1 : s.vm.findClass _ = some c1 := h1
    have e2 : s.vm.findClass _ = some c2 := h2
    exact Option.some.inj (e1.symm.trans e2)
section KN
variable {p : Program} {l : Launch} {e : Env} {R : Room} {s : State} {m : MethodId} {args : Array Value} {below : List Frame} {meth : Method} {c : Code} {H : Heap} {locs : List Loc} {cells slots : Nat} {Q : State → Prop}
variable {cc : ByteArray} {pc : Nat} {ls : Array Slot} {rest st0 : List Value} {D : va_G} {cl : List vw_C} {A : Nat → Prop} {tys : List (ClassId × FieldType)} {ws : va_W} {H0 : Heap} {a : Array Value} {mc ms : Nat}
/-- a new array whose class is known -/
theorem k_newa (hexec : p.tables.exec = Jvm.exec) (hb : c.code = cc) {atype : ArrayType} (harr : (Cond.arrayClass (newarray.typeOf atype)).before args s = true) {ty : FieldType} (hty : newarray.typeOf atype = ty) (hK : va_K D cl tys s) (hP : va_P D cl ws H) (hD : va_D A ws) (hS : va_S A H0 H locs) (hA : ∀ q, H0.size ≤ q → A q) (t0 : Nat) {cA0 : ClassId} (ht : tys[t0]? = some (cA0, ty))
    {n : Int32} {N' : Nat} {a0 : vp_A} (ha : ∀ cA : ClassId, vp_cell cA a0 = arrV cA N' (fun _ => defaultValue ty)) (hn : ¬ n < 0) (hN : n.toNatClampNeg = N') (hbytes : N' * componentBytes ty ≤ 536870912) (hcells : cells + 1 ≤ R.cells) (hslots : slots + N' ≤ R.slots) (hdg : decode cc pc = .ok (.newarray atype, 2))
    (kk : ∀ (q : Nat) (H1 : Heap), va_P D cl (ws ++ [(q, .inl (cA0, a0))]) H1 → va_D A (ws ++ [(q, .inl (cA0, a0))]) → va_S A H0 H1 locs →
      W p l e R s m args below meth c H1 locs (cells + 1) (slots + N') Q (F0 m (pc + 2) ls (.ref q :: rest))) : W p l e R s m args below meth c H locs cells slots Q (F0 m pc ls (.int n :: rest)) := by
  refine va_newa hexec hb harr hty hK hP hD hS hA ha hn hN hbytes hcells hslots hdg (fun q cA H1 hK1 hP1 hD1 hS1 => ?_)
  have e1 := (hK1.2 tys.length (cA, ty) (by simp)).2
  have e2 := (hK.2 t0 _ ht).2
  have : cA = cA0 := va_RA_inj e1 e2
  subst this
  exact kk q H1 hP1 hD1 hS1
/-- .. of references -/
theorem k_newq (hexec : p.tables.exec = Jvm.exec) (hb : c.code = cc) {own C : String} {index : Nat} (hown : s.vm.findClass own = some m.cls) (hclink : (Cond.classLink own index C).before args s = true) (hover : va_AO C s) (hK : va_K D cl tys s) (hP : va_P D cl ws H) (hD : va_D A ws) (hS : va_S A H0 H locs) (hA : ∀ q, H0.size ≤ q → A q) (t0 : Nat) {cA0 : ClassId} (ht : tys[t0]? = some (cA0, .object C))
    {n : Int32} {N' : Nat} (hn : ¬ n < 0) (hN : n.toNatClampNeg = N') (hbytes : N' * 4 ≤ 536870912) (hcells : cells + 1 ≤ R.cells) (hslots : slots + N' ≤ R.slots) (hdg : decode cc pc = .ok (.anewarray index, 3))
    (kk : ∀ (q : Nat) (H1 : Heap), va_P D cl (ws ++ [(q, .inl (cA0, N', .inr (.inr (.inr (.inr (fun _ => none))))))]) H1 → va_D A (ws ++ [(q, .inl (cA0, N', .inr (.inr (.inr (.inr (fun _ => none))))))]) → va_S A H0 H1 locs →
      W p l e R s m args below meth c H1 locs (cells + 1) (slots + N') Q (F0 m (pc + 3) ls (.ref q :: rest))) : W p l e R s m args below meth c H locs cells slots Q (F0 m pc ls (.int n :: rest)) := by
  refine va_newq hexec hb hown hclink hover hK hP hD hS hA hn hN hbytes hcells hslots hdg (fun q cA H1 hK1 hP1 hD1 hS1 => ?_)
  have e1 := (hK1.2 tys.length (cA, .object C) (by simp)).2
  have e2 := (hK.2 t0 _ ht).2
  have : cA = cA0 := va_RA_inj e1 e2
  subst this
  exact kk q H1 hP1 hD1 hS1
/-- a constructor's call: its world is the world's last cell -/
theorem k_ctor {x : Nat × va_E} {post : va_W → Prop} (hr : va_Run p l e R s m args below meth c H locs cells slots mc ms (F0 m pc ls st0) rest (va_Qv post (kB D cl tys (va_A [x] H.size)) (va_A [x] H.size) a) (va_A [x] H.size)) (hP : va_P D cl (ws ++ [x]) H) (hD : va_D A (ws ++ [x])) (hS : va_S A s.heap H locs) (hA : ∀ q, s.heap.size ≤ q → A q)
    (kk : ∀ (u : va_W) (H1 : Heap) (locs1 : List Loc), post u → va_P D cl (ws ++ u) H1 → va_D A (ws ++ u) → va_S A s.heap H1 locs1 → H.size ≤ H1.size → W p l e R s m args below meth c H1 locs1 (cells + mc) (slots + ms) Q (F0 m (pc + 3) ls rest)) : W p l e R s m args below meth c H locs cells slots Q (F0 m pc ls st0) := by
  have hxl : (ws ++ [x])[ws.length]? = some x := by simp
  have hl : ∀ (i : Nat) (q : Nat × va_E), ws[i]? = some q → (ws ++ [x])[i]? = some q ∧ i < ws.length := fun i q h => by
    have h1 := (List.getElem?_eq_some_iff.mp h).1
    exact ⟨by rw [List.getElem?_append_left h1]; exact h, h1⟩
  have hF : ∀ q, va_A [x] H.size q → A q := fun q h => by
    rcases h with ⟨k, e, h⟩ | h
    · have hk : k < 1 := (List.getElem?_eq_some_iff.mp h).1
      rw [show k = 0 by omega] at h
      have h : x = (q, e) := by simpa using h
      have := hD.2 ws.length x hxl
      rw [h] at this
      exact this
    · exact hA q (Nat.le_trans hS.1 h)
  have apart : ∀ (i : Nat) (q : Nat × va_E), ws[i]? = some q → q.1 < H.size ∧ ¬ va_A [x] H.size q.1 := fun i q h => by
    obtain ⟨h1, h2⟩ := hl i q h
    refine ⟨(hP i q h1).lt, fun hc => ?_⟩
    rcases hc with ⟨k, e, hc⟩ | hc
    · have hk : k < 1 := (List.getElem?_eq_some_iff.mp hc).1
      rw [show k = 0 by omega] at hc
      have hc : x = (q.1, e) := by simpa using hc
      have := hD.1 i ws.length q x h1 hxl (by rw [hc])
      omega
    · have := (hP i q h1).lt
      omega
  refine va_callv hr hS (fun q _ h => hF q h) hF (fun u t H1 locs1 ht hvm hw hB hz1 hk1 hS1 => ?_)
  obtain ⟨hP1, hK1, hD1⟩ := hB
  rw [ht] at hP1
  refine kk u H1 locs1 hw (va_P.app (fun k q hk => (hP k q (hl k q hk).1).kept (hk1 q.1 (apart k q hk).1 (apart k q hk).2)) hP1) (va_D.app ⟨fun i j p q hi hj h => hD.1 i j p q (hl i p hi).1 (hl j q hj).1 h, fun k q hk => hD.2 k q (hl k q hk).1⟩ (hD1.weaken (fun _ q _ h => hF q.1 h)) (fun i j p q hi hj h => (apart i p hi).2 (by rw [h]; exact hD1.2 j q hj))) hS1 hz1
end KN
/-- -1 in the first i places, 0 behind -/
def nf (i : Nat) : Nat → Int32 := fun j => if j < i then (-1) else 0
theorem nf_0 : nf 0 = fun _ => 0 := by funext j; simp [nf]
theorem nf_s {i : Nat} : upd (nf i) i (-1) = nf (i + 1) := by
  funext j
  by_cases h : j = i
  · subst h; simp [upd, nf]
  · have h2 : (j < i + 1) = (j < i) := by apply propext; omega
    simp [upd, nf, h, h2]
set_option maxHeartbeats 4000000 in
set_option maxRecDepth 100000 in
/-- Search() -/
theorem c_S_init (l : Launch) (D : va_G) (ty : Nat → ClassId) (ad : Nat → Nat) (sz : Nat) (h : Nat) : Met l y_S_init w_S_init ({ frames := 1, cells := 2, slots := 600, locals := 12 }) (va_Pc [.ref h] (kP D kCl (kTy ty) ([(h, .inr (1, [.null, .null, .int 0]))]) sz)) (va_Qv (fun u : va_W => ∃ q1 q2 : Nat, u = [(h, .inr (1, [.ref q1, .ref q2, .int 0])), (q1, .inl (ty 1, 300, .inl (fun _ => 0))), (q2, .inl (ty 0, 300, .inl (fun _ => 0)))]) (kB D kCl (kTy ty) (va_A ([(h, .inr (1, [.null, .null, .int 0]))]) sz)) (va_A ([(h, .inr (1, [.null, .null, .int 0]))]) sz)) 2 600 (va_A ([(h, .inr (1, [.null, .null, .int 0]))]) sz) := by
  refine Met.ofW (cc := b_S_init) (maxL := 1) (ret := none) (by decide) rfl ?_
  intro p e s m args below meth cd s₁ B hml hv
  obtain ⟨rfl, hsz, hP, hK, hD0⟩ := hv
  have hx := B.exec
  have hb := B.bytes
  have hr := B.returns
  have hts := atoms_spec (ws := w_S_init) B.pre
  have hown : s.vm.findClass R_S = some m.cls := findClass_of_methodNamed B.named
  have hlocks := B.notSynchronized
  subst hsz
  have hD := hD0.self (sz := s.heap.size)
  generalize hAe : va_A ([(h, .inr (1, [.null, .null, .int 0]))]) s.heap.size = A at hD ⊢
  have hA : ∀ q : Nat, s.heap.size ≤ q → A q := fun q h => by rw [← hAe]; exact Or.inr h
  have hS : va_S A s.heap s.heap [] := va_S.rf
  have hl := lv_entry ([.ref h]) (n := 1) (Nat.le_of_ble_eq_true rfl)
  rw [lg_entry_eq]
  generalize (lg_sl ([.ref h]) ++ List.replicate (1 - (lg_sl ([.ref h])).length) Slot.unset).toArray = ls at hl ⊢
  have hl : lv_has ls 1 [(0, .ref h)] := hl
  have hin : meth.name = "<init>" := (name_of_methodNamed B.named B.method).1
  refine lv_aload_n hx hb d_S_init_0 rfl (lv_at hl 0 rfl) ?_
  refine W.objInit hx hb hown (hts _ (kS1 _ m_S_3)) (hts _ (kS1 _ m_im_obj)) (hts _ (kS1 _ m_code_obj)) rfl (by rw [hml]; exact hl.1) rfl d_S_init_1 (Nat.le_of_ble_eq_true rfl) (Nat.le_of_ble_eq_true rfl) ?_
  refine W.eq (g2 := F0 m 4 ls []) rfl ?_
  refine lv_aload_n hx hb d_S_init_4 rfl (lv_at hl 0 rfl) ?_
  refine lv_sipush (v := 300) hx hb d_S_init_5 (by decide) ?_
  refine k_newa (atype := .boolean) (a0 := (300, .inl (fun _ => 0))) (N' := 300) hx hb (hts _ (kS1 _ m_arr_boolean)) rfl hK hP hD hS hA 1 rfl (fun _ => rfl) (by decide) (by decide) (by decide) (Nat.le_of_ble_eq_true rfl) (Nat.le_of_ble_eq_true rfl) d_S_init_8 (fun q1 H hP hD hS => ?_)
  refine va_putF (D := D) (ci := 1) (v := .ref q1) (ty := .array (.boolean)) (C := R_S) (T := F_S) (N := 3) hx hb hts (fun w h => kS1 w (i_S w h)) tt_S tt_S_ok n_S hown hK hP hD hS 0 rfl rfl 0 (by decide) (hts _ (kS1 _ m_S_9)) (fun _ h9 => h9) rfl hin rfl (by decide +kernel) rfl rfl (Nat.le_of_ble_eq_true rfl) d_S_init_10 (fun H locs hP hD hS => ?_)
  have hP := kw_P (show _ = [(h, .inr (1, [.ref q1, .null, .int 0])), (q1, .inl (ty 1, 300, .inl (fun _ => 0)))] from rfl) hP
  have hD := kw_D (show _ = [(h, .inr (1, [.ref q1, .null, .int 0])), (q1, .inl (ty 1, 300, .inl (fun _ => 0)))] from rfl) hD
  refine lv_aload_n hx hb d_S_init_13 rfl (lv_at hl 0 rfl) ?_
  refine lv_sipush (v := 300) hx hb d_S_init_14 (by decide) ?_
  refine k_newa (atype := .int) (a0 := (300, .inl (fun _ => 0))) (N' := 300) hx hb (hts _ (kS1 _ m_arr_int)) rfl hK hP hD hS hA 0 rfl (fun _ => rfl) (by decide) (by decide) (by decide) (Nat.le_of_ble_eq_true rfl) (Nat.le_of_ble_eq_true rfl) d_S_init_17 (fun q2 H hP hD hS => ?_)
  refine va_putF (D := D) (ci := 1) (v := .ref q2) (ty := .array (.int)) (C := R_S) (T := F_S) (N := 3) hx hb hts (fun w h => kS1 w (i_S w h)) tt_S tt_S_ok n_S hown hK hP hD hS 0 rfl rfl 1 (by decide) (hts _ (kS1 _ m_S_15)) (fun _ h9 => h9) rfl hin rfl (by decide +kernel) rfl rfl (Nat.le_of_ble_eq_true rfl) d_S_init_19 (fun H locs hP hD hS => ?_)
  have hP := kw_P (show _ = [(h, .inr (1, [.ref q1, .ref q2, .int 0])), (q1, .inl (ty 1, 300, .inl (fun _ => 0))), (q2, .inl (ty 0, 300, .inl (fun _ => 0)))] from rfl) hP
  have hD := kw_D (show _ = [(h, .inr (1, [.ref q1, .ref q2, .int 0])), (q1, .inl (ty 1, 300, .inl (fun _ => 0))), (q2, .inl (ty 0, 300, .inl (fun _ => 0)))] from rfl) hD
  refine lv_aload_n hx hb d_S_init_22 rfl (lv_at hl 0 rfl) ?_
  refine lv_iconst (v := 0) hx hb d_S_init_23 (by decide) ?_
  refine va_put (D := D) (ci := 1) (v := .int 0) (ty := .int) (C := R_S) (T := F_S) (N := 3) hx hb hts (fun w h => kS1 w (i_S w h)) tt_S tt_S_ok n_S hown hK hP hD hS 0 rfl rfl 2 (by decide) (hts _ (kS1 _ m_S_19)) (fun _ h9 => h9) rfl (by decide +kernel) rfl rfl (Nat.le_of_ble_eq_true rfl) d_S_init_24 (fun H locs hP hD hS => ?_)
  have hP := kw_P (show _ = [(h, .inr (1, [.ref q1, .ref q2, .int 0])), (q1, .inl (ty 1, 300, .inl (fun _ => 0))), (q2, .inl (ty 0, 300, .inl (fun _ => 0)))] from rfl) hP
  have hD := kw_D (show _ = [(h, .inr (1, [.ref q1, .ref q2, .int 0])), (q1, .inl (ty 1, 300, .inl (fun _ => 0))), (q2, .inl (ty 0, 300, .inl (fun _ => 0)))] from rfl) hD
  exact W.vret hx hb hr (fun t ht hW => ⟨⟨_, rfl, ⟨_, _, rfl⟩, by rw [ht]; exact hP, va_K.moved hW.alike hK, hD⟩, hS.F ht⟩) hS.2.2 d_S_init_27
set_option maxHeartbeats 4000000 in
set_option maxRecDepth 100000 in
/-- Thing(kind, q) -/
theorem c_T_init (l : Launch) (D : va_G) (ty : Nat → ClassId) (ad : Nat → Nat) (sz : Nat) (h : Nat) (kd : Int32) (q : Nat) (hq : q ≤ 12) : Met l y_T_init w_T_init ({ frames := 1, cells := 1, slots := 12, locals := 12 }) (va_Pc [.ref h, .int kd, .int (nI q)] (kP D kCl (kTy ty) ([(h, .inr (2, [.null, .int 0, .int 0, .int 0]))]) sz)) (va_Qv (fun u : va_W => ∃ q1 : Nat, u = [(h, .inr (2, [.ref q1, .int kd, .int 0, .int (-1)])), (q1, .inl (ty 0, q, .inl (nf q)))]) (kB D kCl (kTy ty) (va_A ([(h, .inr (2, [.null, .int 0, .int 0, .int 0]))]) sz)) (va_A ([(h, .inr (2, [.null, .int 0, .int 0, .int 0]))]) sz)) 1 12 (va_A ([(h, .inr (2, [.null, .int 0, .int 0, .int 0]))]) sz) := by
  refine Met.ofW (cc := b_T_init) (maxL := 4) (ret := none) (by decide) rfl ?_
  intro p e s m args below meth cd s₁ B hml hv
  obtain ⟨rfl, hsz, hP, hK, hD0⟩ := hv
  have hx := B.exec
  have hb := B.bytes
  have hr := B.returns
  have hts := atoms_spec (ws := w_T_init) B.pre
  have hown : s.vm.findClass R_T = some m.cls := findClass_of_methodNamed B.named
  have hlocks := B.notSynchronized
  subst hsz
  have hD := hD0.self (sz := s.heap.size)
  generalize hAe : va_A ([(h, .inr (2, [.null, .int 0, .int 0, .int 0]))]) s.heap.size = A at hD ⊢
  have hA : ∀ q : Nat, s.heap.size ≤ q → A q := fun q h => by rw [← hAe]; exact Or.inr h
  have hS : va_S A s.heap s.heap [] := va_S.rf
  have hl := lv_entry ([.ref h, .int kd, .int (nI q)]) (n := 4) (Nat.le_of_ble_eq_true rfl)
  rw [lg_entry_eq]
  generalize (lg_sl ([.ref h, .int kd, .int (nI q)]) ++ List.replicate (4 - (lg_sl ([.ref h, .int kd, .int (nI q)])).length) Slot.unset).toArray = ls at hl ⊢
  have hl : lv_has ls 4 [(0, .ref h), (1, .int kd), (2, .int (nI q))] := hl
  have hin : meth.name = "<init>" := (name_of_methodNamed B.named B.method).1
  refine lv_aload_n hx hb d_T_init_0 rfl (lv_at hl 0 rfl) ?_
  refine W.objInit hx hb hown (hts _ (kS1 _ m_T_3)) (hts _ (kS1 _ m_im_obj)) (hts _ (kS1 _ m_code_obj)) rfl (by rw [hml]; exact hl.1) rfl d_T_init_1 (Nat.le_of_ble_eq_true rfl) (Nat.le_of_ble_eq_true rfl) ?_
  refine W.eq (g2 := F0 m 4 ls []) rfl ?_
  refine lv_aload_n hx hb d_T_init_4 rfl (lv_at hl 0 rfl) ?_
  refine lv_iload_n hx hb d_T_init_5 rfl (lv_at hl 1 rfl) ?_
  refine va_put (D := D) (ci := 2) (v := .int kd) (ty := .int) (C := R_T) (T := F_T) (N := 4) hx hb hts (fun w h => kS1 w (i_T w h)) tt_T tt_T_ok n_T hown hK hP hD hS 0 rfl rfl 1 (by decide) (hts _ (kS1 _ m_T_9)) (fun _ h9 => h9) rfl (by decide +kernel) rfl rfl (Nat.le_of_ble_eq_true rfl) d_T_init_6 (fun H locs hP hD hS => ?_)
  have hP := kw_P (show _ = [(h, .inr (2, [.null, .int kd, .int 0, .int 0]))] from rfl) hP
  have hD := kw_D (show _ = [(h, .inr (2, [.null, .int kd, .int 0, .int 0]))] from rfl) hD
  refine lv_aload_n hx hb d_T_init_9 rfl (lv_at hl 0 rfl) ?_
  refine lv_iload_n hx hb d_T_init_10 rfl (lv_at hl 2 rfl) ?_
  refine lv_if_lt (tgt := 18) hx hb d_T_init_11 (by decide) (fun c_11 => absurd c_11 (nI_pos (by omega))) (fun c_11 => ?_)
  refine lv_iload_n hx hb d_T_init_14 rfl (lv_at hl 2 rfl) ?_
  refine lv_goto (tgt := 19) hx hb d_T_init_15 (by decide) ?_
  refine k_newa (atype := .int) (a0 := (q, .inl (fun _ => 0))) (N' := q) hx hb (hts _ (kS1 _ m_arr_int)) rfl hK hP hD hS hA 0 rfl (fun _ => rfl) (nI_pos (by omega)) (nI_clamp (by omega)) (by show q * 4 ≤ _; omega) (Nat.le_of_ble_eq_true rfl) (by show 0 + q ≤ 12; omega) d_T_init_19 (fun q1 H hP hD hS => ?_)
  refine va_putF (D := D) (ci := 2) (v := .ref q1) (ty := .array (.int)) (C := R_T) (T := F_T) (N := 4) hx hb hts (fun w h => kS1 w (i_T w h)) tt_T tt_T_ok n_T hown hK hP hD hS 0 rfl rfl 0 (by decide) (hts _ (kS1 _ m_T_15)) (fun _ h9 => h9) rfl hin rfl (by decide +kernel) rfl rfl (Nat.le_of_ble_eq_true rfl) d_T_init_21 (fun H locs hP hD hS => ?_)
  have hP := kw_P (show _ = [(h, .inr (2, [.ref q1, .int kd, .int 0, .int 0])), (q1, .inl (ty 0, q, .inl (fun _ => 0)))] from rfl) hP
  have hD := kw_D (show _ = [(h, .inr (2, [.ref q1, .int kd, .int 0, .int 0])), (q1, .inl (ty 0, q, .inl (fun _ => 0)))] from rfl) hD
  refine lv_aload_n hx hb d_T_init_24 rfl (lv_at hl 0 rfl) ?_
  refine lv_iconst (v := 0) hx hb d_T_init_25 (by decide) ?_
  refine va_put (D := D) (ci := 2) (v := .int 0) (ty := .boolean) (C := R_T) (T := F_T) (N := 4) hx hb hts (fun w h => kS1 w (i_T w h)) tt_T tt_T_ok n_T hown hK hP hD hS 0 rfl rfl 2 (by decide) (hts _ (kS1 _ m_T_19)) (fun _ h9 => h9) rfl (by decide +kernel) rfl rfl (Nat.le_of_ble_eq_true rfl) d_T_init_26 (fun H locs hP hD hS => ?_)
  have hP := kw_P (show _ = [(h, .inr (2, [.ref q1, .int kd, .int 0, .int 0])), (q1, .inl (ty 0, q, .inl (fun _ => 0)))] from rfl) hP
  have hD := kw_D (show _ = [(h, .inr (2, [.ref q1, .int kd, .int 0, .int 0])), (q1, .inl (ty 0, q, .inl (fun _ => 0)))] from rfl) hD
  refine lv_aload_n hx hb d_T_init_29 rfl (lv_at hl 0 rfl) ?_
  refine lv_iconst (v := (-1)) hx hb d_T_init_30 (by decide) ?_
  refine va_put (D := D) (ci := 2) (v := .int (-1)) (ty := .int) (C := R_T) (T := F_T) (N := 4) hx hb hts (fun w h => kS1 w (i_T w h)) tt_T tt_T_ok n_T hown hK hP hD hS 0 rfl rfl 3 (by decide) (hts _ (kS1 _ m_T_23)) (fun _ h9 => h9) rfl (by decide +kernel) rfl rfl (Nat.le_of_ble_eq_true rfl) d_T_init_31 (fun H locs hP hD hS => ?_)
  have hP := kw_P (show _ = [(h, .inr (2, [.ref q1, .int kd, .int 0, .int (-1)])), (q1, .inl (ty 0, q, .inl (fun _ => 0)))] from rfl) hP
  have hD := kw_D (show _ = [(h, .inr (2, [.ref q1, .int kd, .int 0, .int (-1)])), (q1, .inl (ty 0, q, .inl (fun _ => 0)))] from rfl) hD
  refine lv_iconst (v := 0) hx hb d_T_init_34 (by decide) ?_
  refine lv_istore_n (lv' := [(3, .int 0), (0, .ref h), (1, .int kd), (2, .int (nI q))]) hx hb d_T_init_35 rfl hl (by decide) rfl (fun ls hl => ?_)
  have L1 : ∀ (Q : State → Prop) (rem i : Nat) (H : Heap) (locs : List Loc) (ls : Array Slot), i + rem = q → va_P D kCl ([(h, .inr (2, [.ref q1, .int kd, .int 0, .int (-1)])), (q1, .inl (ty 0, q, .inl (nf i)))]) H → va_D A ([(h, .inr (2, [.ref q1, .int kd, .int 0, .int (-1)])), (q1, .inl (ty 0, q, .inl (nf i)))]) → va_S A s.heap H locs → lv_has ls 4 [(0, .ref h), (3, .int (nI i))] → (∀ (H : Heap) (locs : List Loc) (ls : Array Slot), va_P D kCl ([(h, .inr (2, [.ref q1, .int kd, .int 0, .int (-1)])), (q1, .inl (ty 0, q, .inl (nf q)))]) H → va_D A ([(h, .inr (2, [.ref q1, .int kd, .int 0, .int (-1)])), (q1, .inl (ty 0, q, .inl (nf q)))]) → va_S A s.heap H locs → lv_has ls 4 [(0, .ref h)] → W p l e (headSpec w_T_init ({ frames := 1, cells := 1, slots := 12, locals := 12 })).room s m ([.ref h, .int kd, .int (nI q)] : List Value).toArray below meth cd H locs 1 (0 + q) Q (F0 m 58 ls [])) → W p l e (headSpec w_T_init ({ frames := 1, cells := 1, slots := 12, locals := 12 })).room s m ([.ref h, .int kd, .int (nI q)] : List Value).toArray below meth cd H locs 1 (0 + q) Q (F0 m 36 ls []) := by
    intro Q rem
    induction rem with
    | zero =>
      intro i H locs ls hir_i hP hD hS hl kx
      obtain rfl : q = i := by omega
      refine lv_iload_n hx hb d_T_init_36 rfl (lv_at hl 1 rfl) ?_
      refine lv_aload_n hx hb d_T_init_37 rfl (lv_at hl 0 rfl) ?_
      refine va_get (D := D) (ci := 2) (v := .ref q1) (C := R_T) (T := F_T) (N := 4) hx hb hts (fun w h => kS1 w (i_T w h)) hown hK hP 0 rfl rfl 0 (by decide) (hts _ (kS1 _ m_T_15)) (fun _ h9 => h9) rfl d_T_init_38 ?_
      refine va_alen (v := nI q) hx hb hK hP 1 0 rfl rfl rfl d_T_init_41 ?_
      refine lv_icmp_ge (tgt := 58) hx hb d_T_init_42 (by decide) (fun c_42' => ?_) (fun c_42' => absurd (nI_le (a := q) (b := q) (Nat.le_refl _) (by omega)) c_42')
      have hl := lv_sub (l' := [(0, .ref h)]) hl [0] rfl
      exact kx _ _ ls hP hD hS hl
    | succ rem ih =>
      intro i H locs ls hir_i hP hD hS hl kx
      have hlt_i : i < q := by omega
      refine lv_iload_n hx hb d_T_init_36 rfl (lv_at hl 1 rfl) ?_
      refine lv_aload_n hx hb d_T_init_37 rfl (lv_at hl 0 rfl) ?_
      refine va_get (D := D) (ci := 2) (v := .ref q1) (C := R_T) (T := F_T) (N := 4) hx hb hts (fun w h => kS1 w (i_T w h)) hown hK hP 0 rfl rfl 0 (by decide) (hts _ (kS1 _ m_T_15)) (fun _ h9 => h9) rfl d_T_init_38 ?_
      refine va_alen (v := nI q) hx hb hK hP 1 0 rfl rfl rfl d_T_init_41 ?_
      refine lv_icmp_ge (tgt := 58) hx hb d_T_init_42 (by decide) (fun c_42' => absurd c_42' (nI_ge (b := q) hlt_i (by omega))) (fun c_42' => ?_)
      refine lv_aload_n hx hb d_T_init_45 rfl (lv_at hl 0 rfl) ?_
      refine va_get (D := D) (ci := 2) (v := .ref q1) (C := R_T) (T := F_T) (N := 4) hx hb hts (fun w h => kS1 w (i_T w h)) hown hK hP 0 rfl rfl 0 (by decide) (hts _ (kS1 _ m_T_15)) (fun _ h9 => h9) rfl d_T_init_46 ?_
      refine lv_iload_n hx hb d_T_init_49 rfl (lv_at hl 1 rfl) ?_
      refine lv_iconst (v := (-1)) hx hb d_T_init_50 (by decide) ?_
      refine va_iast (f := nf i) hx hb hK hP hD hS 1 0 rfl rfl (vp_in_nI hlt_i (by omega)) d_T_init_51 (fun H locs hP hD hS => ?_)
      rw [nI_clamp (n := i) (by omega)] at hP hD
      have hP := kw_P (show _ = [(h, .inr (2, [.ref q1, .int kd, .int 0, .int (-1)])), (q1, .inl (ty 0, q, .inl (upd (nf i) i (-1))))] from rfl) hP
      have hD := kw_D (show _ = [(h, .inr (2, [.ref q1, .int kd, .int 0, .int (-1)])), (q1, .inl (ty 0, q, .inl (upd (nf i) i (-1))))] from rfl) hD
      refine lv_iinc (v := nI i + 1) (lv' := [(3, .int (nI i + 1)), (0, .ref h)]) hx hb d_T_init_52 hl (k := 1) rfl rfl (by decide) rfl (fun ls hl => ?_)
      refine lv_goto (tgt := 36) hx hb d_T_init_55 (by decide) ?_
      have hl := lv_sub (l' := [(0, .ref h), (3, .int (nI i + 1))]) hl [1, 0] rfl
      have hqq9 : (.int (nI i + 1) : Value) = .int (nI (i + 1)) := by rw [nI_1]
      rw [hqq9] at hl
      have hE : ([(h, .inr (2, [.ref q1, .int kd, .int 0, .int (-1)])), (q1, .inl (ty 0, q, .inl (upd (nf i) i (-1))))] : va_W) = [(h, .inr (2, [.ref q1, .int kd, .int 0, .int (-1)])), (q1, .inl (ty 0, q, .inl (nf (i + 1))))] := by rw [nf_s]
      have hP := kw_P hE hP
      have hD := kw_D hE hD
      exact ih (i + 1) _ _ ls (by omega) hP hD hS hl kx
  have hl := lv_sub (l' := [(0, .ref h), (3, .int 0)]) hl [1, 0] rfl
  have hqq9 : (.int 0 : Value) = .int (nI 0) := by rw [nI_0]
  rw [hqq9] at hl
  refine L1 _ (q - 0) 0 _ _ ls (by omega) hP hD hS hl (fun H locs ls hP hD hS hl => ?_)
  refine W.widen (k := 1) (n := 12) (by omega) (by omega) ?_
  exact W.vret hx hb hr (fun t ht hW => ⟨⟨_, rfl, ⟨_, rfl⟩, by rw [ht]; exact hP, va_K.moved hW.alike hK, hD⟩, hS.F ht⟩) hS.2.2 d_T_init_58
set_option maxHeartbeats 4000000 in
set_option maxRecDepth 100000 in
/-- WillKeeper() -/
theorem c_K_init (l : Launch) (D : va_G) (ty : Nat → ClassId) (ad : Nat → Nat) (sz : Nat) (h : Nat) : Met l y_K_init w_K_init ({ frames := 2, cells := 9, slots := 1822, locals := 32 }) (va_Pc [.ref h] (fun U => kP D kCl (kTy ty) ([(h, .inr (0, [.null, .null, .null, .int 0, .int 0, .null, .null, .int 0, .int 0, .int 0, .int 0, .int 0]))]) sz U ∧ va_AO R_T U)) (va_Qv (fun u : va_W => ∃ q1 q2 q3 q4 q5 q6 q7 q8 q9 : Nat, u = [(h, .inr (0, [.ref q1, .ref q2, .ref q3, .int 0, .int 0, .ref q4, .ref q7, .int 0, .int 0, .int 0, .int 0, .int 0])), (q1, .inl (ty 2, 300, .inr (.inr (.inr (.inr (fun _ => none)))))), (q2, .inl (ty 0, 16, .inl (nf 16))), (q3, .inl (ty 0, 300, .inl (fun _ => 0))), (q4, .inr (1, [.ref q5, .ref q6, .int 0])), (q5, .inl (ty 1, 300, .inl (fun _ => 0))), (q6, .inl (ty 0, 300, .inl (fun _ => 0))), (q7, .inr (1, [.ref q8, .ref q9, .int 0])), (q8, .inl (ty 1, 300, .inl (fun _ => 0))), (q9, .inl (ty 0, 300, .inl (fun _ => 0)))]) (kB D kCl (kTy ty) (va_A ([(h, .inr (0, [.null, .null, .null, .int 0, .int 0, .null, .null, .int 0, .int 0, .int 0, .int 0, .int 0]))]) sz)) (va_A ([(h, .inr (0, [.null, .null, .null, .int 0, .int 0, .null, .null, .int 0, .int 0, .int 0, .int 0, .int 0]))]) sz)) 9 1822 (va_A ([(h, .inr (0, [.null, .null, .null, .int 0, .int 0, .null, .null, .int 0, .int 0, .int 0, .int 0, .int 0]))]) sz) := by
  refine Met.ofW (cc := b_K_init) (maxL := 2) (ret := none) (by decide) rfl ?_
  intro p e s m args below meth cd s₁ B hml hv
  obtain ⟨rfl, ⟨hsz, hP, hK, hD0⟩, hAO⟩ := hv
  have hx := B.exec
  have hb := B.bytes
  have hr := B.returns
  have hts := atoms_spec (ws := w_K_init) B.pre
  have hown : s.vm.findClass R_K = some m.cls := findClass_of_methodNamed B.named
  have hlocks := B.notSynchronized
  subst hsz
  have hD := hD0.self (sz := s.heap.size)
  generalize hAe : va_A ([(h, .inr (0, [.null, .null, .null, .int 0, .int 0, .null, .null, .int 0, .int 0, .int 0, .int 0, .int 0]))]) s.heap.size = A at hD ⊢
  have hA : ∀ q : Nat, s.heap.size ≤ q → A q := fun q h => by rw [← hAe]; exact Or.inr h
  have hS : va_S A s.heap s.heap [] := va_S.rf
  have hl := lv_entry ([.ref h]) (n := 2) (Nat.le_of_ble_eq_true rfl)
  rw [lg_entry_eq]
  generalize (lg_sl ([.ref h]) ++ List.replicate (2 - (lg_sl ([.ref h])).length) Slot.unset).toArray = ls at hl ⊢
  have hl : lv_has ls 2 [(0, .ref h)] := hl
  have hin : meth.name = "<init>" := (name_of_methodNamed B.named B.method).1
  refine lv_aload_n hx hb d_K_init_0 rfl (lv_at hl 0 rfl) ?_
  refine W.objInit hx hb hown (hts _ (kS1 _ m_K_1)) (hts _ (kS1 _ m_im_obj)) (hts _ (kS1 _ m_code_obj)) rfl (by rw [hml]; exact hl.1) rfl d_K_init_1 (Nat.le_of_ble_eq_true rfl) (Nat.le_of_ble_eq_true rfl) ?_
  refine W.eq (g2 := F0 m 4 ls []) rfl ?_
  refine lv_aload_n hx hb d_K_init_4 rfl (lv_at hl 0 rfl) ?_
  refine lv_sipush (v := 300) hx hb d_K_init_5 (by decide) ?_
  refine k_newq (N' := 300) hx hb hown (hts _ (kS1 _ m_K_9)) hAO hK hP hD hS hA 2 rfl (by decide) (by decide) (by decide) (Nat.le_of_ble_eq_true rfl) (Nat.le_of_ble_eq_true rfl) d_K_init_8 (fun q1 H hP hD hS => ?_)
  refine va_putF (D := D) (ci := 0) (v := .ref q1) (ty := .array (.object "WillKeeper$Thing")) (C := R_K) (T := F_K) (N := 12) hx hb hts (fun w h => kS1 w (i_K w h)) tt_K tt_K_ok n_K hown hK hP hD hS 0 rfl rfl 0 (by decide) (hts _ (kS1 _ m_K_11)) (fun _ h9 => h9) rfl hin rfl (by decide +kernel) rfl rfl (Nat.le_of_ble_eq_true rfl) d_K_init_11 (fun H locs hP hD hS => ?_)
  have hP := kw_P (show _ = [(h, .inr (0, [.ref q1, .null, .null, .int 0, .int 0, .null, .null, .int 0, .int 0, .int 0, .int 0, .int 0])), (q1, .inl (ty 2, 300, .inr (.inr (.inr (.inr (fun _ => none))))))] from rfl) hP
  have hD := kw_D (show _ = [(h, .inr (0, [.ref q1, .null, .null, .int 0, .int 0, .null, .null, .int 0, .int 0, .int 0, .int 0, .int 0])), (q1, .inl (ty 2, 300, .inr (.inr (.inr (.inr (fun _ => none))))))] from rfl) hD
  refine lv_aload_n hx hb d_K_init_14 rfl (lv_at hl 0 rfl) ?_
  refine lv_bipush (v := 16) hx hb d_K_init_15 (by decide) ?_
  refine k_newa (atype := .int) (a0 := (16, .inl (fun _ => 0))) (N' := 16) hx hb (hts _ (kS1 _ m_arr_int)) rfl hK hP hD hS hA 0 rfl (fun _ => rfl) (by decide) (by decide) (by decide) (Nat.le_of_ble_eq_true rfl) (Nat.le_of_ble_eq_true rfl) d_K_init_17 (fun q2 H hP hD hS => ?_)
  refine va_putF (D := D) (ci := 0) (v := .ref q2) (ty := .array (.int)) (C := R_K) (T := F_K) (N := 12) hx hb hts (fun w h => kS1 w (i_K w h)) tt_K tt_K_ok n_K hown hK hP hD hS 0 rfl rfl 1 (by decide) (hts _ (kS1 _ m_K_15)) (fun _ h9 => h9) rfl hin rfl (by decide +kernel) rfl rfl (Nat.le_of_ble_eq_true rfl) d_K_init_19 (fun H locs hP hD hS => ?_)
  have hP := kw_P (show _ = [(h, .inr (0, [.ref q1, .ref q2, .null, .int 0, .int 0, .null, .null, .int 0, .int 0, .int 0, .int 0, .int 0])), (q1, .inl (ty 2, 300, .inr (.inr (.inr (.inr (fun _ => none)))))), (q2, .inl (ty 0, 16, .inl (fun _ => 0)))] from rfl) hP
  have hD := kw_D (show _ = [(h, .inr (0, [.ref q1, .ref q2, .null, .int 0, .int 0, .null, .null, .int 0, .int 0, .int 0, .int 0, .int 0])), (q1, .inl (ty 2, 300, .inr (.inr (.inr (.inr (fun _ => none)))))), (q2, .inl (ty 0, 16, .inl (fun _ => 0)))] from rfl) hD
  refine lv_iconst (v := 0) hx hb d_K_init_22 (by decide) ?_
  refine lv_istore_n (lv' := [(1, .int 0), (0, .ref h)]) hx hb d_K_init_23 rfl hl (by decide) rfl (fun ls hl => ?_)
  have L1 : ∀ (Q : State → Prop) (rem i : Nat) (H : Heap) (locs : List Loc) (ls : Array Slot), i + rem = 16 → va_P D kCl ([(h, .inr (0, [.ref q1, .ref q2, .null, .int 0, .int 0, .null, .null, .int 0, .int 0, .int 0, .int 0, .int 0])), (q1, .inl (ty 2, 300, .inr (.inr (.inr (.inr (fun _ => none)))))), (q2, .inl (ty 0, 16, .inl (nf i)))]) H → va_D A ([(h, .inr (0, [.ref q1, .ref q2, .null, .int 0, .int 0, .null, .null, .int 0, .int 0, .int 0, .int 0, .int 0])), (q1, .inl (ty 2, 300, .inr (.inr (.inr (.inr (fun _ => none)))))), (q2, .inl (ty 0, 16, .inl (nf i)))]) → va_S A s.heap H locs → lv_has ls 2 [(0, .ref h), (1, .int (nI i))] → (∀ (H : Heap) (locs : List Loc) (ls : Array Slot), va_P D kCl ([(h, .inr (0, [.ref q1, .ref q2, .null, .int 0, .int 0, .null, .null, .int 0, .int 0, .int 0, .int 0, .int 0])), (q1, .inl (ty 2, 300, .inr (.inr (.inr (.inr (fun _ => none)))))), (q2, .inl (ty 0, 16, .inl (nf 16)))]) H → va_D A ([(h, .inr (0, [.ref q1, .ref q2, .null, .int 0, .int 0, .null, .null, .int 0, .int 0, .int 0, .int 0, .int 0])), (q1, .inl (ty 2, 300, .inr (.inr (.inr (.inr (fun _ => none)))))), (q2, .inl (ty 0, 16, .inl (nf 16)))]) → va_S A s.heap H locs → lv_has ls 2 [(0, .ref h)] → W p l e (headSpec w_K_init ({ frames := 2, cells := 9, slots := 1822, locals := 32 })).room s m ([.ref h] : List Value).toArray below meth cd H locs 2 316 Q (F0 m 46 ls [])) → W p l e (headSpec w_K_init ({ frames := 2, cells := 9, slots := 1822, locals := 32 })).room s m ([.ref h] : List Value).toArray below meth cd H locs 2 316 Q (F0 m 24 ls []) := by
    intro Q rem
    induction rem with
    | zero =>
      intro i H locs ls hir_i hP hD hS hl kx
      obtain rfl : 16 = i := by omega
      refine lv_iload_n hx hb d_K_init_24 rfl (lv_at hl 1 rfl) ?_
      refine lv_aload_n hx hb d_K_init_25 rfl (lv_at hl 0 rfl) ?_
      refine va_get (D := D) (ci := 0) (v := .ref q2) (C := R_K) (T := F_K) (N := 12) hx hb hts (fun w h => kS1 w (i_K w h)) hown hK hP 0 rfl rfl 1 (by decide) (hts _ (kS1 _ m_K_15)) (fun _ h9 => h9) rfl d_K_init_26 ?_
      refine va_alen (v := 16) hx hb hK hP 2 0 rfl rfl rfl d_K_init_29 ?_
      refine lv_icmp_ge (tgt := 46) hx hb d_K_init_30 (by decide) (fun c_30' => ?_) (fun c_30' => absurd (nI_le (a := 16) (b := 16) (Nat.le_refl _) (by omega)) c_30')
      have hl := lv_sub (l' := [(0, .ref h)]) hl [0] rfl
      exact kx _ _ ls hP hD hS hl
    | succ rem ih =>
      intro i H locs ls hir_i hP hD hS hl kx
      have hlt_i : i < 16 := by omega
      refine lv_iload_n hx hb d_K_init_24 rfl (lv_at hl 1 rfl) ?_
      refine lv_aload_n hx hb d_K_init_25 rfl (lv_at hl 0 rfl) ?_
      refine va_get (D := D) (ci := 0) (v := .ref q2) (C := R_K) (T := F_K) (N := 12) hx hb hts (fun w h => kS1 w (i_K w h)) hown hK hP 0 rfl rfl 1 (by decide) (hts _ (kS1 _ m_K_15)) (fun _ h9 => h9) rfl d_K_init_26 ?_
      refine va_alen (v := 16) hx hb hK hP 2 0 rfl rfl rfl d_K_init_29 ?_
      refine lv_icmp_ge (tgt := 46) hx hb d_K_init_30 (by decide) (fun c_30' => absurd c_30' (nI_ge (b := 16) hlt_i (by omega))) (fun c_30' => ?_)
      refine lv_aload_n hx hb d_K_init_33 rfl (lv_at hl 0 rfl) ?_
      refine va_get (D := D) (ci := 0) (v := .ref q2) (C := R_K) (T := F_K) (N := 12) hx hb hts (fun w h => kS1 w (i_K w h)) hown hK hP 0 rfl rfl 1 (by decide) (hts _ (kS1 _ m_K_15)) (fun _ h9 => h9) rfl d_K_init_34 ?_
      refine lv_iload_n hx hb d_K_init_37 rfl (lv_at hl 1 rfl) ?_
      refine lv_iconst (v := (-1)) hx hb d_K_init_38 (by decide) ?_
      refine va_iast (f := nf i) hx hb hK hP hD hS 2 0 rfl rfl (vp_in_nI hlt_i (by omega)) d_K_init_39 (fun H locs hP hD hS => ?_)
      rw [nI_clamp (n := i) (by omega)] at hP hD
      have hP := kw_P (show _ = [(h, .inr (0, [.ref q1, .ref q2, .null, .int 0, .int 0, .null, .null, .int 0, .int 0, .int 0, .int 0, .int 0])), (q1, .inl (ty 2, 300, .inr (.inr (.inr (.inr (fun _ => none)))))), (q2, .inl (ty 0, 16, .inl (upd (nf i) i (-1))))] from rfl) hP
      have hD := kw_D (show _ = [(h, .inr (0, [.ref q1, .ref q2, .null, .int 0, .int 0, .null, .null, .int 0, .int 0, .int 0, .int 0, .int 0])), (q1, .inl (ty 2, 300, .inr (.inr (.inr (.inr (fun _ => none)))))), (q2, .inl (ty 0, 16, .inl (upd (nf i) i (-1))))] from rfl) hD
      refine lv_iinc (v := nI i + 1) (lv' := [(1, .int (nI i + 1)), (0, .ref h)]) hx hb d_K_init_40 hl (k := 1) rfl rfl (by decide) rfl (fun ls hl => ?_)
      refine lv_goto (tgt := 24) hx hb d_K_init_43 (by decide) ?_
      have hl := lv_sub (l' := [(0, .ref h), (1, .int (nI i + 1))]) hl [1, 0] rfl
      have hqq9 : (.int (nI i + 1) : Value) = .int (nI (i + 1)) := by rw [nI_1]
      rw [hqq9] at hl
      have hE : ([(h, .inr (0, [.ref q1, .ref q2, .null, .int 0, .int 0, .null, .null, .int 0, .int 0, .int 0, .int 0, .int 0])), (q1, .inl (ty 2, 300, .inr (.inr (.inr (.inr (fun _ => none)))))), (q2, .inl (ty 0, 16, .inl (upd (nf i) i (-1))))] : va_W) = [(h, .inr (0, [.ref q1, .ref q2, .null, .int 0, .int 0, .null, .null, .int 0, .int 0, .int 0, .int 0, .int 0])), (q1, .inl (ty 2, 300, .inr (.inr (.inr (.inr (fun _ => none)))))), (q2, .inl (ty 0, 16, .inl (nf (i + 1))))] := by rw [nf_s]
      have hP := kw_P hE hP
      have hD := kw_D hE hD
      exact ih (i + 1) _ _ ls (by omega) hP hD hS hl kx
  have hl := lv_sub (l' := [(0, .ref h), (1, .int 0)]) hl [1, 0] rfl
  have hqq9 : (.int 0 : Value) = .int (nI 0) := by rw [nI_0]
  rw [hqq9] at hl
  refine L1 _ (16 - 0) 0 _ _ ls (by omega) hP hD hS hl (fun H locs ls hP hD hS hl => ?_)
  refine lv_aload_n hx hb d_K_init_46 rfl (lv_at hl 0 rfl) ?_
  refine lv_sipush (v := 300) hx hb d_K_init_47 (by decide) ?_
  refine k_newa (atype := .int) (a0 := (300, .inl (fun _ => 0))) (N' := 300) hx hb (hts _ (kS1 _ m_arr_int)) rfl hK hP hD hS hA 0 rfl (fun _ => rfl) (by decide) (by decide) (by decide) (Nat.le_of_ble_eq_true rfl) (Nat.le_of_ble_eq_true rfl) d_K_init_50 (fun q3 H hP hD hS => ?_)
  refine va_putF (D := D) (ci := 0) (v := .ref q3) (ty := .array (.int)) (C := R_K) (T := F_K) (N := 12) hx hb hts (fun w h => kS1 w (i_K w h)) tt_K tt_K_ok n_K hown hK hP hD hS 0 rfl rfl 2 (by decide) (hts _ (kS1 _ m_K_19)) (fun _ h9 => h9) rfl hin rfl (by decide +kernel) rfl rfl (Nat.le_of_ble_eq_true rfl) d_K_init_52 (fun H locs hP hD hS => ?_)
  have hP := kw_P (show _ = [(h, .inr (0, [.ref q1, .ref q2, .ref q3, .int 0, .int 0, .null, .null, .int 0, .int 0, .int 0, .int 0, .int 0])), (q1, .inl (ty 2, 300, .inr (.inr (.inr (.inr (fun _ => none)))))), (q2, .inl (ty 0, 16, .inl (nf 16))), (q3, .inl (ty 0, 300, .inl (fun _ => 0)))] from rfl) hP
  have hD := kw_D (show _ = [(h, .inr (0, [.ref q1, .ref q2, .ref q3, .int 0, .int 0, .null, .null, .int 0, .int 0, .int 0, .int 0, .int 0])), (q1, .inl (ty 2, 300, .inr (.inr (.inr (.inr (fun _ => none)))))), (q2, .inl (ty 0, 16, .inl (nf 16))), (q3, .inl (ty 0, 300, .inl (fun _ => 0)))] from rfl) hD
  refine lv_aload_n hx hb d_K_init_55 rfl (lv_at hl 0 rfl) ?_
  refine va_new (ci := 1) (fs := [.null, .null, .int 0]) (C := R_S) (T := F_S) (N := 3) hx hb hts (fun w h => kS1 w (i_S w h)) tt_S tt_S_ok hown (hts _ (kS1 _ m_K_22)) (hts _ (kS1 _ m_ins_S)) (hts _ (kS1 _ m_ini_S)) hK hP hD hS hA rfl (fun j hj => by rcases (show j = 0 ∨ j = 1 ∨ j = 2 by omega) with rfl | rfl | rfl <;> rfl) (Nat.le_of_ble_eq_true rfl) (Nat.le_of_ble_eq_true rfl) d_K_init_56 (fun q4 H hP hD hS => ?_)
  refine lv_dup hx hb d_K_init_59 rfl ?_
  have hPx := hP.sub (ws' := [(q4, .inr (1, [.null, .null, .int 0]))]) [4] rfl
  have hDx := hD.sub (ws' := [(q4, .inr (1, [.null, .null, .int 0]))]) [4] (by decide) rfl
  refine k_ctor (ws := [(h, .inr (0, [.ref q1, .ref q2, .ref q3, .int 0, .int 0, .null, .null, .int 0, .int 0, .int 0, .int 0, .int 0])), (q1, .inl (ty 2, 300, .inr (.inr (.inr (.inr (fun _ => none)))))), (q2, .inl (ty 0, 16, .inl (nf 16))), (q3, .inl (ty 0, 300, .inl (fun _ => 0)))]) (x := (q4, .inr (1, [.null, .null, .int 0]))) (va_runI (As := []) (rest := [.ref q4, .ref h]) ⟨hx, hb, hml, hown, hts⟩ (c_S_init l D ty ad _ q4) (cwI 0 hts (kG kS1 m_code_S_init) rfl rfl rfl (hts _ (kS1 _ m_ini_S)) (hts _ (kS1 _ m_K_24)) (hts _ (kS1 _ m_im_S_init)) rfl (by decide +kernel) ⟨Nat.le_of_ble_eq_true rfl, Nat.le_of_ble_eq_true rfl⟩) ⟨kP_blind, fun U hU hW => ⟨rfl, kP_at hK hPx hDx U hU hW⟩⟩ rfl rfl hl.1 rfl (lv_room (Nat.le_of_ble_eq_true rfl)) d_K_init_60 ⟨Nat.le_of_ble_eq_true rfl, Nat.le_of_ble_eq_true rfl⟩) hP hD hS hA (fun u H locs hu hP hD hS hz => ?_)
  obtain ⟨q5, q6, rfl⟩ := hu
  have hP : va_P D kCl [(h, .inr (0, [.ref q1, .ref q2, .ref q3, .int 0, .int 0, .null, .null, .int 0, .int 0, .int 0, .int 0, .int 0])), (q1, .inl (ty 2, 300, .inr (.inr (.inr (.inr (fun _ => none)))))), (q2, .inl (ty 0, 16, .inl (nf 16))), (q3, .inl (ty 0, 300, .inl (fun _ => 0))), (q4, .inr (1, [.ref q5, .ref q6, .int 0])), (q5, .inl (ty 1, 300, .inl (fun _ => 0))), (q6, .inl (ty 0, 300, .inl (fun _ => 0)))] H := hP
  have hD : va_D A [(h, .inr (0, [.ref q1, .ref q2, .ref q3, .int 0, .int 0, .null, .null, .int 0, .int 0, .int 0, .int 0, .int 0])), (q1, .inl (ty 2, 300, .inr (.inr (.inr (.inr (fun _ => none)))))), (q2, .inl (ty 0, 16, .inl (nf 16))), (q3, .inl (ty 0, 300, .inl (fun _ => 0))), (q4, .inr (1, [.ref q5, .ref q6, .int 0])), (q5, .inl (ty 1, 300, .inl (fun _ => 0))), (q6, .inl (ty 0, 300, .inl (fun _ => 0)))] := hD
  refine va_putF (D := D) (ci := 0) (v := .ref q4) (ty := .object "WillKeeper$Search") (C := R_K) (T := F_K) (N := 12) hx hb hts (fun w h => kS1 w (i_K w h)) tt_K tt_K_ok n_K hown hK hP hD hS 0 rfl rfl 5 (by decide) (hts _ (kS1 _ m_K_25)) (fun _ h9 => h9) rfl hin rfl (by decide +kernel) rfl rfl (Nat.le_of_ble_eq_true rfl) d_K_init_63 (fun H locs hP hD hS => ?_)
  have hP := kw_P (show _ = [(h, .inr (0, [.ref q1, .ref q2, .ref q3, .int 0, .int 0, .ref q4, .null, .int 0, .int 0, .int 0, .int 0, .int 0])), (q1, .inl (ty 2, 300, .inr (.inr (.inr (.inr (fun _ => none)))))), (q2, .inl (ty 0, 16, .inl (nf 16))), (q3, .inl (ty 0, 300, .inl (fun _ => 0))), (q4, .inr (1, [.ref q5, .ref q6, .int 0])), (q5, .inl (ty 1, 300, .inl (fun _ => 0))), (q6, .inl (ty 0, 300, .inl (fun _ => 0)))] from rfl) hP
  have hD := kw_D (show _ = [(h, .inr (0, [.ref q1, .ref q2, .ref q3, .int 0, .int 0, .ref q4, .null, .int 0, .int 0, .int 0, .int 0, .int 0])), (q1, .inl (ty 2, 300, .inr (.inr (.inr (.inr (fun _ => none)))))), (q2, .inl (ty 0, 16, .inl (nf 16))), (q3, .inl (ty 0, 300, .inl (fun _ => 0))), (q4, .inr (1, [.ref q5, .ref q6, .int 0])), (q5, .inl (ty 1, 300, .inl (fun _ => 0))), (q6, .inl (ty 0, 300, .inl (fun _ => 0)))] from rfl) hD
  refine lv_aload_n hx hb d_K_init_66 rfl (lv_at hl 0 rfl) ?_
  refine va_new (ci := 1) (fs := [.null, .null, .int 0]) (C := R_S) (T := F_S) (N := 3) hx hb hts (fun w h => kS1 w (i_S w h)) tt_S tt_S_ok hown (hts _ (kS1 _ m_K_22)) (hts _ (kS1 _ m_ins_S)) (hts _ (kS1 _ m_ini_S)) hK hP hD hS hA rfl (fun j hj => by rcases (show j = 0 ∨ j = 1 ∨ j = 2 by omega) with rfl | rfl | rfl <;> rfl) (Nat.le_of_ble_eq_true rfl) (Nat.le_of_ble_eq_true rfl) d_K_init_67 (fun q7 H hP hD hS => ?_)
  refine lv_dup hx hb d_K_init_70 rfl ?_
  have hPx := hP.sub (ws' := [(q7, .inr (1, [.null, .null, .int 0]))]) [7] rfl
  have hDx := hD.sub (ws' := [(q7, .inr (1, [.null, .null, .int 0]))]) [7] (by decide) rfl
  refine k_ctor (ws := [(h, .inr (0, [.ref q1, .ref q2, .ref q3, .int 0, .int 0, .ref q4, .null, .int 0, .int 0, .int 0, .int 0, .int 0])), (q1, .inl (ty 2, 300, .inr (.inr (.inr (.inr (fun _ => none)))))), (q2, .inl (ty 0, 16, .inl (nf 16))), (q3, .inl (ty 0, 300, .inl (fun _ => 0))), (q4, .inr (1, [.ref q5, .ref q6, .int 0])), (q5, .inl (ty 1, 300, .inl (fun _ => 0))), (q6, .inl (ty 0, 300, .inl (fun _ => 0)))]) (x := (q7, .inr (1, [.null, .null, .int 0]))) (va_runI (As := []) (rest := [.ref q7, .ref h]) ⟨hx, hb, hml, hown, hts⟩ (c_S_init l D ty ad _ q7) (cwI 0 hts (kG kS1 m_code_S_init) rfl rfl rfl (hts _ (kS1 _ m_ini_S)) (hts _ (kS1 _ m_K_24)) (hts _ (kS1 _ m_im_S_init)) rfl (by decide +kernel) ⟨Nat.le_of_ble_eq_true rfl, Nat.le_of_ble_eq_true rfl⟩) ⟨kP_blind, fun U hU hW => ⟨rfl, kP_at hK hPx hDx U hU hW⟩⟩ rfl rfl hl.1 rfl (lv_room (Nat.le_of_ble_eq_true rfl)) d_K_init_71 ⟨Nat.le_of_ble_eq_true rfl, Nat.le_of_ble_eq_true rfl⟩) hP hD hS hA (fun u H locs hu hP hD hS hz => ?_)
  obtain ⟨q8, q9, rfl⟩ := hu
  have hP : va_P D kCl [(h, .inr (0, [.ref q1, .ref q2, .ref q3, .int 0, .int 0, .ref q4, .null, .int 0, .int 0, .int 0, .int 0, .int 0])), (q1, .inl (ty 2, 300, .inr (.inr (.inr (.inr (fun _ => none)))))), (q2, .inl (ty 0, 16, .inl (nf 16))), (q3, .inl (ty 0, 300, .inl (fun _ => 0))), (q4, .inr (1, [.ref q5, .ref q6, .int 0])), (q5, .inl (ty 1, 300, .inl (fun _ => 0))), (q6, .inl (ty 0, 300, .inl (fun _ => 0))), (q7, .inr (1, [.ref q8, .ref q9, .int 0])), (q8, .inl (ty 1, 300, .inl (fun _ => 0))), (q9, .inl (ty 0, 300, .inl (fun _ => 0)))] H := hP
  have hD : va_D A [(h, .inr (0, [.ref q1, .ref q2, .ref q3, .int 0, .int 0, .ref q4, .null, .int 0, .int 0, .int 0, .int 0, .int 0])), (q1, .inl (ty 2, 300, .inr (.inr (.inr (.inr (fun _ => none)))))), (q2, .inl (ty 0, 16, .inl (nf 16))), (q3, .inl (ty 0, 300, .inl (fun _ => 0))), (q4, .inr (1, [.ref q5, .ref q6, .int 0])), (q5, .inl (ty 1, 300, .inl (fun _ => 0))), (q6, .inl (ty 0, 300, .inl (fun _ => 0))), (q7, .inr (1, [.ref q8, .ref q9, .int 0])), (q8, .inl (ty 1, 300, .inl (fun _ => 0))), (q9, .inl (ty 0, 300, .inl (fun _ => 0)))] := hD
  refine va_putF (D := D) (ci := 0) (v := .ref q7) (ty := .object "WillKeeper$Search") (C := R_K) (T := F_K) (N := 12) hx hb hts (fun w h => kS1 w (i_K w h)) tt_K tt_K_ok n_K hown hK hP hD hS 0 rfl rfl 6 (by decide) (hts _ (kS1 _ m_K_29)) (fun _ h9 => h9) rfl hin rfl (by decide +kernel) rfl rfl (Nat.le_of_ble_eq_true rfl) d_K_init_74 (fun H locs hP hD hS => ?_)
  have hP := kw_P (show _ = [(h, .inr (0, [.ref q1, .ref q2, .ref q3, .int 0, .int 0, .ref q4, .ref q7, .int 0, .int 0, .int 0, .int 0, .int 0])), (q1, .inl (ty 2, 300, .inr (.inr (.inr (.inr (fun _ => none)))))), (q2, .inl (ty 0, 16, .inl (nf 16))), (q3, .inl (ty 0, 300, .inl (fun _ => 0))), (q4, .inr (1, [.ref q5, .ref q6, .int 0])), (q5, .inl (ty 1, 300, .inl (fun _ => 0))), (q6, .inl (ty 0, 300, .inl (fun _ => 0))), (q7, .inr (1, [.ref q8, .ref q9, .int 0])), (q8, .inl (ty 1, 300, .inl (fun _ => 0))), (q9, .inl (ty 0, 300, .inl (fun _ => 0)))] from rfl) hP
  have hD := kw_D (show _ = [(h, .inr (0, [.ref q1, .ref q2, .ref q3, .int 0, .int 0, .ref q4, .ref q7, .int 0, .int 0, .int 0, .int 0, .int 0])), (q1, .inl (ty 2, 300, .inr (.inr (.inr (.inr (fun _ => none)))))), (q2, .inl (ty 0, 16, .inl (nf 16))), (q3, .inl (ty 0, 300, .inl (fun _ => 0))), (q4, .inr (1, [.ref q5, .ref q6, .int 0])), (q5, .inl (ty 1, 300, .inl (fun _ => 0))), (q6, .inl (ty 0, 300, .inl (fun _ => 0))), (q7, .inr (1, [.ref q8, .ref q9, .int 0])), (q8, .inl (ty 1, 300, .inl (fun _ => 0))), (q9, .inl (ty 0, 300, .inl (fun _ => 0)))] from rfl) hD
  exact W.vret hx hb hr (fun t ht hW => ⟨⟨_, rfl, ⟨_, _, _, _, _, _, _, _, _, rfl⟩, by rw [ht]; exact hP, va_K.moved hW.alike hK, hD⟩, hS.F ht⟩) hS.2.2 d_K_init_77
set_option maxHeartbeats 4000000 in
set_option maxRecDepth 100000 in
/-- WillKeeperModel() -/
theorem c_M_init (l : Launch) (D : va_G) (ty : Nat → ClassId) (ad : Nat → Nat) (sz : Nat) (h : Nat) : Met l y_M_init w_M_init ({ frames := 1, cells := 10, slots := 6016, locals := 12 }) (va_Pc [.ref h] (kP D kCl (kTy ty) ([(h, .inr (3, [.int 0, .int 0, .null, .null, .null, .null, .null, .null, .null, .int 0, .null, .int 0, .int 0, .int 0, .null, .null]))]) sz)) (va_Qv (fun u : va_W => ∃ q1 q2 q3 q4 q5 q6 q7 q8 q9 q10 : Nat, u = [(h, .inr (3, [.int 0, .int 0, .ref q1, .ref q2, .ref q3, .ref q4, .ref q5, .ref q6, .ref q7, .int 0, .ref q8, .int 0, .int 0, .int 0, .ref q9, .ref q10])), (q1, .inl (ty 1, 300, .inl (fun _ => 0))), (q2, .inl (ty 0, 300, .inl (fun _ => 0))), (q3, .inl (ty 0, 300, .inl (fun _ => 0))), (q4, .inl (ty 0, 3600, .inl (fun _ => 0))), (q5, .inl (ty 0, 300, .inl (fun _ => 0))), (q6, .inl (ty 1, 300, .inl (fun _ => 0))), (q7, .inl (ty 0, 16, .inl (fun _ => 0))), (q8, .inl (ty 0, 300, .inl (fun _ => 0))), (q9, .inl (ty 1, 300, .inl (fun _ => 0))), (q10, .inl (ty 1, 300, .inl (fun _ => 0)))]) (kB D kCl (kTy ty) (va_A ([(h, .inr (3, [.int 0, .int 0, .null, .null, .null, .null, .null, .null, .null, .int 0, .null, .int 0, .int 0, .int 0, .null, .null]))]) sz)) (va_A ([(h, .inr (3, [.int 0, .int 0, .null, .null, .null, .null, .null, .null, .null, .int 0, .null, .int 0, .int 0, .int 0, .null, .null]))]) sz)) 10 6016 (va_A ([(h, .inr (3, [.int 0, .int 0, .null, .null, .null, .null, .null, .null, .null, .int 0, .null, .int 0, .int 0, .int 0, .null, .null]))]) sz) := by
  refine Met.ofW (cc := b_M_init) (maxL := 1) (ret := none) (by decide) rfl ?_
  intro p e s m args below meth cd s₁ B hml hv
  obtain ⟨rfl, hsz, hP, hK, hD0⟩ := hv
  have hx := B.exec
  have hb := B.bytes
  have hr := B.returns
  have hts := atoms_spec (ws := w_M_init) B.pre
  have hown : s.vm.findClass R_M = some m.cls := findClass_of_methodNamed B.named
  have hlocks := B.notSynchronized
  subst hsz
  have hD := hD0.self (sz := s.heap.size)
  generalize hAe : va_A ([(h, .inr (3, [.int 0, .int 0, .null, .null, .null, .null, .null, .null, .null, .int 0, .null, .int 0, .int 0, .int 0, .null, .null]))]) s.heap.size = A at hD ⊢
  have hA : ∀ q : Nat, s.heap.size ≤ q → A q := fun q h => by rw [← hAe]; exact Or.inr h
  have hS : va_S A s.heap s.heap [] := va_S.rf
  have hl := lv_entry ([.ref h]) (n := 1) (Nat.le_of_ble_eq_true rfl)
  rw [lg_entry_eq]
  generalize (lg_sl ([.ref h]) ++ List.replicate (1 - (lg_sl ([.ref h])).length) Slot.unset).toArray = ls at hl ⊢
  have hl : lv_has ls 1 [(0, .ref h)] := hl
  have hin : meth.name = "<init>" := (name_of_methodNamed B.named B.method).1
  refine lv_aload_n hx hb d_M_init_0 rfl (lv_at hl 0 rfl) ?_
  refine W.objInit hx hb hown (hts _ (kS1 _ m_M_1)) (hts _ (kS1 _ m_im_obj)) (hts _ (kS1 _ m_code_obj)) rfl (by rw [hml]; exact hl.1) rfl d_M_init_1 (Nat.le_of_ble_eq_true rfl) (Nat.le_of_ble_eq_true rfl) ?_
  refine W.eq (g2 := F0 m 4 ls []) rfl ?_
  refine lv_aload_n hx hb d_M_init_4 rfl (lv_at hl 0 rfl) ?_
  refine lv_sipush (v := 300) hx hb d_M_init_5 (by decide) ?_
  refine k_newa (atype := .boolean) (a0 := (300, .inl (fun _ => 0))) (N' := 300) hx hb (hts _ (kS1 _ m_arr_boolean)) rfl hK hP hD hS hA 1 rfl (fun _ => rfl) (by decide) (by decide) (by decide) (Nat.le_of_ble_eq_true rfl) (Nat.le_of_ble_eq_true rfl) d_M_init_8 (fun q1 H hP hD hS => ?_)
  refine va_putF (D := D) (ci := 3) (v := .ref q1) (ty := .array (.boolean)) (C := R_M) (T := F_M) (N := 16) hx hb hts (fun w h => kS1 w (i_M w h)) tt_M tt_M_ok n_M hown hK hP hD hS 0 rfl rfl 2 (by decide) (hts _ (kS1 _ m_M_7)) (fun _ h9 => h9) rfl hin rfl (by decide +kernel) rfl rfl (Nat.le_of_ble_eq_true rfl) d_M_init_10 (fun H locs hP hD hS => ?_)
  have hP := kw_P (show _ = [(h, .inr (3, [.int 0, .int 0, .ref q1, .null, .null, .null, .null, .null, .null, .int 0, .null, .int 0, .int 0, .int 0, .null, .null])), (q1, .inl (ty 1, 300, .inl (fun _ => 0)))] from rfl) hP
  have hD := kw_D (show _ = [(h, .inr (3, [.int 0, .int 0, .ref q1, .null, .null, .null, .null, .null, .null, .int 0, .null, .int 0, .int 0, .int 0, .null, .null])), (q1, .inl (ty 1, 300, .inl (fun _ => 0)))] from rfl) hD
  refine lv_aload_n hx hb d_M_init_13 rfl (lv_at hl 0 rfl) ?_
  refine lv_sipush (v := 300) hx hb d_M_init_14 (by decide) ?_
  refine k_newa (atype := .int) (a0 := (300, .inl (fun _ => 0))) (N' := 300) hx hb (hts _ (kS1 _ m_arr_int)) rfl hK hP hD hS hA 0 rfl (fun _ => rfl) (by decide) (by decide) (by decide) (Nat.le_of_ble_eq_true rfl) (Nat.le_of_ble_eq_true rfl) d_M_init_17 (fun q2 H hP hD hS => ?_)
  refine va_putF (D := D) (ci := 3) (v := .ref q2) (ty := .array (.int)) (C := R_M) (T := F_M) (N := 16) hx hb hts (fun w h => kS1 w (i_M w h)) tt_M tt_M_ok n_M hown hK hP hD hS 0 rfl rfl 3 (by decide) (hts _ (kS1 _ m_M_13)) (fun _ h9 => h9) rfl hin rfl (by decide +kernel) rfl rfl (Nat.le_of_ble_eq_true rfl) d_M_init_19 (fun H locs hP hD hS => ?_)
  have hP := kw_P (show _ = [(h, .inr (3, [.int 0, .int 0, .ref q1, .ref q2, .null, .null, .null, .null, .null, .int 0, .null, .int 0, .int 0, .int 0, .null, .null])), (q1, .inl (ty 1, 300, .inl (fun _ => 0))), (q2, .inl (ty 0, 300, .inl (fun _ => 0)))] from rfl) hP
  have hD := kw_D (show _ = [(h, .inr (3, [.int 0, .int 0, .ref q1, .ref q2, .null, .null, .null, .null, .null, .int 0, .null, .int 0, .int 0, .int 0, .null, .null])), (q1, .inl (ty 1, 300, .inl (fun _ => 0))), (q2, .inl (ty 0, 300, .inl (fun _ => 0)))] from rfl) hD
  refine lv_aload_n hx hb d_M_init_22 rfl (lv_at hl 0 rfl) ?_
  refine lv_sipush (v := 300) hx hb d_M_init_23 (by decide) ?_
  refine k_newa (atype := .int) (a0 := (300, .inl (fun _ => 0))) (N' := 300) hx hb (hts _ (kS1 _ m_arr_int)) rfl hK hP hD hS hA 0 rfl (fun _ => rfl) (by decide) (by decide) (by decide) (Nat.le_of_ble_eq_true rfl) (Nat.le_of_ble_eq_true rfl) d_M_init_26 (fun q3 H hP hD hS => ?_)
  refine va_putF (D := D) (ci := 3) (v := .ref q3) (ty := .array (.int)) (C := R_M) (T := F_M) (N := 16) hx hb hts (fun w h => kS1 w (i_M w h)) tt_M tt_M_ok n_M hown hK hP hD hS 0 rfl rfl 4 (by decide) (hts _ (kS1 _ m_M_17)) (fun _ h9 => h9) rfl hin rfl (by decide +kernel) rfl rfl (Nat.le_of_ble_eq_true rfl) d_M_init_28 (fun H locs hP hD hS => ?_)
  have hP := kw_P (show _ = [(h, .inr (3, [.int 0, .int 0, .ref q1, .ref q2, .ref q3, .null, .null, .null, .null, .int 0, .null, .int 0, .int 0, .int 0, .null, .null])), (q1, .inl (ty 1, 300, .inl (fun _ => 0))), (q2, .inl (ty 0, 300, .inl (fun _ => 0))), (q3, .inl (ty 0, 300, .inl (fun _ => 0)))] from rfl) hP
  have hD := kw_D (show _ = [(h, .inr (3, [.int 0, .int 0, .ref q1, .ref q2, .ref q3, .null, .null, .null, .null, .int 0, .null, .int 0, .int 0, .int 0, .null, .null])), (q1, .inl (ty 1, 300, .inl (fun _ => 0))), (q2, .inl (ty 0, 300, .inl (fun _ => 0))), (q3, .inl (ty 0, 300, .inl (fun _ => 0)))] from rfl) hD
  refine lv_aload_n hx hb d_M_init_31 rfl (lv_at hl 0 rfl) ?_
  refine lv_sipush (v := 3600) hx hb d_M_init_32 (by decide) ?_
  refine k_newa (atype := .int) (a0 := (3600, .inl (fun _ => 0))) (N' := 3600) hx hb (hts _ (kS1 _ m_arr_int)) rfl hK hP hD hS hA 0 rfl (fun _ => rfl) (by decide) (by decide) (by decide) (Nat.le_of_ble_eq_true rfl) (Nat.le_of_ble_eq_true rfl) d_M_init_35 (fun q4 H hP hD hS => ?_)
  refine va_putF (D := D) (ci := 3) (v := .ref q4) (ty := .array (.int)) (C := R_M) (T := F_M) (N := 16) hx hb hts (fun w h => kS1 w (i_M w h)) tt_M tt_M_ok n_M hown hK hP hD hS 0 rfl rfl 5 (by decide) (hts _ (kS1 _ m_M_20)) (fun _ h9 => h9) rfl hin rfl (by decide +kernel) rfl rfl (Nat.le_of_ble_eq_true rfl) d_M_init_37 (fun H locs hP hD hS => ?_)
  have hP := kw_P (show _ = [(h, .inr (3, [.int 0, .int 0, .ref q1, .ref q2, .ref q3, .ref q4, .null, .null, .null, .int 0, .null, .int 0, .int 0, .int 0, .null, .null])), (q1, .inl (ty 1, 300, .inl (fun _ => 0))), (q2, .inl (ty 0, 300, .inl (fun _ => 0))), (q3, .inl (ty 0, 300, .inl (fun _ => 0))), (q4, .inl (ty 0, 3600, .inl (fun _ => 0)))] from rfl) hP
  have hD := kw_D (show _ = [(h, .inr (3, [.int 0, .int 0, .ref q1, .ref q2, .ref q3, .ref q4, .null, .null, .null, .int 0, .null, .int 0, .int 0, .int 0, .null, .null])), (q1, .inl (ty 1, 300, .inl (fun _ => 0))), (q2, .inl (ty 0, 300, .inl (fun _ => 0))), (q3, .inl (ty 0, 300, .inl (fun _ => 0))), (q4, .inl (ty 0, 3600, .inl (fun _ => 0)))] from rfl) hD
  refine lv_aload_n hx hb d_M_init_40 rfl (lv_at hl 0 rfl) ?_
  refine lv_sipush (v := 300) hx hb d_M_init_41 (by decide) ?_
  refine k_newa (atype := .int) (a0 := (300, .inl (fun _ => 0))) (N' := 300) hx hb (hts _ (kS1 _ m_arr_int)) rfl hK hP hD hS hA 0 rfl (fun _ => rfl) (by decide) (by decide) (by decide) (Nat.le_of_ble_eq_true rfl) (Nat.le_of_ble_eq_true rfl) d_M_init_44 (fun q5 H hP hD hS => ?_)
  refine va_putF (D := D) (ci := 3) (v := .ref q5) (ty := .array (.int)) (C := R_M) (T := F_M) (N := 16) hx hb hts (fun w h => kS1 w (i_M w h)) tt_M tt_M_ok n_M hown hK hP hD hS 0 rfl rfl 6 (by decide) (hts _ (kS1 _ m_M_23)) (fun _ h9 => h9) rfl hin rfl (by decide +kernel) rfl rfl (Nat.le_of_ble_eq_true rfl) d_M_init_46 (fun H locs hP hD hS => ?_)
  have hP := kw_P (show _ = [(h, .inr (3, [.int 0, .int 0, .ref q1, .ref q2, .ref q3, .ref q4, .ref q5, .null, .null, .int 0, .null, .int 0, .int 0, .int 0, .null, .null])), (q1, .inl (ty 1, 300, .inl (fun _ => 0))), (q2, .inl (ty 0, 300, .inl (fun _ => 0))), (q3, .inl (ty 0, 300, .inl (fun _ => 0))), (q4, .inl (ty 0, 3600, .inl (fun _ => 0))), (q5, .inl (ty 0, 300, .inl (fun _ => 0)))] from rfl) hP
  have hD := kw_D (show _ = [(h, .inr (3, [.int 0, .int 0, .ref q1, .ref q2, .ref q3, .ref q4, .ref q5, .null, .null, .int 0, .null, .int 0, .int 0, .int 0, .null, .null])), (q1, .inl (ty 1, 300, .inl (fun _ => 0))), (q2, .inl (ty 0, 300, .inl (fun _ => 0))), (q3, .inl (ty 0, 300, .inl (fun _ => 0))), (q4, .inl (ty 0, 3600, .inl (fun _ => 0))), (q5, .inl (ty 0, 300, .inl (fun _ => 0)))] from rfl) hD
  refine lv_aload_n hx hb d_M_init_49 rfl (lv_at hl 0 rfl) ?_
  refine lv_sipush (v := 300) hx hb d_M_init_50 (by decide) ?_
  refine k_newa (atype := .boolean) (a0 := (300, .inl (fun _ => 0))) (N' := 300) hx hb (hts _ (kS1 _ m_arr_boolean)) rfl hK hP hD hS hA 1 rfl (fun _ => rfl) (by decide) (by decide) (by decide) (Nat.le_of_ble_eq_true rfl) (Nat.le_of_ble_eq_true rfl) d_M_init_53 (fun q6 H hP hD hS => ?_)
  refine va_putF (D := D) (ci := 3) (v := .ref q6) (ty := .array (.boolean)) (C := R_M) (T := F_M) (N := 16) hx hb hts (fun w h => kS1 w (i_M w h)) tt_M tt_M_ok n_M hown hK hP hD hS 0 rfl rfl 7 (by decide) (hts _ (kS1 _ m_M_26)) (fun _ h9 => h9) rfl hin rfl (by decide +kernel) rfl rfl (Nat.le_of_ble_eq_true rfl) d_M_init_55 (fun H locs hP hD hS => ?_)
  have hP := kw_P (show _ = [(h, .inr (3, [.int 0, .int 0, .ref q1, .ref q2, .ref q3, .ref q4, .ref q5, .ref q6, .null, .int 0, .null, .int 0, .int 0, .int 0, .null, .null])), (q1, .inl (ty 1, 300, .inl (fun _ => 0))), (q2, .inl (ty 0, 300, .inl (fun _ => 0))), (q3, .inl (ty 0, 300, .inl (fun _ => 0))), (q4, .inl (ty 0, 3600, .inl (fun _ => 0))), (q5, .inl (ty 0, 300, .inl (fun _ => 0))), (q6, .inl (ty 1, 300, .inl (fun _ => 0)))] from rfl) hP
  have hD := kw_D (show _ = [(h, .inr (3, [.int 0, .int 0, .ref q1, .ref q2, .ref q3, .ref q4, .ref q5, .ref q6, .null, .int 0, .null, .int 0, .int 0, .int 0, .null, .null])), (q1, .inl (ty 1, 300, .inl (fun _ => 0))), (q2, .inl (ty 0, 300, .inl (fun _ => 0))), (q3, .inl (ty 0, 300, .inl (fun _ => 0))), (q4, .inl (ty 0, 3600, .inl (fun _ => 0))), (q5, .inl (ty 0, 300, .inl (fun _ => 0))), (q6, .inl (ty 1, 300, .inl (fun _ => 0)))] from rfl) hD
  refine lv_aload_n hx hb d_M_init_58 rfl (lv_at hl 0 rfl) ?_
  refine lv_bipush (v := 16) hx hb d_M_init_59 (by decide) ?_
  refine k_newa (atype := .int) (a0 := (16, .inl (fun _ => 0))) (N' := 16) hx hb (hts _ (kS1 _ m_arr_int)) rfl hK hP hD hS hA 0 rfl (fun _ => rfl) (by decide) (by decide) (by decide) (Nat.le_of_ble_eq_true rfl) (Nat.le_of_ble_eq_true rfl) d_M_init_61 (fun q7 H hP hD hS => ?_)
  refine va_putF (D := D) (ci := 3) (v := .ref q7) (ty := .array (.int)) (C := R_M) (T := F_M) (N := 16) hx hb hts (fun w h => kS1 w (i_M w h)) tt_M tt_M_ok n_M hown hK hP hD hS 0 rfl rfl 8 (by decide) (hts _ (kS1 _ m_M_29)) (fun _ h9 => h9) rfl hin rfl (by decide +kernel) rfl rfl (Nat.le_of_ble_eq_true rfl) d_M_init_63 (fun H locs hP hD hS => ?_)
  have hP := kw_P (show _ = [(h, .inr (3, [.int 0, .int 0, .ref q1, .ref q2, .ref q3, .ref q4, .ref q5, .ref q6, .ref q7, .int 0, .null, .int 0, .int 0, .int 0, .null, .null])), (q1, .inl (ty 1, 300, .inl (fun _ => 0))), (q2, .inl (ty 0, 300, .inl (fun _ => 0))), (q3, .inl (ty 0, 300, .inl (fun _ => 0))), (q4, .inl (ty 0, 3600, .inl (fun _ => 0))), (q5, .inl (ty 0, 300, .inl (fun _ => 0))), (q6, .inl (ty 1, 300, .inl (fun _ => 0))), (q7, .inl (ty 0, 16, .inl (fun _ => 0)))] from rfl) hP
  have hD := kw_D (show _ = [(h, .inr (3, [.int 0, .int 0, .ref q1, .ref q2, .ref q3, .ref q4, .ref q5, .ref q6, .ref q7, .int 0, .null, .int 0, .int 0, .int 0, .null, .null])), (q1, .inl (ty 1, 300, .inl (fun _ => 0))), (q2, .inl (ty 0, 300, .inl (fun _ => 0))), (q3, .inl (ty 0, 300, .inl (fun _ => 0))), (q4, .inl (ty 0, 3600, .inl (fun _ => 0))), (q5, .inl (ty 0, 300, .inl (fun _ => 0))), (q6, .inl (ty 1, 300, .inl (fun _ => 0))), (q7, .inl (ty 0, 16, .inl (fun _ => 0)))] from rfl) hD
  refine lv_aload_n hx hb d_M_init_66 rfl (lv_at hl 0 rfl) ?_
  refine lv_sipush (v := 300) hx hb d_M_init_67 (by decide) ?_
  refine k_newa (atype := .int) (a0 := (300, .inl (fun _ => 0))) (N' := 300) hx hb (hts _ (kS1 _ m_arr_int)) rfl hK hP hD hS hA 0 rfl (fun _ => rfl) (by decide) (by decide) (by decide) (Nat.le_of_ble_eq_true rfl) (Nat.le_of_ble_eq_true rfl) d_M_init_70 (fun q8 H hP hD hS => ?_)
  refine va_putF (D := D) (ci := 3) (v := .ref q8) (ty := .array (.int)) (C := R_M) (T := F_M) (N := 16) hx hb hts (fun w h => kS1 w (i_M w h)) tt_M tt_M_ok n_M hown hK hP hD hS 0 rfl rfl 10 (by decide) (hts _ (kS1 _ m_M_32)) (fun _ h9 => h9) rfl hin rfl (by decide +kernel) rfl rfl (Nat.le_of_ble_eq_true rfl) d_M_init_72 (fun H locs hP hD hS => ?_)
  have hP := kw_P (show _ = [(h, .inr (3, [.int 0, .int 0, .ref q1, .ref q2, .ref q3, .ref q4, .ref q5, .ref q6, .ref q7, .int 0, .ref q8, .int 0, .int 0, .int 0, .null, .null])), (q1, .inl (ty 1, 300, .inl (fun _ => 0))), (q2, .inl (ty 0, 300, .inl (fun _ => 0))), (q3, .inl (ty 0, 300, .inl (fun _ => 0))), (q4, .inl (ty 0, 3600, .inl (fun _ => 0))), (q5, .inl (ty 0, 300, .inl (fun _ => 0))), (q6, .inl (ty 1, 300, .inl (fun _ => 0))), (q7, .inl (ty 0, 16, .inl (fun _ => 0))), (q8, .inl (ty 0, 300, .inl (fun _ => 0)))] from rfl) hP
  have hD := kw_D (show _ = [(h, .inr (3, [.int 0, .int 0, .ref q1, .ref q2, .ref q3, .ref q4, .ref q5, .ref q6, .ref q7, .int 0, .ref q8, .int 0, .int 0, .int 0, .null, .null])), (q1, .inl (ty 1, 300, .inl (fun _ => 0))), (q2, .inl (ty 0, 300, .inl (fun _ => 0))), (q3, .inl (ty 0, 300, .inl (fun _ => 0))), (q4, .inl (ty 0, 3600, .inl (fun _ => 0))), (q5, .inl (ty 0, 300, .inl (fun _ => 0))), (q6, .inl (ty 1, 300, .inl (fun _ => 0))), (q7, .inl (ty 0, 16, .inl (fun _ => 0))), (q8, .inl (ty 0, 300, .inl (fun _ => 0)))] from rfl) hD
  refine lv_aload_n hx hb d_M_init_75 rfl (lv_at hl 0 rfl) ?_
  refine lv_sipush (v := 300) hx hb d_M_init_76 (by decide) ?_
  refine k_newa (atype := .boolean) (a0 := (300, .inl (fun _ => 0))) (N' := 300) hx hb (hts _ (kS1 _ m_arr_boolean)) rfl hK hP hD hS hA 1 rfl (fun _ => rfl) (by decide) (by decide) (by decide) (Nat.le_of_ble_eq_true rfl) (Nat.le_of_ble_eq_true rfl) d_M_init_79 (fun q9 H hP hD hS => ?_)
  refine va_putF (D := D) (ci := 3) (v := .ref q9) (ty := .array (.boolean)) (C := R_M) (T := F_M) (N := 16) hx hb hts (fun w h => kS1 w (i_M w h)) tt_M tt_M_ok n_M hown hK hP hD hS 0 rfl rfl 14 (by decide) (hts _ (kS1 _ m_M_35)) (fun _ h9 => h9) rfl hin rfl (by decide +kernel) rfl rfl (Nat.le_of_ble_eq_true rfl) d_M_init_81 (fun H locs hP hD hS => ?_)
  have hP := kw_P (show _ = [(h, .inr (3, [.int 0, .int 0, .ref q1, .ref q2, .ref q3, .ref q4, .ref q5, .ref q6, .ref q7, .int 0, .ref q8, .int 0, .int 0, .int 0, .ref q9, .null])), (q1, .inl (ty 1, 300, .inl (fun _ => 0))), (q2, .inl (ty 0, 300, .inl (fun _ => 0))), (q3, .inl (ty 0, 300, .inl (fun _ => 0))), (q4, .inl (ty 0, 3600, .inl (fun _ => 0))), (q5, .inl (ty 0, 300, .inl (fun _ => 0))), (q6, .inl (ty 1, 300, .inl (fun _ => 0))), (q7, .inl (ty 0, 16, .inl (fun _ => 0))), (q8, .inl (ty 0, 300, .inl (fun _ => 0))), (q9, .inl (ty 1, 300, .inl (fun _ => 0)))] from rfl) hP
  have hD := kw_D (show _ = [(h, .inr (3, [.int 0, .int 0, .ref q1, .ref q2, .ref q3, .ref q4, .ref q5, .ref q6, .ref q7, .int 0, .ref q8, .int 0, .int 0, .int 0, .ref q9, .null])), (q1, .inl (ty 1, 300, .inl (fun _ => 0))), (q2, .inl (ty 0, 300, .inl (fun _ => 0))), (q3, .inl (ty 0, 300, .inl (fun _ => 0))), (q4, .inl (ty 0, 3600, .inl (fun _ => 0))), (q5, .inl (ty 0, 300, .inl (fun _ => 0))), (q6, .inl (ty 1, 300, .inl (fun _ => 0))), (q7, .inl (ty 0, 16, .inl (fun _ => 0))), (q8, .inl (ty 0, 300, .inl (fun _ => 0))), (q9, .inl (ty 1, 300, .inl (fun _ => 0)))] from rfl) hD
  refine lv_aload_n hx hb d_M_init_84 rfl (lv_at hl 0 rfl) ?_
  refine lv_sipush (v := 300) hx hb d_M_init_85 (by decide) ?_
  refine k_newa (atype := .boolean) (a0 := (300, .inl (fun _ => 0))) (N' := 300) hx hb (hts _ (kS1 _ m_arr_boolean)) rfl hK hP hD hS hA 1 rfl (fun _ => rfl) (by decide) (by decide) (by decide) (Nat.le_of_ble_eq_true rfl) (Nat.le_of_ble_eq_true rfl) d_M_init_88 (fun q10 H hP hD hS => ?_)
  refine va_putF (D := D) (ci := 3) (v := .ref q10) (ty := .array (.boolean)) (C := R_M) (T := F_M) (N := 16) hx hb hts (fun w h => kS1 w (i_M w h)) tt_M tt_M_ok n_M hown hK hP hD hS 0 rfl rfl 15 (by decide) (hts _ (kS1 _ m_M_38)) (fun _ h9 => h9) rfl hin rfl (by decide +kernel) rfl rfl (Nat.le_of_ble_eq_true rfl) d_M_init_90 (fun H locs hP hD hS => ?_)
  have hP := kw_P (show _ = [(h, .inr (3, [.int 0, .int 0, .ref q1, .ref q2, .ref q3, .ref q4, .ref q5, .ref q6, .ref q7, .int 0, .ref q8, .int 0, .int 0, .int 0, .ref q9, .ref q10])), (q1, .inl (ty 1, 300, .inl (fun _ => 0))), (q2, .inl (ty 0, 300, .inl (fun _ => 0))), (q3, .inl (ty 0, 300, .inl (fun _ => 0))), (q4, .inl (ty 0, 3600, .inl (fun _ => 0))), (q5, .inl (ty 0, 300, .inl (fun _ => 0))), (q6, .inl (ty 1, 300, .inl (fun _ => 0))), (q7, .inl (ty 0, 16, .inl (fun _ => 0))), (q8, .inl (ty 0, 300, .inl (fun _ => 0))), (q9, .inl (ty 1, 300, .inl (fun _ => 0))), (q10, .inl (ty 1, 300, .inl (fun _ => 0)))] from rfl) hP
  have hD := kw_D (show _ = [(h, .inr (3, [.int 0, .int 0, .ref q1, .ref q2, .ref q3, .ref q4, .ref q5, .ref q6, .ref q7, .int 0, .ref q8, .int 0, .int 0, .int 0, .ref q9, .ref q10])), (q1, .inl (ty 1, 300, .inl (fun _ => 0))), (q2, .inl (ty 0, 300, .inl (fun _ => 0))), (q3, .inl (ty 0, 300, .inl (fun _ => 0))), (q4, .inl (ty 0, 3600, .inl (fun _ => 0))), (q5, .inl (ty 0, 300, .inl (fun _ => 0))), (q6, .inl (ty 1, 300, .inl (fun _ => 0))), (q7, .inl (ty 0, 16, .inl (fun _ => 0))), (q8, .inl (ty 0, 300, .inl (fun _ => 0))), (q9, .inl (ty 1, 300, .inl (fun _ => 0))), (q10, .inl (ty 1, 300, .inl (fun _ => 0)))] from rfl) hD
  exact W.vret hx hb hr (fun t ht hW => ⟨⟨_, rfl, ⟨_, _, _, _, _, _, _, _, _, _, rfl⟩, by rw [ht]; exact hP, va_K.moved hW.alike hK, hD⟩, hS.F ht⟩) hS.2.2 d_M_init_93
