/-! Part 35: the keeper's face, where it throws. -/
theorem xd_0 : decode prog_12_method_4_code 0 = .ok (.aload_n 0, 1) := by decide +kernel
theorem xd_1 : decode prog_12_method_4_code 1 = .ok (.aload_n 1, 1) := by decide +kernel
theorem xd_2 : decode prog_12_method_4_code 2 = .ok (.invokespecial 13, 3) := by decide +kernel
theorem xd_5 : decode prog_12_method_4_code 5 = .ok (.return_, 1) := by decide +kernel
set_option maxRecDepth 100000 in
theorem o_IllegalArgumentException : ∀ w ∈ (Bundle.ownAtoms R_K 36 "java/lang/IllegalArgumentException" ["java/lang/RuntimeException", "java/lang/Exception"]).filter vx_no, w ∈ lw_tbl ∧ kAt w = true := by decide +kernel
set_option maxRecDepth 100000 in
theorem o_IllegalStateException : ∀ w ∈ (Bundle.ownAtoms R_K 51 "java/lang/IllegalStateException" ["java/lang/RuntimeException", "java/lang/Exception"]).filter vx_no, w ∈ lw_tbl ∧ kAt w = true := by decide +kernel
set_option maxRecDepth 100000 in
theorem o_NoSuchElementException : ∀ w ∈ (kx_at R_K 73 "java/util/NoSuchElementException" 13 prog_12_method_4_code "java/lang/RuntimeException" ["java/lang/Exception"]).filter vx_no, w ∈ lw_tbl ∧ kAt w = true := by decide +kernel
set_option maxHeartbeats 4000000 in
set_option maxRecDepth 100000 in
/-- thingThere(x), not there -/
theorem c_K_thingThere_x (l : Launch) (D : va_G) (ty : Nat → ClassId) (ad : Nat → Nat) (sz : Nat) (n : Nat) (f : Nat → Int32) (th : Nat → Bool) (rt qu : Nat → Int32) (b w : SR) (T : Nat → TH) (g : Nat → Int32) (a : Nat → Nat → Int32) (o : Nat → Int64) (x : Int32) (hno : ¬ tOk th x = true) (htr : l.stackTraces = false) : kM l y_K_thingThere w_K_thingThere ({ frames := 6, cells := 1, slots := 6, locals := 83 }) (va_Pc [.ref (ad 0), .int x] (fun U => kP D kCl (kTy ty) (gW n ty ad f th rt qu b w T g a o) sz U ∧ kZ (va_A (gW n ty ad f th rt qu b w T g a o) sz) U U.heap)) "java/util/NoSuchElementException" 1 6 := by
  refine kM.ofW (cc := b_K_thingThere) (maxL := 3) (ret := (some (.object "WillKeeper$Thing"))) (by decide) rfl ?_
  intro p e s m args below meth cd s₁ B hml hv
  obtain ⟨rfl, ⟨hsz, hP, hK, hD0⟩, hZ⟩ := hv
  have hx := B.exec
  have hb := B.bytes
  have hr := B.returns
  have hts := atoms_spec (ws := w_K_thingThere) B.pre
  have hown : s.vm.findClass R_K = some m.cls := findClass_of_methodNamed B.named
  have hlocks := B.notSynchronized
  subst hsz
  have hD := hD0
  have hS : va_S (va_A (gW n ty ad f th rt qu b w T g a o) s.heap.size) s.heap s.heap [] := va_S.rf
  have hl := lv_entry ([.ref (ad 0), .int x]) (n := 3) (Nat.le_of_ble_eq_true rfl)
  rw [lg_entry_eq]
  generalize (lg_sl ([.ref (ad 0), .int x]) ++ List.replicate (3 - (lg_sl ([.ref (ad 0), .int x])).length) Slot.unset).toArray = ls at hl ⊢
  have hl : lv_has ls 3 [(0, .ref (ad 0)), (1, .int x)] := hl
  have hcd := hts _ (List.mem_cons_self)
  refine lv_aload_n hx hb d_K_thingThere_0 rfl (lv_at hl 0 rfl) ?_
  refine lv_iload_n hx hb d_K_thingThere_1 rfl (lv_at hl 1 rfl) ?_
  refine kc_R (va_runV (As := [.int x]) (rest := []) ⟨hx, hb, hml, hown, hts⟩ (c_K_thingOrNull l D ty ad _ (22 + 2 * n) (gc ty ad f th rt qu b w T g a o) f (by omega) rfl th rfl x) (cwV 1 hts (kGV kS1 m_K_98 m_im_K_thingOrNull m_sel_K_thingOrNull m_ini_K m_code_K_thingOrNull) rfl rfl rfl (by decide +kernel) ⟨Nat.le_of_ble_eq_true rfl, Nat.le_of_ble_eq_true rfl⟩) ⟨kP_blind, va_recv hK hP (ci := 0) (q0 := 0) rfl gw_0, fun U hU hW => ⟨rfl, kP_at hK hP hD U hU hW⟩⟩ rfl rfl hl.1 rfl (lv_room (Nat.le_of_ble_eq_true rfl)) d_K_thingThere_2 ⟨Nat.le_of_ble_eq_true rfl, Nat.le_of_ble_eq_true rfl⟩) ?_
  rw [tOr_f hno]
  refine lv_astore_nN (lv' := [(2, .null), (0, .ref (ad 0)), (1, .int x)]) hx hb d_K_thingThere_5 rfl hl (by decide) rfl (fun ls hl => ?_)
  refine lv_aload_nN hx hb d_K_thingThere_6 rfl (lv_at hl 0 rfl) ?_
  refine lv_ifnonnullN hx hb d_K_thingThere_7 ?_
  exact kt_ownX (rx := prog_12_method_4_code) (ix := 13) xd_0 xd_1 xd_2 xd_5 (own := R_K) (E := "java/util/NoSuchElementException") (text := "no such object") (Y := "java/lang/RuntimeException") (r := ["java/lang/Exception"]) (ik := 69) (is := 136) (ic := 73) hx hb hml hown htr (by decide) (by decide) (hts _ (kS1 _ m_K_69)) (hts _ (kS1 _ m_ini_NoSuchElementException)) (hZ.2.2.use m_str_K_136) (kOX o_NoSuchElementException (fun w h => hts w (kS1 w h)) hZ) hl.1 d_K_thingThere_10 d_K_thingThere_13 d_K_thingThere_14 d_K_thingThere_16 d_K_thingThere_19 (kNoH B hcd _) (Nat.le_of_ble_eq_true rfl) (Nat.le_of_ble_eq_true rfl) (Nat.le_of_ble_eq_true rfl) (Nat.le_of_ble_eq_true rfl) hlocks
set_option maxHeartbeats 4000000 in
set_option maxRecDepth 100000 in
/-- thingWithField(x, y), x not there -/
theorem c_K_thingWithField_x (l : Launch) (D : va_G) (ty : Nat → ClassId) (ad : Nat → Nat) (sz : Nat) (n : Nat) (f : Nat → Int32) (th : Nat → Bool) (rt qu : Nat → Int32) (b w : SR) (T : Nat → TH) (g : Nat → Int32) (a : Nat → Nat → Int32) (o : Nat → Int64) (x : Int32) (hno : ¬ tOk th x = true) (y : Int32) (htr : l.stackTraces = false) : kM l y_K_thingWithField w_K_thingWithField ({ frames := 7, cells := 1, slots := 6, locals := 105 }) (va_Pc [.ref (ad 0), .int x, .int y] (fun U => kP D kCl (kTy ty) (gW n ty ad f th rt qu b w T g a o) sz U ∧ kZ (va_A (gW n ty ad f th rt qu b w T g a o) sz) U U.heap)) "java/util/NoSuchElementException" 1 6 := by
  refine kM.ofW (cc := b_K_thingWithField) (maxL := 4) (ret := (some (.object "WillKeeper$Thing"))) (by decide) rfl ?_
  intro p e s m args below meth cd s₁ B hml hv
  obtain ⟨rfl, ⟨hsz, hP, hK, hD0⟩, hZ⟩ := hv
  have hx := B.exec
  have hb := B.bytes
  have hr := B.returns
  have hts := atoms_spec (ws := w_K_thingWithField) B.pre
  have hown : s.vm.findClass R_K = some m.cls := findClass_of_methodNamed B.named
  have hlocks := B.notSynchronized
  subst hsz
  have hD := hD0
  have hS : va_S (va_A (gW n ty ad f th rt qu b w T g a o) s.heap.size) s.heap s.heap [] := va_S.rf
  have hl := lv_entry ([.ref (ad 0), .int x, .int y]) (n := 4) (Nat.le_of_ble_eq_true rfl)
  rw [lg_entry_eq]
  generalize (lg_sl ([.ref (ad 0), .int x, .int y]) ++ List.replicate (4 - (lg_sl ([.ref (ad 0), .int x, .int y])).length) Slot.unset).toArray = ls at hl ⊢
  have hl : lv_has ls 4 [(0, .ref (ad 0)), (1, .int x), (2, .int y)] := hl
  have hcd := hts _ (List.mem_cons_self)
  refine lv_aload_n hx hb d_K_thingWithField_0 rfl (lv_at hl 0 rfl) ?_
  refine lv_iload_n hx hb d_K_thingWithField_1 rfl (lv_at hl 1 rfl) ?_
  exact kt_prop (kt_callV (As := [.int x]) (rest := []) ⟨hx, hb, hml, hown, hts⟩ (c_K_thingThere_x l D ty ad _ n f th rt qu b w T g a o x hno htr) (cwV 1 hts (kGV kS1 m_K_114 m_im_K_thingThere m_sel_K_thingThere m_ini_K m_code_K_thingThere) rfl rfl rfl (by decide +kernel) ⟨Nat.le_of_ble_eq_true rfl, Nat.le_of_ble_eq_true rfl⟩) ⟨kPZ_blind, va_recv hK hP (ci := 0) (q0 := 0) rfl gw_0, fun U hU hW => ⟨rfl, kP_at hK hP hD U hU hW, hZ.at hS (fun q h => h) U hU hW⟩⟩ rfl rfl hl.1 rfl (lv_room (Nat.le_of_ble_eq_true rfl)) d_K_thingWithField_2 ⟨Nat.le_of_ble_eq_true rfl, Nat.le_of_ble_eq_true rfl⟩) (kNoH B hcd _) hlocks
set_option maxHeartbeats 4000000 in
set_option maxRecDepth 100000 in
/-- thingWithField(k, y), no such field -/
theorem c_K_thingWithField_y (l : Launch) (D : va_G) (ty : Nat → ClassId) (ad : Nat → Nat) (sz : Nat) (n : Nat) (f : Nat → Int32) (th : Nat → Bool) (rt qu : Nat → Int32) (b w : SR) (T : Nat → TH) (g : Nat → Int32) (a : Nat → Nat → Int32) (o : Nat → Int64) (hn : ∀ k, th k = true → k < n) (hn3 : n ≤ 300) (k : Nat) (y : Int32) (hk : th k = true) (hnf : tHasF (T k).2.2.2.1 y = 0) (htr : l.stackTraces = false) : kM l y_K_thingWithField w_K_thingWithField ({ frames := 6, cells := 1, slots := 6, locals := 83 }) (va_Pc [.ref (ad 0), .int (nI k), .int y] (fun U => kP D kCl (kTy ty) (gW n ty ad f th rt qu b w T g a o) sz U ∧ kZ (va_A (gW n ty ad f th rt qu b w T g a o) sz) U U.heap)) "java/util/NoSuchElementException" 1 6 := by
  refine kM.ofW (cc := b_K_thingWithField) (maxL := 4) (ret := (some (.object "WillKeeper$Thing"))) (by decide) rfl ?_
  intro p e s m args below meth cd s₁ B hml hv
  obtain ⟨rfl, ⟨hsz, hP, hK, hD0⟩, hZ⟩ := hv
  have hx := B.exec
  have hb := B.bytes
  have hr := B.returns
  have hts := atoms_spec (ws := w_K_thingWithField) B.pre
  have hown : s.vm.findClass R_K = some m.cls := findClass_of_methodNamed B.named
  have hlocks := B.notSynchronized
  subst hsz
  have hD := hD0
  have hS : va_S (va_A (gW n ty ad f th rt qu b w T g a o) s.heap.size) s.heap s.heap [] := va_S.rf
  have hl := lv_entry ([.ref (ad 0), .int (nI k), .int y]) (n := 4) (Nat.le_of_ble_eq_true rfl)
  rw [lg_entry_eq]
  generalize (lg_sl ([.ref (ad 0), .int (nI k), .int y]) ++ List.replicate (4 - (lg_sl ([.ref (ad 0), .int (nI k), .int y])).length) Slot.unset).toArray = ls at hl ⊢
  have hl : lv_has ls 4 [(0, .ref (ad 0)), (1, .int (nI k)), (2, .int y)] := hl
  have hcd := hts _ (List.mem_cons_self)
  refine lv_aload_n hx hb d_K_thingWithField_0 rfl (lv_at hl 0 rfl) ?_
  refine lv_iload_n hx hb d_K_thingWithField_1 rfl (lv_at hl 1 rfl) ?_
  refine kc_R (va_runV (As := [.int (nI k)]) (rest := []) ⟨hx, hb, hml, hown, hts⟩ (c_K_thingThere l D ty ad _ n f th rt qu b w T g a o hn hn3 k hk) (cwV 1 hts (kGV kS1 m_K_114 m_im_K_thingThere m_sel_K_thingThere m_ini_K m_code_K_thingThere) rfl rfl rfl (by decide +kernel) ⟨Nat.le_of_ble_eq_true rfl, Nat.le_of_ble_eq_true rfl⟩) ⟨kP_blind, va_recv hK hP (ci := 0) (q0 := 0) rfl gw_0, fun U hU hW => ⟨rfl, kP_at hK hP hD U hU hW⟩⟩ rfl rfl hl.1 rfl (lv_room (Nat.le_of_ble_eq_true rfl)) d_K_thingWithField_2 ⟨Nat.le_of_ble_eq_true rfl, Nat.le_of_ble_eq_true rfl⟩) ?_
  refine lv_astore_n (lv' := [(3, .ref (ad (22 + 2 * k))), (0, .ref (ad 0)), (1, .int (nI k)), (2, .int y)]) hx hb d_K_thingWithField_5 rfl hl (by decide) rfl (fun ls hl => ?_)
  refine lv_aload_n hx hb d_K_thingWithField_6 rfl (lv_at hl 0 rfl) ?_
  refine lv_iload_n hx hb d_K_thingWithField_7 rfl (lv_at hl 3 rfl) ?_
  refine kc_R (va_runV (As := [.int y]) (rest := []) ⟨hx, hb, hml, hown, hts⟩ (c_T_hasField l D ty ad _ (22 + 2 * n) (gc ty ad f th rt qu b w T g a o) (22 + 2 * k) (23 + 2 * k) ((T k).1) ((T k).2.1) ((T k).2.2.1) ((T k).2.2.2.1) ((T k).2.2.2.2) (gi_T (hn k hk)) (gi_F (hn k hk)) gc_T gc_F y) (cwV 1 hts (kGV kS1 m_K_138 m_im_T_hasField m_sel_T_hasField m_ini_T m_code_T_hasField) rfl rfl rfl (by decide +kernel) ⟨Nat.le_of_ble_eq_true rfl, Nat.le_of_ble_eq_true rfl⟩) ⟨kP_blind, va_recv hK hP (ci := 2) (q0 := (22 + 2 * k)) rfl (gw_T (k := k) (hn k hk)), fun U hU hW => ⟨rfl, kP_at hK hP hD U hU hW⟩⟩ rfl rfl hl.1 rfl (lv_room (Nat.le_of_ble_eq_true rfl)) d_K_thingWithField_8 ⟨Nat.le_of_ble_eq_true rfl, Nat.le_of_ble_eq_true rfl⟩) ?_
  refine lv_if_ne (tgt := 24) hx hb d_K_thingWithField_11 (by decide) (fun c_11 => absurd hnf c_11) (fun c_11 => ?_)
  exact kt_ownX (rx := prog_12_method_4_code) (ix := 13) xd_0 xd_1 xd_2 xd_5 (own := R_K) (E := "java/util/NoSuchElementException") (text := "no such field") (Y := "java/lang/RuntimeException") (r := ["java/lang/Exception"]) (ik := 69) (is := 141) (ic := 73) hx hb hml hown htr (by decide) (by decide) (hts _ (kS1 _ m_K_69)) (hts _ (kS1 _ m_ini_NoSuchElementException)) (hZ.2.2.use m_str_K_141) (kOX o_NoSuchElementException (fun w h => hts w (kS1 w h)) hZ) hl.1 d_K_thingWithField_14 d_K_thingWithField_17 d_K_thingWithField_18 d_K_thingWithField_20 d_K_thingWithField_23 (kNoH B hcd _) (Nat.le_of_ble_eq_true rfl) (Nat.le_of_ble_eq_true rfl) (Nat.le_of_ble_eq_true rfl) (Nat.le_of_ble_eq_true rfl) hlocks
set_option maxHeartbeats 4000000 in
set_option maxRecDepth 100000 in
/-- needThingOrNone(x), neither -/
theorem c_K_needThingOrNone_x (l : Launch) (D : va_G) (ty : Nat → ClassId) (ad : Nat → Nat) (sz : Nat) (n : Nat) (f : Nat → Int32) (th : Nat → Bool) (rt qu : Nat → Int32) (b w : SR) (T : Nat → TH) (g : Nat → Int32) (a : Nat → Nat → Int32) (o : Nat → Int64) (x : Int32) (hno : ¬ tOk th x = true) (hm : ¬ x = -1) (htr : l.stackTraces = false) : kM l y_K_needThingOrNone w_K_needThingOrNone ({ frames := 6, cells := 1, slots := 6, locals := 83 }) (va_Pc [.ref (ad 0), .int x] (fun U => kP D kCl (kTy ty) (gW n ty ad f th rt qu b w T g a o) sz U ∧ kZ (va_A (gW n ty ad f th rt qu b w T g a o) sz) U U.heap)) "java/util/NoSuchElementException" 1 6 := by
  refine kM.ofW (cc := b_K_needThingOrNone) (maxL := 2) (ret := none) (by decide) rfl ?_
  intro p e s m args below meth cd s₁ B hml hv
  obtain ⟨rfl, ⟨hsz, hP, hK, hD0⟩, hZ⟩ := hv
  have hx := B.exec
  have hb := B.bytes
  have hr := B.returns
  have hts := atoms_spec (ws := w_K_needThingOrNone) B.pre
  have hown : s.vm.findClass R_K = some m.cls := findClass_of_methodNamed B.named
  have hlocks := B.notSynchronized
  subst hsz
  have hD := hD0
  have hS : va_S (va_A (gW n ty ad f th rt qu b w T g a o) s.heap.size) s.heap s.heap [] := va_S.rf
  have hl := lv_entry ([.ref (ad 0), .int x]) (n := 2) (Nat.le_of_ble_eq_true rfl)
  rw [lg_entry_eq]
  generalize (lg_sl ([.ref (ad 0), .int x]) ++ List.replicate (2 - (lg_sl ([.ref (ad 0), .int x])).length) Slot.unset).toArray = ls at hl ⊢
  have hl : lv_has ls 2 [(0, .ref (ad 0)), (1, .int x)] := hl
  have hcd := hts _ (List.mem_cons_self)
  refine lv_iload_n hx hb d_K_needThingOrNone_0 rfl (lv_at hl 1 rfl) ?_
  refine lv_iconst (v := (-1)) hx hb d_K_needThingOrNone_1 (by decide) ?_
  refine lv_icmp_eq (tgt := 23) hx hb d_K_needThingOrNone_2 (by decide) (fun c_2 => absurd c_2 hm) (fun c_2 => ?_)
  refine lv_aload_n hx hb d_K_needThingOrNone_5 rfl (lv_at hl 0 rfl) ?_
  refine lv_iload_n hx hb d_K_needThingOrNone_6 rfl (lv_at hl 1 rfl) ?_
  refine kc_R (va_runV (As := [.int x]) (rest := []) ⟨hx, hb, hml, hown, hts⟩ (c_K_thingOrNull l D ty ad _ (22 + 2 * n) (gc ty ad f th rt qu b w T g a o) f (by omega) rfl th rfl x) (cwV 1 hts (kGV kS1 m_K_98 m_im_K_thingOrNull m_sel_K_thingOrNull m_ini_K m_code_K_thingOrNull) rfl rfl rfl (by decide +kernel) ⟨Nat.le_of_ble_eq_true rfl, Nat.le_of_ble_eq_true rfl⟩) ⟨kP_blind, va_recv hK hP (ci := 0) (q0 := 0) rfl gw_0, fun U hU hW => ⟨rfl, kP_at hK hP hD U hU hW⟩⟩ rfl rfl hl.1 rfl (lv_room (Nat.le_of_ble_eq_true rfl)) d_K_needThingOrNone_7 ⟨Nat.le_of_ble_eq_true rfl, Nat.le_of_ble_eq_true rfl⟩) ?_
  rw [tOr_f hno]
  refine lv_ifnonnullN hx hb d_K_needThingOrNone_10 ?_
  exact kt_ownX (rx := prog_12_method_4_code) (ix := 13) xd_0 xd_1 xd_2 xd_5 (own := R_K) (E := "java/util/NoSuchElementException") (text := "no such object") (Y := "java/lang/RuntimeException") (r := ["java/lang/Exception"]) (ik := 69) (is := 136) (ic := 73) hx hb hml hown htr (by decide) (by decide) (hts _ (kS1 _ m_K_69)) (hts _ (kS1 _ m_ini_NoSuchElementException)) (hZ.2.2.use m_str_K_136) (kOX o_NoSuchElementException (fun w h => hts w (kS1 w h)) hZ) hl.1 d_K_needThingOrNone_13 d_K_needThingOrNone_16 d_K_needThingOrNone_17 d_K_needThingOrNone_19 d_K_needThingOrNone_22 (kNoH B hcd _) (Nat.le_of_ble_eq_true rfl) (Nat.le_of_ble_eq_true rfl) (Nat.le_of_ble_eq_true rfl) (Nat.le_of_ble_eq_true rfl) hlocks
set_option maxHeartbeats 4000000 in
set_option maxRecDepth 100000 in
/-- get, no such thing -/
theorem c_K_get_x (l : Launch) (D : va_G) (ty : Nat → ClassId) (ad : Nat → Nat) (sz : Nat) (n : Nat) (f : Nat → Int32) (th : Nat → Bool) (rt qu : Nat → Int32) (b w : SR) (T : Nat → TH) (g : Nat → Int32) (a : Nat → Nat → Int32) (o : Nat → Int64) (x : Int32) (hno : ¬ tOk th x = true) (y : Int32) (htr : l.stackTraces = false) : kM l y_K_get w_K_get ({ frames := 8, cells := 1, slots := 6, locals := 128 }) (va_Pc [.ref (ad 0), .int x, .int y] (fun U => kP D kCl (kTy ty) (gW n ty ad f th rt qu b w T g a o) sz U ∧ kZ (va_A (gW n ty ad f th rt qu b w T g a o) sz) U U.heap)) "java/util/NoSuchElementException" 1 6 := by
  refine kM.ofW (cc := b_K_get) (maxL := 3) (ret := (some .int)) (by decide) rfl ?_
  intro p e s m args below meth cd s₁ B hml hv
  obtain ⟨rfl, ⟨hsz, hP, hK, hD0⟩, hZ⟩ := hv
  have hx := B.exec
  have hb := B.bytes
  have hr := B.returns
  have hts := atoms_spec (ws := w_K_get) B.pre
  have hown : s.vm.findClass R_K = some m.cls := findClass_of_methodNamed B.named
  have hlocks := B.notSynchronized
  subst hsz
  have hD := hD0
  have hS : va_S (va_A (gW n ty ad f th rt qu b w T g a o) s.heap.size) s.heap s.heap [] := va_S.rf
  have hl := lv_entry ([.ref (ad 0), .int x, .int y]) (n := 3) (Nat.le_of_ble_eq_true rfl)
  rw [lg_entry_eq]
  generalize (lg_sl ([.ref (ad 0), .int x, .int y]) ++ List.replicate (3 - (lg_sl ([.ref (ad 0), .int x, .int y])).length) Slot.unset).toArray = ls at hl ⊢
  have hl : lv_has ls 3 [(0, .ref (ad 0)), (1, .int x), (2, .int y)] := hl
  have hcd := hts _ (List.mem_cons_self)
  refine lv_aload_n hx hb d_K_get_0 rfl (lv_at hl 0 rfl) ?_
  refine lv_iload_n hx hb d_K_get_1 rfl (lv_at hl 1 rfl) ?_
  refine lv_iload_n hx hb d_K_get_2 rfl (lv_at hl 2 rfl) ?_
  exact kt_prop (kt_callV (As := [.int x, .int y]) (rest := []) ⟨hx, hb, hml, hown, hts⟩ (c_K_thingWithField_x l D ty ad _ n f th rt qu b w T g a o x hno y htr) (cwV 2 hts (kGV kS1 m_K_58 m_im_K_thingWithField m_sel_K_thingWithField m_ini_K m_code_K_thingWithField) rfl rfl rfl (by decide +kernel) ⟨Nat.le_of_ble_eq_true rfl, Nat.le_of_ble_eq_true rfl⟩) ⟨kPZ_blind, va_recv hK hP (ci := 0) (q0 := 0) rfl gw_0, fun U hU hW => ⟨rfl, kP_at hK hP hD U hU hW, hZ.at hS (fun q h => h) U hU hW⟩⟩ rfl rfl hl.1 rfl (lv_room (Nat.le_of_ble_eq_true rfl)) d_K_get_3 ⟨Nat.le_of_ble_eq_true rfl, Nat.le_of_ble_eq_true rfl⟩) (kNoH B hcd _) hlocks
set_option maxHeartbeats 4000000 in
set_option maxRecDepth 100000 in
/-- get, no such field -/
theorem c_K_get_y (l : Launch) (D : va_G) (ty : Nat → ClassId) (ad : Nat → Nat) (sz : Nat) (n : Nat) (f : Nat → Int32) (th : Nat → Bool) (rt qu : Nat → Int32) (b w : SR) (T : Nat → TH) (g : Nat → Int32) (a : Nat → Nat → Int32) (o : Nat → Int64) (hn : ∀ k, th k = true → k < n) (hn3 : n ≤ 300) (k : Nat) (y : Int32) (hk : th k = true) (hnf : tHasF (T k).2.2.2.1 y = 0) (htr : l.stackTraces = false) : kM l y_K_get w_K_get ({ frames := 7, cells := 1, slots := 6, locals := 106 }) (va_Pc [.ref (ad 0), .int (nI k), .int y] (fun U => kP D kCl (kTy ty) (gW n ty ad f th rt qu b w T g a o) sz U ∧ kZ (va_A (gW n ty ad f th rt qu b w T g a o) sz) U U.heap)) "java/util/NoSuchElementException" 1 6 := by
  refine kM.ofW (cc := b_K_get) (maxL := 3) (ret := (some .int)) (by decide) rfl ?_
  intro p e s m args below meth cd s₁ B hml hv
  obtain ⟨rfl, ⟨hsz, hP, hK, hD0⟩, hZ⟩ := hv
  have hx := B.exec
  have hb := B.bytes
  have hr := B.returns
  have hts := atoms_spec (ws := w_K_get) B.pre
  have hown : s.vm.findClass R_K = some m.cls := findClass_of_methodNamed B.named
  have hlocks := B.notSynchronized
  subst hsz
  have hD := hD0
  have hS : va_S (va_A (gW n ty ad f th rt qu b w T g a o) s.heap.size) s.heap s.heap [] := va_S.rf
  have hl := lv_entry ([.ref (ad 0), .int (nI k), .int y]) (n := 3) (Nat.le_of_ble_eq_true rfl)
  rw [lg_entry_eq]
  generalize (lg_sl ([.ref (ad 0), .int (nI k), .int y]) ++ List.replicate (3 - (lg_sl ([.ref (ad 0), .int (nI k), .int y])).length) Slot.unset).toArray = ls at hl ⊢
  have hl : lv_has ls 3 [(0, .ref (ad 0)), (1, .int (nI k)), (2, .int y)] := hl
  have hcd := hts _ (List.mem_cons_self)
  refine lv_aload_n hx hb d_K_get_0 rfl (lv_at hl 0 rfl) ?_
  refine lv_iload_n hx hb d_K_get_1 rfl (lv_at hl 1 rfl) ?_
  refine lv_iload_n hx hb d_K_get_2 rfl (lv_at hl 2 rfl) ?_
  exact kt_prop (kt_callV (As := [.int (nI k), .int y]) (rest := []) ⟨hx, hb, hml, hown, hts⟩ (c_K_thingWithField_y l D ty ad _ n f th rt qu b w T g a o hn hn3 k y hk hnf htr) (cwV 2 hts (kGV kS1 m_K_58 m_im_K_thingWithField m_sel_K_thingWithField m_ini_K m_code_K_thingWithField) rfl rfl rfl (by decide +kernel) ⟨Nat.le_of_ble_eq_true rfl, Nat.le_of_ble_eq_true rfl⟩) ⟨kPZ_blind, va_recv hK hP (ci := 0) (q0 := 0) rfl gw_0, fun U hU hW => ⟨rfl, kP_at hK hP hD U hU hW, hZ.at hS (fun q h => h) U hU hW⟩⟩ rfl rfl hl.1 rfl (lv_room (Nat.le_of_ble_eq_true rfl)) d_K_get_3 ⟨Nat.le_of_ble_eq_true rfl, Nat.le_of_ble_eq_true rfl⟩) (kNoH B hcd _) hlocks
set_option maxHeartbeats 4000000 in
set_option maxRecDepth 100000 in
/-- set, no such thing -/
theorem c_K_set_x (l : Launch) (D : va_G) (ty : Nat → ClassId) (ad : Nat → Nat) (sz : Nat) (n : Nat) (f : Nat → Int32) (th : Nat → Bool) (rt qu : Nat → Int32) (b w : SR) (T : Nat → TH) (g : Nat → Int32) (a : Nat → Nat → Int32) (o : Nat → Int64) (x : Int32) (hno : ¬ tOk th x = true) (y z : Int32) (htr : l.stackTraces = false) : kM l y_K_set w_K_set ({ frames := 8, cells := 1, slots := 6, locals := 128 }) (va_Pc [.ref (ad 0), .int x, .int y, .int z] (fun U => kP D kCl (kTy ty) (gW n ty ad f th rt qu b w T g a o) sz U ∧ kZ (va_A (gW n ty ad f th rt qu b w T g a o) sz) U U.heap)) "java/util/NoSuchElementException" 1 6 := by
  refine kM.ofW (cc := b_K_set) (maxL := 6) (ret := (some .int)) (by decide) rfl ?_
  intro p e s m args below meth cd s₁ B hml hv
  obtain ⟨rfl, ⟨hsz, hP, hK, hD0⟩, hZ⟩ := hv
  have hx := B.exec
  have hb := B.bytes
  have hr := B.returns
  have hts := atoms_spec (ws := w_K_set) B.pre
  have hown : s.vm.findClass R_K = some m.cls := findClass_of_methodNamed B.named
  have hlocks := B.notSynchronized
  subst hsz
  have hD := hD0
  have hS : va_S (va_A (gW n ty ad f th rt qu b w T g a o) s.heap.size) s.heap s.heap [] := va_S.rf
  have hl := lv_entry ([.ref (ad 0), .int x, .int y, .int z]) (n := 6) (Nat.le_of_ble_eq_true rfl)
  rw [lg_entry_eq]
  generalize (lg_sl ([.ref (ad 0), .int x, .int y, .int z]) ++ List.replicate (6 - (lg_sl ([.ref (ad 0), .int x, .int y, .int z])).length) Slot.unset).toArray = ls at hl ⊢
  have hl : lv_has ls 6 [(0, .ref (ad 0)), (1, .int x), (2, .int y), (3, .int z)] := hl
  have hcd := hts _ (List.mem_cons_self)
  refine lv_aload_n hx hb d_K_set_0 rfl (lv_at hl 0 rfl) ?_
  refine lv_iload_n hx hb d_K_set_1 rfl (lv_at hl 1 rfl) ?_
  refine lv_iload_n hx hb d_K_set_2 rfl (lv_at hl 2 rfl) ?_
  exact kt_prop (kt_callV (As := [.int x, .int y]) (rest := []) ⟨hx, hb, hml, hown, hts⟩ (c_K_thingWithField_x l D ty ad _ n f th rt qu b w T g a o x hno y htr) (cwV 2 hts (kGV kS1 m_K_58 m_im_K_thingWithField m_sel_K_thingWithField m_ini_K m_code_K_thingWithField) rfl rfl rfl (by decide +kernel) ⟨Nat.le_of_ble_eq_true rfl, Nat.le_of_ble_eq_true rfl⟩) ⟨kPZ_blind, va_recv hK hP (ci := 0) (q0 := 0) rfl gw_0, fun U hU hW => ⟨rfl, kP_at hK hP hD U hU hW, hZ.at hS (fun q h => h) U hU hW⟩⟩ rfl rfl hl.1 rfl (lv_room (Nat.le_of_ble_eq_true rfl)) d_K_set_3 ⟨Nat.le_of_ble_eq_true rfl, Nat.le_of_ble_eq_true rfl⟩) (kNoH B hcd _) hlocks
set_option maxHeartbeats 4000000 in
set_option maxRecDepth 100000 in
/-- set, no such field -/
theorem c_K_set_y (l : Launch) (D : va_G) (ty : Nat → ClassId) (ad : Nat → Nat) (sz : Nat) (n : Nat) (f : Nat → Int32) (th : Nat → Bool) (rt qu : Nat → Int32) (b w : SR) (T : Nat → TH) (g : Nat → Int32) (a : Nat → Nat → Int32) (o : Nat → Int64) (hn : ∀ k, th k = true → k < n) (hn3 : n ≤ 300) (k : Nat) (y : Int32) (hk : th k = true) (hnf : tHasF (T k).2.2.2.1 y = 0) (z : Int32) (htr : l.stackTraces = false) : kM l y_K_set w_K_set ({ frames := 7, cells := 1, slots := 6, locals := 106 }) (va_Pc [.ref (ad 0), .int (nI k), .int y, .int z] (fun U => kP D kCl (kTy ty) (gW n ty ad f th rt qu b w T g a o) sz U ∧ kZ (va_A (gW n ty ad f th rt qu b w T g a o) sz) U U.heap)) "java/util/NoSuchElementException" 1 6 := by
  refine kM.ofW (cc := b_K_set) (maxL := 6) (ret := (some .int)) (by decide) rfl ?_
  intro p e s m args below meth cd s₁ B hml hv
  obtain ⟨rfl, ⟨hsz, hP, hK, hD0⟩, hZ⟩ := hv
  have hx := B.exec
  have hb := B.bytes
  have hr := B.returns
  have hts := atoms_spec (ws := w_K_set) B.pre
  have hown : s.vm.findClass R_K = some m.cls := findClass_of_methodNamed B.named
  have hlocks := B.notSynchronized
  subst hsz
  have hD := hD0
  have hS : va_S (va_A (gW n ty ad f th rt qu b w T g a o) s.heap.size) s.heap s.heap [] := va_S.rf
  have hl := lv_entry ([.ref (ad 0), .int (nI k), .int y, .int z]) (n := 6) (Nat.le_of_ble_eq_true rfl)
  rw [lg_entry_eq]
  generalize (lg_sl ([.ref (ad 0), .int (nI k), .int y, .int z]) ++ List.replicate (6 - (lg_sl ([.ref (ad 0), .int (nI k), .int y, .int z])).length) Slot.unset).toArray = ls at hl ⊢
  have hl : lv_has ls 6 [(0, .ref (ad 0)), (1, .int (nI k)), (2, .int y), (3, .int z)] := hl
  have hcd := hts _ (List.mem_cons_self)
  refine lv_aload_n hx hb d_K_set_0 rfl (lv_at hl 0 rfl) ?_
  refine lv_iload_n hx hb d_K_set_1 rfl (lv_at hl 1 rfl) ?_
  refine lv_iload_n hx hb d_K_set_2 rfl (lv_at hl 2 rfl) ?_
  exact kt_prop (kt_callV (As := [.int (nI k), .int y]) (rest := []) ⟨hx, hb, hml, hown, hts⟩ (c_K_thingWithField_y l D ty ad _ n f th rt qu b w T g a o hn hn3 k y hk hnf htr) (cwV 2 hts (kGV kS1 m_K_58 m_im_K_thingWithField m_sel_K_thingWithField m_ini_K m_code_K_thingWithField) rfl rfl rfl (by decide +kernel) ⟨Nat.le_of_ble_eq_true rfl, Nat.le_of_ble_eq_true rfl⟩) ⟨kPZ_blind, va_recv hK hP (ci := 0) (q0 := 0) rfl gw_0, fun U hU hW => ⟨rfl, kP_at hK hP hD U hU hW, hZ.at hS (fun q h => h) U hU hW⟩⟩ rfl rfl hl.1 rfl (lv_room (Nat.le_of_ble_eq_true rfl)) d_K_set_3 ⟨Nat.le_of_ble_eq_true rfl, Nat.le_of_ble_eq_true rfl⟩) (kNoH B hcd _) hlocks
set_option maxHeartbeats 4000000 in
set_option maxRecDepth 100000 in
/-- set, the other is not there -/
theorem c_K_set_z (l : Launch) (D : va_G) (ty : Nat → ClassId) (ad : Nat → Nat) (sz : Nat) (n : Nat) (f : Nat → Int32) (th : Nat → Bool) (rt qu : Nat → Int32) (b w : SR) (T : Nat → TH) (g : Nat → Int32) (a : Nat → Nat → Int32) (o : Nat → Int64) (hn : ∀ k, th k = true → k < n) (hn3 : n ≤ 300) (k j : Nat) (hk : th k = true) (hj : j < (T k).2.2.2.1) (h12 : (T k).2.2.2.1 ≤ 12) (x : Int32) (hno : ¬ tOk th x = true) (hm : ¬ x = -1) (htr : l.stackTraces = false) : kM l y_K_set w_K_set ({ frames := 7, cells := 1, slots := 6, locals := 104 }) (va_Pc [.ref (ad 0), .int (nI k), .int (nI j), .int x] (fun U => kP D kCl (kTy ty) (gW n ty ad f th rt qu b w T g a o) sz U ∧ kZ (va_A (gW n ty ad f th rt qu b w T g a o) sz) U U.heap)) "java/util/NoSuchElementException" 1 6 := by
  refine kM.ofW (cc := b_K_set) (maxL := 6) (ret := (some .int)) (by decide) rfl ?_
  intro p e s m args below meth cd s₁ B hml hv
  obtain ⟨rfl, ⟨hsz, hP, hK, hD0⟩, hZ⟩ := hv
  have hx := B.exec
  have hb := B.bytes
  have hr := B.returns
  have hts := atoms_spec (ws := w_K_set) B.pre
  have hown : s.vm.findClass R_K = some m.cls := findClass_of_methodNamed B.named
  have hlocks := B.notSynchronized
  subst hsz
  have hD := hD0
  have hS : va_S (va_A (gW n ty ad f th rt qu b w T g a o) s.heap.size) s.heap s.heap [] := va_S.rf
  have hl := lv_entry ([.ref (ad 0), .int (nI k), .int (nI j), .int x]) (n := 6) (Nat.le_of_ble_eq_true rfl)
  rw [lg_entry_eq]
  generalize (lg_sl ([.ref (ad 0), .int (nI k), .int (nI j), .int x]) ++ List.replicate (6 - (lg_sl ([.ref (ad 0), .int (nI k), .int (nI j), .int x])).length) Slot.unset).toArray = ls at hl ⊢
  have hl : lv_has ls 6 [(0, .ref (ad 0)), (1, .int (nI k)), (2, .int (nI j)), (3, .int x)] := hl
  have hcd := hts _ (List.mem_cons_self)
  refine lv_aload_n hx hb d_K_set_0 rfl (lv_at hl 0 rfl) ?_
  refine lv_iload_n hx hb d_K_set_1 rfl (lv_at hl 1 rfl) ?_
  refine lv_iload_n hx hb d_K_set_2 rfl (lv_at hl 2 rfl) ?_
  refine kc_R (va_runV (As := [.int (nI k), .int (nI j)]) (rest := []) ⟨hx, hb, hml, hown, hts⟩ (c_K_thingWithField l D ty ad _ n f th rt qu b w T g a o hn hn3 k j hk hj h12) (cwV 2 hts (kGV kS1 m_K_58 m_im_K_thingWithField m_sel_K_thingWithField m_ini_K m_code_K_thingWithField) rfl rfl rfl (by decide +kernel) ⟨Nat.le_of_ble_eq_true rfl, Nat.le_of_ble_eq_true rfl⟩) ⟨kP_blind, va_recv hK hP (ci := 0) (q0 := 0) rfl gw_0, fun U hU hW => ⟨rfl, kP_at hK hP hD U hU hW⟩⟩ rfl rfl hl.1 rfl (lv_room (Nat.le_of_ble_eq_true rfl)) d_K_set_3 ⟨Nat.le_of_ble_eq_true rfl, Nat.le_of_ble_eq_true rfl⟩) ?_
  refine lv_astore (lv' := [(4, .ref (ad (22 + 2 * k))), (0, .ref (ad 0)), (1, .int (nI k)), (2, .int (nI j)), (3, .int x)]) hx hb d_K_set_6 hl (by decide) rfl (fun ls hl => ?_)
  refine lv_aload_n hx hb d_K_set_8 rfl (lv_at hl 1 rfl) ?_
  refine lv_iload_n hx hb d_K_set_9 rfl (lv_at hl 4 rfl) ?_
  exact kt_prop (kt_callV (As := [.int x]) (rest := []) ⟨hx, hb, hml, hown, hts⟩ (c_K_needThingOrNone_x l D ty ad _ n f th rt qu b w T g a o x hno hm htr) (cwV 1 hts (kGV kS1 m_K_62 m_im_K_needThingOrNone m_sel_K_needThingOrNone m_ini_K m_code_K_needThingOrNone) rfl rfl rfl (by decide +kernel) ⟨Nat.le_of_ble_eq_true rfl, Nat.le_of_ble_eq_true rfl⟩) ⟨kPZ_blind, va_recv hK hP (ci := 0) (q0 := 0) rfl gw_0, fun U hU hW => ⟨rfl, kP_at hK hP hD U hU hW, hZ.at hS (fun q h => h) U hU hW⟩⟩ rfl rfl hl.1 rfl (lv_room (Nat.le_of_ble_eq_true rfl)) d_K_set_10 ⟨Nat.le_of_ble_eq_true rfl, Nat.le_of_ble_eq_true rfl⟩) (kNoH B hcd _) hlocks
set_option maxHeartbeats 4000000 in
set_option maxRecDepth 100000 in
/-- root, no such root -/
theorem c_K_root_r (l : Launch) (D : va_G) (ty : Nat → ClassId) (ad : Nat → Nat) (sz : Nat) (n : Nat) (f : Nat → Int32) (th : Nat → Bool) (rt qu : Nat → Int32) (b w : SR) (T : Nat → TH) (g : Nat → Int32) (a : Nat → Nat → Int32) (o : Nat → Int64) (y x : Int32) (hbad : y < 0 ∨ ¬ y < 16) (htr : l.stackTraces = false) : kM l y_K_root w_K_root ({ frames := 6, cells := 1, slots := 6, locals := 83 }) (va_Pc [.ref (ad 0), .int y, .int x] (fun U => kP D kCl (kTy ty) (gW n ty ad f th rt qu b w T g a o) sz U ∧ kZ (va_A (gW n ty ad f th rt qu b w T g a o) sz) U U.heap)) "java/util/NoSuchElementException" 1 6 := by
  refine kM.ofW (cc := b_K_root) (maxL := 4) (ret := (some .int)) (by decide) rfl ?_
  intro p e s m args below meth cd s₁ B hml hv
  obtain ⟨rfl, ⟨hsz, hP, hK, hD0⟩, hZ⟩ := hv
  have hx := B.exec
  have hb := B.bytes
  have hr := B.returns
  have hts := atoms_spec (ws := w_K_root) B.pre
  have hown : s.vm.findClass R_K = some m.cls := findClass_of_methodNamed B.named
  have hlocks := B.notSynchronized
  subst hsz
  have hD := hD0
  have hS : va_S (va_A (gW n ty ad f th rt qu b w T g a o) s.heap.size) s.heap s.heap [] := va_S.rf
  have hl := lv_entry ([.ref (ad 0), .int y, .int x]) (n := 4) (Nat.le_of_ble_eq_true rfl)
  rw [lg_entry_eq]
  generalize (lg_sl ([.ref (ad 0), .int y, .int x]) ++ List.replicate (4 - (lg_sl ([.ref (ad 0), .int y, .int x])).length) Slot.unset).toArray = ls at hl ⊢
  have hl : lv_has ls 4 [(0, .ref (ad 0)), (1, .int y), (2, .int x)] := hl
  have hcd := hts _ (List.mem_cons_self)
  refine lv_iload_n hx hb d_K_root_0 rfl (lv_at hl 1 rfl) ?_
  refine lv_if_lt (tgt := 13) hx hb d_K_root_1 (by decide) (fun c_1 => ?_) (fun c_1 => ?_)
  · exact kt_ownX (rx := prog_12_method_4_code) (ix := 13) xd_0 xd_1 xd_2 xd_5 (own := R_K) (E := "java/util/NoSuchElementException") (text := "no such root") (Y := "java/lang/RuntimeException") (r := ["java/lang/Exception"]) (ik := 69) (is := 71) (ic := 73) hx hb hml hown htr (by decide) (by decide) (hts _ (kS1 _ m_K_69)) (hts _ (kS1 _ m_ini_NoSuchElementException)) (hZ.2.2.use m_str_K_71) (kOX o_NoSuchElementException (fun w h => hts w (kS1 w h)) hZ) hl.1 d_K_root_13 d_K_root_16 d_K_root_17 d_K_root_19 d_K_root_22 (kNoH B hcd _) (Nat.le_of_ble_eq_true rfl) (Nat.le_of_ble_eq_true rfl) (Nat.le_of_ble_eq_true rfl) (Nat.le_of_ble_eq_true rfl) hlocks
  · refine lv_iload_n hx hb d_K_root_4 rfl (lv_at hl 1 rfl) ?_
    refine lv_aload_n hx hb d_K_root_5 rfl (lv_at hl 0 rfl) ?_
    refine va_get (D := D) (ci := 0) (v := .ref (ad 2)) (C := R_K) (T := F_K) (N := 12) hx hb hts (fun w h => kS1 w (i_K w h)) hown hK hP 0 gw_0 rfl 1 (by decide) (hts _ (kS1 _ m_K_15)) (fun _ h9 => h9) rfl d_K_root_6 ?_
    refine va_alen (v := 16) hx hb hK hP 2 0 gw_2 rfl rfl d_K_root_9 ?_
    refine lv_icmp_lt (tgt := 23) hx hb d_K_root_10 (by decide) (fun c_10 => ?_) (fun c_10 => ?_)
    · exact absurd hbad (by simp [c_1, c_10])
    · exact kt_ownX (rx := prog_12_method_4_code) (ix := 13) xd_0 xd_1 xd_2 xd_5 (own := R_K) (E := "java/util/NoSuchElementException") (text := "no such root") (Y := "java/lang/RuntimeException") (r := ["java/lang/Exception"]) (ik := 69) (is := 71) (ic := 73) hx hb hml hown htr (by decide) (by decide) (hts _ (kS1 _ m_K_69)) (hts _ (kS1 _ m_ini_NoSuchElementException)) (hZ.2.2.use m_str_K_71) (kOX o_NoSuchElementException (fun w h => hts w (kS1 w h)) hZ) hl.1 d_K_root_13 d_K_root_16 d_K_root_17 d_K_root_19 d_K_root_22 (kNoH B hcd _) (Nat.le_of_ble_eq_true rfl) (Nat.le_of_ble_eq_true rfl) (Nat.le_of_ble_eq_true rfl) (Nat.le_of_ble_eq_true rfl) hlocks
set_option maxHeartbeats 4000000 in
set_option maxRecDepth 100000 in
/-- root, the thing is not there -/
theorem c_K_root_x (l : Launch) (D : va_G) (ty : Nat → ClassId) (ad : Nat → Nat) (sz : Nat) (n : Nat) (f : Nat → Int32) (th : Nat → Bool) (rt qu : Nat → Int32) (b w : SR) (T : Nat → TH) (g : Nat → Int32) (a : Nat → Nat → Int32) (o : Nat → Int64) (r : Nat) (hr16 : r < 16) (x : Int32) (hno : ¬ tOk th x = true) (hm : ¬ x = -1) (htr : l.stackTraces = false) : kM l y_K_root w_K_root ({ frames := 7, cells := 1, slots := 6, locals := 104 }) (va_Pc [.ref (ad 0), .int (nI r), .int x] (fun U => kP D kCl (kTy ty) (gW n ty ad f th rt qu b w T g a o) sz U ∧ kZ (va_A (gW n ty ad f th rt qu b w T g a o) sz) U U.heap)) "java/util/NoSuchElementException" 1 6 := by
  refine kM.ofW (cc := b_K_root) (maxL := 4) (ret := (some .int)) (by decide) rfl ?_
  intro p e s m args below meth cd s₁ B hml hv
  obtain ⟨rfl, ⟨hsz, hP, hK, hD0⟩, hZ⟩ := hv
  have hx := B.exec
  have hb := B.bytes
  have hr := B.returns
  have hts := atoms_spec (ws := w_K_root) B.pre
  have hown : s.vm.findClass R_K = some m.cls := findClass_of_methodNamed B.named
  have hlocks := B.notSynchronized
  subst hsz
  have hD := hD0
  have hS : va_S (va_A (gW n ty ad f th rt qu b w T g a o) s.heap.size) s.heap s.heap [] := va_S.rf
  have hl := lv_entry ([.ref (ad 0), .int (nI r), .int x]) (n := 4) (Nat.le_of_ble_eq_true rfl)
  rw [lg_entry_eq]
  generalize (lg_sl ([.ref (ad 0), .int (nI r), .int x]) ++ List.replicate (4 - (lg_sl ([.ref (ad 0), .int (nI r), .int x])).length) Slot.unset).toArray = ls at hl ⊢
  have hl : lv_has ls 4 [(0, .ref (ad 0)), (1, .int (nI r)), (2, .int x)] := hl
  have hcd := hts _ (List.mem_cons_self)
  refine lv_iload_n hx hb d_K_root_0 rfl (lv_at hl 1 rfl) ?_
  refine lv_if_lt (tgt := 13) hx hb d_K_root_1 (by decide) (fun c_1 => absurd c_1 (nI_pos (by omega))) (fun c_1 => ?_)
  refine lv_iload_n hx hb d_K_root_4 rfl (lv_at hl 1 rfl) ?_
  refine lv_aload_n hx hb d_K_root_5 rfl (lv_at hl 0 rfl) ?_
  refine va_get (D := D) (ci := 0) (v := .ref (ad 2)) (C := R_K) (T := F_K) (N := 12) hx hb hts (fun w h => kS1 w (i_K w h)) hown hK hP 0 gw_0 rfl 1 (by decide) (hts _ (kS1 _ m_K_15)) (fun _ h9 => h9) rfl d_K_root_6 ?_
  refine va_alen (v := 16) hx hb hK hP 2 0 gw_2 rfl rfl d_K_root_9 ?_
  refine lv_icmp_lt (tgt := 23) hx hb d_K_root_10 (by decide) (fun c_10 => ?_) (fun c_10 => absurd (nI_lt (b := 16) hr16 (by omega)) c_10)
  refine lv_aload_n hx hb d_K_root_23 rfl (lv_at hl 0 rfl) ?_
  refine lv_iload_n hx hb d_K_root_24 rfl (lv_at hl 2 rfl) ?_
  exact kt_prop (kt_callV (As := [.int x]) (rest := []) ⟨hx, hb, hml, hown, hts⟩ (c_K_needThingOrNone_x l D ty ad _ n f th rt qu b w T g a o x hno hm htr) (cwV 1 hts (kGV kS1 m_K_62 m_im_K_needThingOrNone m_sel_K_needThingOrNone m_ini_K m_code_K_needThingOrNone) rfl rfl rfl (by decide +kernel) ⟨Nat.le_of_ble_eq_true rfl, Nat.le_of_ble_eq_true rfl⟩) ⟨kPZ_blind, va_recv hK hP (ci := 0) (q0 := 0) rfl gw_0, fun U hU hW => ⟨rfl, kP_at hK hP hD U hU hW, hZ.at hS (fun q h => h) U hU hW⟩⟩ rfl rfl hl.1 rfl (lv_room (Nat.le_of_ble_eq_true rfl)) d_K_root_25 ⟨Nat.le_of_ble_eq_true rfl, Nat.le_of_ble_eq_true rfl⟩) (kNoH B hcd _) hlocks
set_option maxHeartbeats 4000000 in
set_option maxRecDepth 100000 in
/-- queued(x), x below 0 -/
theorem c_K_queued_x (l : Launch) (D : va_G) (ty : Nat → ClassId) (ad : Nat → Nat) (sz : Nat) (n : Nat) (f : Nat → Int32) (th : Nat → Bool) (rt qu : Nat → Int32) (b w : SR) (T : Nat → TH) (g : Nat → Int32) (a : Nat → Nat → Int32) (o : Nat → Int64) (x : Int32) (hx0 : ¬ 0 ≤ x) (htr : l.stackTraces = false) : kM l y_K_queued w_K_queued ({ frames := 6, cells := 1, slots := 6, locals := 83 }) (va_Pc [.ref (ad 0), .int x] (fun U => kP D kCl (kTy ty) (gW n ty ad f th rt qu b w T g a o) sz U ∧ kZ (va_A (gW n ty ad f th rt qu b w T g a o) sz) U U.heap)) "java/lang/IllegalArgumentException" 1 6 := by
  refine kM.ofW (cc := b_K_queued) (maxL := 2) (ret := (some .int)) (by decide) rfl ?_
  intro p e s m args below meth cd s₁ B hml hv
  obtain ⟨rfl, ⟨hsz, hP, hK, hD0⟩, hZ⟩ := hv
  have hx := B.exec
  have hb := B.bytes
  have hr := B.returns
  have hts := atoms_spec (ws := w_K_queued) B.pre
  have hown : s.vm.findClass R_K = some m.cls := findClass_of_methodNamed B.named
  have hlocks := B.notSynchronized
  subst hsz
  have hD := hD0
  have hS : va_S (va_A (gW n ty ad f th rt qu b w T g a o) s.heap.size) s.heap s.heap [] := va_S.rf
  have hl := lv_entry ([.ref (ad 0), .int x]) (n := 2) (Nat.le_of_ble_eq_true rfl)
  rw [lg_entry_eq]
  generalize (lg_sl ([.ref (ad 0), .int x]) ++ List.replicate (2 - (lg_sl ([.ref (ad 0), .int x])).length) Slot.unset).toArray = ls at hl ⊢
  have hl : lv_has ls 2 [(0, .ref (ad 0)), (1, .int x)] := hl
  have hcd := hts _ (List.mem_cons_self)
  refine lv_iload_n hx hb d_K_queued_0 rfl (lv_at hl 1 rfl) ?_
  refine lv_if_ge (tgt := 14) hx hb d_K_queued_1 (by decide) (fun c_1 => absurd c_1 hx0) (fun c_1 => ?_)
  exact kt_own (own := R_K) (E := "java/lang/IllegalArgumentException") (text := "no such place in the queue") (names := ["java/lang/RuntimeException", "java/lang/Exception"]) (ik := 32) (is := 105) (ic := 36) hx hb hml hown htr (by decide) (by decide) (hts _ (kS1 _ m_K_32)) (hts _ (kS1 _ m_ini_IllegalArgumentException)) (hZ.2.2.use m_str_K_105) (kOA o_IllegalArgumentException (fun w h => hts w (kS1 w h)) hZ) hl.1 d_K_queued_4 d_K_queued_7 d_K_queued_8 d_K_queued_10 d_K_queued_13 (kNoH B hcd _) (Nat.le_of_ble_eq_true rfl) (Nat.le_of_ble_eq_true rfl) (Nat.le_of_ble_eq_true rfl) (Nat.le_of_ble_eq_true rfl) hlocks
set_option maxHeartbeats 4000000 in
set_option maxRecDepth 100000 in
/-- identity(x), not there -/
theorem c_K_identity_x (l : Launch) (D : va_G) (ty : Nat → ClassId) (ad : Nat → Nat) (sz : Nat) (n : Nat) (f : Nat → Int32) (th : Nat → Bool) (rt qu : Nat → Int32) (b w : SR) (T : Nat → TH) (g : Nat → Int32) (a : Nat → Nat → Int32) (o : Nat → Int64) (x : Int32) (hno : ¬ tOk th x = true) (htr : l.stackTraces = false) : kM l y_K_identity w_K_identity ({ frames := 7, cells := 1, slots := 6, locals := 105 }) (va_Pc [.ref (ad 0), .int x] (fun U => kP D kCl (kTy ty) (gW n ty ad f th rt qu b w T g a o) sz U ∧ kZ (va_A (gW n ty ad f th rt qu b w T g a o) sz) U U.heap)) "java/util/NoSuchElementException" 1 6 := by
  refine kM.ofW (cc := b_K_identity) (maxL := 3) (ret := (some .int)) (by decide) rfl ?_
  intro p e s m args below meth cd s₁ B hml hv
  obtain ⟨rfl, ⟨hsz, hP, hK, hD0⟩, hZ⟩ := hv
  have hx := B.exec
  have hb := B.bytes
  have hr := B.returns
  have hts := atoms_spec (ws := w_K_identity) B.pre
  have hown : s.vm.findClass R_K = some m.cls := findClass_of_methodNamed B.named
  have hlocks := B.notSynchronized
  subst hsz
  have hD := hD0
  have hS : va_S (va_A (gW n ty ad f th rt qu b w T g a o) s.heap.size) s.heap s.heap [] := va_S.rf
  have hl := lv_entry ([.ref (ad 0), .int x]) (n := 3) (Nat.le_of_ble_eq_true rfl)
  rw [lg_entry_eq]
  generalize (lg_sl ([.ref (ad 0), .int x]) ++ List.replicate (3 - (lg_sl ([.ref (ad 0), .int x])).length) Slot.unset).toArray = ls at hl ⊢
  have hl : lv_has ls 3 [(0, .ref (ad 0)), (1, .int x)] := hl
  have hcd := hts _ (List.mem_cons_self)
  refine lv_aload_n hx hb d_K_identity_0 rfl (lv_at hl 0 rfl) ?_
  refine lv_iload_n hx hb d_K_identity_1 rfl (lv_at hl 1 rfl) ?_
  exact kt_prop (kt_callV (As := [.int x]) (rest := []) ⟨hx, hb, hml, hown, hts⟩ (c_K_thingThere_x l D ty ad _ n f th rt qu b w T g a o x hno htr) (cwV 1 hts (kGV kS1 m_K_114 m_im_K_thingThere m_sel_K_thingThere m_ini_K m_code_K_thingThere) rfl rfl rfl (by decide +kernel) ⟨Nat.le_of_ble_eq_true rfl, Nat.le_of_ble_eq_true rfl⟩) ⟨kPZ_blind, va_recv hK hP (ci := 0) (q0 := 0) rfl gw_0, fun U hU hW => ⟨rfl, kP_at hK hP hD U hU hW, hZ.at hS (fun q h => h) U hU hW⟩⟩ rfl rfl hl.1 rfl (lv_room (Nat.le_of_ble_eq_true rfl)) d_K_identity_2 ⟨Nat.le_of_ble_eq_true rfl, Nat.le_of_ble_eq_true rfl⟩) (kNoH B hcd _) hlocks
set_option maxHeartbeats 4000000 in
set_option maxRecDepth 100000 in
/-- about(x, y), x not there -/
theorem c_K_about_x (l : Launch) (D : va_G) (ty : Nat → ClassId) (ad : Nat → Nat) (sz : Nat) (n : Nat) (f : Nat → Int32) (th : Nat → Bool) (rt qu : Nat → Int32) (b w : SR) (T : Nat → TH) (g : Nat → Int32) (a : Nat → Nat → Int32) (o : Nat → Int64) (x : Int32) (hno : ¬ tOk th x = true) (y : Int32) (htr : l.stackTraces = false) : kM l y_K_about w_K_about ({ frames := 7, cells := 1, slots := 6, locals := 105 }) (va_Pc [.ref (ad 0), .int x, .int y] (fun U => kP D kCl (kTy ty) (gW n ty ad f th rt qu b w T g a o) sz U ∧ kZ (va_A (gW n ty ad f th rt qu b w T g a o) sz) U U.heap)) "java/util/NoSuchElementException" 1 6 := by
  refine kM.ofW (cc := b_K_about) (maxL := 4) (ret := (some .int)) (by decide) rfl ?_
  intro p e s m args below meth cd s₁ B hml hv
  obtain ⟨rfl, ⟨hsz, hP, hK, hD0⟩, hZ⟩ := hv
  have hx := B.exec
  have hb := B.bytes
  have hr := B.returns
  have hts := atoms_spec (ws := w_K_about) B.pre
  have hown : s.vm.findClass R_K = some m.cls := findClass_of_methodNamed B.named
  have hlocks := B.notSynchronized
  subst hsz
  have hD := hD0
  have hS : va_S (va_A (gW n ty ad f th rt qu b w T g a o) s.heap.size) s.heap s.heap [] := va_S.rf
  have hl := lv_entry ([.ref (ad 0), .int x, .int y]) (n := 4) (Nat.le_of_ble_eq_true rfl)
  rw [lg_entry_eq]
  generalize (lg_sl ([.ref (ad 0), .int x, .int y]) ++ List.replicate (4 - (lg_sl ([.ref (ad 0), .int x, .int y])).length) Slot.unset).toArray = ls at hl ⊢
  have hl : lv_has ls 4 [(0, .ref (ad 0)), (1, .int x), (2, .int y)] := hl
  have hcd := hts _ (List.mem_cons_self)
  refine lv_aload_n hx hb d_K_about_0 rfl (lv_at hl 0 rfl) ?_
  refine lv_iload_n hx hb d_K_about_1 rfl (lv_at hl 1 rfl) ?_
  exact kt_prop (kt_callV (As := [.int x]) (rest := []) ⟨hx, hb, hml, hown, hts⟩ (c_K_thingThere_x l D ty ad _ n f th rt qu b w T g a o x hno htr) (cwV 1 hts (kGV kS1 m_K_114 m_im_K_thingThere m_sel_K_thingThere m_ini_K m_code_K_thingThere) rfl rfl rfl (by decide +kernel) ⟨Nat.le_of_ble_eq_true rfl, Nat.le_of_ble_eq_true rfl⟩) ⟨kPZ_blind, va_recv hK hP (ci := 0) (q0 := 0) rfl gw_0, fun U hU hW => ⟨rfl, kP_at hK hP hD U hU hW, hZ.at hS (fun q h => h) U hU hW⟩⟩ rfl rfl hl.1 rfl (lv_room (Nat.le_of_ble_eq_true rfl)) d_K_about_2 ⟨Nat.le_of_ble_eq_true rfl, Nat.le_of_ble_eq_true rfl⟩) (kNoH B hcd _) hlocks
set_option maxHeartbeats 4000000 in
set_option maxRecDepth 100000 in
/-- about(k, y), no such number -/
theorem c_K_about_y (l : Launch) (D : va_G) (ty : Nat → ClassId) (ad : Nat → Nat) (sz : Nat) (n : Nat) (f : Nat → Int32) (th : Nat → Bool) (rt qu : Nat → Int32) (b w : SR) (T : Nat → TH) (g : Nat → Int32) (a : Nat → Nat → Int32) (o : Nat → Int64) (hn : ∀ k, th k = true → k < n) (hn3 : n ≤ 300) (k : Nat) (y : Int32) (hk : th k = true) (hbad : y.toInt < 0 ∨ 3 < y.toInt) (htr : l.stackTraces = false) : kM l y_K_about w_K_about ({ frames := 6, cells := 1, slots := 6, locals := 83 }) (va_Pc [.ref (ad 0), .int (nI k), .int y] (fun U => kP D kCl (kTy ty) (gW n ty ad f th rt qu b w T g a o) sz U ∧ kZ (va_A (gW n ty ad f th rt qu b w T g a o) sz) U U.heap)) "java/lang/IllegalArgumentException" 1 6 := by
  refine kM.ofW (cc := b_K_about) (maxL := 4) (ret := (some .int)) (by decide) rfl ?_
  intro p e s m args below meth cd s₁ B hml hv
  obtain ⟨rfl, ⟨hsz, hP, hK, hD0⟩, hZ⟩ := hv
  have hx := B.exec
  have hb := B.bytes
  have hr := B.returns
  have hts := atoms_spec (ws := w_K_about) B.pre
  have hown : s.vm.findClass R_K = some m.cls := findClass_of_methodNamed B.named
  have hlocks := B.notSynchronized
  subst hsz
  have hD := hD0
  have hS : va_S (va_A (gW n ty ad f th rt qu b w T g a o) s.heap.size) s.heap s.heap [] := va_S.rf
  have hl := lv_entry ([.ref (ad 0), .int (nI k), .int y]) (n := 4) (Nat.le_of_ble_eq_true rfl)
  rw [lg_entry_eq]
  generalize (lg_sl ([.ref (ad 0), .int (nI k), .int y]) ++ List.replicate (4 - (lg_sl ([.ref (ad 0), .int (nI k), .int y])).length) Slot.unset).toArray = ls at hl ⊢
  have hl : lv_has ls 4 [(0, .ref (ad 0)), (1, .int (nI k)), (2, .int y)] := hl
  have hcd := hts _ (List.mem_cons_self)
  refine lv_aload_n hx hb d_K_about_0 rfl (lv_at hl 0 rfl) ?_
  refine lv_iload_n hx hb d_K_about_1 rfl (lv_at hl 1 rfl) ?_
  refine kc_R (va_runV (As := [.int (nI k)]) (rest := []) ⟨hx, hb, hml, hown, hts⟩ (c_K_thingThere l D ty ad _ n f th rt qu b w T g a o hn hn3 k hk) (cwV 1 hts (kGV kS1 m_K_114 m_im_K_thingThere m_sel_K_thingThere m_ini_K m_code_K_thingThere) rfl rfl rfl (by decide +kernel) ⟨Nat.le_of_ble_eq_true rfl, Nat.le_of_ble_eq_true rfl⟩) ⟨kP_blind, va_recv hK hP (ci := 0) (q0 := 0) rfl gw_0, fun U hU hW => ⟨rfl, kP_at hK hP hD U hU hW⟩⟩ rfl rfl hl.1 rfl (lv_room (Nat.le_of_ble_eq_true rfl)) d_K_about_2 ⟨Nat.le_of_ble_eq_true rfl, Nat.le_of_ble_eq_true rfl⟩) ?_
  refine lv_astore_n (lv' := [(3, .ref (ad (22 + 2 * k))), (0, .ref (ad 0)), (1, .int (nI k)), (2, .int y)]) hx hb d_K_about_5 rfl hl (by decide) rfl (fun ls hl => ?_)
  refine lv_iload_n hx hb d_K_about_6 rfl (lv_at hl 3 rfl) ?_
  refine lv_tableOut (tgt := 97) hx hb d_K_about_7 hbad (by decide) ?_
  exact kt_own (own := R_K) (E := "java/lang/IllegalArgumentException") (text := "nothing is told under this number") (names := ["java/lang/RuntimeException", "java/lang/Exception"]) (ik := 32) (is := 123) (ic := 36) hx hb hml hown htr (by decide) (by decide) (hts _ (kS1 _ m_K_32)) (hts _ (kS1 _ m_ini_IllegalArgumentException)) (hZ.2.2.use m_str_K_123) (kOA o_IllegalArgumentException (fun w h => hts w (kS1 w h)) hZ) hl.1 d_K_about_97 d_K_about_100 d_K_about_101 d_K_about_103 d_K_about_106 (kNoH B hcd _) (Nat.le_of_ble_eq_true rfl) (Nat.le_of_ble_eq_true rfl) (Nat.le_of_ble_eq_true rfl) (Nat.le_of_ble_eq_true rfl) hlocks
set_option maxHeartbeats 4000000 in
set_option maxRecDepth 100000 in
/-- count(x), no such number -/
theorem c_K_count_x (l : Launch) (D : va_G) (ty : Nat → ClassId) (ad : Nat → Nat) (sz : Nat) (n : Nat) (f : Nat → Int32) (th : Nat → Bool) (rt qu : Nat → Int32) (b w : SR) (T : Nat → TH) (g : Nat → Int32) (a : Nat → Nat → Int32) (o : Nat → Int64) (x : Int32) (hbad : x.toInt < 0 ∨ 8 < x.toInt) (htr : l.stackTraces = false) : kM l y_K_count w_K_count ({ frames := 6, cells := 1, slots := 6, locals := 83 }) (va_Pc [.ref (ad 0), .int x] (fun U => kP D kCl (kTy ty) (gW n ty ad f th rt qu b w T g a o) sz U ∧ kZ (va_A (gW n ty ad f th rt qu b w T g a o) sz) U U.heap)) "java/lang/IllegalArgumentException" 1 6 := by
  refine kM.ofW (cc := b_K_count) (maxL := 2) (ret := (some .int)) (by decide) rfl ?_
  intro p e s m args below meth cd s₁ B hml hv
  obtain ⟨rfl, ⟨hsz, hP, hK, hD0⟩, hZ⟩ := hv
  have hx := B.exec
  have hb := B.bytes
  have hr := B.returns
  have hts := atoms_spec (ws := w_K_count) B.pre
  have hown : s.vm.findClass R_K = some m.cls := findClass_of_methodNamed B.named
  have hlocks := B.notSynchronized
  subst hsz
  have hD := hD0
  have hS : va_S (va_A (gW n ty ad f th rt qu b w T g a o) s.heap.size) s.heap s.heap [] := va_S.rf
  have hl := lv_entry ([.ref (ad 0), .int x]) (n := 2) (Nat.le_of_ble_eq_true rfl)
  rw [lg_entry_eq]
  generalize (lg_sl ([.ref (ad 0), .int x]) ++ List.replicate (2 - (lg_sl ([.ref (ad 0), .int x])).length) Slot.unset).toArray = ls at hl ⊢
  have hl : lv_has ls 2 [(0, .ref (ad 0)), (1, .int x)] := hl
  have hcd := hts _ (List.mem_cons_self)
  refine lv_iload_n hx hb d_K_count_0 rfl (lv_at hl 1 rfl) ?_
  refine lv_tableOut (tgt := 119) hx hb d_K_count_1 hbad (by decide) ?_
  exact kt_own (own := R_K) (E := "java/lang/IllegalArgumentException") (text := "nothing is counted under this number") (names := ["java/lang/RuntimeException", "java/lang/Exception"]) (ik := 32) (is := 134) (ic := 36) hx hb hml hown htr (by decide) (by decide) (hts _ (kS1 _ m_K_32)) (hts _ (kS1 _ m_ini_IllegalArgumentException)) (hZ.2.2.use m_str_K_134) (kOA o_IllegalArgumentException (fun w h => hts w (kS1 w h)) hZ) hl.1 d_K_count_119 d_K_count_122 d_K_count_123 d_K_count_125 d_K_count_128 (kNoH B hcd _) (Nat.le_of_ble_eq_true rfl) (Nat.le_of_ble_eq_true rfl) (Nat.le_of_ble_eq_true rfl) (Nat.le_of_ble_eq_true rfl) hlocks
set_option maxHeartbeats 4000000 in
set_option maxRecDepth 100000 in
/-- make, a wrong kind or number -/
theorem c_K_make_x (l : Launch) (D : va_G) (ty : Nat → ClassId) (ad : Nat → Nat) (sz : Nat) (n : Nat) (f : Nat → Int32) (th : Nat → Bool) (rt qu : Nat → Int32) (b w : SR) (T : Nat → TH) (g : Nat → Int32) (a : Nat → Nat → Int32) (o : Nat → Int64) (kd z : Int32) (hbad : kd < 0 ∨ ¬ kd ≤ 2 ∨ z < 0 ∨ ¬ z ≤ 12 ∨ (kd = 1 ∧ z = 0)) (htr : l.stackTraces = false) : kM l y_K_make w_K_make ({ frames := 6, cells := 1, slots := 6, locals := 83 }) (va_Pc [.ref (ad 0), .int kd, .int z] (fun U => kP D kCl (kTy ty) (gW n ty ad f th rt qu b w T g a o) sz U ∧ kZ (va_A (gW n ty ad f th rt qu b w T g a o) sz) U U.heap)) "java/lang/IllegalArgumentException" 1 6 := by
  refine kM.ofW (cc := b_K_make) (maxL := 4) (ret := (some .int)) (by decide) rfl ?_
  intro p e s m args below meth cd s₁ B hml hv
  obtain ⟨rfl, ⟨hsz, hP, hK, hD0⟩, hZ⟩ := hv
  have hx := B.exec
  have hb := B.bytes
  have hr := B.returns
  have hts := atoms_spec (ws := w_K_make) B.pre
  have hown : s.vm.findClass R_K = some m.cls := findClass_of_methodNamed B.named
  have hlocks := B.notSynchronized
  subst hsz
  have hD := hD0
  have hS : va_S (va_A (gW n ty ad f th rt qu b w T g a o) s.heap.size) s.heap s.heap [] := va_S.rf
  have hl := lv_entry ([.ref (ad 0), .int kd, .int z]) (n := 4) (Nat.le_of_ble_eq_true rfl)
  rw [lg_entry_eq]
  generalize (lg_sl ([.ref (ad 0), .int kd, .int z]) ++ List.replicate (4 - (lg_sl ([.ref (ad 0), .int kd, .int z])).length) Slot.unset).toArray = ls at hl ⊢
  have hl : lv_has ls 4 [(0, .ref (ad 0)), (1, .int kd), (2, .int z)] := hl
  have hcd := hts _ (List.mem_cons_self)
  refine lv_iload_n hx hb d_K_make_0 rfl (lv_at hl 1 rfl) ?_
  refine lv_if_lt (tgt := 9) hx hb d_K_make_1 (by decide) (fun c_1 => ?_) (fun c_1 => ?_)
  · exact kt_own (own := R_K) (E := "java/lang/IllegalArgumentException") (text := "no such kind") (names := ["java/lang/RuntimeException", "java/lang/Exception"]) (ik := 32) (is := 34) (ic := 36) hx hb hml hown htr (by decide) (by decide) (hts _ (kS1 _ m_K_32)) (hts _ (kS1 _ m_ini_IllegalArgumentException)) (hZ.2.2.use m_str_K_34) (kOA o_IllegalArgumentException (fun w h => hts w (kS1 w h)) hZ) hl.1 d_K_make_9 d_K_make_12 d_K_make_13 d_K_make_15 d_K_make_18 (kNoH B hcd _) (Nat.le_of_ble_eq_true rfl) (Nat.le_of_ble_eq_true rfl) (Nat.le_of_ble_eq_true rfl) (Nat.le_of_ble_eq_true rfl) hlocks
  · refine lv_iload_n hx hb d_K_make_4 rfl (lv_at hl 1 rfl) ?_
    refine lv_iconst (v := 2) hx hb d_K_make_5 (by decide) ?_
    refine lv_icmp_le (tgt := 19) hx hb d_K_make_6 (by decide) (fun c_6 => ?_) (fun c_6 => ?_)
    · refine lv_iload_n hx hb d_K_make_19 rfl (lv_at hl 2 rfl) ?_
      refine lv_if_lt (tgt := 29) hx hb d_K_make_20 (by decide) (fun c_20 => ?_) (fun c_20 => ?_)
      · exact kt_own (own := R_K) (E := "java/lang/IllegalArgumentException") (text := "no such number of fields") (names := ["java/lang/RuntimeException", "java/lang/Exception"]) (ik := 32) (is := 39) (ic := 36) hx hb hml hown htr (by decide) (by decide) (hts _ (kS1 _ m_K_32)) (hts _ (kS1 _ m_ini_IllegalArgumentException)) (hZ.2.2.use m_str_K_39) (kOA o_IllegalArgumentException (fun w h => hts w (kS1 w h)) hZ) hl.1 d_K_make_29 d_K_make_32 d_K_make_33 d_K_make_35 d_K_make_38 (kNoH B hcd _) (Nat.le_of_ble_eq_true rfl) (Nat.le_of_ble_eq_true rfl) (Nat.le_of_ble_eq_true rfl) (Nat.le_of_ble_eq_true rfl) hlocks
      · refine lv_iload_n hx hb d_K_make_23 rfl (lv_at hl 2 rfl) ?_
        refine lv_bipush (v := 12) hx hb d_K_make_24 (by decide) ?_
        refine lv_icmp_le (tgt := 39) hx hb d_K_make_26 (by decide) (fun c_26 => ?_) (fun c_26 => ?_)
        · refine lv_iload_n hx hb d_K_make_39 rfl (lv_at hl 1 rfl) ?_
          refine lv_iconst (v := 1) hx hb d_K_make_40 (by decide) ?_
          refine lv_icmp_ne (tgt := 58) hx hb d_K_make_41 (by decide) (fun c_41 => ?_) (fun c_41 => ?_)
          · exact absurd hbad (by simp [c_1, c_6, c_20, c_26, c_41])
          · refine lv_iload_n hx hb d_K_make_44 rfl (lv_at hl 2 rfl) ?_
            refine lv_if_ne (tgt := 58) hx hb d_K_make_45 (by decide) (fun c_45 => ?_) (fun c_45 => ?_)
            · exact absurd hbad (by simp [c_1, c_6, c_20, c_26, c_41, c_45])
            · exact kt_own (own := R_K) (E := "java/lang/IllegalArgumentException") (text := "a weak object needs a field") (names := ["java/lang/RuntimeException", "java/lang/Exception"]) (ik := 32) (is := 41) (ic := 36) hx hb hml hown htr (by decide) (by decide) (hts _ (kS1 _ m_K_32)) (hts _ (kS1 _ m_ini_IllegalArgumentException)) (hZ.2.2.use m_str_K_41) (kOA o_IllegalArgumentException (fun w h => hts w (kS1 w h)) hZ) hl.1 d_K_make_48 d_K_make_51 d_K_make_52 d_K_make_54 d_K_make_57 (kNoH B hcd _) (Nat.le_of_ble_eq_true rfl) (Nat.le_of_ble_eq_true rfl) (Nat.le_of_ble_eq_true rfl) (Nat.le_of_ble_eq_true rfl) hlocks
        · exact kt_own (own := R_K) (E := "java/lang/IllegalArgumentException") (text := "no such number of fields") (names := ["java/lang/RuntimeException", "java/lang/Exception"]) (ik := 32) (is := 39) (ic := 36) hx hb hml hown htr (by decide) (by decide) (hts _ (kS1 _ m_K_32)) (hts _ (kS1 _ m_ini_IllegalArgumentException)) (hZ.2.2.use m_str_K_39) (kOA o_IllegalArgumentException (fun w h => hts w (kS1 w h)) hZ) hl.1 d_K_make_29 d_K_make_32 d_K_make_33 d_K_make_35 d_K_make_38 (kNoH B hcd _) (Nat.le_of_ble_eq_true rfl) (Nat.le_of_ble_eq_true rfl) (Nat.le_of_ble_eq_true rfl) (Nat.le_of_ble_eq_true rfl) hlocks
    · exact kt_own (own := R_K) (E := "java/lang/IllegalArgumentException") (text := "no such kind") (names := ["java/lang/RuntimeException", "java/lang/Exception"]) (ik := 32) (is := 34) (ic := 36) hx hb hml hown htr (by decide) (by decide) (hts _ (kS1 _ m_K_32)) (hts _ (kS1 _ m_ini_IllegalArgumentException)) (hZ.2.2.use m_str_K_34) (kOA o_IllegalArgumentException (fun w h => hts w (kS1 w h)) hZ) hl.1 d_K_make_9 d_K_make_12 d_K_make_13 d_K_make_15 d_K_make_18 (kNoH B hcd _) (Nat.le_of_ble_eq_true rfl) (Nat.le_of_ble_eq_true rfl) (Nat.le_of_ble_eq_true rfl) (Nat.le_of_ble_eq_true rfl) hlocks
set_option maxHeartbeats 4000000 in
set_option maxRecDepth 100000 in
/-- make, no more room -/
theorem c_K_make_y (l : Launch) (D : va_G) (ty : Nat → ClassId) (ad : Nat → Nat) (sz : Nat) (n : Nat) (f : Nat → Int32) (th : Nat → Bool) (rt qu : Nat → Int32) (b w : SR) (T : Nat → TH) (g : Nat → Int32) (a : Nat → Nat → Int32) (o : Nat → Int64) (kd z : Int32) (h1 : ¬ kd < 0) (h2 : kd ≤ 2) (h3 : ¬ z < 0) (h4 : z ≤ 12) (h5 : ¬ (kd = 1 ∧ z = 0)) (hful : ¬ f 7 < 300) (htr : l.stackTraces = false) : kM l y_K_make w_K_make ({ frames := 6, cells := 1, slots := 6, locals := 83 }) (va_Pc [.ref (ad 0), .int kd, .int z] (fun U => kP D kCl (kTy ty) (gW n ty ad f th rt qu b w T g a o) sz U ∧ kZ (va_A (gW n ty ad f th rt qu b w T g a o) sz) U U.heap)) "java/lang/IllegalStateException" 1 6 := by
  refine kM.ofW (cc := b_K_make) (maxL := 4) (ret := (some .int)) (by decide) rfl ?_
  intro p e s m args below meth cd s₁ B hml hv
  obtain ⟨rfl, ⟨hsz, hP, hK, hD0⟩, hZ⟩ := hv
  have hx := B.exec
  have hb := B.bytes
  have hr := B.returns
  have hts := atoms_spec (ws := w_K_make) B.pre
  have hown : s.vm.findClass R_K = some m.cls := findClass_of_methodNamed B.named
  have hlocks := B.notSynchronized
  subst hsz
  have hD := hD0
  have hS : va_S (va_A (gW n ty ad f th rt qu b w T g a o) s.heap.size) s.heap s.heap [] := va_S.rf
  have hl := lv_entry ([.ref (ad 0), .int kd, .int z]) (n := 4) (Nat.le_of_ble_eq_true rfl)
  rw [lg_entry_eq]
  generalize (lg_sl ([.ref (ad 0), .int kd, .int z]) ++ List.replicate (4 - (lg_sl ([.ref (ad 0), .int kd, .int z])).length) Slot.unset).toArray = ls at hl ⊢
  have hl : lv_has ls 4 [(0, .ref (ad 0)), (1, .int kd), (2, .int z)] := hl
  have hcd := hts _ (List.mem_cons_self)
  refine lv_iload_n hx hb d_K_make_0 rfl (lv_at hl 1 rfl) ?_
  refine lv_if_lt (tgt := 9) hx hb d_K_make_1 (by decide) (fun c_1 => absurd c_1 h1) (fun c_1 => ?_)
  refine lv_iload_n hx hb d_K_make_4 rfl (lv_at hl 1 rfl) ?_
  refine lv_iconst (v := 2) hx hb d_K_make_5 (by decide) ?_
  refine lv_icmp_le (tgt := 19) hx hb d_K_make_6 (by decide) (fun c_6 => ?_) (fun c_6 => absurd h2 c_6)
  refine lv_iload_n hx hb d_K_make_19 rfl (lv_at hl 2 rfl) ?_
  refine lv_if_lt (tgt := 29) hx hb d_K_make_20 (by decide) (fun c_20 => absurd c_20 h3) (fun c_20 => ?_)
  refine lv_iload_n hx hb d_K_make_23 rfl (lv_at hl 2 rfl) ?_
  refine lv_bipush (v := 12) hx hb d_K_make_24 (by decide) ?_
  refine lv_icmp_le (tgt := 39) hx hb d_K_make_26 (by decide) (fun c_26 => ?_) (fun c_26 => absurd h4 c_26)
  refine lv_iload_n hx hb d_K_make_39 rfl (lv_at hl 1 rfl) ?_
  refine lv_iconst (v := 1) hx hb d_K_make_40 (by decide) ?_
  refine lv_icmp_ne (tgt := 58) hx hb d_K_make_41 (by decide) (fun c_41 => ?_) (fun c_41 => ?_)
  · refine lv_aload_n hx hb d_K_make_58 rfl (lv_at hl 0 rfl) ?_
    refine va_get (D := D) (ci := 0) (v := .int (f 7)) (C := R_K) (T := F_K) (N := 12) hx hb hts (fun w h => kS1 w (i_K w h)) hown hK hP 0 gw_0 rfl 7 (by decide) (hts _ (kS1 _ m_K_43)) (fun _ h9 => h9) rfl d_K_make_59 ?_
    refine lv_if_lt (tgt := 77) hx hb d_K_make_62 (by decide) (fun c_62 => ?_) (fun c_62 => ?_)
    · exact kt_own (own := R_K) (E := "java/lang/IllegalStateException") (text := "no more objects can be made") (names := ["java/lang/RuntimeException", "java/lang/Exception"]) (ik := 47) (is := 49) (ic := 51) hx hb hml hown htr (by decide) (by decide) (hts _ (kS1 _ m_K_47)) (hts _ (kS1 _ m_ini_IllegalStateException)) (hZ.2.2.use m_str_K_49) (kOA o_IllegalStateException (fun w h => hts w (kS1 w h)) hZ) hl.1 d_K_make_77 d_K_make_80 d_K_make_81 d_K_make_83 d_K_make_86 (kNoH B hcd _) (Nat.le_of_ble_eq_true rfl) (Nat.le_of_ble_eq_true rfl) (Nat.le_of_ble_eq_true rfl) (Nat.le_of_ble_eq_true rfl) hlocks
    · refine lv_aload_n hx hb d_K_make_65 rfl (lv_at hl 0 rfl) ?_
      refine va_get (D := D) (ci := 0) (v := .int (f 7)) (C := R_K) (T := F_K) (N := 12) hx hb hts (fun w h => kS1 w (i_K w h)) hown hK hP 0 gw_0 rfl 7 (by decide) (hts _ (kS1 _ m_K_43)) (fun _ h9 => h9) rfl d_K_make_66 ?_
      refine lv_aload_n hx hb d_K_make_69 rfl (lv_at hl 0 rfl) ?_
      refine va_get (D := D) (ci := 0) (v := .ref (ad 1)) (C := R_K) (T := F_K) (N := 12) hx hb hts (fun w h => kS1 w (i_K w h)) hown hK hP 0 gw_0 rfl 0 (by decide) (hts _ (kS1 _ m_K_11)) (fun _ h9 => h9) rfl d_K_make_70 ?_
      refine va_alen (v := 300) hx hb hK hP 1 2 gw_1 rfl rfl d_K_make_73 ?_
      refine lv_icmp_lt (tgt := 87) hx hb d_K_make_74 (by decide) (fun c_74 => absurd c_74 hful) (fun c_74 => ?_)
      exact kt_own (own := R_K) (E := "java/lang/IllegalStateException") (text := "no more objects can be made") (names := ["java/lang/RuntimeException", "java/lang/Exception"]) (ik := 47) (is := 49) (ic := 51) hx hb hml hown htr (by decide) (by decide) (hts _ (kS1 _ m_K_47)) (hts _ (kS1 _ m_ini_IllegalStateException)) (hZ.2.2.use m_str_K_49) (kOA o_IllegalStateException (fun w h => hts w (kS1 w h)) hZ) hl.1 d_K_make_77 d_K_make_80 d_K_make_81 d_K_make_83 d_K_make_86 (kNoH B hcd _) (Nat.le_of_ble_eq_true rfl) (Nat.le_of_ble_eq_true rfl) (Nat.le_of_ble_eq_true rfl) (Nat.le_of_ble_eq_true rfl) hlocks
  · refine lv_iload_n hx hb d_K_make_44 rfl (lv_at hl 2 rfl) ?_
    refine lv_if_ne (tgt := 58) hx hb d_K_make_45 (by decide) (fun c_45 => ?_) (fun c_45 => absurd c_45 (fun h9 => h5 ⟨c_41, h9⟩))
    refine lv_aload_n hx hb d_K_make_58 rfl (lv_at hl 0 rfl) ?_
    refine va_get (D := D) (ci := 0) (v := .int (f 7)) (C := R_K) (T := F_K) (N := 12) hx hb hts (fun w h => kS1 w (i_K w h)) hown hK hP 0 gw_0 rfl 7 (by decide) (hts _ (kS1 _ m_K_43)) (fun _ h9 => h9) rfl d_K_make_59 ?_
    refine lv_if_lt (tgt := 77) hx hb d_K_make_62 (by decide) (fun c_62 => ?_) (fun c_62 => ?_)
    · exact kt_own (own := R_K) (E := "java/lang/IllegalStateException") (text := "no more objects can be made") (names := ["java/lang/RuntimeException", "java/lang/Exception"]) (ik := 47) (is := 49) (ic := 51) hx hb hml hown htr (by decide) (by decide) (hts _ (kS1 _ m_K_47)) (hts _ (kS1 _ m_ini_IllegalStateException)) (hZ.2.2.use m_str_K_49) (kOA o_IllegalStateException (fun w h => hts w (kS1 w h)) hZ) hl.1 d_K_make_77 d_K_make_80 d_K_make_81 d_K_make_83 d_K_make_86 (kNoH B hcd _) (Nat.le_of_ble_eq_true rfl) (Nat.le_of_ble_eq_true rfl) (Nat.le_of_ble_eq_true rfl) (Nat.le_of_ble_eq_true rfl) hlocks
    · refine lv_aload_n hx hb d_K_make_65 rfl (lv_at hl 0 rfl) ?_
      refine va_get (D := D) (ci := 0) (v := .int (f 7)) (C := R_K) (T := F_K) (N := 12) hx hb hts (fun w h => kS1 w (i_K w h)) hown hK hP 0 gw_0 rfl 7 (by decide) (hts _ (kS1 _ m_K_43)) (fun _ h9 => h9) rfl d_K_make_66 ?_
      refine lv_aload_n hx hb d_K_make_69 rfl (lv_at hl 0 rfl) ?_
      refine va_get (D := D) (ci := 0) (v := .ref (ad 1)) (C := R_K) (T := F_K) (N := 12) hx hb hts (fun w h => kS1 w (i_K w h)) hown hK hP 0 gw_0 rfl 0 (by decide) (hts _ (kS1 _ m_K_11)) (fun _ h9 => h9) rfl d_K_make_70 ?_
      refine va_alen (v := 300) hx hb hK hP 1 2 gw_1 rfl rfl d_K_make_73 ?_
      refine lv_icmp_lt (tgt := 87) hx hb d_K_make_74 (by decide) (fun c_74 => absurd c_74 hful) (fun c_74 => ?_)
      exact kt_own (own := R_K) (E := "java/lang/IllegalStateException") (text := "no more objects can be made") (names := ["java/lang/RuntimeException", "java/lang/Exception"]) (ik := 47) (is := 49) (ic := 51) hx hb hml hown htr (by decide) (by decide) (hts _ (kS1 _ m_K_47)) (hts _ (kS1 _ m_ini_IllegalStateException)) (hZ.2.2.use m_str_K_49) (kOA o_IllegalStateException (fun w h => hts w (kS1 w h)) hZ) hl.1 d_K_make_77 d_K_make_80 d_K_make_81 d_K_make_83 d_K_make_86 (kNoH B hcd _) (Nat.le_of_ble_eq_true rfl) (Nat.le_of_ble_eq_true rfl) (Nat.le_of_ble_eq_true rfl) (Nat.le_of_ble_eq_true rfl) hlocks
