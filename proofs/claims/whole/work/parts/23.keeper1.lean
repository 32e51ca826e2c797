/-! Part 08: the keeper's further reads. -/
set_option maxHeartbeats 4000000 in
set_option maxRecDepth 100000 in
/-- thingThere(k), k there -/
theorem c_K_thingThere (l : Launch) (D : va_G) (ty : Nat → ClassId) (ad : Nat → Nat) (sz : Nat) (n : Nat) (f : Nat → Int32) (th : Nat → Bool) (rt qu : Nat → Int32) (b w : SR) (T : Nat → TH) (g : Nat → Int32) (a : Nat → Nat → Int32) (o : Nat → Int64) (hn : ∀ k, th k = true → k < n) (hn3 : n ≤ 300) (k : Nat) (hk : th k = true) : Met l y_K_thingThere w_K_thingThere ({ frames := 1, cells := 0, slots := 0, locals := 21 }) (va_Pc [.ref (ad 0), .int (nI k)] (kP D kCl (kTy ty) (gW n ty ad f th rt qu b w T g a o) sz)) (kQr (some (.ref (ad (22 + 2 * k))))) 0 0 (fun _ => False) := by
  refine Met.ofW (cc := b_K_thingThere) (maxL := 3) (ret := (some (.object "WillKeeper$Thing"))) (by decide) rfl ?_
  intro p e s m args below meth cd s₁ B hml hv
  obtain ⟨rfl, hsz, hP, hK, hD0⟩ := hv
  have hx := B.exec
  have hb := B.bytes
  have hr := B.returns
  have hts := atoms_spec (ws := w_K_thingThere) B.pre
  have hown : s.vm.findClass R_K = some m.cls := findClass_of_methodNamed B.named
  have hlocks := B.notSynchronized
  subst hsz
  have hD := hD0
  have hl := lv_entry ([.ref (ad 0), .int (nI k)]) (n := 3) (Nat.le_of_ble_eq_true rfl)
  rw [lg_entry_eq]
  generalize (lg_sl ([.ref (ad 0), .int (nI k)]) ++ List.replicate (3 - (lg_sl ([.ref (ad 0), .int (nI k)])).length) Slot.unset).toArray = ls at hl ⊢
  have hl : lv_has ls 3 [(0, .ref (ad 0)), (1, .int (nI k))] := hl
  refine lv_aload_n hx hb d_K_thingThere_0 rfl (lv_at hl 0 rfl) ?_
  refine lv_iload_n hx hb d_K_thingThere_1 rfl (lv_at hl 1 rfl) ?_
  refine kc_R (va_runV (As := [.int (nI k)]) (rest := []) ⟨hx, hb, hml, hown, hts⟩ (c_K_thingOrNull l D ty ad _ (22 + 2 * n) (gc ty ad f th rt qu b w T g a o) f (by omega) rfl th rfl (nI k)) (cwV 1 hts (kGV kS1 m_K_98 m_im_K_thingOrNull m_sel_K_thingOrNull m_ini_K m_code_K_thingOrNull) rfl rfl rfl (by decide +kernel) ⟨Nat.le_of_ble_eq_true rfl, Nat.le_of_ble_eq_true rfl⟩) ⟨kP_blind, va_recv hK hP (ci := 0) (q0 := 0) rfl gw_0, fun U hU hW => ⟨rfl, kP_at hK hP hD U hU hW⟩⟩ rfl rfl hl.1 rfl (lv_room (Nat.le_of_ble_eq_true rfl)) d_K_thingThere_2 ⟨Nat.le_of_ble_eq_true rfl, Nat.le_of_ble_eq_true rfl⟩) ?_
  rw [tOr_t (by have := hn k hk; omega) hk]
  refine lv_astore_n (lv' := [(2, .ref (ad (22 + 2 * k))), (0, .ref (ad 0)), (1, .int (nI k))]) hx hb d_K_thingThere_5 rfl hl (by decide) rfl (fun ls hl => ?_)
  refine lv_aload_n hx hb d_K_thingThere_6 rfl (lv_at hl 0 rfl) ?_
  refine lv_ifnonnull (tgt := 20) hx hb d_K_thingThere_7 (by decide) ?_
  refine lv_aload_n hx hb d_K_thingThere_20 rfl (lv_at hl 0 rfl) ?_
  have hv : (.ref (ad (22 + 2 * k)) : Value) = .ref (ad (22 + 2 * k)) := by simp []
  exact W.aret (v := .ref (ad (22 + 2 * k))) hx hb hr (Or.inl ⟨_, rfl⟩) (Or.inr ⟨_, rfl⟩) (fun t ht hW => ⟨by rw [hv], ht⟩) (fun q hq => by cases hq) d_K_thingThere_21
set_option maxHeartbeats 4000000 in
set_option maxRecDepth 100000 in
/-- thingWithField(k, j), both there -/
theorem c_K_thingWithField (l : Launch) (D : va_G) (ty : Nat → ClassId) (ad : Nat → Nat) (sz : Nat) (n : Nat) (f : Nat → Int32) (th : Nat → Bool) (rt qu : Nat → Int32) (b w : SR) (T : Nat → TH) (g : Nat → Int32) (a : Nat → Nat → Int32) (o : Nat → Int64) (hn : ∀ k, th k = true → k < n) (hn3 : n ≤ 300) (k j : Nat) (hk : th k = true) (hj : j < (T k).2.2.2.1) (h12 : (T k).2.2.2.1 ≤ 12) : Met l y_K_thingWithField w_K_thingWithField ({ frames := 2, cells := 0, slots := 0, locals := 43 }) (va_Pc [.ref (ad 0), .int (nI k), .int (nI j)] (kP D kCl (kTy ty) (gW n ty ad f th rt qu b w T g a o) sz)) (kQr (some (.ref (ad (22 + 2 * k))))) 0 0 (fun _ => False) := by
  refine Met.ofW (cc := b_K_thingWithField) (maxL := 4) (ret := (some (.object "WillKeeper$Thing"))) (by decide) rfl ?_
  intro p e s m args below meth cd s₁ B hml hv
  obtain ⟨rfl, hsz, hP, hK, hD0⟩ := hv
  have hx := B.exec
  have hb := B.bytes
  have hr := B.returns
  have hts := atoms_spec (ws := w_K_thingWithField) B.pre
  have hown : s.vm.findClass R_K = some m.cls := findClass_of_methodNamed B.named
  have hlocks := B.notSynchronized
  subst hsz
  have hD := hD0
  have hl := lv_entry ([.ref (ad 0), .int (nI k), .int (nI j)]) (n := 4) (Nat.le_of_ble_eq_true rfl)
  rw [lg_entry_eq]
  generalize (lg_sl ([.ref (ad 0), .int (nI k), .int (nI j)]) ++ List.replicate (4 - (lg_sl ([.ref (ad 0), .int (nI k), .int (nI j)])).length) Slot.unset).toArray = ls at hl ⊢
  have hl : lv_has ls 4 [(0, .ref (ad 0)), (1, .int (nI k)), (2, .int (nI j))] := hl
  refine lv_aload_n hx hb d_K_thingWithField_0 rfl (lv_at hl 0 rfl) ?_
  refine lv_iload_n hx hb d_K_thingWithField_1 rfl (lv_at hl 1 rfl) ?_
  refine kc_R (va_runV (As := [.int (nI k)]) (rest := []) ⟨hx, hb, hml, hown, hts⟩ (c_K_thingThere l D ty ad _ n f th rt qu b w T g a o hn hn3 k hk) (cwV 1 hts (kGV kS1 m_K_114 m_im_K_thingThere m_sel_K_thingThere m_ini_K m_code_K_thingThere) rfl rfl rfl (by decide +kernel) ⟨Nat.le_of_ble_eq_true rfl, Nat.le_of_ble_eq_true rfl⟩) ⟨kP_blind, va_recv hK hP (ci := 0) (q0 := 0) rfl gw_0, fun U hU hW => ⟨rfl, kP_at hK hP hD U hU hW⟩⟩ rfl rfl hl.1 rfl (lv_room (Nat.le_of_ble_eq_true rfl)) d_K_thingWithField_2 ⟨Nat.le_of_ble_eq_true rfl, Nat.le_of_ble_eq_true rfl⟩) ?_
  refine lv_astore_n (lv' := [(3, .ref (ad (22 + 2 * k))), (0, .ref (ad 0)), (1, .int (nI k)), (2, .int (nI j))]) hx hb d_K_thingWithField_5 rfl hl (by decide) rfl (fun ls hl => ?_)
  refine lv_aload_n hx hb d_K_thingWithField_6 rfl (lv_at hl 0 rfl) ?_
  refine lv_iload_n hx hb d_K_thingWithField_7 rfl (lv_at hl 3 rfl) ?_
  refine kc_R (va_runV (As := [.int (nI j)]) (rest := []) ⟨hx, hb, hml, hown, hts⟩ (c_T_hasField l D ty ad _ (22 + 2 * n) (gc ty ad f th rt qu b w T g a o) (22 + 2 * k) (23 + 2 * k) ((T k).1) ((T k).2.1) ((T k).2.2.1) ((T k).2.2.2.1) ((T k).2.2.2.2) (gi_T (hn k hk)) (gi_F (hn k hk)) gc_T gc_F (nI j)) (cwV 1 hts (kGV kS1 m_K_138 m_im_T_hasField m_sel_T_hasField m_ini_T m_code_T_hasField) rfl rfl rfl (by decide +kernel) ⟨Nat.le_of_ble_eq_true rfl, Nat.le_of_ble_eq_true rfl⟩) ⟨kP_blind, va_recv hK hP (ci := 2) (q0 := (22 + 2 * k)) rfl (gw_T (k := k) (hn k hk)), fun U hU hW => ⟨rfl, kP_at hK hP hD U hU hW⟩⟩ rfl rfl hl.1 rfl (lv_room (Nat.le_of_ble_eq_true rfl)) d_K_thingWithField_8 ⟨Nat.le_of_ble_eq_true rfl, Nat.le_of_ble_eq_true rfl⟩) ?_
  refine lv_if_ne (tgt := 24) hx hb d_K_thingWithField_11 (by decide) (fun c_11 => ?_) (fun c_11 => absurd c_11 (by rw [tHasF_t hj (by omega)]; decide))
  refine lv_aload_n hx hb d_K_thingWithField_24 rfl (lv_at hl 0 rfl) ?_
  have hv : (.ref (ad (22 + 2 * k)) : Value) = .ref (ad (22 + 2 * k)) := by simp [c_11]
  exact W.aret (v := .ref (ad (22 + 2 * k))) hx hb hr (Or.inl ⟨_, rfl⟩) (Or.inr ⟨_, rfl⟩) (fun t ht hW => ⟨by rw [hv], ht⟩) (fun q hq => by cases hq) d_K_thingWithField_25
set_option maxHeartbeats 4000000 in
set_option maxRecDepth 100000 in
/-- needThingOrNone(x), nothing or there -/
theorem c_K_needThingOrNone (l : Launch) (D : va_G) (ty : Nat → ClassId) (ad : Nat → Nat) (sz : Nat) (n : Nat) (f : Nat → Int32) (th : Nat → Bool) (rt qu : Nat → Int32) (b w : SR) (T : Nat → TH) (g : Nat → Int32) (a : Nat → Nat → Int32) (o : Nat → Int64) (x : Int32) (hx0 : x = -1 ∨ tOk th x = true) : Met l y_K_needThingOrNone w_K_needThingOrNone ({ frames := 1, cells := 0, slots := 0, locals := 21 }) (va_Pc [.ref (ad 0), .int x] (kP D kCl (kTy ty) (gW n ty ad f th rt qu b w T g a o) sz)) (kQr (none)) 0 0 (fun _ => False) := by
  refine Met.ofW (cc := b_K_needThingOrNone) (maxL := 2) (ret := none) (by decide) rfl ?_
  intro p e s m args below meth cd s₁ B hml hv
  obtain ⟨rfl, hsz, hP, hK, hD0⟩ := hv
  have hx := B.exec
  have hb := B.bytes
  have hr := B.returns
  have hts := atoms_spec (ws := w_K_needThingOrNone) B.pre
  have hown : s.vm.findClass R_K = some m.cls := findClass_of_methodNamed B.named
  have hlocks := B.notSynchronized
  subst hsz
  have hD := hD0
  have hl := lv_entry ([.ref (ad 0), .int x]) (n := 2) (Nat.le_of_ble_eq_true rfl)
  rw [lg_entry_eq]
  generalize (lg_sl ([.ref (ad 0), .int x]) ++ List.replicate (2 - (lg_sl ([.ref (ad 0), .int x])).length) Slot.unset).toArray = ls at hl ⊢
  have hl : lv_has ls 2 [(0, .ref (ad 0)), (1, .int x)] := hl
  refine lv_iload_n hx hb d_K_needThingOrNone_0 rfl (lv_at hl 1 rfl) ?_
  refine lv_iconst (v := (-1)) hx hb d_K_needThingOrNone_1 (by decide) ?_
  refine lv_icmp_eq (tgt := 23) hx hb d_K_needThingOrNone_2 (by decide) (fun c_2 => ?_) (fun c_2 => ?_)
  · exact W.vret hx hb hr (fun t ht hW => ⟨rfl, ht⟩) (fun q hq => by cases hq) d_K_needThingOrNone_23
  · refine lv_aload_n hx hb d_K_needThingOrNone_5 rfl (lv_at hl 0 rfl) ?_
    refine lv_iload_n hx hb d_K_needThingOrNone_6 rfl (lv_at hl 1 rfl) ?_
    refine kc_R (va_runV (As := [.int x]) (rest := []) ⟨hx, hb, hml, hown, hts⟩ (c_K_thingOrNull l D ty ad _ (22 + 2 * n) (gc ty ad f th rt qu b w T g a o) f (by omega) rfl th rfl x) (cwV 1 hts (kGV kS1 m_K_98 m_im_K_thingOrNull m_sel_K_thingOrNull m_ini_K m_code_K_thingOrNull) rfl rfl rfl (by decide +kernel) ⟨Nat.le_of_ble_eq_true rfl, Nat.le_of_ble_eq_true rfl⟩) ⟨kP_blind, va_recv hK hP (ci := 0) (q0 := 0) rfl gw_0, fun U hU hW => ⟨rfl, kP_at hK hP hD U hU hW⟩⟩ rfl rfl hl.1 rfl (lv_room (Nat.le_of_ble_eq_true rfl)) d_K_needThingOrNone_7 ⟨Nat.le_of_ble_eq_true rfl, Nat.le_of_ble_eq_true rfl⟩) ?_
    obtain ⟨k7, hk3, rfl, ht7⟩ := tOk_k (hx0.resolve_left c_2)
    rw [tOr_t hk3 ht7]
    refine lv_ifnonnull (tgt := 23) hx hb d_K_needThingOrNone_10 (by decide) ?_
    exact W.vret hx hb hr (fun t ht hW => ⟨rfl, ht⟩) (fun q hq => by cases hq) d_K_needThingOrNone_23
set_option maxHeartbeats 4000000 in
set_option maxRecDepth 100000 in
/-- get(k, j), both there -/
theorem c_K_get (l : Launch) (D : va_G) (ty : Nat → ClassId) (ad : Nat → Nat) (sz : Nat) (n : Nat) (f : Nat → Int32) (th : Nat → Bool) (rt qu : Nat → Int32) (b w : SR) (T : Nat → TH) (g : Nat → Int32) (a : Nat → Nat → Int32) (o : Nat → Int64) (hn : ∀ k, th k = true → k < n) (hn3 : n ≤ 300) (k j : Nat) (hk : th k = true) (hj : j < (T k).2.2.2.1) (h12 : (T k).2.2.2.1 ≤ 12) : Met l y_K_get w_K_get ({ frames := 3, cells := 0, slots := 0, locals := 66 }) (va_Pc [.ref (ad 0), .int (nI k), .int (nI j)] (kP D kCl (kTy ty) (gW n ty ad f th rt qu b w T g a o) sz)) (kQr (some (.int ((T k).2.2.2.2 j)))) 0 0 (fun _ => False) := by
  refine Met.ofW (cc := b_K_get) (maxL := 3) (ret := (some .int)) (by decide) rfl ?_
  intro p e s m args below meth cd s₁ B hml hv
  obtain ⟨rfl, hsz, hP, hK, hD0⟩ := hv
  have hx := B.exec
  have hb := B.bytes
  have hr := B.returns
  have hts := atoms_spec (ws := w_K_get) B.pre
  have hown : s.vm.findClass R_K = some m.cls := findClass_of_methodNamed B.named
  have hlocks := B.notSynchronized
  subst hsz
  have hD := hD0
  have hl := lv_entry ([.ref (ad 0), .int (nI k), .int (nI j)]) (n := 3) (Nat.le_of_ble_eq_true rfl)
  rw [lg_entry_eq]
  generalize (lg_sl ([.ref (ad 0), .int (nI k), .int (nI j)]) ++ List.replicate (3 - (lg_sl ([.ref (ad 0), .int (nI k), .int (nI j)])).length) Slot.unset).toArray = ls at hl ⊢
  have hl : lv_has ls 3 [(0, .ref (ad 0)), (1, .int (nI k)), (2, .int (nI j))] := hl
  refine lv_aload_n hx hb d_K_get_0 rfl (lv_at hl 0 rfl) ?_
  refine lv_iload_n hx hb d_K_get_1 rfl (lv_at hl 1 rfl) ?_
  refine lv_iload_n hx hb d_K_get_2 rfl (lv_at hl 2 rfl) ?_
  refine kc_R (va_runV (As := [.int (nI k), .int (nI j)]) (rest := []) ⟨hx, hb, hml, hown, hts⟩ (c_K_thingWithField l D ty ad _ n f th rt qu b w T g a o hn hn3 k j hk hj h12) (cwV 2 hts (kGV kS1 m_K_58 m_im_K_thingWithField m_sel_K_thingWithField m_ini_K m_code_K_thingWithField) rfl rfl rfl (by decide +kernel) ⟨Nat.le_of_ble_eq_true rfl, Nat.le_of_ble_eq_true rfl⟩) ⟨kP_blind, va_recv hK hP (ci := 0) (q0 := 0) rfl gw_0, fun U hU hW => ⟨rfl, kP_at hK hP hD U hU hW⟩⟩ rfl rfl hl.1 rfl (lv_room (Nat.le_of_ble_eq_true rfl)) d_K_get_3 ⟨Nat.le_of_ble_eq_true rfl, Nat.le_of_ble_eq_true rfl⟩) ?_
  refine va_get (D := D) (ci := 2) (v := .ref (ad (23 + 2 * k))) (C := R_T) (T := F_T) (N := 4) hx hb hts (fun w h => kS1 w (i_T w h)) hown hK hP (22 + 2 * k) (gw_T (k := k) (hn k hk)) rfl 0 (by decide) (hts _ (kS1 _ m_K_66)) (fun _ h9 => h9) rfl d_K_get_6 ?_
  refine lv_iload_n hx hb d_K_get_9 rfl (lv_at hl 2 rfl) ?_
  refine va_iald (f := (T k).2.2.2.2) hx hb hK hP (23 + 2 * k) 0 (gw_F (k := k) (hn k hk)) rfl (vp_in_nI hj (by omega)) d_K_get_10 ?_
  rw [nI_clamp (n := j) (by omega)]
  have hv : (T k).2.2.2.2 j = ((T k).2.2.2.2) j := by simp []
  exact W.iret (v := ((T k).2.2.2.2) j) hx hb hr (fun t ht hW => ⟨by rw [hv], ht⟩) (fun q hq => by cases hq) d_K_get_11
set_option maxHeartbeats 4000000 in
set_option maxRecDepth 100000 in
/-- queued(x), x not below 0 -/
theorem c_K_queued (l : Launch) (D : va_G) (ty : Nat → ClassId) (ad : Nat → Nat) (sz : Nat) (n : Nat) (f : Nat → Int32) (th : Nat → Bool) (rt qu : Nat → Int32) (b w : SR) (T : Nat → TH) (g : Nat → Int32) (a : Nat → Nat → Int32) (o : Nat → Int64) (x : Int32) (hx0 : 0 ≤ x) : Met l y_K_queued w_K_queued ({ frames := 2, cells := 0, slots := 0, locals := 42 }) (va_Pc [.ref (ad 0), .int x] (kP D kCl (kTy ty) (gW n ty ad f th rt qu b w T g a o) sz)) (kQr (some (.int (kQp f qu x)))) 0 0 (fun _ => False) := by
  refine Met.ofW (cc := b_K_queued) (maxL := 2) (ret := (some .int)) (by decide) rfl ?_
  intro p e s m args below meth cd s₁ B hml hv
  obtain ⟨rfl, hsz, hP, hK, hD0⟩ := hv
  have hx := B.exec
  have hb := B.bytes
  have hr := B.returns
  have hts := atoms_spec (ws := w_K_queued) B.pre
  have hown : s.vm.findClass R_K = some m.cls := findClass_of_methodNamed B.named
  have hlocks := B.notSynchronized
  subst hsz
  have hD := hD0
  have hl := lv_entry ([.ref (ad 0), .int x]) (n := 2) (Nat.le_of_ble_eq_true rfl)
  rw [lg_entry_eq]
  generalize (lg_sl ([.ref (ad 0), .int x]) ++ List.replicate (2 - (lg_sl ([.ref (ad 0), .int x])).length) Slot.unset).toArray = ls at hl ⊢
  have hl : lv_has ls 2 [(0, .ref (ad 0)), (1, .int x)] := hl
  refine lv_iload_n hx hb d_K_queued_0 rfl (lv_at hl 1 rfl) ?_
  refine lv_if_ge (tgt := 14) hx hb d_K_queued_1 (by decide) (fun c_1 => ?_) (fun c_1 => absurd hx0 c_1)
  refine lv_aload_n hx hb d_K_queued_14 rfl (lv_at hl 0 rfl) ?_
  refine lv_iload_n hx hb d_K_queued_15 rfl (lv_at hl 1 rfl) ?_
  refine kc_R (va_runV (As := [.int x]) (rest := []) ⟨hx, hb, hml, hown, hts⟩ (c_K_queuePlace l D ty ad _ (22 + 2 * n) (gc ty ad f th rt qu b w T g a o) f (by omega) rfl qu rfl x) (cwV 1 hts (kGV kS1 m_K_91 m_im_K_queuePlace m_sel_K_queuePlace m_ini_K m_code_K_queuePlace) rfl rfl rfl (by decide +kernel) ⟨Nat.le_of_ble_eq_true rfl, Nat.le_of_ble_eq_true rfl⟩) ⟨kP_blind, va_recv hK hP (ci := 0) (q0 := 0) rfl gw_0, fun U hU hW => ⟨rfl, kP_at hK hP hD U hU hW⟩⟩ rfl rfl hl.1 rfl (lv_room (Nat.le_of_ble_eq_true rfl)) d_K_queued_16 ⟨Nat.le_of_ble_eq_true rfl, Nat.le_of_ble_eq_true rfl⟩) ?_
  have hv : kQp f qu x = kQp f qu x := by simp [c_1]
  exact W.iret (v := kQp f qu x) hx hb hr (fun t ht hW => ⟨by rw [hv], ht⟩) (fun q hq => by cases hq) d_K_queued_19
set_option maxHeartbeats 4000000 in
set_option maxRecDepth 100000 in
/-- waitingFinals() -/
theorem c_K_waitingFinals (l : Launch) (D : va_G) (ty : Nat → ClassId) (ad : Nat → Nat) (sz : Nat) (n : Nat) (f : Nat → Int32) (th : Nat → Bool) (rt qu : Nat → Int32) (b w : SR) (T : Nat → TH) (g : Nat → Int32) (a : Nat → Nat → Int32) (o : Nat → Int64) (hn : ∀ k, th k = true → k < n) : Met l y_K_waitingFinals w_K_waitingFinals ({ frames := 1, cells := 0, slots := 0, locals := 20 }) (va_Pc [.ref (ad 0)] (kP D kCl (kTy ty) (gW n ty ad f th rt qu b w T g a o) sz)) (kQr (some (.int (it (kWt th T) 300 0)))) 0 0 (fun _ => False) := by
  refine Met.ofW (cc := b_K_waitingFinals) (maxL := 4) (ret := (some .int)) (by decide) rfl ?_
  intro p e s m args below meth cd s₁ B hml hv
  obtain ⟨rfl, hsz, hP, hK, hD0⟩ := hv
  have hx := B.exec
  have hb := B.bytes
  have hr := B.returns
  have hts := atoms_spec (ws := w_K_waitingFinals) B.pre
  have hown : s.vm.findClass R_K = some m.cls := findClass_of_methodNamed B.named
  have hlocks := B.notSynchronized
  subst hsz
  have hD := hD0
  have hl := lv_entry ([.ref (ad 0)]) (n := 4) (Nat.le_of_ble_eq_true rfl)
  rw [lg_entry_eq]
  generalize (lg_sl ([.ref (ad 0)]) ++ List.replicate (4 - (lg_sl ([.ref (ad 0)])).length) Slot.unset).toArray = ls at hl ⊢
  have hl : lv_has ls 4 [(0, .ref (ad 0))] := hl
  refine lv_iconst (v := 0) hx hb d_K_waitingFinals_0 (by decide) ?_
  refine lv_istore_n (lv' := [(1, .int 0), (0, .ref (ad 0))]) hx hb d_K_waitingFinals_1 rfl hl (by decide) rfl (fun ls hl => ?_)
  refine lv_iconst (v := 0) hx hb d_K_waitingFinals_2 (by decide) ?_
  refine lv_istore_n (lv' := [(2, .int 0), (1, .int 0), (0, .ref (ad 0))]) hx hb d_K_waitingFinals_3 rfl hl (by decide) rfl (fun ls hl => ?_)
  have L1 : ∀ (Q : State → Prop) (rem i : Nat) (ls : Array Slot), i + rem = 300 → lv_has ls 4 [(0, .ref (ad 0)), (1, .int (it (kWt th T) i 0)), (2, .int (nI i))] → (∀ (ls : Array Slot), lv_has ls 4 [(0, .ref (ad 0)), (1, .int (it (kWt th T) 300 0))] → W p l e (headSpec w_K_waitingFinals ({ frames := 1, cells := 0, slots := 0, locals := 20 })).room s m ([.ref (ad 0)] : List Value).toArray below meth cd s.heap [] 0 0 Q (F0 m 40 ls [])) → W p l e (headSpec w_K_waitingFinals ({ frames := 1, cells := 0, slots := 0, locals := 20 })).room s m ([.ref (ad 0)] : List Value).toArray below meth cd s.heap [] 0 0 Q (F0 m 4 ls []) := by
    intro Q rem
    induction rem with
    | zero =>
      intro i ls hir_i hl kx
      obtain rfl : 300 = i := by omega
      refine lv_iload_n hx hb d_K_waitingFinals_4 rfl (lv_at hl 2 rfl) ?_
      refine lv_aload_n hx hb d_K_waitingFinals_5 rfl (lv_at hl 0 rfl) ?_
      refine va_get (D := D) (ci := 0) (v := .ref (ad 1)) (C := R_K) (T := F_K) (N := 12) hx hb hts (fun w h => kS1 w (i_K w h)) hown hK hP 0 gw_0 rfl 0 (by decide) (hts _ (kS1 _ m_K_11)) (fun _ h9 => h9) rfl d_K_waitingFinals_6 ?_
      refine va_alen (v := 300) hx hb hK hP 1 2 gw_1 rfl rfl d_K_waitingFinals_9 ?_
      refine lv_icmp_ge (tgt := 40) hx hb d_K_waitingFinals_10 (by decide) (fun c_10' => ?_) (fun c_10' => absurd (nI_le (a := 300) (b := 300) (Nat.le_refl _) (by omega)) c_10')
      have hl := lv_sub (l' := [(0, .ref (ad 0)), (1, .int (it (kWt th T) 300 0))]) hl [0, 1] rfl
      exact kx ls hl
    | succ rem ih =>
      intro i ls hir_i hl kx
      have hlt_i : i < 300 := by omega
      refine lv_iload_n hx hb d_K_waitingFinals_4 rfl (lv_at hl 2 rfl) ?_
      refine lv_aload_n hx hb d_K_waitingFinals_5 rfl (lv_at hl 0 rfl) ?_
      refine va_get (D := D) (ci := 0) (v := .ref (ad 1)) (C := R_K) (T := F_K) (N := 12) hx hb hts (fun w h => kS1 w (i_K w h)) hown hK hP 0 gw_0 rfl 0 (by decide) (hts _ (kS1 _ m_K_11)) (fun _ h9 => h9) rfl d_K_waitingFinals_6 ?_
      refine va_alen (v := 300) hx hb hK hP 1 2 gw_1 rfl rfl d_K_waitingFinals_9 ?_
      refine lv_icmp_ge (tgt := 40) hx hb d_K_waitingFinals_10 (by decide) (fun c_10' => absurd c_10' (nI_ge (b := 300) hlt_i (by omega))) (fun c_10' => ?_)
      refine lv_aload_n hx hb d_K_waitingFinals_13 rfl (lv_at hl 0 rfl) ?_
      refine va_get (D := D) (ci := 0) (v := .ref (ad 1)) (C := R_K) (T := F_K) (N := 12) hx hb hts (fun w h => kS1 w (i_K w h)) hown hK hP 0 gw_0 rfl 0 (by decide) (hts _ (kS1 _ m_K_11)) (fun _ h9 => h9) rfl d_K_waitingFinals_14 ?_
      refine lv_iload_n hx hb d_K_waitingFinals_17 rfl (lv_at hl 2 rfl) ?_
      refine va_aldq (f := thf ad th) hx hb hK hP 1 2 gw_1 rfl (vp_in_nI hlt_i (by omega)) d_K_waitingFinals_18 ?_
      rw [nI_clamp (n := i) (by omega)]
      by_cases hth_18 : th i = true
      · rw [kth_t hth_18]
        refine lv_astore_n (lv' := [(3, .ref (ad (22 + 2 * i))), (0, .ref (ad 0)), (1, .int (it (kWt th T) i 0)), (2, .int (nI i))]) hx hb d_K_waitingFinals_19 rfl hl (by decide) rfl (fun ls hl => ?_)
        refine lv_aload_n hx hb d_K_waitingFinals_20 rfl (lv_at hl 0 rfl) ?_
        refine lv_ifnull hx hb d_K_waitingFinals_21 ?_
        refine lv_aload_n hx hb d_K_waitingFinals_24 rfl (lv_at hl 0 rfl) ?_
        refine kc_R (va_runV (As := []) (rest := []) ⟨hx, hb, hml, hown, hts⟩ (c_T_waitsForQueue l D ty ad _ (22 + 2 * n) (gc ty ad f th rt qu b w T g a o) (22 + 2 * i) (23 + 2 * i) ((T i).1) ((T i).2.1) ((T i).2.2.1) ((T i).2.2.2.1) ((T i).2.2.2.2) (gi_T (hn _ hth_18)) (gi_F (hn _ hth_18)) gc_T gc_F) (cwV 0 hts (kGV kS1 m_K_150 m_im_T_waitsForQueue m_sel_T_waitsForQueue m_ini_T m_code_T_waitsForQueue) rfl rfl rfl (by decide +kernel) ⟨Nat.le_of_ble_eq_true rfl, Nat.le_of_ble_eq_true rfl⟩) ⟨kP_blind, va_recv hK hP (ci := 2) (q0 := (22 + 2 * i)) rfl (gw_T (k := i) (hn _ hth_18)), fun U hU hW => ⟨rfl, kP_at hK hP hD U hU hW⟩⟩ rfl rfl hl.1 rfl (lv_room (Nat.le_of_ble_eq_true rfl)) d_K_waitingFinals_25 ⟨Nat.le_of_ble_eq_true rfl, Nat.le_of_ble_eq_true rfl⟩) ?_
        refine lv_if_eq (tgt := 34) hx hb d_K_waitingFinals_28 (by decide) (fun c_28' => ?_) (fun c_28' => ?_)
        · refine lv_iinc (v := nI i + 1) (lv' := [(2, .int (nI i + 1)), (3, .ref (ad (22 + 2 * i))), (0, .ref (ad 0)), (1, .int (it (kWt th T) i 0))]) hx hb d_K_waitingFinals_34 hl (k := 3) rfl rfl (by decide) rfl (fun ls hl => ?_)
          refine lv_goto (tgt := 4) hx hb d_K_waitingFinals_37 (by decide) ?_
          have hl := lv_sub (l' := [(0, .ref (ad 0)), (1, .int (it (kWt th T) i 0)), (2, .int (nI i + 1))]) hl [2, 3, 0] rfl
          have hqq9 : (.int (it (kWt th T) i 0) : Value) = .int (it (kWt th T) (i + 1) 0) := by rw [it_s, kWt]; simp [c_10', hth_18, c_28']
          rw [hqq9] at hl
          have hqq9 : (.int (nI i + 1) : Value) = .int (nI (i + 1)) := by rw [nI_1]
          rw [hqq9] at hl
          exact ih (i + 1) ls (by omega) hl kx
        · refine lv_iinc (v := it (kWt th T) i 0 + 1) (lv' := [(1, .int (it (kWt th T) i 0 + 1)), (3, .ref (ad (22 + 2 * i))), (0, .ref (ad 0)), (2, .int (nI i))]) hx hb d_K_waitingFinals_31 hl (k := 2) rfl rfl (by decide) rfl (fun ls hl => ?_)
          refine lv_iinc (v := nI i + 1) (lv' := [(2, .int (nI i + 1)), (1, .int (it (kWt th T) i 0 + 1)), (3, .ref (ad (22 + 2 * i))), (0, .ref (ad 0))]) hx hb d_K_waitingFinals_34 hl (k := 3) rfl rfl (by decide) rfl (fun ls hl => ?_)
          refine lv_goto (tgt := 4) hx hb d_K_waitingFinals_37 (by decide) ?_
          have hl := lv_sub (l' := [(0, .ref (ad 0)), (1, .int (it (kWt th T) i 0 + 1)), (2, .int (nI i + 1))]) hl [3, 1, 0] rfl
          have hqq9 : (.int (it (kWt th T) i 0 + 1) : Value) = .int (it (kWt th T) (i + 1) 0) := by rw [it_s, kWt]; simp [c_10', hth_18, c_28']
          rw [hqq9] at hl
          have hqq9 : (.int (nI i + 1) : Value) = .int (nI (i + 1)) := by rw [nI_1]
          rw [hqq9] at hl
          exact ih (i + 1) ls (by omega) hl kx
      · rw [kth_f hth_18]
        refine lv_astore_nN (lv' := [(3, .null), (0, .ref (ad 0)), (1, .int (it (kWt th T) i 0)), (2, .int (nI i))]) hx hb d_K_waitingFinals_19 rfl hl (by decide) rfl (fun ls hl => ?_)
        refine lv_aload_nN hx hb d_K_waitingFinals_20 rfl (lv_at hl 0 rfl) ?_
        refine lv_ifnullN (tgt := 34) hx hb d_K_waitingFinals_21 (by decide) ?_
        refine lv_iinc (v := nI i + 1) (lv' := [(2, .int (nI i + 1)), (3, .null), (0, .ref (ad 0)), (1, .int (it (kWt th T) i 0))]) hx hb d_K_waitingFinals_34 hl (k := 3) rfl rfl (by decide) rfl (fun ls hl => ?_)
        refine lv_goto (tgt := 4) hx hb d_K_waitingFinals_37 (by decide) ?_
        have hl := lv_sub (l' := [(0, .ref (ad 0)), (1, .int (it (kWt th T) i 0)), (2, .int (nI i + 1))]) hl [2, 3, 0] rfl
        have hqq9 : (.int (it (kWt th T) i 0) : Value) = .int (it (kWt th T) (i + 1) 0) := by rw [it_s, kWt]; simp [c_10', hth_18]
        rw [hqq9] at hl
        have hqq9 : (.int (nI i + 1) : Value) = .int (nI (i + 1)) := by rw [nI_1]
        rw [hqq9] at hl
        exact ih (i + 1) ls (by omega) hl kx
  have hl := lv_sub (l' := [(0, .ref (ad 0)), (1, .int 0), (2, .int 0)]) hl [2, 1, 0] rfl
  have hqq9 : (.int 0 : Value) = .int (nI 0) := by rw [nI_0]
  rw [hqq9] at hl
  refine L1 _ (300 - 0) 0 ls (by omega) hl (fun ls hl => ?_)
  refine lv_iload_n hx hb d_K_waitingFinals_40 rfl (lv_at hl 1 rfl) ?_
  have hv : it (kWt th T) 300 0 = it (kWt th T) 300 0 := by simp []
  exact W.iret (v := it (kWt th T) 300 0) hx hb hr (fun t ht hW => ⟨by rw [hv], ht⟩) (fun q hq => by cases hq) d_K_waitingFinals_41
