/-! Part 06: the keeper's reads. -/
set_option maxHeartbeats 4000000 in
set_option maxRecDepth 100000 in
/-- thingOrNull(x) -/
theorem c_K_thingOrNull (l : Launch) (D : va_G) (ty : Nat → ClassId) (ad : Nat → Nat) (sz : Nat) (N : Nat) (c : Nat → va_E) (f : Nat → Int32) (hN : 4 ≤ N) (h0 : c 0 = .inr (0, kFs ad f)) (th : Nat → Bool) (h1 : c 1 = .inl (ty 2, 300, .inr (.inr (.inr (.inr (thf ad th)))))) (x : Int32) : Met l y_K_thingOrNull w_K_thingOrNull ({ frames := 0, cells := 0, slots := 0, locals := 0 }) (va_Pc [.ref (ad 0), .int x] (kP D kCl (kTy ty) (wL N ad c) sz)) (kQr (some (tOr ad th x))) 0 0 (fun _ => False) := by
  refine Met.ofW (cc := b_K_thingOrNull) (maxL := 2) (ret := (some (.object "WillKeeper$Thing"))) (by decide) rfl ?_
  intro p e s m args below meth cd s₁ B hml hv
  obtain ⟨rfl, hsz, hP, hK, hD0⟩ := hv
  have hx := B.exec
  have hb := B.bytes
  have hr := B.returns
  have hts := atoms_spec (ws := w_K_thingOrNull) B.pre
  have hown : s.vm.findClass R_K = some m.cls := findClass_of_methodNamed B.named
  have hlocks := B.notSynchronized
  subst hsz
  have hD := hD0
  have hl := lv_entry ([.ref (ad 0), .int x]) (n := 2) (Nat.le_of_ble_eq_true rfl)
  rw [lg_entry_eq]
  generalize (lg_sl ([.ref (ad 0), .int x]) ++ List.replicate (2 - (lg_sl ([.ref (ad 0), .int x])).length) Slot.unset).toArray = ls at hl ⊢
  have hl : lv_has ls 2 [(0, .ref (ad 0)), (1, .int x)] := hl
  have hN0 : 0 < N := by omega
  have hN1 : 1 < N := by omega
  have hN3 : 3 < N := by omega
  refine lv_iload_n hx hb d_K_thingOrNull_0 rfl (lv_at hl 1 rfl) ?_
  refine lv_if_lt (tgt := 22) hx hb d_K_thingOrNull_1 (by decide) (fun c_1 => ?_) (fun c_1 => ?_)
  · refine lv_null hx hb d_K_thingOrNull_22 ?_
    have hv : tOr ad th x = .null := by simp [tOr, c_1]
    exact W.aret (v := .null) hx hb hr (Or.inl ⟨_, rfl⟩) (Or.inl rfl) (fun t ht hW => ⟨by rw [hv], ht⟩) (fun q hq => by cases hq) d_K_thingOrNull_23
  · refine lv_iload_n hx hb d_K_thingOrNull_4 rfl (lv_at hl 1 rfl) ?_
    refine lv_aload_n hx hb d_K_thingOrNull_5 rfl (lv_at hl 0 rfl) ?_
    refine va_get (D := D) (ci := 0) (v := .ref (ad 1)) (C := R_K) (T := F_K) (N := 12) hx hb hts (fun w h => kS1 w (i_K w h)) hown hK hP 0 (wl_at hN0 h0) rfl 0 (by decide) (hts _ (kS1 _ m_K_11)) (fun _ h9 => h9) rfl d_K_thingOrNull_6 ?_
    refine va_alen (v := 300) hx hb hK hP 1 2 (wl_at hN1 h1) rfl rfl d_K_thingOrNull_9 ?_
    refine lv_icmp_ge (tgt := 22) hx hb d_K_thingOrNull_10 (by decide) (fun c_10 => ?_) (fun c_10 => ?_)
    · refine lv_null hx hb d_K_thingOrNull_22 ?_
      have hv : tOr ad th x = .null := by simp [tOr, c_1, c_10]
      exact W.aret (v := .null) hx hb hr (Or.inl ⟨_, rfl⟩) (Or.inl rfl) (fun t ht hW => ⟨by rw [hv], ht⟩) (fun q hq => by cases hq) d_K_thingOrNull_23
    · refine lv_aload_n hx hb d_K_thingOrNull_13 rfl (lv_at hl 0 rfl) ?_
      refine va_get (D := D) (ci := 0) (v := .ref (ad 1)) (C := R_K) (T := F_K) (N := 12) hx hb hts (fun w h => kS1 w (i_K w h)) hown hK hP 0 (wl_at hN0 h0) rfl 0 (by decide) (hts _ (kS1 _ m_K_11)) (fun _ h9 => h9) rfl d_K_thingOrNull_14 ?_
      refine lv_iload_n hx hb d_K_thingOrNull_17 rfl (lv_at hl 1 rfl) ?_
      refine va_aldq (f := thf ad th) hx hb hK hP 1 2 (wl_at hN1 h1) rfl (kin c_1 c_10 rfl) d_K_thingOrNull_18 ?_
      refine lv_goto (tgt := 23) hx hb d_K_thingOrNull_19 (by decide) ?_
      have hv : tOr ad th x = va_rf ((thf ad th) x.toNatClampNeg) := by simp [tOr, c_1, c_10]
      exact W.aret (v := va_rf ((thf ad th) x.toNatClampNeg)) hx hb hr (Or.inl ⟨_, rfl⟩) (va_rf_or _) (fun t ht hW => ⟨by rw [hv], ht⟩) (fun q hq => by cases hq) d_K_thingOrNull_23
set_option maxHeartbeats 4000000 in
set_option maxRecDepth 100000 in
/-- queueSize() -/
theorem c_K_queueSize (l : Launch) (D : va_G) (ty : Nat → ClassId) (ad : Nat → Nat) (sz : Nat) (N : Nat) (c : Nat → va_E) (f : Nat → Int32) (hN : 4 ≤ N) (h0 : c 0 = .inr (0, kFs ad f)) : Met l y_K_queueSize w_K_queueSize ({ frames := 0, cells := 0, slots := 0, locals := 0 }) (va_Pc [.ref (ad 0)] (kP D kCl (kTy ty) (wL N ad c) sz)) (kQr (some (.int (f 4 - f 3)))) 0 0 (fun _ => False) := by
  refine Met.ofW (cc := b_K_queueSize) (maxL := 1) (ret := (some .int)) (by decide) rfl ?_
  intro p e s m args below meth cd s₁ B hml hv
  obtain ⟨rfl, hsz, hP, hK, hD0⟩ := hv
  have hx := B.exec
  have hb := B.bytes
  have hr := B.returns
  have hts := atoms_spec (ws := w_K_queueSize) B.pre
  have hown : s.vm.findClass R_K = some m.cls := findClass_of_methodNamed B.named
  have hlocks := B.notSynchronized
  subst hsz
  have hD := hD0
  have hl := lv_entry ([.ref (ad 0)]) (n := 1) (Nat.le_of_ble_eq_true rfl)
  rw [lg_entry_eq]
  generalize (lg_sl ([.ref (ad 0)]) ++ List.replicate (1 - (lg_sl ([.ref (ad 0)])).length) Slot.unset).toArray = ls at hl ⊢
  have hl : lv_has ls 1 [(0, .ref (ad 0))] := hl
  have hN0 : 0 < N := by omega
  have hN1 : 1 < N := by omega
  have hN3 : 3 < N := by omega
  refine lv_aload_n hx hb d_K_queueSize_0 rfl (lv_at hl 0 rfl) ?_
  refine va_get (D := D) (ci := 0) (v := .int (f 4)) (C := R_K) (T := F_K) (N := 12) hx hb hts (fun w h => kS1 w (i_K w h)) hown hK hP 0 (wl_at hN0 h0) rfl 4 (by decide) (hts _ (kS1 _ m_K_143)) (fun _ h9 => h9) rfl d_K_queueSize_1 ?_
  refine lv_aload_n hx hb d_K_queueSize_4 rfl (lv_at hl 0 rfl) ?_
  refine va_get (D := D) (ci := 0) (v := .int (f 3)) (C := R_K) (T := F_K) (N := 12) hx hb hts (fun w h => kS1 w (i_K w h)) hown hK hP 0 (wl_at hN0 h0) rfl 3 (by decide) (hts _ (kS1 _ m_K_95)) (fun _ h9 => h9) rfl d_K_queueSize_5 ?_
  refine lv_isub hx hb d_K_queueSize_8 ?_
  have hv : f 4 - f 3 = (f 4) - (f 3) := by simp []
  exact W.iret (v := (f 4) - (f 3)) hx hb hr (fun t ht hW => ⟨by rw [hv], ht⟩) (fun q hq => by cases hq) d_K_queueSize_9
set_option maxHeartbeats 4000000 in
set_option maxRecDepth 100000 in
/-- queuePlace(x) -/
theorem c_K_queuePlace (l : Launch) (D : va_G) (ty : Nat → ClassId) (ad : Nat → Nat) (sz : Nat) (N : Nat) (c : Nat → va_E) (f : Nat → Int32) (hN : 4 ≤ N) (h0 : c 0 = .inr (0, kFs ad f)) (qu : Nat → Int32) (h3 : c 3 = .inl (ty 0, 300, .inl qu)) (x : Int32) : Met l y_K_queuePlace w_K_queuePlace ({ frames := 1, cells := 0, slots := 0, locals := 20 }) (va_Pc [.ref (ad 0), .int x] (kP D kCl (kTy ty) (wL N ad c) sz)) (kQr (some (.int (kQp f qu x)))) 0 0 (fun _ => False) := by
  refine Met.ofW (cc := b_K_queuePlace) (maxL := 3) (ret := (some .int)) (by decide) rfl ?_
  intro p e s m args below meth cd s₁ B hml hv
  obtain ⟨rfl, hsz, hP, hK, hD0⟩ := hv
  have hx := B.exec
  have hb := B.bytes
  have hr := B.returns
  have hts := atoms_spec (ws := w_K_queuePlace) B.pre
  have hown : s.vm.findClass R_K = some m.cls := findClass_of_methodNamed B.named
  have hlocks := B.notSynchronized
  subst hsz
  have hD := hD0
  have hl := lv_entry ([.ref (ad 0), .int x]) (n := 3) (Nat.le_of_ble_eq_true rfl)
  rw [lg_entry_eq]
  generalize (lg_sl ([.ref (ad 0), .int x]) ++ List.replicate (3 - (lg_sl ([.ref (ad 0), .int x])).length) Slot.unset).toArray = ls at hl ⊢
  have hl : lv_has ls 3 [(0, .ref (ad 0)), (1, .int x)] := hl
  have hN0 : 0 < N := by omega
  have hN1 : 1 < N := by omega
  have hN3 : 3 < N := by omega
  refine lv_iload_n hx hb d_K_queuePlace_0 rfl (lv_at hl 1 rfl) ?_
  refine lv_if_lt (tgt := 12) hx hb d_K_queuePlace_1 (by decide) (fun c_1 => ?_) (fun c_1 => ?_)
  · refine lv_iconst (v := (-1)) hx hb d_K_queuePlace_12 (by decide) ?_
    have hv : kQp f qu x = (-1) := by simp [kQp, c_1]
    exact W.iret (v := (-1)) hx hb hr (fun t ht hW => ⟨by rw [hv], ht⟩) (fun q hq => by cases hq) d_K_queuePlace_13
  · refine lv_iload_n hx hb d_K_queuePlace_4 rfl (lv_at hl 1 rfl) ?_
    refine lv_aload_n hx hb d_K_queuePlace_5 rfl (lv_at hl 0 rfl) ?_
    refine kc_R (va_runV (As := []) (rest := [.int x]) ⟨hx, hb, hml, hown, hts⟩ (c_K_queueSize l D ty ad _ N c f hN h0) (cwV 0 hts (kGV kS1 m_K_88 m_im_K_queueSize m_sel_K_queueSize m_ini_K m_code_K_queueSize) rfl rfl rfl (by decide +kernel) ⟨Nat.le_of_ble_eq_true rfl, Nat.le_of_ble_eq_true rfl⟩) ⟨kP_blind, va_recv hK hP (ci := 0) (q0 := 0) rfl (wl_at hN0 h0), fun U hU hW => ⟨rfl, kP_at hK hP hD U hU hW⟩⟩ rfl rfl hl.1 rfl (lv_room (Nat.le_of_ble_eq_true rfl)) d_K_queuePlace_6 ⟨Nat.le_of_ble_eq_true rfl, Nat.le_of_ble_eq_true rfl⟩) ?_
    refine lv_icmp_lt (tgt := 14) hx hb d_K_queuePlace_9 (by decide) (fun c_9 => ?_) (fun c_9 => ?_)
    · refine lv_aload_n hx hb d_K_queuePlace_14 rfl (lv_at hl 0 rfl) ?_
      refine va_get (D := D) (ci := 0) (v := .int (f 3)) (C := R_K) (T := F_K) (N := 12) hx hb hts (fun w h => kS1 w (i_K w h)) hown hK hP 0 (wl_at hN0 h0) rfl 3 (by decide) (hts _ (kS1 _ m_K_95)) (fun _ h9 => h9) rfl d_K_queuePlace_15 ?_
      refine lv_iload_n hx hb d_K_queuePlace_18 rfl (lv_at hl 1 rfl) ?_
      refine lv_iadd hx hb d_K_queuePlace_19 ?_
      refine lv_istore_n (lv' := [(2, .int ((f 3) + x)), (0, .ref (ad 0)), (1, .int x)]) hx hb d_K_queuePlace_20 rfl hl (by decide) rfl (fun ls hl => ?_)
      refine lv_iload_n hx hb d_K_queuePlace_21 rfl (lv_at hl 0 rfl) ?_
      refine lv_if_lt (tgt := 43) hx hb d_K_queuePlace_22 (by decide) (fun c_22 => ?_) (fun c_22 => ?_)
      · refine lv_iconst (v := (-1)) hx hb d_K_queuePlace_43 (by decide) ?_
        have hv : kQp f qu x = (-1) := by simp [kQp, c_1, c_9, c_22]
        exact W.iret (v := (-1)) hx hb hr (fun t ht hW => ⟨by rw [hv], ht⟩) (fun q hq => by cases hq) d_K_queuePlace_44
      · refine lv_iload_n hx hb d_K_queuePlace_25 rfl (lv_at hl 0 rfl) ?_
        refine lv_aload_n hx hb d_K_queuePlace_26 rfl (lv_at hl 1 rfl) ?_
        refine va_get (D := D) (ci := 0) (v := .ref (ad 3)) (C := R_K) (T := F_K) (N := 12) hx hb hts (fun w h => kS1 w (i_K w h)) hown hK hP 0 (wl_at hN0 h0) rfl 2 (by decide) (hts _ (kS1 _ m_K_19)) (fun _ h9 => h9) rfl d_K_queuePlace_27 ?_
        refine va_alen (v := 300) hx hb hK hP 3 0 (wl_at hN3 h3) rfl rfl d_K_queuePlace_30 ?_
        refine lv_icmp_ge (tgt := 43) hx hb d_K_queuePlace_31 (by decide) (fun c_31 => ?_) (fun c_31 => ?_)
        · refine lv_iconst (v := (-1)) hx hb d_K_queuePlace_43 (by decide) ?_
          have hv : kQp f qu x = (-1) := by simp [kQp, c_1, c_9, c_22, c_31]
          exact W.iret (v := (-1)) hx hb hr (fun t ht hW => ⟨by rw [hv], ht⟩) (fun q hq => by cases hq) d_K_queuePlace_44
        · refine lv_aload_n hx hb d_K_queuePlace_34 rfl (lv_at hl 1 rfl) ?_
          refine va_get (D := D) (ci := 0) (v := .ref (ad 3)) (C := R_K) (T := F_K) (N := 12) hx hb hts (fun w h => kS1 w (i_K w h)) hown hK hP 0 (wl_at hN0 h0) rfl 2 (by decide) (hts _ (kS1 _ m_K_19)) (fun _ h9 => h9) rfl d_K_queuePlace_35 ?_
          refine lv_iload_n hx hb d_K_queuePlace_38 rfl (lv_at hl 0 rfl) ?_
          refine va_iald (f := qu) hx hb hK hP 3 0 (wl_at hN3 h3) rfl (kin c_22 c_31 rfl) d_K_queuePlace_39 ?_
          refine lv_goto (tgt := 44) hx hb d_K_queuePlace_40 (by decide) ?_
          have hv : kQp f qu x = qu (((f 3) + x).toNatClampNeg) := by simp [kQp, c_1, c_9, c_22, c_31]
          exact W.iret (v := qu (((f 3) + x).toNatClampNeg)) hx hb hr (fun t ht hW => ⟨by rw [hv], ht⟩) (fun q hq => by cases hq) d_K_queuePlace_44
    · refine lv_iconst (v := (-1)) hx hb d_K_queuePlace_12 (by decide) ?_
      have hv : kQp f qu x = (-1) := by simp [kQp, c_1, c_9]
      exact W.iret (v := (-1)) hx hb hr (fun t ht hW => ⟨by rw [hv], ht⟩) (fun q hq => by cases hq) d_K_queuePlace_13
