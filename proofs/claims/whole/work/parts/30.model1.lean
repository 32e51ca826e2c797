/-! Part 12: the model, its small methods. -/
set_option maxHeartbeats 4000000 in
set_option maxRecDepth 100000 in
/-- thrown() -/
theorem c_M_thrown (l : Launch) (D : va_G) (ty : Nat → ClassId) (ad : Nat → Nat) (sz : Nat) (n : Nat) (f : Nat → Int32) (th : Nat → Bool) (rt qu : Nat → Int32) (b w : SR) (T : Nat → TH) (g : Nat → Int32) (a : Nat → Nat → Int32) (o : Nat → Int64) : Met l y_M_thrown w_M_thrown ({ frames := 0, cells := 0, slots := 0, locals := 0 }) (va_Pc [.ref (ad 10)] (kP D kCl (kTy ty) (gW n ty ad f th rt qu b w T g a o) sz)) (kQr (some (.int (g 0)))) 0 0 (fun _ => False) := by
  refine Met.ofW (cc := b_M_thrown) (maxL := 1) (ret := (some .int)) (by decide) rfl ?_
  intro p e s m args below meth cd s₁ B hml hv
  obtain ⟨rfl, hsz, hP, hK, hD0⟩ := hv
  have hx := B.exec
  have hb := B.bytes
  have hr := B.returns
  have hts := atoms_spec (ws := w_M_thrown) B.pre
  have hown : s.vm.findClass R_M = some m.cls := findClass_of_methodNamed B.named
  have hlocks := B.notSynchronized
  subst hsz
  have hD := hD0
  have hl := lv_entry ([.ref (ad 10)]) (n := 1) (Nat.le_of_ble_eq_true rfl)
  rw [lg_entry_eq]
  generalize (lg_sl ([.ref (ad 10)]) ++ List.replicate (1 - (lg_sl ([.ref (ad 10)])).length) Slot.unset).toArray = ls at hl ⊢
  have hl : lv_has ls 1 [(0, .ref (ad 10))] := hl
  refine lv_aload_n hx hb d_M_thrown_0 rfl (lv_at hl 0 rfl) ?_
  refine va_get (D := D) (ci := 3) (v := .int (g 0)) (C := R_M) (T := F_M) (N := 16) hx hb hts (fun w h => kS1 w (i_M w h)) hown hK hP 10 gw_10 rfl 0 (by decide) (hts _ (kS1 _ m_M_41)) (fun _ h9 => h9) rfl d_M_thrown_1 ?_
  have hv : g 0 = g 0 := by simp []
  exact W.iret (v := g 0) hx hb hr (fun t ht hW => ⟨by rw [hv], ht⟩) (fun q hq => by cases hq) d_M_thrown_4
set_option maxHeartbeats 4000000 in
set_option maxRecDepth 100000 in
/-- isThere(x) -/
theorem c_M_isThere (l : Launch) (D : va_G) (ty : Nat → ClassId) (ad : Nat → Nat) (sz : Nat) (n : Nat) (f : Nat → Int32) (th : Nat → Bool) (rt qu : Nat → Int32) (b w : SR) (T : Nat → TH) (g : Nat → Int32) (a : Nat → Nat → Int32) (o : Nat → Int64) (hg1 : g 1 = nI n) (hn3 : n ≤ 300) (x : Int32) : Met l y_M_isThere w_M_isThere ({ frames := 0, cells := 0, slots := 0, locals := 0 }) (va_Pc [.ref (ad 10), .int x] (kP D kCl (kTy ty) (gW n ty ad f th rt qu b w T g a o) sz)) (kQr (some (.int (mI g a x)))) 0 0 (fun _ => False) := by
  refine Met.ofW (cc := b_M_isThere) (maxL := 2) (ret := (some .boolean)) (by decide) rfl ?_
  intro p e s m args below meth cd s₁ B hml hv
  obtain ⟨rfl, hsz, hP, hK, hD0⟩ := hv
  have hx := B.exec
  have hb := B.bytes
  have hr := B.returns
  have hts := atoms_spec (ws := w_M_isThere) B.pre
  have hown : s.vm.findClass R_M = some m.cls := findClass_of_methodNamed B.named
  have hlocks := B.notSynchronized
  subst hsz
  have hD := hD0
  have hl := lv_entry ([.ref (ad 10), .int x]) (n := 2) (Nat.le_of_ble_eq_true rfl)
  rw [lg_entry_eq]
  generalize (lg_sl ([.ref (ad 10), .int x]) ++ List.replicate (2 - (lg_sl ([.ref (ad 10), .int x])).length) Slot.unset).toArray = ls at hl ⊢
  have hl : lv_has ls 2 [(0, .ref (ad 10)), (1, .int x)] := hl
  refine lv_iload_n hx hb d_M_isThere_0 rfl (lv_at hl 1 rfl) ?_
  refine lv_if_lt (tgt := 25) hx hb d_M_isThere_1 (by decide) (fun c_1 => ?_) (fun c_1 => ?_)
  · refine lv_iconst (v := 0) hx hb d_M_isThere_25 (by decide) ?_
    have hv : mI g a x = 0 := by simp [mI, c_1]
    exact W.zret (v := 0) hx hb hr rfl (fun t ht hW => ⟨by rw [hv], ht⟩) (fun q hq => by cases hq) d_M_isThere_26
  · refine lv_iload_n hx hb d_M_isThere_4 rfl (lv_at hl 1 rfl) ?_
    refine lv_aload_n hx hb d_M_isThere_5 rfl (lv_at hl 0 rfl) ?_
    refine va_get (D := D) (ci := 3) (v := .int (g 1)) (C := R_M) (T := F_M) (N := 16) hx hb hts (fun w h => kS1 w (i_M w h)) hown hK hP 10 gw_10 rfl 1 (by decide) (hts _ (kS1 _ m_M_45)) (fun _ h9 => h9) rfl d_M_isThere_6 ?_
    refine lv_icmp_ge (tgt := 25) hx hb d_M_isThere_9 (by decide) (fun c_9 => ?_) (fun c_9 => ?_)
    · refine lv_iconst (v := 0) hx hb d_M_isThere_25 (by decide) ?_
      have hv : mI g a x = 0 := by simp [mI, c_1, c_9]
      exact W.zret (v := 0) hx hb hr rfl (fun t ht hW => ⟨by rw [hv], ht⟩) (fun q hq => by cases hq) d_M_isThere_26
    · refine lv_aload_n hx hb d_M_isThere_12 rfl (lv_at hl 0 rfl) ?_
      refine va_get (D := D) (ci := 3) (v := .ref (ad 11)) (C := R_M) (T := F_M) (N := 16) hx hb hts (fun w h => kS1 w (i_M w h)) hown hK hP 10 gw_10 rfl 2 (by decide) (hts _ (kS1 _ m_M_7)) (fun _ h9 => h9) rfl d_M_isThere_13 ?_
      refine lv_iload_n hx hb d_M_isThere_16 rfl (lv_at hl 1 rfl) ?_
      refine va_zald (f := a 2) hx hb hK hP 11 1 gw_11 rfl (kinM hg1 hn3 c_1 c_9) d_M_isThere_17 ?_
      refine lv_if_eq (tgt := 25) hx hb d_M_isThere_18 (by decide) (fun c_18 => ?_) (fun c_18 => ?_)
      · refine lv_iconst (v := 0) hx hb d_M_isThere_25 (by decide) ?_
        have hv : mI g a x = 0 := by simp [mI, c_1, c_9, c_18]
        exact W.zret (v := 0) hx hb hr rfl (fun t ht hW => ⟨by rw [hv], ht⟩) (fun q hq => by cases hq) d_M_isThere_26
      · refine lv_iconst (v := 1) hx hb d_M_isThere_21 (by decide) ?_
        refine lv_goto (tgt := 26) hx hb d_M_isThere_22 (by decide) ?_
        have hv : mI g a x = 1 := by simp [mI, c_1, c_9, c_18]
        exact W.zret (v := 1) hx hb hr rfl (fun t ht hW => ⟨by rw [hv], ht⟩) (fun q hq => by cases hq) d_M_isThere_26
set_option maxHeartbeats 4000000 in
set_option maxRecDepth 100000 in
/-- isOrNone(x) -/
theorem c_M_isOrNone (l : Launch) (D : va_G) (ty : Nat → ClassId) (ad : Nat → Nat) (sz : Nat) (n : Nat) (f : Nat → Int32) (th : Nat → Bool) (rt qu : Nat → Int32) (b w : SR) (T : Nat → TH) (g : Nat → Int32) (a : Nat → Nat → Int32) (o : Nat → Int64) (hg1 : g 1 = nI n) (hn3 : n ≤ 300) (x : Int32) : Met l y_M_isOrNone w_M_isOrNone ({ frames := 1, cells := 0, slots := 0, locals := 21 }) (va_Pc [.ref (ad 10), .int x] (kP D kCl (kTy ty) (gW n ty ad f th rt qu b w T g a o) sz)) (kQr (some (.int (mO g a x)))) 0 0 (fun _ => False) := by
  refine Met.ofW (cc := b_M_isOrNone) (maxL := 2) (ret := (some .boolean)) (by decide) rfl ?_
  intro p e s m args below meth cd s₁ B hml hv
  obtain ⟨rfl, hsz, hP, hK, hD0⟩ := hv
  have hx := B.exec
  have hb := B.bytes
  have hr := B.returns
  have hts := atoms_spec (ws := w_M_isOrNone) B.pre
  have hown : s.vm.findClass R_M = some m.cls := findClass_of_methodNamed B.named
  have hlocks := B.notSynchronized
  subst hsz
  have hD := hD0
  have hl := lv_entry ([.ref (ad 10), .int x]) (n := 2) (Nat.le_of_ble_eq_true rfl)
  rw [lg_entry_eq]
  generalize (lg_sl ([.ref (ad 10), .int x]) ++ List.replicate (2 - (lg_sl ([.ref (ad 10), .int x])).length) Slot.unset).toArray = ls at hl ⊢
  have hl : lv_has ls 2 [(0, .ref (ad 10)), (1, .int x)] := hl
  refine lv_iload_n hx hb d_M_isOrNone_0 rfl (lv_at hl 1 rfl) ?_
  refine lv_iconst (v := (-1)) hx hb d_M_isOrNone_1 (by decide) ?_
  refine lv_icmp_eq (tgt := 13) hx hb d_M_isOrNone_2 (by decide) (fun c_2 => ?_) (fun c_2 => ?_)
  · refine lv_iconst (v := 1) hx hb d_M_isOrNone_13 (by decide) ?_
    refine lv_goto (tgt := 18) hx hb d_M_isOrNone_14 (by decide) ?_
    have hv : mO g a x = 1 := by simp [mO, c_2]
    exact W.zret (v := 1) hx hb hr rfl (fun t ht hW => ⟨by rw [hv], ht⟩) (fun q hq => by cases hq) d_M_isOrNone_18
  · refine lv_aload_n hx hb d_M_isOrNone_5 rfl (lv_at hl 0 rfl) ?_
    refine lv_iload_n hx hb d_M_isOrNone_6 rfl (lv_at hl 1 rfl) ?_
    refine kc_R (va_runV (As := [.int x]) (rest := []) ⟨hx, hb, hml, hown, hts⟩ (c_M_isThere l D ty ad _ n f th rt qu b w T g a o hg1 hn3 x) (cwV 1 hts (kGV kS1 m_M_48 m_im_M_isThere m_sel_M_isThere m_ini_M m_code_M_isThere) rfl rfl rfl (by decide +kernel) ⟨Nat.le_of_ble_eq_true rfl, Nat.le_of_ble_eq_true rfl⟩) ⟨kP_blind, va_recv hK hP (ci := 3) (q0 := 10) rfl gw_10, fun U hU hW => ⟨rfl, kP_at hK hP hD U hU hW⟩⟩ rfl rfl hl.1 rfl (lv_room (Nat.le_of_ble_eq_true rfl)) d_M_isOrNone_7 ⟨Nat.le_of_ble_eq_true rfl, Nat.le_of_ble_eq_true rfl⟩) ?_
    refine lv_if_eq (tgt := 17) hx hb d_M_isOrNone_10 (by decide) (fun c_10 => ?_) (fun c_10 => ?_)
    · refine lv_iconst (v := 0) hx hb d_M_isOrNone_17 (by decide) ?_
      have hv : mO g a x = 0 := by simp [mO, c_2, c_10]
      exact W.zret (v := 0) hx hb hr rfl (fun t ht hW => ⟨by rw [hv], ht⟩) (fun q hq => by cases hq) d_M_isOrNone_18
    · refine lv_iconst (v := 1) hx hb d_M_isOrNone_13 (by decide) ?_
      refine lv_goto (tgt := 18) hx hb d_M_isOrNone_14 (by decide) ?_
      have hv : mO g a x = 1 := by simp [mO, c_2, c_10]
      exact W.zret (v := 1) hx hb hr rfl (fun t ht hW => ⟨by rw [hv], ht⟩) (fun q hq => by cases hq) d_M_isOrNone_18
set_option maxHeartbeats 4000000 in
set_option maxRecDepth 100000 in
/-- isField(x, y) -/
theorem c_M_isField (l : Launch) (D : va_G) (ty : Nat → ClassId) (ad : Nat → Nat) (sz : Nat) (n : Nat) (f : Nat → Int32) (th : Nat → Bool) (rt qu : Nat → Int32) (b w : SR) (T : Nat → TH) (g : Nat → Int32) (a : Nat → Nat → Int32) (o : Nat → Int64) (hg1 : g 1 = nI n) (hn3 : n ≤ 300) (x y : Int32) : Met l y_M_isField w_M_isField ({ frames := 1, cells := 0, slots := 0, locals := 21 }) (va_Pc [.ref (ad 10), .int x, .int y] (kP D kCl (kTy ty) (gW n ty ad f th rt qu b w T g a o) sz)) (kQr (some (.int (mF g a x y)))) 0 0 (fun _ => False) := by
  refine Met.ofW (cc := b_M_isField) (maxL := 3) (ret := (some .boolean)) (by decide) rfl ?_
  intro p e s m args below meth cd s₁ B hml hv
  obtain ⟨rfl, hsz, hP, hK, hD0⟩ := hv
  have hx := B.exec
  have hb := B.bytes
  have hr := B.returns
  have hts := atoms_spec (ws := w_M_isField) B.pre
  have hown : s.vm.findClass R_M = some m.cls := findClass_of_methodNamed B.named
  have hlocks := B.notSynchronized
  subst hsz
  have hD := hD0
  have hl := lv_entry ([.ref (ad 10), .int x, .int y]) (n := 3) (Nat.le_of_ble_eq_true rfl)
  rw [lg_entry_eq]
  generalize (lg_sl ([.ref (ad 10), .int x, .int y]) ++ List.replicate (3 - (lg_sl ([.ref (ad 10), .int x, .int y])).length) Slot.unset).toArray = ls at hl ⊢
  have hl : lv_has ls 3 [(0, .ref (ad 10)), (1, .int x), (2, .int y)] := hl
  refine lv_aload_n hx hb d_M_isField_0 rfl (lv_at hl 0 rfl) ?_
  refine lv_iload_n hx hb d_M_isField_1 rfl (lv_at hl 1 rfl) ?_
  refine kc_R (va_runV (As := [.int x]) (rest := []) ⟨hx, hb, hml, hown, hts⟩ (c_M_isThere l D ty ad _ n f th rt qu b w T g a o hg1 hn3 x) (cwV 1 hts (kGV kS1 m_M_48 m_im_M_isThere m_sel_M_isThere m_ini_M m_code_M_isThere) rfl rfl rfl (by decide +kernel) ⟨Nat.le_of_ble_eq_true rfl, Nat.le_of_ble_eq_true rfl⟩) ⟨kP_blind, va_recv hK hP (ci := 3) (q0 := 10) rfl gw_10, fun U hU hW => ⟨rfl, kP_at hK hP hD U hU hW⟩⟩ rfl rfl hl.1 rfl (lv_room (Nat.le_of_ble_eq_true rfl)) d_M_isField_2 ⟨Nat.le_of_ble_eq_true rfl, Nat.le_of_ble_eq_true rfl⟩) ?_
  refine lv_if_eq (tgt := 26) hx hb d_M_isField_5 (by decide) (fun c_5 => ?_) (fun c_5 => ?_)
  · refine lv_iconst (v := 0) hx hb d_M_isField_26 (by decide) ?_
    have hv : mF g a x y = 0 := by simp [mF, c_5]
    exact W.zret (v := 0) hx hb hr rfl (fun t ht hW => ⟨by rw [hv], ht⟩) (fun q hq => by cases hq) d_M_isField_27
  · refine lv_iload_n hx hb d_M_isField_8 rfl (lv_at hl 2 rfl) ?_
    refine lv_if_lt (tgt := 26) hx hb d_M_isField_9 (by decide) (fun c_9 => ?_) (fun c_9 => ?_)
    · refine lv_iconst (v := 0) hx hb d_M_isField_26 (by decide) ?_
      have hv : mF g a x y = 0 := by simp [mF, c_5, c_9]
      exact W.zret (v := 0) hx hb hr rfl (fun t ht hW => ⟨by rw [hv], ht⟩) (fun q hq => by cases hq) d_M_isField_27
    · refine lv_iload_n hx hb d_M_isField_12 rfl (lv_at hl 2 rfl) ?_
      refine lv_aload_n hx hb d_M_isField_13 rfl (lv_at hl 0 rfl) ?_
      refine va_get (D := D) (ci := 3) (v := .ref (ad 13)) (C := R_M) (T := F_M) (N := 16) hx hb hts (fun w h => kS1 w (i_M w h)) hown hK hP 10 gw_10 rfl 4 (by decide) (hts _ (kS1 _ m_M_17)) (fun _ h9 => h9) rfl d_M_isField_14 ?_
      refine lv_iload_n hx hb d_M_isField_17 rfl (lv_at hl 1 rfl) ?_
      refine va_iald (f := a 4) hx hb hK hP 13 0 gw_13 rfl (mI_in hg1 hn3 c_5) d_M_isField_18 ?_
      refine lv_icmp_ge (tgt := 26) hx hb d_M_isField_19 (by decide) (fun c_19 => ?_) (fun c_19 => ?_)
      · refine lv_iconst (v := 0) hx hb d_M_isField_26 (by decide) ?_
        have hv : mF g a x y = 0 := by simp [mF, c_5, c_9, c_19]
        exact W.zret (v := 0) hx hb hr rfl (fun t ht hW => ⟨by rw [hv], ht⟩) (fun q hq => by cases hq) d_M_isField_27
      · refine lv_iconst (v := 1) hx hb d_M_isField_22 (by decide) ?_
        refine lv_goto (tgt := 27) hx hb d_M_isField_23 (by decide) ?_
        have hv : mF g a x y = 1 := by simp [mF, c_5, c_9, c_19]
        exact W.zret (v := 1) hx hb hr rfl (fun t ht hW => ⟨by rw [hv], ht⟩) (fun q hq => by cases hq) d_M_isField_27
set_option maxHeartbeats 4000000 in
set_option maxRecDepth 100000 in
/-- goes(one, two) -/
theorem c_M_goes (l : Launch) (D : va_G) (ty : Nat → ClassId) (ad : Nat → Nat) (sz : Nat) (n : Nat) (f : Nat → Int32) (th : Nat → Bool) (rt qu : Nat → Int32) (b w : SR) (T : Nat → TH) (g : Nat → Int32) (a : Nat → Nat → Int32) (o : Nat → Int64) (p1 p2 : Int32) : Met l y_M_goes w_M_goes ({ frames := 0, cells := 0, slots := 0, locals := 0 }) (va_Pc [.ref (ad 10), .int p1, .int p2] (kP D kCl (kTy ty) (gW n ty ad f th rt qu b w T g a o) sz)) (va_Qi (fun (r9 : Int32) (u9 : va_W) => r9 = (mG p1 p2) ∧ u9 = (gW n ty ad f th rt qu b w T (upd g 0 (mT p1 p2)) a o)) (kB D kCl (kTy ty) (va_A (gW n ty ad f th rt qu b w T g a o) sz)) (va_A (gW n ty ad f th rt qu b w T g a o) sz)) 0 0 (va_A (gW n ty ad f th rt qu b w T g a o) sz) := by
  refine Met.ofW (cc := b_M_goes) (maxL := 3) (ret := (some .boolean)) (by decide) rfl ?_
  intro p e s m args below meth cd s₁ B hml hv
  obtain ⟨rfl, hsz, hP, hK, hD0⟩ := hv
  have hx := B.exec
  have hb := B.bytes
  have hr := B.returns
  have hts := atoms_spec (ws := w_M_goes) B.pre
  have hown : s.vm.findClass R_M = some m.cls := findClass_of_methodNamed B.named
  have hlocks := B.notSynchronized
  subst hsz
  have hD := hD0.self (sz := s.heap.size)
  generalize hAe : va_A (gW n ty ad f th rt qu b w T g a o) s.heap.size = A at hD ⊢
  have hA : ∀ q : Nat, s.heap.size ≤ q → A q := fun q h => by rw [← hAe]; exact Or.inr h
  have hS : va_S A s.heap s.heap [] := va_S.rf
  have hl := lv_entry ([.ref (ad 10), .int p1, .int p2]) (n := 3) (Nat.le_of_ble_eq_true rfl)
  rw [lg_entry_eq]
  generalize (lg_sl ([.ref (ad 10), .int p1, .int p2]) ++ List.replicate (3 - (lg_sl ([.ref (ad 10), .int p1, .int p2])).length) Slot.unset).toArray = ls at hl ⊢
  have hl : lv_has ls 3 [(0, .ref (ad 10)), (1, .int p1), (2, .int p2)] := hl
  have J1 : ∀ (Q : State → Prop), W p l e (headSpec w_M_goes ({ frames := 0, cells := 0, slots := 0, locals := 0 })).room s m ([.ref (ad 10), .int p1, .int p2] : List Value).toArray below meth cd s.heap [] 0 0 Q (F0 m 18 ls [.int (mT p1 p2), .ref (ad 10)]) → W p l e (headSpec w_M_goes ({ frames := 0, cells := 0, slots := 0, locals := 0 })).room s m ([.ref (ad 10), .int p1, .int p2] : List Value).toArray below meth cd s.heap [] 0 0 Q (F0 m 0 ls []) := by
    intro Q kx
    refine lv_aload_n hx hb d_M_goes_0 rfl (lv_at hl 0 rfl) ?_
    refine lv_iload_n hx hb d_M_goes_1 rfl (lv_at hl 1 rfl) ?_
    refine lv_if_ne (tgt := 9) hx hb d_M_goes_2 (by decide) (fun c_2 => ?_) (fun c_2 => ?_)
    · refine lv_iload_n hx hb d_M_goes_9 rfl (lv_at hl 2 rfl) ?_
      refine lv_if_ne (tgt := 17) hx hb d_M_goes_10 (by decide) (fun c_10 => ?_) (fun c_10 => ?_)
      · refine lv_iconst (v := 0) hx hb d_M_goes_17 (by decide) ?_
        have hj : mT p1 p2 = 0 := by simp [mT, c_2, c_10]
        rw [hj] at kx
        exact kx
      · refine lv_iconst (v := 2) hx hb d_M_goes_13 (by decide) ?_
        refine lv_goto (tgt := 18) hx hb d_M_goes_14 (by decide) ?_
        have hj : mT p1 p2 = 2 := by simp [mT, c_2, c_10]
        rw [hj] at kx
        exact kx
    · refine lv_iconst (v := 1) hx hb d_M_goes_5 (by decide) ?_
      refine lv_goto (tgt := 18) hx hb d_M_goes_6 (by decide) ?_
      have hj : mT p1 p2 = 1 := by simp [mT, c_2]
      rw [hj] at kx
      exact kx
  refine J1 _ ?_
  refine va_put (D := D) (ci := 3) (v := .int (mT p1 p2)) (ty := .int) (C := R_M) (T := F_M) (N := 16) hx hb hts (fun w h => kS1 w (i_M w h)) tt_M tt_M_ok n_M hown hK hP hD hS 10 gw_10 rfl 0 (by decide) (hts _ (kS1 _ m_M_41)) (fun _ h9 => h9) rfl (by decide +kernel) rfl rfl (Nat.le_of_ble_eq_true rfl) d_M_goes_18 (fun H locs hP hD hS => ?_)
  have hP := kw_P (gw_sM0 (v := mT p1 p2)) hP
  have hD := kw_D (gw_sM0 (v := mT p1 p2)) hD
  refine lv_aload_n hx hb d_M_goes_21 rfl (lv_at hl 0 rfl) ?_
  refine va_get (D := D) (ci := 3) (v := .int (mT p1 p2)) (C := R_M) (T := F_M) (N := 16) hx hb hts (fun w h => kS1 w (i_M w h)) hown hK hP 10 gw_10 rfl 0 (by decide) (hts _ (kS1 _ m_M_41)) (fun _ h9 => h9) rfl d_M_goes_22 ?_
  refine lv_if_ne (tgt := 32) hx hb d_M_goes_25 (by decide) (fun c_25 => ?_) (fun c_25 => ?_)
  · refine lv_iconst (v := 0) hx hb d_M_goes_32 (by decide) ?_
    have hu : (gW n ty ad f th rt qu b w T (upd g 0 (mT p1 p2)) a o : va_W) = gW n ty ad f th rt qu b w T (upd g 0 (mT p1 p2)) a o := by rfl
    have hv : (0 : Int32) = mG p1 p2 := by rw [mG_eq, if_neg c_25]
    exact W.zret (v := 0) hx hb hr rfl (fun t ht hW => ⟨⟨_, _, rfl, ⟨hv, hu⟩, by rw [ht]; exact hP, va_K.moved hW.alike hK, hD⟩, hS.F ht⟩) hS.2.2 d_M_goes_33
  · refine lv_iconst (v := 1) hx hb d_M_goes_28 (by decide) ?_
    refine lv_goto (tgt := 33) hx hb d_M_goes_29 (by decide) ?_
    have hu : (gW n ty ad f th rt qu b w T (upd g 0 (mT p1 p2)) a o : va_W) = gW n ty ad f th rt qu b w T (upd g 0 (mT p1 p2)) a o := by rfl
    have hv : (1 : Int32) = mG p1 p2 := by rw [mG_eq, if_pos c_25]
    exact W.zret (v := 1) hx hb hr rfl (fun t ht hW => ⟨⟨_, _, rfl, ⟨hv, hu⟩, by rw [ht]; exact hP, va_K.moved hW.alike hK, hD⟩, hS.F ht⟩) hS.2.2 d_M_goes_33
set_option maxHeartbeats 4000000 in
set_option maxRecDepth 100000 in
/-- make(kd, z): refused -/
theorem c_M_make_n (l : Launch) (D : va_G) (ty : Nat → ClassId) (ad : Nat → Nat) (sz : Nat) (n : Nat) (f : Nat → Int32) (th : Nat → Bool) (rt qu : Nat → Int32) (b w : SR) (T : Nat → TH) (g : Nat → Int32) (a : Nat → Nat → Int32) (o : Nat → Int64) (hg1 : g 1 = nI n) (hn3 : n ≤ 300) (kd z : Int32) (hc : mG (mkP kd z) (mkQ g) = 0) : Met l y_M_make w_M_make ({ frames := 1, cells := 0, slots := 0, locals := 22 }) (va_Pc [.ref (ad 10), .int kd, .int z] (kP D kCl (kTy ty) (gW n ty ad f th rt qu b w T g a o) sz)) (va_Qi (fun (r9 : Int32) (u9 : va_W) => r9 = 0 ∧ u9 = (gW n ty ad f th rt qu b w T (upd g 0 (mT (mkP kd z) (mkQ g))) a o)) (kB D kCl (kTy ty) (va_A (gW n ty ad f th rt qu b w T g a o) sz)) (va_A (gW n ty ad f th rt qu b w T g a o) sz)) 0 0 (va_A (gW n ty ad f th rt qu b w T g a o) sz) := by
  refine Met.ofW (cc := b_M_make) (maxL := 3) (ret := (some .int)) (by decide) rfl ?_
  intro p e s m args below meth cd s₁ B hml hv
  obtain ⟨rfl, hsz, hP, hK, hD0⟩ := hv
  have hx := B.exec
  have hb := B.bytes
  have hr := B.returns
  have hts := atoms_spec (ws := w_M_make) B.pre
  have hown : s.vm.findClass R_M = some m.cls := findClass_of_methodNamed B.named
  have hlocks := B.notSynchronized
  subst hsz
  have hD := hD0.self (sz := s.heap.size)
  generalize hAe : va_A (gW n ty ad f th rt qu b w T g a o) s.heap.size = A at hD ⊢
  have hA : ∀ q : Nat, s.heap.size ≤ q → A q := fun q h => by rw [← hAe]; exact Or.inr h
  have hS : va_S A s.heap s.heap [] := va_S.rf
  have hl := lv_entry ([.ref (ad 10), .int kd, .int z]) (n := 3) (Nat.le_of_ble_eq_true rfl)
  rw [lg_entry_eq]
  generalize (lg_sl ([.ref (ad 10), .int kd, .int z]) ++ List.replicate (3 - (lg_sl ([.ref (ad 10), .int kd, .int z])).length) Slot.unset).toArray = ls at hl ⊢
  have hl : lv_has ls 3 [(0, .ref (ad 10)), (1, .int kd), (2, .int z)] := hl
  refine lv_aload_n hx hb d_M_make_0 rfl (lv_at hl 0 rfl) ?_
  have J1 : ∀ (Q : State → Prop), W p l e (headSpec w_M_make ({ frames := 1, cells := 0, slots := 0, locals := 22 })).room s m ([.ref (ad 10), .int kd, .int z] : List Value).toArray below meth cd s.heap [] 0 0 Q (F0 m 34 ls [.int (mkP kd z), .ref (ad 10)]) → W p l e (headSpec w_M_make ({ frames := 1, cells := 0, slots := 0, locals := 22 })).room s m ([.ref (ad 10), .int kd, .int z] : List Value).toArray below meth cd s.heap [] 0 0 Q (F0 m 1 ls [.ref (ad 10)]) := by
    intro Q kx
    refine lv_iload_n hx hb d_M_make_1 rfl (lv_at hl 1 rfl) ?_
    refine lv_if_lt (tgt := 33) hx hb d_M_make_2 (by decide) (fun c_2 => ?_) (fun c_2 => ?_)
    · refine lv_iconst (v := 0) hx hb d_M_make_33 (by decide) ?_
      have hj : mkP kd z = 0 := by simp [mkP, c_2]
      rw [hj] at kx
      exact kx
    · refine lv_iload_n hx hb d_M_make_5 rfl (lv_at hl 1 rfl) ?_
      refine lv_iconst (v := 2) hx hb d_M_make_6 (by decide) ?_
      refine lv_icmp_gt (tgt := 33) hx hb d_M_make_7 (by decide) (fun c_7 => ?_) (fun c_7 => ?_)
      · refine lv_iconst (v := 0) hx hb d_M_make_33 (by decide) ?_
        have hj : mkP kd z = 0 := by simp [mkP, c_2, c_7]
        rw [hj] at kx
        exact kx
      · refine lv_iload_n hx hb d_M_make_10 rfl (lv_at hl 2 rfl) ?_
        refine lv_if_lt (tgt := 33) hx hb d_M_make_11 (by decide) (fun c_11 => ?_) (fun c_11 => ?_)
        · refine lv_iconst (v := 0) hx hb d_M_make_33 (by decide) ?_
          have hj : mkP kd z = 0 := by simp [mkP, c_2, c_7, c_11]
          rw [hj] at kx
          exact kx
        · refine lv_iload_n hx hb d_M_make_14 rfl (lv_at hl 2 rfl) ?_
          refine lv_bipush (v := 12) hx hb d_M_make_15 (by decide) ?_
          refine lv_icmp_gt (tgt := 33) hx hb d_M_make_17 (by decide) (fun c_17 => ?_) (fun c_17 => ?_)
          · refine lv_iconst (v := 0) hx hb d_M_make_33 (by decide) ?_
            have hj : mkP kd z = 0 := by simp [mkP, c_2, c_7, c_11, c_17]
            rw [hj] at kx
            exact kx
          · refine lv_iload_n hx hb d_M_make_20 rfl (lv_at hl 1 rfl) ?_
            refine lv_iconst (v := 1) hx hb d_M_make_21 (by decide) ?_
            refine lv_icmp_ne (tgt := 29) hx hb d_M_make_22 (by decide) (fun c_22 => ?_) (fun c_22 => ?_)
            · refine lv_iconst (v := 1) hx hb d_M_make_29 (by decide) ?_
              refine lv_goto (tgt := 34) hx hb d_M_make_30 (by decide) ?_
              have hj : mkP kd z = 1 := by simp [mkP, c_2, c_7, c_11, c_17, c_22]
              rw [hj] at kx
              exact kx
            · refine lv_iload_n hx hb d_M_make_25 rfl (lv_at hl 2 rfl) ?_
              refine lv_if_le (tgt := 33) hx hb d_M_make_26 (by decide) (fun c_26 => ?_) (fun c_26 => ?_)
              · refine lv_iconst (v := 0) hx hb d_M_make_33 (by decide) ?_
                have hj : mkP kd z = 0 := by simp [mkP, c_2, c_7, c_11, c_17, c_22, c_26]
                rw [hj] at kx
                exact kx
              · refine lv_iconst (v := 1) hx hb d_M_make_29 (by decide) ?_
                refine lv_goto (tgt := 34) hx hb d_M_make_30 (by decide) ?_
                have hj : mkP kd z = 1 := by simp [mkP, c_2, c_7, c_11, c_17, c_22, c_26]
                rw [hj] at kx
                exact kx
  refine J1 _ ?_
  have J2 : ∀ (Q : State → Prop), W p l e (headSpec w_M_make ({ frames := 1, cells := 0, slots := 0, locals := 22 })).room s m ([.ref (ad 10), .int kd, .int z] : List Value).toArray below meth cd s.heap [] 0 0 Q (F0 m 49 ls [.int (mkQ g), .int (mkP kd z), .ref (ad 10)]) → W p l e (headSpec w_M_make ({ frames := 1, cells := 0, slots := 0, locals := 22 })).room s m ([.ref (ad 10), .int kd, .int z] : List Value).toArray below meth cd s.heap [] 0 0 Q (F0 m 34 ls [.int (mkP kd z), .ref (ad 10)]) := by
    intro Q kx
    refine lv_aload_n hx hb d_M_make_34 rfl (lv_at hl 0 rfl) ?_
    refine va_get (D := D) (ci := 3) (v := .int (g 1)) (C := R_M) (T := F_M) (N := 16) hx hb hts (fun w h => kS1 w (i_M w h)) hown hK hP 10 gw_10 rfl 1 (by decide) (hts _ (kS1 _ m_M_45)) (fun _ h9 => h9) rfl d_M_make_35 ?_
    refine lv_sipush (v := 300) hx hb d_M_make_38 (by decide) ?_
    refine lv_icmp_ge (tgt := 48) hx hb d_M_make_41 (by decide) (fun c_41 => ?_) (fun c_41 => ?_)
    · refine lv_iconst (v := 0) hx hb d_M_make_48 (by decide) ?_
      have hj : mkQ g = 0 := by simp [mkQ, c_41]
      rw [hj] at kx
      exact kx
    · refine lv_iconst (v := 1) hx hb d_M_make_44 (by decide) ?_
      refine lv_goto (tgt := 49) hx hb d_M_make_45 (by decide) ?_
      have hj : mkQ g = 1 := by simp [mkQ, c_41]
      rw [hj] at kx
      exact kx
  refine J2 _ ?_
  refine kc_i (va_runV (As := [.int (mkP kd z), .int (mkQ g)]) (rest := []) ⟨hx, hb, hml, hown, hts⟩ (c_M_goes l D ty ad _ n f th rt qu b w T g a o (mkP kd z) (mkQ g)) (cwV 2 hts (kGV kS1 m_M_52 m_im_M_goes m_sel_M_goes m_ini_M m_code_M_goes) rfl rfl rfl (by decide +kernel) ⟨Nat.le_of_ble_eq_true rfl, Nat.le_of_ble_eq_true rfl⟩) ⟨kP_blind, va_recv hK hP (ci := 3) (q0 := 10) rfl gw_10, fun U hU hW => ⟨rfl, kP_at hK hP hD U hU hW⟩⟩ rfl rfl hl.1 rfl (lv_room (Nat.le_of_ble_eq_true rfl)) d_M_make_49 ⟨Nat.le_of_ble_eq_true rfl, Nat.le_of_ble_eq_true rfl⟩) hD hS hA (fun r u H locs hu hP hD hS hz => ?_)
  obtain ⟨rfl, rfl⟩ := hu
  refine lv_if_ne (tgt := 57) hx hb d_M_make_52 (by decide) (fun c_52 => absurd hc c_52) (fun c_52 => ?_)
  refine lv_iconst (v := 0) hx hb d_M_make_55 (by decide) ?_
  have hu : (gW n ty ad f th rt qu b w T (upd g 0 (mT (mkP kd z) (mkQ g))) a o : va_W) = gW n ty ad f th rt qu b w T (upd g 0 (mT (mkP kd z) (mkQ g))) a o := by simp [c_52]
  have hv : (0 : Int32) = 0 := by simp [c_52]
  exact W.iret (v := 0) hx hb hr (fun t ht hW => ⟨⟨_, _, rfl, ⟨hv, hu⟩, by rw [ht]; exact hP, va_K.moved hW.alike hK, hD⟩, hS.F ht⟩) hS.2.2 d_M_make_56
set_option maxHeartbeats 4000000 in
set_option maxRecDepth 100000 in
/-- make(kd, z): it goes -/
theorem c_M_make_y (l : Launch) (D : va_G) (ty : Nat → ClassId) (ad : Nat → Nat) (sz : Nat) (n : Nat) (f : Nat → Int32) (th : Nat → Bool) (rt qu : Nat → Int32) (b w : SR) (T : Nat → TH) (g : Nat → Int32) (a : Nat → Nat → Int32) (o : Nat → Int64) (hg1 : g 1 = nI n) (hn3 : n ≤ 300) (kd z : Int32) (hc : ¬ mG (mkP kd z) (mkQ g) = 0) : Met l y_M_make w_M_make ({ frames := 1, cells := 0, slots := 0, locals := 22 }) (va_Pc [.ref (ad 10), .int kd, .int z] (kP D kCl (kTy ty) (gW n ty ad f th rt qu b w T g a o) sz)) (va_Qi (fun (r9 : Int32) (u9 : va_W) => r9 = (g 1 + 1 - 1) ∧ u9 = (gW n ty ad f th rt qu b w T (upd (upd g 0 (mT (mkP kd z) (mkQ g))) 1 (g 1 + 1)) (va_up (va_up (va_up a 2 (upd (a 2) n 1)) 3 (upd (a 3) n kd)) 4 (upd (a 4) n z)) o)) (kB D kCl (kTy ty) (va_A (gW n ty ad f th rt qu b w T g a o) sz)) (va_A (gW n ty ad f th rt qu b w T g a o) sz)) 0 0 (va_A (gW n ty ad f th rt qu b w T g a o) sz) := by
  refine Met.ofW (cc := b_M_make) (maxL := 3) (ret := (some .int)) (by decide) rfl ?_
  intro p e s m args below meth cd s₁ B hml hv
  obtain ⟨rfl, hsz, hP, hK, hD0⟩ := hv
  have hx := B.exec
  have hb := B.bytes
  have hr := B.returns
  have hts := atoms_spec (ws := w_M_make) B.pre
  have hown : s.vm.findClass R_M = some m.cls := findClass_of_methodNamed B.named
  have hlocks := B.notSynchronized
  subst hsz
  have hD := hD0.self (sz := s.heap.size)
  generalize hAe : va_A (gW n ty ad f th rt qu b w T g a o) s.heap.size = A at hD ⊢
  have hA : ∀ q : Nat, s.heap.size ≤ q → A q := fun q h => by rw [← hAe]; exact Or.inr h
  have hS : va_S A s.heap s.heap [] := va_S.rf
  have hl := lv_entry ([.ref (ad 10), .int kd, .int z]) (n := 3) (Nat.le_of_ble_eq_true rfl)
  rw [lg_entry_eq]
  generalize (lg_sl ([.ref (ad 10), .int kd, .int z]) ++ List.replicate (3 - (lg_sl ([.ref (ad 10), .int kd, .int z])).length) Slot.unset).toArray = ls at hl ⊢
  have hl : lv_has ls 3 [(0, .ref (ad 10)), (1, .int kd), (2, .int z)] := hl
  refine lv_aload_n hx hb d_M_make_0 rfl (lv_at hl 0 rfl) ?_
  have J1 : ∀ (Q : State → Prop), W p l e (headSpec w_M_make ({ frames := 1, cells := 0, slots := 0, locals := 22 })).room s m ([.ref (ad 10), .int kd, .int z] : List Value).toArray below meth cd s.heap [] 0 0 Q (F0 m 34 ls [.int (mkP kd z), .ref (ad 10)]) → W p l e (headSpec w_M_make ({ frames := 1, cells := 0, slots := 0, locals := 22 })).room s m ([.ref (ad 10), .int kd, .int z] : List Value).toArray below meth cd s.heap [] 0 0 Q (F0 m 1 ls [.ref (ad 10)]) := by
    intro Q kx
    refine lv_iload_n hx hb d_M_make_1 rfl (lv_at hl 1 rfl) ?_
    refine lv_if_lt (tgt := 33) hx hb d_M_make_2 (by decide) (fun c_2 => ?_) (fun c_2 => ?_)
    · refine lv_iconst (v := 0) hx hb d_M_make_33 (by decide) ?_
      have hj : mkP kd z = 0 := by simp [mkP, c_2]
      rw [hj] at kx
      exact kx
    · refine lv_iload_n hx hb d_M_make_5 rfl (lv_at hl 1 rfl) ?_
      refine lv_iconst (v := 2) hx hb d_M_make_6 (by decide) ?_
      refine lv_icmp_gt (tgt := 33) hx hb d_M_make_7 (by decide) (fun c_7 => ?_) (fun c_7 => ?_)
      · refine lv_iconst (v := 0) hx hb d_M_make_33 (by decide) ?_
        have hj : mkP kd z = 0 := by simp [mkP, c_2, c_7]
        rw [hj] at kx
        exact kx
      · refine lv_iload_n hx hb d_M_make_10 rfl (lv_at hl 2 rfl) ?_
        refine lv_if_lt (tgt := 33) hx hb d_M_make_11 (by decide) (fun c_11 => ?_) (fun c_11 => ?_)
        · refine lv_iconst (v := 0) hx hb d_M_make_33 (by decide) ?_
          have hj : mkP kd z = 0 := by simp [mkP, c_2, c_7, c_11]
          rw [hj] at kx
          exact kx
        · refine lv_iload_n hx hb d_M_make_14 rfl (lv_at hl 2 rfl) ?_
          refine lv_bipush (v := 12) hx hb d_M_make_15 (by decide) ?_
          refine lv_icmp_gt (tgt := 33) hx hb d_M_make_17 (by decide) (fun c_17 => ?_) (fun c_17 => ?_)
          · refine lv_iconst (v := 0) hx hb d_M_make_33 (by decide) ?_
            have hj : mkP kd z = 0 := by simp [mkP, c_2, c_7, c_11, c_17]
            rw [hj] at kx
            exact kx
          · refine lv_iload_n hx hb d_M_make_20 rfl (lv_at hl 1 rfl) ?_
            refine lv_iconst (v := 1) hx hb d_M_make_21 (by decide) ?_
            refine lv_icmp_ne (tgt := 29) hx hb d_M_make_22 (by decide) (fun c_22 => ?_) (fun c_22 => ?_)
            · refine lv_iconst (v := 1) hx hb d_M_make_29 (by decide) ?_
              refine lv_goto (tgt := 34) hx hb d_M_make_30 (by decide) ?_
              have hj : mkP kd z = 1 := by simp [mkP, c_2, c_7, c_11, c_17, c_22]
              rw [hj] at kx
              exact kx
            · refine lv_iload_n hx hb d_M_make_25 rfl (lv_at hl 2 rfl) ?_
              refine lv_if_le (tgt := 33) hx hb d_M_make_26 (by decide) (fun c_26 => ?_) (fun c_26 => ?_)
              · refine lv_iconst (v := 0) hx hb d_M_make_33 (by decide) ?_
                have hj : mkP kd z = 0 := by simp [mkP, c_2, c_7, c_11, c_17, c_22, c_26]
                rw [hj] at kx
                exact kx
              · refine lv_iconst (v := 1) hx hb d_M_make_29 (by decide) ?_
                refine lv_goto (tgt := 34) hx hb d_M_make_30 (by decide) ?_
                have hj : mkP kd z = 1 := by simp [mkP, c_2, c_7, c_11, c_17, c_22, c_26]
                rw [hj] at kx
                exact kx
  refine J1 _ ?_
  have J2 : ∀ (Q : State → Prop), W p l e (headSpec w_M_make ({ frames := 1, cells := 0, slots := 0, locals := 22 })).room s m ([.ref (ad 10), .int kd, .int z] : List Value).toArray below meth cd s.heap [] 0 0 Q (F0 m 49 ls [.int (mkQ g), .int (mkP kd z), .ref (ad 10)]) → W p l e (headSpec w_M_make ({ frames := 1, cells := 0, slots := 0, locals := 22 })).room s m ([.ref (ad 10), .int kd, .int z] : List Value).toArray below meth cd s.heap [] 0 0 Q (F0 m 34 ls [.int (mkP kd z), .ref (ad 10)]) := by
    intro Q kx
    refine lv_aload_n hx hb d_M_make_34 rfl (lv_at hl 0 rfl) ?_
    refine va_get (D := D) (ci := 3) (v := .int (g 1)) (C := R_M) (T := F_M) (N := 16) hx hb hts (fun w h => kS1 w (i_M w h)) hown hK hP 10 gw_10 rfl 1 (by decide) (hts _ (kS1 _ m_M_45)) (fun _ h9 => h9) rfl d_M_make_35 ?_
    refine lv_sipush (v := 300) hx hb d_M_make_38 (by decide) ?_
    refine lv_icmp_ge (tgt := 48) hx hb d_M_make_41 (by decide) (fun c_41 => ?_) (fun c_41 => ?_)
    · refine lv_iconst (v := 0) hx hb d_M_make_48 (by decide) ?_
      have hj : mkQ g = 0 := by simp [mkQ, c_41]
      rw [hj] at kx
      exact kx
    · refine lv_iconst (v := 1) hx hb d_M_make_44 (by decide) ?_
      refine lv_goto (tgt := 49) hx hb d_M_make_45 (by decide) ?_
      have hj : mkQ g = 1 := by simp [mkQ, c_41]
      rw [hj] at kx
      exact kx
  refine J2 _ ?_
  refine kc_i (va_runV (As := [.int (mkP kd z), .int (mkQ g)]) (rest := []) ⟨hx, hb, hml, hown, hts⟩ (c_M_goes l D ty ad _ n f th rt qu b w T g a o (mkP kd z) (mkQ g)) (cwV 2 hts (kGV kS1 m_M_52 m_im_M_goes m_sel_M_goes m_ini_M m_code_M_goes) rfl rfl rfl (by decide +kernel) ⟨Nat.le_of_ble_eq_true rfl, Nat.le_of_ble_eq_true rfl⟩) ⟨kP_blind, va_recv hK hP (ci := 3) (q0 := 10) rfl gw_10, fun U hU hW => ⟨rfl, kP_at hK hP hD U hU hW⟩⟩ rfl rfl hl.1 rfl (lv_room (Nat.le_of_ble_eq_true rfl)) d_M_make_49 ⟨Nat.le_of_ble_eq_true rfl, Nat.le_of_ble_eq_true rfl⟩) hD hS hA (fun r u H locs hu hP hD hS hz => ?_)
  obtain ⟨rfl, rfl⟩ := hu
  refine lv_if_ne (tgt := 57) hx hb d_M_make_52 (by decide) (fun c_52 => ?_) (fun c_52 => absurd c_52 hc)
  refine lv_aload_n hx hb d_M_make_57 rfl (lv_at hl 0 rfl) ?_
  refine va_get (D := D) (ci := 3) (v := .ref (ad 11)) (C := R_M) (T := F_M) (N := 16) hx hb hts (fun w h => kS1 w (i_M w h)) hown hK hP 10 gw_10 rfl 2 (by decide) (hts _ (kS1 _ m_M_7)) (fun _ h9 => h9) rfl d_M_make_58 ?_
  refine lv_aload_n hx hb d_M_make_61 rfl (lv_at hl 0 rfl) ?_
  refine va_get (D := D) (ci := 3) (v := .int (g 1)) (C := R_M) (T := F_M) (N := 16) hx hb hts (fun w h => kS1 w (i_M w h)) hown hK hP 10 gw_10 rfl 1 (by decide) (hts _ (kS1 _ m_M_45)) (fun _ h9 => h9) rfl d_M_make_62 ?_
  refine lv_iconst (v := 1) hx hb d_M_make_65 (by decide) ?_
  refine va_zast (f := a 2) hx hb hK hP hD hS 11 1 gw_11 rfl (by rw [hg1]; exact vp_in_nI (mkQ_lt hg1 hn3 hc) (by omega)) d_M_make_66 (fun H locs hP hD hS => ?_)
  have hP := kw_P (gw_sa2 (r := upd (a 2) ((g 1).toNatClampNeg) (vp_nar .boolean 1))) hP
  have hD := kw_D (gw_sa2 (r := upd (a 2) ((g 1).toNatClampNeg) (vp_nar .boolean 1))) hD
  refine lv_aload_n hx hb d_M_make_67 rfl (lv_at hl 0 rfl) ?_
  refine va_get (D := D) (ci := 3) (v := .ref (ad 12)) (C := R_M) (T := F_M) (N := 16) hx hb hts (fun w h => kS1 w (i_M w h)) hown hK hP 10 gw_10 rfl 3 (by decide) (hts _ (kS1 _ m_M_13)) (fun _ h9 => h9) rfl d_M_make_68 ?_
  refine lv_aload_n hx hb d_M_make_71 rfl (lv_at hl 0 rfl) ?_
  refine va_get (D := D) (ci := 3) (v := .int (g 1)) (C := R_M) (T := F_M) (N := 16) hx hb hts (fun w h => kS1 w (i_M w h)) hown hK hP 10 gw_10 rfl 1 (by decide) (hts _ (kS1 _ m_M_45)) (fun _ h9 => h9) rfl d_M_make_72 ?_
  refine lv_iload_n hx hb d_M_make_75 rfl (lv_at hl 1 rfl) ?_
  refine va_iast (f := a 3) hx hb hK hP hD hS 12 0 gw_12 rfl (by rw [hg1]; exact vp_in_nI (mkQ_lt hg1 hn3 hc) (by omega)) d_M_make_76 (fun H locs hP hD hS => ?_)
  have hP := kw_P (gw_sa3 (r := upd (a 3) ((g 1).toNatClampNeg) kd)) hP
  have hD := kw_D (gw_sa3 (r := upd (a 3) ((g 1).toNatClampNeg) kd)) hD
  refine lv_aload_n hx hb d_M_make_77 rfl (lv_at hl 0 rfl) ?_
  refine va_get (D := D) (ci := 3) (v := .ref (ad 13)) (C := R_M) (T := F_M) (N := 16) hx hb hts (fun w h => kS1 w (i_M w h)) hown hK hP 10 gw_10 rfl 4 (by decide) (hts _ (kS1 _ m_M_17)) (fun _ h9 => h9) rfl d_M_make_78 ?_
  refine lv_aload_n hx hb d_M_make_81 rfl (lv_at hl 0 rfl) ?_
  refine va_get (D := D) (ci := 3) (v := .int (g 1)) (C := R_M) (T := F_M) (N := 16) hx hb hts (fun w h => kS1 w (i_M w h)) hown hK hP 10 gw_10 rfl 1 (by decide) (hts _ (kS1 _ m_M_45)) (fun _ h9 => h9) rfl d_M_make_82 ?_
  refine lv_iload_n hx hb d_M_make_85 rfl (lv_at hl 2 rfl) ?_
  refine va_iast (f := a 4) hx hb hK hP hD hS 13 0 gw_13 rfl (by rw [hg1]; exact vp_in_nI (mkQ_lt hg1 hn3 hc) (by omega)) d_M_make_86 (fun H locs hP hD hS => ?_)
  have hP := kw_P (gw_sa4 (r := upd (a 4) ((g 1).toNatClampNeg) z)) hP
  have hD := kw_D (gw_sa4 (r := upd (a 4) ((g 1).toNatClampNeg) z)) hD
  refine lv_aload_n hx hb d_M_make_87 rfl (lv_at hl 0 rfl) ?_
  refine lv_dup hx hb d_M_make_88 rfl ?_
  refine va_get (D := D) (ci := 3) (v := .int (g 1)) (C := R_M) (T := F_M) (N := 16) hx hb hts (fun w h => kS1 w (i_M w h)) hown hK hP 10 gw_10 rfl 1 (by decide) (hts _ (kS1 _ m_M_45)) (fun _ h9 => h9) rfl d_M_make_89 ?_
  refine lv_iconst (v := 1) hx hb d_M_make_92 (by decide) ?_
  refine lv_iadd hx hb d_M_make_93 ?_
  refine va_put (D := D) (ci := 3) (v := .int ((g 1) + 1)) (ty := .int) (C := R_M) (T := F_M) (N := 16) hx hb hts (fun w h => kS1 w (i_M w h)) tt_M tt_M_ok n_M hown hK hP hD hS 10 gw_10 rfl 1 (by decide) (hts _ (kS1 _ m_M_45)) (fun _ h9 => h9) rfl (by decide +kernel) rfl rfl (Nat.le_of_ble_eq_true rfl) d_M_make_94 (fun H locs hP hD hS => ?_)
  have hP := kw_P (gw_sM1 (v := (g 1) + 1)) hP
  have hD := kw_D (gw_sM1 (v := (g 1) + 1)) hD
  refine lv_aload_n hx hb d_M_make_97 rfl (lv_at hl 0 rfl) ?_
  refine va_get (D := D) (ci := 3) (v := .int ((g 1) + 1)) (C := R_M) (T := F_M) (N := 16) hx hb hts (fun w h => kS1 w (i_M w h)) hown hK hP 10 gw_10 rfl 1 (by decide) (hts _ (kS1 _ m_M_45)) (fun _ h9 => h9) rfl d_M_make_98 ?_
  refine lv_iconst (v := 1) hx hb d_M_make_101 (by decide) ?_
  refine lv_isub hx hb d_M_make_102 ?_
  have hu : (gW n ty ad f th rt qu b w T (upd (upd g 0 (mT (mkP kd z) (mkQ g))) 1 ((g 1) + 1)) (va_up (va_up (va_up a 2 (upd (a 2) ((g 1).toNatClampNeg) (vp_nar .boolean 1))) 3 (upd (a 3) ((g 1).toNatClampNeg) kd)) 4 (upd (a 4) ((g 1).toNatClampNeg) z)) o : va_W) = gW n ty ad f th rt qu b w T (upd (upd g 0 (mT (mkP kd z) (mkQ g))) 1 (g 1 + 1)) (va_up (va_up (va_up a 2 (upd (a 2) n 1)) 3 (upd (a 3) n kd)) 4 (upd (a 4) n z)) o := by simp [hg1, nI_clamp (show n < 2 ^ 31 by omega), kb1, c_52]
  have hv : (((g 1) + 1) - 1 : Int32) = g 1 + 1 - 1 := by simp [hg1, nI_clamp (show n < 2 ^ 31 by omega), kb1, c_52]
  exact W.iret (v := ((g 1) + 1) - 1) hx hb hr (fun t ht hW => ⟨⟨_, _, rfl, ⟨hv, hu⟩, by rw [ht]; exact hP, va_K.moved hW.alike hK, hD⟩, hS.F ht⟩) hS.2.2 d_M_make_103
set_option maxHeartbeats 4000000 in
set_option maxRecDepth 100000 in
/-- set(x, y, u): refused -/
theorem c_M_set_n (l : Launch) (D : va_G) (ty : Nat → ClassId) (ad : Nat → Nat) (sz : Nat) (n : Nat) (f : Nat → Int32) (th : Nat → Bool) (rt qu : Nat → Int32) (b w : SR) (T : Nat → TH) (g : Nat → Int32) (a : Nat → Nat → Int32) (o : Nat → Int64) (hg1 : g 1 = nI n) (hn3 : n ≤ 300) (hL : ∀ k, k < n → ∃ v, v ≤ 12 ∧ a 4 k = nI v) (x y u : Int32) (hc : mG (mA (mF g a x y) (mO g a u)) 1 = 0) : Met l y_M_set w_M_set ({ frames := 2, cells := 0, slots := 0, locals := 43 }) (va_Pc [.ref (ad 10), .int x, .int y, .int u] (kP D kCl (kTy ty) (gW n ty ad f th rt qu b w T g a o) sz)) (va_Qi (fun (r9 : Int32) (u9 : va_W) => r9 = 0 ∧ u9 = (gW n ty ad f th rt qu b w T (upd g 0 (mT (mA (mF g a x y) (mO g a u)) 1)) a o)) (kB D kCl (kTy ty) (va_A (gW n ty ad f th rt qu b w T g a o) sz)) (va_A (gW n ty ad f th rt qu b w T g a o) sz)) 0 0 (va_A (gW n ty ad f th rt qu b w T g a o) sz) := by
  refine Met.ofW (cc := b_M_set) (maxL := 5) (ret := (some .int)) (by decide) rfl ?_
  intro p e s m args below meth cd s₁ B hml hv
  obtain ⟨rfl, hsz, hP, hK, hD0⟩ := hv
  have hx := B.exec
  have hb := B.bytes
  have hr := B.returns
  have hts := atoms_spec (ws := w_M_set) B.pre
  have hown : s.vm.findClass R_M = some m.cls := findClass_of_methodNamed B.named
  have hlocks := B.notSynchronized
  subst hsz
  have hD := hD0.self (sz := s.heap.size)
  generalize hAe : va_A (gW n ty ad f th rt qu b w T g a o) s.heap.size = A at hD ⊢
  have hA : ∀ q : Nat, s.heap.size ≤ q → A q := fun q h => by rw [← hAe]; exact Or.inr h
  have hS : va_S A s.heap s.heap [] := va_S.rf
  have hl := lv_entry ([.ref (ad 10), .int x, .int y, .int u]) (n := 5) (Nat.le_of_ble_eq_true rfl)
  rw [lg_entry_eq]
  generalize (lg_sl ([.ref (ad 10), .int x, .int y, .int u]) ++ List.replicate (5 - (lg_sl ([.ref (ad 10), .int x, .int y, .int u])).length) Slot.unset).toArray = ls at hl ⊢
  have hl : lv_has ls 5 [(0, .ref (ad 10)), (1, .int x), (2, .int y), (3, .int u)] := hl
  refine lv_aload_n hx hb d_M_set_0 rfl (lv_at hl 0 rfl) ?_
  have J1 : ∀ (Q : State → Prop), W p l e (headSpec w_M_set ({ frames := 2, cells := 0, slots := 0, locals := 43 })).room s m ([.ref (ad 10), .int x, .int y, .int u] : List Value).toArray below meth cd s.heap [] 0 0 Q (F0 m 23 ls [.int (mA (mF g a x y) (mO g a u)), .ref (ad 10)]) → W p l e (headSpec w_M_set ({ frames := 2, cells := 0, slots := 0, locals := 43 })).room s m ([.ref (ad 10), .int x, .int y, .int u] : List Value).toArray below meth cd s.heap [] 0 0 Q (F0 m 1 ls [.ref (ad 10)]) := by
    intro Q kx
    refine lv_aload_n hx hb d_M_set_1 rfl (lv_at hl 0 rfl) ?_
    refine lv_iload_n hx hb d_M_set_2 rfl (lv_at hl 1 rfl) ?_
    refine lv_iload_n hx hb d_M_set_3 rfl (lv_at hl 2 rfl) ?_
    refine kc_R (va_runV (As := [.int x, .int y]) (rest := [.ref (ad 10)]) ⟨hx, hb, hml, hown, hts⟩ (c_M_isField l D ty ad _ n f th rt qu b w T g a o hg1 hn3 x y) (cwV 2 hts (kGV kS1 m_M_56 m_im_M_isField m_sel_M_isField m_ini_M m_code_M_isField) rfl rfl rfl (by decide +kernel) ⟨Nat.le_of_ble_eq_true rfl, Nat.le_of_ble_eq_true rfl⟩) ⟨kP_blind, va_recv hK hP (ci := 3) (q0 := 10) rfl gw_10, fun U hU hW => ⟨rfl, kP_at hK hP hD U hU hW⟩⟩ rfl rfl hl.1 rfl (lv_room (Nat.le_of_ble_eq_true rfl)) d_M_set_4 ⟨Nat.le_of_ble_eq_true rfl, Nat.le_of_ble_eq_true rfl⟩) ?_
    refine lv_if_eq (tgt := 22) hx hb d_M_set_7 (by decide) (fun c_7 => ?_) (fun c_7 => ?_)
    · refine lv_iconst (v := 0) hx hb d_M_set_22 (by decide) ?_
      have hj : mA (mF g a x y) (mO g a u) = 0 := by simp [mA, c_7]
      rw [hj] at kx
      exact kx
    · refine lv_aload_n hx hb d_M_set_10 rfl (lv_at hl 0 rfl) ?_
      refine lv_iload_n hx hb d_M_set_11 rfl (lv_at hl 3 rfl) ?_
      refine kc_R (va_runV (As := [.int u]) (rest := [.ref (ad 10)]) ⟨hx, hb, hml, hown, hts⟩ (c_M_isOrNone l D ty ad _ n f th rt qu b w T g a o hg1 hn3 u) (cwV 1 hts (kGV kS1 m_M_60 m_im_M_isOrNone m_sel_M_isOrNone m_ini_M m_code_M_isOrNone) rfl rfl rfl (by decide +kernel) ⟨Nat.le_of_ble_eq_true rfl, Nat.le_of_ble_eq_true rfl⟩) ⟨kP_blind, va_recv hK hP (ci := 3) (q0 := 10) rfl gw_10, fun U hU hW => ⟨rfl, kP_at hK hP hD U hU hW⟩⟩ rfl rfl hl.1 rfl (lv_room (Nat.le_of_ble_eq_true rfl)) d_M_set_12 ⟨Nat.le_of_ble_eq_true rfl, Nat.le_of_ble_eq_true rfl⟩) ?_
      refine lv_if_eq (tgt := 22) hx hb d_M_set_15 (by decide) (fun c_15 => ?_) (fun c_15 => ?_)
      · refine lv_iconst (v := 0) hx hb d_M_set_22 (by decide) ?_
        have hj : mA (mF g a x y) (mO g a u) = 0 := by simp [mA, c_7, c_15]
        rw [hj] at kx
        exact kx
      · refine lv_iconst (v := 1) hx hb d_M_set_18 (by decide) ?_
        refine lv_goto (tgt := 23) hx hb d_M_set_19 (by decide) ?_
        have hj : mA (mF g a x y) (mO g a u) = 1 := by simp [mA, c_7, c_15]
        rw [hj] at kx
        exact kx
  refine J1 _ ?_
  refine lv_iconst (v := 1) hx hb d_M_set_23 (by decide) ?_
  refine kc_i (va_runV (As := [.int (mA (mF g a x y) (mO g a u)), .int 1]) (rest := []) ⟨hx, hb, hml, hown, hts⟩ (c_M_goes l D ty ad _ n f th rt qu b w T g a o (mA (mF g a x y) (mO g a u)) 1) (cwV 2 hts (kGV kS1 m_M_52 m_im_M_goes m_sel_M_goes m_ini_M m_code_M_goes) rfl rfl rfl (by decide +kernel) ⟨Nat.le_of_ble_eq_true rfl, Nat.le_of_ble_eq_true rfl⟩) ⟨kP_blind, va_recv hK hP (ci := 3) (q0 := 10) rfl gw_10, fun U hU hW => ⟨rfl, kP_at hK hP hD U hU hW⟩⟩ rfl rfl hl.1 rfl (lv_room (Nat.le_of_ble_eq_true rfl)) d_M_set_24 ⟨Nat.le_of_ble_eq_true rfl, Nat.le_of_ble_eq_true rfl⟩) hD hS hA (fun r u H locs hu hP hD hS hz => ?_)
  obtain ⟨rfl, rfl⟩ := hu
  refine lv_if_ne (tgt := 32) hx hb d_M_set_27 (by decide) (fun c_27 => absurd hc c_27) (fun c_27 => ?_)
  refine lv_iconst (v := 0) hx hb d_M_set_30 (by decide) ?_
  have hu : (gW n ty ad f th rt qu b w T (upd g 0 (mT (mA (mF g a x y) (mO g a u)) 1)) a o : va_W) = gW n ty ad f th rt qu b w T (upd g 0 (mT (mA (mF g a x y) (mO g a u)) 1)) a o := by simp [c_27]
  have hv : (0 : Int32) = 0 := by simp [c_27]
  exact W.iret (v := 0) hx hb hr (fun t ht hW => ⟨⟨_, _, rfl, ⟨hv, hu⟩, by rw [ht]; exact hP, va_K.moved hW.alike hK, hD⟩, hS.F ht⟩) hS.2.2 d_M_set_31
set_option maxHeartbeats 4000000 in
set_option maxRecDepth 100000 in
/-- set(x, y, u): it goes -/
theorem c_M_set_y (l : Launch) (D : va_G) (ty : Nat → ClassId) (ad : Nat → Nat) (sz : Nat) (n : Nat) (f : Nat → Int32) (th : Nat → Bool) (rt qu : Nat → Int32) (b w : SR) (T : Nat → TH) (g : Nat → Int32) (a : Nat → Nat → Int32) (o : Nat → Int64) (hg1 : g 1 = nI n) (hn3 : n ≤ 300) (hL : ∀ k, k < n → ∃ v, v ≤ 12 ∧ a 4 k = nI v) (x y u : Int32) (hc : ¬ mG (mA (mF g a x y) (mO g a u)) 1 = 0) : Met l y_M_set w_M_set ({ frames := 2, cells := 0, slots := 0, locals := 43 }) (va_Pc [.ref (ad 10), .int x, .int y, .int u] (kP D kCl (kTy ty) (gW n ty ad f th rt qu b w T g a o) sz)) (va_Qi (fun (r9 : Int32) (u9 : va_W) => r9 = (a 5 (12 * x + y).toNatClampNeg - 1) ∧ u9 = (gW n ty ad f th rt qu b w T (upd g 0 (mT (mA (mF g a x y) (mO g a u)) 1)) (va_up a 5 (upd (a 5) (12 * x + y).toNatClampNeg (u + 1))) o)) (kB D kCl (kTy ty) (va_A (gW n ty ad f th rt qu b w T g a o) sz)) (va_A (gW n ty ad f th rt qu b w T g a o) sz)) 0 0 (va_A (gW n ty ad f th rt qu b w T g a o) sz) := by
  refine Met.ofW (cc := b_M_set) (maxL := 5) (ret := (some .int)) (by decide) rfl ?_
  intro p e s m args below meth cd s₁ B hml hv
  obtain ⟨rfl, hsz, hP, hK, hD0⟩ := hv
  have hx := B.exec
  have hb := B.bytes
  have hr := B.returns
  have hts := atoms_spec (ws := w_M_set) B.pre
  have hown : s.vm.findClass R_M = some m.cls := findClass_of_methodNamed B.named
  have hlocks := B.notSynchronized
  subst hsz
  have hD := hD0.self (sz := s.heap.size)
  generalize hAe : va_A (gW n ty ad f th rt qu b w T g a o) s.heap.size = A at hD ⊢
  have hA : ∀ q : Nat, s.heap.size ≤ q → A q := fun q h => by rw [← hAe]; exact Or.inr h
  have hS : va_S A s.heap s.heap [] := va_S.rf
  have hl := lv_entry ([.ref (ad 10), .int x, .int y, .int u]) (n := 5) (Nat.le_of_ble_eq_true rfl)
  rw [lg_entry_eq]
  generalize (lg_sl ([.ref (ad 10), .int x, .int y, .int u]) ++ List.replicate (5 - (lg_sl ([.ref (ad 10), .int x, .int y, .int u])).length) Slot.unset).toArray = ls at hl ⊢
  have hl : lv_has ls 5 [(0, .ref (ad 10)), (1, .int x), (2, .int y), (3, .int u)] := hl
  refine lv_aload_n hx hb d_M_set_0 rfl (lv_at hl 0 rfl) ?_
  have J1 : ∀ (Q : State → Prop), W p l e (headSpec w_M_set ({ frames := 2, cells := 0, slots := 0, locals := 43 })).room s m ([.ref (ad 10), .int x, .int y, .int u] : List Value).toArray below meth cd s.heap [] 0 0 Q (F0 m 23 ls [.int (mA (mF g a x y) (mO g a u)), .ref (ad 10)]) → W p l e (headSpec w_M_set ({ frames := 2, cells := 0, slots := 0, locals := 43 })).room s m ([.ref (ad 10), .int x, .int y, .int u] : List Value).toArray below meth cd s.heap [] 0 0 Q (F0 m 1 ls [.ref (ad 10)]) := by
    intro Q kx
    refine lv_aload_n hx hb d_M_set_1 rfl (lv_at hl 0 rfl) ?_
    refine lv_iload_n hx hb d_M_set_2 rfl (lv_at hl 1 rfl) ?_
    refine lv_iload_n hx hb d_M_set_3 rfl (lv_at hl 2 rfl) ?_
    refine kc_R (va_runV (As := [.int x, .int y]) (rest := [.ref (ad 10)]) ⟨hx, hb, hml, hown, hts⟩ (c_M_isField l D ty ad _ n f th rt qu b w T g a o hg1 hn3 x y) (cwV 2 hts (kGV kS1 m_M_56 m_im_M_isField m_sel_M_isField m_ini_M m_code_M_isField) rfl rfl rfl (by decide +kernel) ⟨Nat.le_of_ble_eq_true rfl, Nat.le_of_ble_eq_true rfl⟩) ⟨kP_blind, va_recv hK hP (ci := 3) (q0 := 10) rfl gw_10, fun U hU hW => ⟨rfl, kP_at hK hP hD U hU hW⟩⟩ rfl rfl hl.1 rfl (lv_room (Nat.le_of_ble_eq_true rfl)) d_M_set_4 ⟨Nat.le_of_ble_eq_true rfl, Nat.le_of_ble_eq_true rfl⟩) ?_
    refine lv_if_eq (tgt := 22) hx hb d_M_set_7 (by decide) (fun c_7 => ?_) (fun c_7 => ?_)
    · refine lv_iconst (v := 0) hx hb d_M_set_22 (by decide) ?_
      have hj : mA (mF g a x y) (mO g a u) = 0 := by simp [mA, c_7]
      rw [hj] at kx
      exact kx
    · refine lv_aload_n hx hb d_M_set_10 rfl (lv_at hl 0 rfl) ?_
      refine lv_iload_n hx hb d_M_set_11 rfl (lv_at hl 3 rfl) ?_
      refine kc_R (va_runV (As := [.int u]) (rest := [.ref (ad 10)]) ⟨hx, hb, hml, hown, hts⟩ (c_M_isOrNone l D ty ad _ n f th rt qu b w T g a o hg1 hn3 u) (cwV 1 hts (kGV kS1 m_M_60 m_im_M_isOrNone m_sel_M_isOrNone m_ini_M m_code_M_isOrNone) rfl rfl rfl (by decide +kernel) ⟨Nat.le_of_ble_eq_true rfl, Nat.le_of_ble_eq_true rfl⟩) ⟨kP_blind, va_recv hK hP (ci := 3) (q0 := 10) rfl gw_10, fun U hU hW => ⟨rfl, kP_at hK hP hD U hU hW⟩⟩ rfl rfl hl.1 rfl (lv_room (Nat.le_of_ble_eq_true rfl)) d_M_set_12 ⟨Nat.le_of_ble_eq_true rfl, Nat.le_of_ble_eq_true rfl⟩) ?_
      refine lv_if_eq (tgt := 22) hx hb d_M_set_15 (by decide) (fun c_15 => ?_) (fun c_15 => ?_)
      · refine lv_iconst (v := 0) hx hb d_M_set_22 (by decide) ?_
        have hj : mA (mF g a x y) (mO g a u) = 0 := by simp [mA, c_7, c_15]
        rw [hj] at kx
        exact kx
      · refine lv_iconst (v := 1) hx hb d_M_set_18 (by decide) ?_
        refine lv_goto (tgt := 23) hx hb d_M_set_19 (by decide) ?_
        have hj : mA (mF g a x y) (mO g a u) = 1 := by simp [mA, c_7, c_15]
        rw [hj] at kx
        exact kx
  refine J1 _ ?_
  refine lv_iconst (v := 1) hx hb d_M_set_23 (by decide) ?_
  refine kc_i (va_runV (As := [.int (mA (mF g a x y) (mO g a u)), .int 1]) (rest := []) ⟨hx, hb, hml, hown, hts⟩ (c_M_goes l D ty ad _ n f th rt qu b w T g a o (mA (mF g a x y) (mO g a u)) 1) (cwV 2 hts (kGV kS1 m_M_52 m_im_M_goes m_sel_M_goes m_ini_M m_code_M_goes) rfl rfl rfl (by decide +kernel) ⟨Nat.le_of_ble_eq_true rfl, Nat.le_of_ble_eq_true rfl⟩) ⟨kP_blind, va_recv hK hP (ci := 3) (q0 := 10) rfl gw_10, fun U hU hW => ⟨rfl, kP_at hK hP hD U hU hW⟩⟩ rfl rfl hl.1 rfl (lv_room (Nat.le_of_ble_eq_true rfl)) d_M_set_24 ⟨Nat.le_of_ble_eq_true rfl, Nat.le_of_ble_eq_true rfl⟩) hD hS hA (fun r u H locs hu hP hD hS hz => ?_)
  obtain ⟨rfl, rfl⟩ := hu
  refine lv_if_ne (tgt := 32) hx hb d_M_set_27 (by decide) (fun c_27 => ?_) (fun c_27 => absurd c_27 hc)
  refine lv_aload_n hx hb d_M_set_32 rfl (lv_at hl 0 rfl) ?_
  refine va_get (D := D) (ci := 3) (v := .ref (ad 14)) (C := R_M) (T := F_M) (N := 16) hx hb hts (fun w h => kS1 w (i_M w h)) hown hK hP 10 gw_10 rfl 5 (by decide) (hts _ (kS1 _ m_M_20)) (fun _ h9 => h9) rfl d_M_set_33 ?_
  refine lv_bipush (v := 12) hx hb d_M_set_36 (by decide) ?_
  refine lv_iload_n hx hb d_M_set_38 rfl (lv_at hl 1 rfl) ?_
  refine lv_imul hx hb d_M_set_39 ?_
  refine lv_iload_n hx hb d_M_set_40 rfl (lv_at hl 2 rfl) ?_
  refine lv_iadd hx hb d_M_set_41 ?_
  refine va_iald (f := a 5) hx hb hK hP 14 0 gw_14 rfl (mF_in hg1 hn3 hL (mA_1 (mG_1 hc))) d_M_set_42 ?_
  refine lv_istore (lv' := [(4, .int ((a 5) (((12 * x) + y).toNatClampNeg))), (0, .ref (ad 10)), (1, .int x), (2, .int y), (3, .int u)]) hx hb d_M_set_43 hl (by decide) rfl (fun ls hl => ?_)
  refine lv_aload_n hx hb d_M_set_45 rfl (lv_at hl 1 rfl) ?_
  refine va_get (D := D) (ci := 3) (v := .ref (ad 14)) (C := R_M) (T := F_M) (N := 16) hx hb hts (fun w h => kS1 w (i_M w h)) hown hK hP 10 gw_10 rfl 5 (by decide) (hts _ (kS1 _ m_M_20)) (fun _ h9 => h9) rfl d_M_set_46 ?_
  refine lv_bipush (v := 12) hx hb d_M_set_49 (by decide) ?_
  refine lv_iload_n hx hb d_M_set_51 rfl (lv_at hl 2 rfl) ?_
  refine lv_imul hx hb d_M_set_52 ?_
  refine lv_iload_n hx hb d_M_set_53 rfl (lv_at hl 3 rfl) ?_
  refine lv_iadd hx hb d_M_set_54 ?_
  refine lv_iload_n hx hb d_M_set_55 rfl (lv_at hl 4 rfl) ?_
  refine lv_iconst (v := 1) hx hb d_M_set_56 (by decide) ?_
  refine lv_iadd hx hb d_M_set_57 ?_
  refine va_iast (f := a 5) hx hb hK hP hD hS 14 0 gw_14 rfl (mF_in hg1 hn3 hL (mA_1 (mG_1 hc))) d_M_set_58 (fun H locs hP hD hS => ?_)
  have hP := kw_P (gw_sa5 (r := upd (a 5) (((12 * x) + y).toNatClampNeg) (u + 1))) hP
  have hD := kw_D (gw_sa5 (r := upd (a 5) (((12 * x) + y).toNatClampNeg) (u + 1))) hD
  refine lv_iload hx hb d_M_set_59 (lv_at hl 0 rfl) ?_
  refine lv_iconst (v := 1) hx hb d_M_set_61 (by decide) ?_
  refine lv_isub hx hb d_M_set_62 ?_
  have hu : (gW n ty ad f th rt qu b w T (upd g 0 (mT (mA (mF g a x y) (mO g a u)) 1)) (va_up a 5 (upd (a 5) (((12 * x) + y).toNatClampNeg) (u + 1))) o : va_W) = gW n ty ad f th rt qu b w T (upd g 0 (mT (mA (mF g a x y) (mO g a u)) 1)) (va_up a 5 (upd (a 5) (12 * x + y).toNatClampNeg (u + 1))) o := by simp [c_27]
  have hv : (((a 5) (((12 * x) + y).toNatClampNeg)) - 1 : Int32) = a 5 (12 * x + y).toNatClampNeg - 1 := by simp [c_27]
  exact W.iret (v := ((a 5) (((12 * x) + y).toNatClampNeg)) - 1) hx hb hr (fun t ht hW => ⟨⟨_, _, rfl, ⟨hv, hu⟩, by rw [ht]; exact hP, va_K.moved hW.alike hK, hD⟩, hS.F ht⟩) hS.2.2 d_M_set_63
set_option maxHeartbeats 4000000 in
set_option maxRecDepth 100000 in
/-- get(x, y): refused -/
theorem c_M_get_n (l : Launch) (D : va_G) (ty : Nat → ClassId) (ad : Nat → Nat) (sz : Nat) (n : Nat) (f : Nat → Int32) (th : Nat → Bool) (rt qu : Nat → Int32) (b w : SR) (T : Nat → TH) (g : Nat → Int32) (a : Nat → Nat → Int32) (o : Nat → Int64) (hg1 : g 1 = nI n) (hn3 : n ≤ 300) (hL : ∀ k, k < n → ∃ v, v ≤ 12 ∧ a 4 k = nI v) (x y : Int32) (hc : mG (mF g a x y) 1 = 0) : Met l y_M_get w_M_get ({ frames := 2, cells := 0, slots := 0, locals := 43 }) (va_Pc [.ref (ad 10), .int x, .int y] (kP D kCl (kTy ty) (gW n ty ad f th rt qu b w T g a o) sz)) (va_Qi (fun (r9 : Int32) (u9 : va_W) => r9 = 0 ∧ u9 = (gW n ty ad f th rt qu b w T (upd g 0 (mT (mF g a x y) 1)) a o)) (kB D kCl (kTy ty) (va_A (gW n ty ad f th rt qu b w T g a o) sz)) (va_A (gW n ty ad f th rt qu b w T g a o) sz)) 0 0 (va_A (gW n ty ad f th rt qu b w T g a o) sz) := by
  refine Met.ofW (cc := b_M_get) (maxL := 3) (ret := (some .int)) (by decide) rfl ?_
  intro p e s m args below meth cd s₁ B hml hv
  obtain ⟨rfl, hsz, hP, hK, hD0⟩ := hv
  have hx := B.exec
  have hb := B.bytes
  have hr := B.returns
  have hts := atoms_spec (ws := w_M_get) B.pre
  have hown : s.vm.findClass R_M = some m.cls := findClass_of_methodNamed B.named
  have hlocks := B.notSynchronized
  subst hsz
  have hD := hD0.self (sz := s.heap.size)
  generalize hAe : va_A (gW n ty ad f th rt qu b w T g a o) s.heap.size = A at hD ⊢
  have hA : ∀ q : Nat, s.heap.size ≤ q → A q := fun q h => by rw [← hAe]; exact Or.inr h
  have hS : va_S A s.heap s.heap [] := va_S.rf
  have hl := lv_entry ([.ref (ad 10), .int x, .int y]) (n := 3) (Nat.le_of_ble_eq_true rfl)
  rw [lg_entry_eq]
  generalize (lg_sl ([.ref (ad 10), .int x, .int y]) ++ List.replicate (3 - (lg_sl ([.ref (ad 10), .int x, .int y])).length) Slot.unset).toArray = ls at hl ⊢
  have hl : lv_has ls 3 [(0, .ref (ad 10)), (1, .int x), (2, .int y)] := hl
  refine lv_aload_n hx hb d_M_get_0 rfl (lv_at hl 0 rfl) ?_
  refine lv_aload_n hx hb d_M_get_1 rfl (lv_at hl 0 rfl) ?_
  refine lv_iload_n hx hb d_M_get_2 rfl (lv_at hl 1 rfl) ?_
  refine lv_iload_n hx hb d_M_get_3 rfl (lv_at hl 2 rfl) ?_
  refine kc_R (va_runV (As := [.int x, .int y]) (rest := [.ref (ad 10)]) ⟨hx, hb, hml, hown, hts⟩ (c_M_isField l D ty ad _ n f th rt qu b w T g a o hg1 hn3 x y) (cwV 2 hts (kGV kS1 m_M_56 m_im_M_isField m_sel_M_isField m_ini_M m_code_M_isField) rfl rfl rfl (by decide +kernel) ⟨Nat.le_of_ble_eq_true rfl, Nat.le_of_ble_eq_true rfl⟩) ⟨kP_blind, va_recv hK hP (ci := 3) (q0 := 10) rfl gw_10, fun U hU hW => ⟨rfl, kP_at hK hP hD U hU hW⟩⟩ rfl rfl hl.1 rfl (lv_room (Nat.le_of_ble_eq_true rfl)) d_M_get_4 ⟨Nat.le_of_ble_eq_true rfl, Nat.le_of_ble_eq_true rfl⟩) ?_
  refine lv_iconst (v := 1) hx hb d_M_get_7 (by decide) ?_
  refine kc_i (va_runV (As := [.int (mF g a x y), .int 1]) (rest := []) ⟨hx, hb, hml, hown, hts⟩ (c_M_goes l D ty ad _ n f th rt qu b w T g a o (mF g a x y) 1) (cwV 2 hts (kGV kS1 m_M_52 m_im_M_goes m_sel_M_goes m_ini_M m_code_M_goes) rfl rfl rfl (by decide +kernel) ⟨Nat.le_of_ble_eq_true rfl, Nat.le_of_ble_eq_true rfl⟩) ⟨kP_blind, va_recv hK hP (ci := 3) (q0 := 10) rfl gw_10, fun U hU hW => ⟨rfl, kP_at hK hP hD U hU hW⟩⟩ rfl rfl hl.1 rfl (lv_room (Nat.le_of_ble_eq_true rfl)) d_M_get_8 ⟨Nat.le_of_ble_eq_true rfl, Nat.le_of_ble_eq_true rfl⟩) hD hS hA (fun r u H locs hu hP hD hS hz => ?_)
  obtain ⟨rfl, rfl⟩ := hu
  refine lv_if_eq (tgt := 30) hx hb d_M_get_11 (by decide) (fun c_11 => ?_) (fun c_11 => absurd hc c_11)
  refine lv_iconst (v := 0) hx hb d_M_get_30 (by decide) ?_
  have hu : (gW n ty ad f th rt qu b w T (upd g 0 (mT (mF g a x y) 1)) a o : va_W) = gW n ty ad f th rt qu b w T (upd g 0 (mT (mF g a x y) 1)) a o := by simp [c_11]
  have hv : (0 : Int32) = 0 := by simp [c_11]
  exact W.iret (v := 0) hx hb hr (fun t ht hW => ⟨⟨_, _, rfl, ⟨hv, hu⟩, by rw [ht]; exact hP, va_K.moved hW.alike hK, hD⟩, hS.F ht⟩) hS.2.2 d_M_get_31
set_option maxHeartbeats 4000000 in
set_option maxRecDepth 100000 in
/-- get(x, y): it goes -/
theorem c_M_get_y (l : Launch) (D : va_G) (ty : Nat → ClassId) (ad : Nat → Nat) (sz : Nat) (n : Nat) (f : Nat → Int32) (th : Nat → Bool) (rt qu : Nat → Int32) (b w : SR) (T : Nat → TH) (g : Nat → Int32) (a : Nat → Nat → Int32) (o : Nat → Int64) (hg1 : g 1 = nI n) (hn3 : n ≤ 300) (hL : ∀ k, k < n → ∃ v, v ≤ 12 ∧ a 4 k = nI v) (x y : Int32) (hc : ¬ mG (mF g a x y) 1 = 0) : Met l y_M_get w_M_get ({ frames := 2, cells := 0, slots := 0, locals := 43 }) (va_Pc [.ref (ad 10), .int x, .int y] (kP D kCl (kTy ty) (gW n ty ad f th rt qu b w T g a o) sz)) (va_Qi (fun (r9 : Int32) (u9 : va_W) => r9 = (a 5 (12 * x + y).toNatClampNeg - 1) ∧ u9 = (gW n ty ad f th rt qu b w T (upd g 0 (mT (mF g a x y) 1)) a o)) (kB D kCl (kTy ty) (va_A (gW n ty ad f th rt qu b w T g a o) sz)) (va_A (gW n ty ad f th rt qu b w T g a o) sz)) 0 0 (va_A (gW n ty ad f th rt qu b w T g a o) sz) := by
  refine Met.ofW (cc := b_M_get) (maxL := 3) (ret := (some .int)) (by decide) rfl ?_
  intro p e s m args below meth cd s₁ B hml hv
  obtain ⟨rfl, hsz, hP, hK, hD0⟩ := hv
  have hx := B.exec
  have hb := B.bytes
  have hr := B.returns
  have hts := atoms_spec (ws := w_M_get) B.pre
  have hown : s.vm.findClass R_M = some m.cls := findClass_of_methodNamed B.named
  have hlocks := B.notSynchronized
  subst hsz
  have hD := hD0.self (sz := s.heap.size)
  generalize hAe : va_A (gW n ty ad f th rt qu b w T g a o) s.heap.size = A at hD ⊢
  have hA : ∀ q : Nat, s.heap.size ≤ q → A q := fun q h => by rw [← hAe]; exact Or.inr h
  have hS : va_S A s.heap s.heap [] := va_S.rf
  have hl := lv_entry ([.ref (ad 10), .int x, .int y]) (n := 3) (Nat.le_of_ble_eq_true rfl)
  rw [lg_entry_eq]
  generalize (lg_sl ([.ref (ad 10), .int x, .int y]) ++ List.replicate (3 - (lg_sl ([.ref (ad 10), .int x, .int y])).length) Slot.unset).toArray = ls at hl ⊢
  have hl : lv_has ls 3 [(0, .ref (ad 10)), (1, .int x), (2, .int y)] := hl
  refine lv_aload_n hx hb d_M_get_0 rfl (lv_at hl 0 rfl) ?_
  refine lv_aload_n hx hb d_M_get_1 rfl (lv_at hl 0 rfl) ?_
  refine lv_iload_n hx hb d_M_get_2 rfl (lv_at hl 1 rfl) ?_
  refine lv_iload_n hx hb d_M_get_3 rfl (lv_at hl 2 rfl) ?_
  refine kc_R (va_runV (As := [.int x, .int y]) (rest := [.ref (ad 10)]) ⟨hx, hb, hml, hown, hts⟩ (c_M_isField l D ty ad _ n f th rt qu b w T g a o hg1 hn3 x y) (cwV 2 hts (kGV kS1 m_M_56 m_im_M_isField m_sel_M_isField m_ini_M m_code_M_isField) rfl rfl rfl (by decide +kernel) ⟨Nat.le_of_ble_eq_true rfl, Nat.le_of_ble_eq_true rfl⟩) ⟨kP_blind, va_recv hK hP (ci := 3) (q0 := 10) rfl gw_10, fun U hU hW => ⟨rfl, kP_at hK hP hD U hU hW⟩⟩ rfl rfl hl.1 rfl (lv_room (Nat.le_of_ble_eq_true rfl)) d_M_get_4 ⟨Nat.le_of_ble_eq_true rfl, Nat.le_of_ble_eq_true rfl⟩) ?_
  refine lv_iconst (v := 1) hx hb d_M_get_7 (by decide) ?_
  refine kc_i (va_runV (As := [.int (mF g a x y), .int 1]) (rest := []) ⟨hx, hb, hml, hown, hts⟩ (c_M_goes l D ty ad _ n f th rt qu b w T g a o (mF g a x y) 1) (cwV 2 hts (kGV kS1 m_M_52 m_im_M_goes m_sel_M_goes m_ini_M m_code_M_goes) rfl rfl rfl (by decide +kernel) ⟨Nat.le_of_ble_eq_true rfl, Nat.le_of_ble_eq_true rfl⟩) ⟨kP_blind, va_recv hK hP (ci := 3) (q0 := 10) rfl gw_10, fun U hU hW => ⟨rfl, kP_at hK hP hD U hU hW⟩⟩ rfl rfl hl.1 rfl (lv_room (Nat.le_of_ble_eq_true rfl)) d_M_get_8 ⟨Nat.le_of_ble_eq_true rfl, Nat.le_of_ble_eq_true rfl⟩) hD hS hA (fun r u H locs hu hP hD hS hz => ?_)
  obtain ⟨rfl, rfl⟩ := hu
  refine lv_if_eq (tgt := 30) hx hb d_M_get_11 (by decide) (fun c_11 => absurd c_11 hc) (fun c_11 => ?_)
  refine lv_aload_n hx hb d_M_get_14 rfl (lv_at hl 0 rfl) ?_
  refine va_get (D := D) (ci := 3) (v := .ref (ad 14)) (C := R_M) (T := F_M) (N := 16) hx hb hts (fun w h => kS1 w (i_M w h)) hown hK hP 10 gw_10 rfl 5 (by decide) (hts _ (kS1 _ m_M_20)) (fun _ h9 => h9) rfl d_M_get_15 ?_
  refine lv_bipush (v := 12) hx hb d_M_get_18 (by decide) ?_
  refine lv_iload_n hx hb d_M_get_20 rfl (lv_at hl 1 rfl) ?_
  refine lv_imul hx hb d_M_get_21 ?_
  refine lv_iload_n hx hb d_M_get_22 rfl (lv_at hl 2 rfl) ?_
  refine lv_iadd hx hb d_M_get_23 ?_
  refine va_iald (f := a 5) hx hb hK hP 14 0 gw_14 rfl (mF_in hg1 hn3 hL (mG_1 hc)) d_M_get_24 ?_
  refine lv_iconst (v := 1) hx hb d_M_get_25 (by decide) ?_
  refine lv_isub hx hb d_M_get_26 ?_
  refine lv_goto (tgt := 31) hx hb d_M_get_27 (by decide) ?_
  have hu : (gW n ty ad f th rt qu b w T (upd g 0 (mT (mF g a x y) 1)) a o : va_W) = gW n ty ad f th rt qu b w T (upd g 0 (mT (mF g a x y) 1)) a o := by simp [c_11]
  have hv : (((a 5) (((12 * x) + y).toNatClampNeg)) - 1 : Int32) = a 5 (12 * x + y).toNatClampNeg - 1 := by simp [c_11]
  exact W.iret (v := ((a 5) (((12 * x) + y).toNatClampNeg)) - 1) hx hb hr (fun t ht hW => ⟨⟨_, _, rfl, ⟨hv, hu⟩, by rw [ht]; exact hP, va_K.moved hW.alike hK, hD⟩, hS.F ht⟩) hS.2.2 d_M_get_31
set_option maxHeartbeats 4000000 in
set_option maxRecDepth 100000 in
/-- root(x, u): refused -/
theorem c_M_root_n (l : Launch) (D : va_G) (ty : Nat → ClassId) (ad : Nat → Nat) (sz : Nat) (n : Nat) (f : Nat → Int32) (th : Nat → Bool) (rt qu : Nat → Int32) (b w : SR) (T : Nat → TH) (g : Nat → Int32) (a : Nat → Nat → Int32) (o : Nat → Int64) (hg1 : g 1 = nI n) (hn3 : n ≤ 300) (x u : Int32) (hc : mG (mR g a x u) 1 = 0) : Met l y_M_root w_M_root ({ frames := 2, cells := 0, slots := 0, locals := 42 }) (va_Pc [.ref (ad 10), .int x, .int u] (kP D kCl (kTy ty) (gW n ty ad f th rt qu b w T g a o) sz)) (va_Qi (fun (r9 : Int32) (u9 : va_W) => r9 = 0 ∧ u9 = (gW n ty ad f th rt qu b w T (upd g 0 (mT (mR g a x u) 1)) a o)) (kB D kCl (kTy ty) (va_A (gW n ty ad f th rt qu b w T g a o) sz)) (va_A (gW n ty ad f th rt qu b w T g a o) sz)) 0 0 (va_A (gW n ty ad f th rt qu b w T g a o) sz) := by
  refine Met.ofW (cc := b_M_root) (maxL := 4) (ret := (some .int)) (by decide) rfl ?_
  intro p e s m args below meth cd s₁ B hml hv
  obtain ⟨rfl, hsz, hP, hK, hD0⟩ := hv
  have hx := B.exec
  have hb := B.bytes
  have hr := B.returns
  have hts := atoms_spec (ws := w_M_root) B.pre
  have hown : s.vm.findClass R_M = some m.cls := findClass_of_methodNamed B.named
  have hlocks := B.notSynchronized
  subst hsz
  have hD := hD0.self (sz := s.heap.size)
  generalize hAe : va_A (gW n ty ad f th rt qu b w T g a o) s.heap.size = A at hD ⊢
  have hA : ∀ q : Nat, s.heap.size ≤ q → A q := fun q h => by rw [← hAe]; exact Or.inr h
  have hS : va_S A s.heap s.heap [] := va_S.rf
  have hl := lv_entry ([.ref (ad 10), .int x, .int u]) (n := 4) (Nat.le_of_ble_eq_true rfl)
  rw [lg_entry_eq]
  generalize (lg_sl ([.ref (ad 10), .int x, .int u]) ++ List.replicate (4 - (lg_sl ([.ref (ad 10), .int x, .int u])).length) Slot.unset).toArray = ls at hl ⊢
  have hl : lv_has ls 4 [(0, .ref (ad 10)), (1, .int x), (2, .int u)] := hl
  refine lv_aload_n hx hb d_M_root_0 rfl (lv_at hl 0 rfl) ?_
  have J1 : ∀ (Q : State → Prop), W p l e (headSpec w_M_root ({ frames := 2, cells := 0, slots := 0, locals := 42 })).room s m ([.ref (ad 10), .int x, .int u] : List Value).toArray below meth cd s.heap [] 0 0 Q (F0 m 24 ls [.int (mR g a x u), .ref (ad 10)]) → W p l e (headSpec w_M_root ({ frames := 2, cells := 0, slots := 0, locals := 42 })).room s m ([.ref (ad 10), .int x, .int u] : List Value).toArray below meth cd s.heap [] 0 0 Q (F0 m 1 ls [.ref (ad 10)]) := by
    intro Q kx
    refine lv_iload_n hx hb d_M_root_1 rfl (lv_at hl 1 rfl) ?_
    refine lv_if_lt (tgt := 23) hx hb d_M_root_2 (by decide) (fun c_2 => ?_) (fun c_2 => ?_)
    · refine lv_iconst (v := 0) hx hb d_M_root_23 (by decide) ?_
      have hj : mR g a x u = 0 := by simp [mR, c_2]
      rw [hj] at kx
      exact kx
    · refine lv_iload_n hx hb d_M_root_5 rfl (lv_at hl 1 rfl) ?_
      refine lv_bipush (v := 16) hx hb d_M_root_6 (by decide) ?_
      refine lv_icmp_ge (tgt := 23) hx hb d_M_root_8 (by decide) (fun c_8 => ?_) (fun c_8 => ?_)
      · refine lv_iconst (v := 0) hx hb d_M_root_23 (by decide) ?_
        have hj : mR g a x u = 0 := by simp [mR, c_2, c_8]
        rw [hj] at kx
        exact kx
      · refine lv_aload_n hx hb d_M_root_11 rfl (lv_at hl 0 rfl) ?_
        refine lv_iload_n hx hb d_M_root_12 rfl (lv_at hl 2 rfl) ?_
        refine kc_R (va_runV (As := [.int u]) (rest := [.ref (ad 10)]) ⟨hx, hb, hml, hown, hts⟩ (c_M_isOrNone l D ty ad _ n f th rt qu b w T g a o hg1 hn3 u) (cwV 1 hts (kGV kS1 m_M_60 m_im_M_isOrNone m_sel_M_isOrNone m_ini_M m_code_M_isOrNone) rfl rfl rfl (by decide +kernel) ⟨Nat.le_of_ble_eq_true rfl, Nat.le_of_ble_eq_true rfl⟩) ⟨kP_blind, va_recv hK hP (ci := 3) (q0 := 10) rfl gw_10, fun U hU hW => ⟨rfl, kP_at hK hP hD U hU hW⟩⟩ rfl rfl hl.1 rfl (lv_room (Nat.le_of_ble_eq_true rfl)) d_M_root_13 ⟨Nat.le_of_ble_eq_true rfl, Nat.le_of_ble_eq_true rfl⟩) ?_
        refine lv_if_eq (tgt := 23) hx hb d_M_root_16 (by decide) (fun c_16 => ?_) (fun c_16 => ?_)
        · refine lv_iconst (v := 0) hx hb d_M_root_23 (by decide) ?_
          have hj : mR g a x u = 0 := by simp [mR, c_2, c_8, c_16]
          rw [hj] at kx
          exact kx
        · refine lv_iconst (v := 1) hx hb d_M_root_19 (by decide) ?_
          refine lv_goto (tgt := 24) hx hb d_M_root_20 (by decide) ?_
          have hj : mR g a x u = 1 := by simp [mR, c_2, c_8, c_16]
          rw [hj] at kx
          exact kx
  refine J1 _ ?_
  refine lv_iconst (v := 1) hx hb d_M_root_24 (by decide) ?_
  refine kc_i (va_runV (As := [.int (mR g a x u), .int 1]) (rest := []) ⟨hx, hb, hml, hown, hts⟩ (c_M_goes l D ty ad _ n f th rt qu b w T g a o (mR g a x u) 1) (cwV 2 hts (kGV kS1 m_M_52 m_im_M_goes m_sel_M_goes m_ini_M m_code_M_goes) rfl rfl rfl (by decide +kernel) ⟨Nat.le_of_ble_eq_true rfl, Nat.le_of_ble_eq_true rfl⟩) ⟨kP_blind, va_recv hK hP (ci := 3) (q0 := 10) rfl gw_10, fun U hU hW => ⟨rfl, kP_at hK hP hD U hU hW⟩⟩ rfl rfl hl.1 rfl (lv_room (Nat.le_of_ble_eq_true rfl)) d_M_root_25 ⟨Nat.le_of_ble_eq_true rfl, Nat.le_of_ble_eq_true rfl⟩) hD hS hA (fun r u H locs hu hP hD hS hz => ?_)
  obtain ⟨rfl, rfl⟩ := hu
  refine lv_if_ne (tgt := 33) hx hb d_M_root_28 (by decide) (fun c_28 => absurd hc c_28) (fun c_28 => ?_)
  refine lv_iconst (v := 0) hx hb d_M_root_31 (by decide) ?_
  have hu : (gW n ty ad f th rt qu b w T (upd g 0 (mT (mR g a x u) 1)) a o : va_W) = gW n ty ad f th rt qu b w T (upd g 0 (mT (mR g a x u) 1)) a o := by simp [c_28]
  have hv : (0 : Int32) = 0 := by simp [c_28]
  exact W.iret (v := 0) hx hb hr (fun t ht hW => ⟨⟨_, _, rfl, ⟨hv, hu⟩, by rw [ht]; exact hP, va_K.moved hW.alike hK, hD⟩, hS.F ht⟩) hS.2.2 d_M_root_32
set_option maxHeartbeats 4000000 in
set_option maxRecDepth 100000 in
/-- root(x, u): it goes -/
theorem c_M_root_y (l : Launch) (D : va_G) (ty : Nat → ClassId) (ad : Nat → Nat) (sz : Nat) (n : Nat) (f : Nat → Int32) (th : Nat → Bool) (rt qu : Nat → Int32) (b w : SR) (T : Nat → TH) (g : Nat → Int32) (a : Nat → Nat → Int32) (o : Nat → Int64) (hg1 : g 1 = nI n) (hn3 : n ≤ 300) (x u : Int32) (hc : ¬ mG (mR g a x u) 1 = 0) : Met l y_M_root w_M_root ({ frames := 2, cells := 0, slots := 0, locals := 42 }) (va_Pc [.ref (ad 10), .int x, .int u] (kP D kCl (kTy ty) (gW n ty ad f th rt qu b w T g a o) sz)) (va_Qi (fun (r9 : Int32) (u9 : va_W) => r9 = (a 8 x.toNatClampNeg - 1) ∧ u9 = (gW n ty ad f th rt qu b w T (upd g 0 (mT (mR g a x u) 1)) (va_up a 8 (upd (a 8) x.toNatClampNeg (u + 1))) o)) (kB D kCl (kTy ty) (va_A (gW n ty ad f th rt qu b w T g a o) sz)) (va_A (gW n ty ad f th rt qu b w T g a o) sz)) 0 0 (va_A (gW n ty ad f th rt qu b w T g a o) sz) := by
  refine Met.ofW (cc := b_M_root) (maxL := 4) (ret := (some .int)) (by decide) rfl ?_
  intro p e s m args below meth cd s₁ B hml hv
  obtain ⟨rfl, hsz, hP, hK, hD0⟩ := hv
  have hx := B.exec
  have hb := B.bytes
  have hr := B.returns
  have hts := atoms_spec (ws := w_M_root) B.pre
  have hown : s.vm.findClass R_M = some m.cls := findClass_of_methodNamed B.named
  have hlocks := B.notSynchronized
  subst hsz
  have hD := hD0.self (sz := s.heap.size)
  generalize hAe : va_A (gW n ty ad f th rt qu b w T g a o) s.heap.size = A at hD ⊢
  have hA : ∀ q : Nat, s.heap.size ≤ q → A q := fun q h => by rw [← hAe]; exact Or.inr h
  have hS : va_S A s.heap s.heap [] := va_S.rf
  have hl := lv_entry ([.ref (ad 10), .int x, .int u]) (n := 4) (Nat.le_of_ble_eq_true rfl)
  rw [lg_entry_eq]
  generalize (lg_sl ([.ref (ad 10), .int x, .int u]) ++ List.replicate (4 - (lg_sl ([.ref (ad 10), .int x, .int u])).length) Slot.unset).toArray = ls at hl ⊢
  have hl : lv_has ls 4 [(0, .ref (ad 10)), (1, .int x), (2, .int u)] := hl
  refine lv_aload_n hx hb d_M_root_0 rfl (lv_at hl 0 rfl) ?_
  have J1 : ∀ (Q : State → Prop), W p l e (headSpec w_M_root ({ frames := 2, cells := 0, slots := 0, locals := 42 })).room s m ([.ref (ad 10), .int x, .int u] : List Value).toArray below meth cd s.heap [] 0 0 Q (F0 m 24 ls [.int (mR g a x u), .ref (ad 10)]) → W p l e (headSpec w_M_root ({ frames := 2, cells := 0, slots := 0, locals := 42 })).room s m ([.ref (ad 10), .int x, .int u] : List Value).toArray below meth cd s.heap [] 0 0 Q (F0 m 1 ls [.ref (ad 10)]) := by
    intro Q kx
    refine lv_iload_n hx hb d_M_root_1 rfl (lv_at hl 1 rfl) ?_
    refine lv_if_lt (tgt := 23) hx hb d_M_root_2 (by decide) (fun c_2 => ?_) (fun c_2 => ?_)
    · refine lv_iconst (v := 0) hx hb d_M_root_23 (by decide) ?_
      have hj : mR g a x u = 0 := by simp [mR, c_2]
      rw [hj] at kx
      exact kx
    · refine lv_iload_n hx hb d_M_root_5 rfl (lv_at hl 1 rfl) ?_
      refine lv_bipush (v := 16) hx hb d_M_root_6 (by decide) ?_
      refine lv_icmp_ge (tgt := 23) hx hb d_M_root_8 (by decide) (fun c_8 => ?_) (fun c_8 => ?_)
      · refine lv_iconst (v := 0) hx hb d_M_root_23 (by decide) ?_
        have hj : mR g a x u = 0 := by simp [mR, c_2, c_8]
        rw [hj] at kx
        exact kx
      · refine lv_aload_n hx hb d_M_root_11 rfl (lv_at hl 0 rfl) ?_
        refine lv_iload_n hx hb d_M_root_12 rfl (lv_at hl 2 rfl) ?_
        refine kc_R (va_runV (As := [.int u]) (rest := [.ref (ad 10)]) ⟨hx, hb, hml, hown, hts⟩ (c_M_isOrNone l D ty ad _ n f th rt qu b w T g a o hg1 hn3 u) (cwV 1 hts (kGV kS1 m_M_60 m_im_M_isOrNone m_sel_M_isOrNone m_ini_M m_code_M_isOrNone) rfl rfl rfl (by decide +kernel) ⟨Nat.le_of_ble_eq_true rfl, Nat.le_of_ble_eq_true rfl⟩) ⟨kP_blind, va_recv hK hP (ci := 3) (q0 := 10) rfl gw_10, fun U hU hW => ⟨rfl, kP_at hK hP hD U hU hW⟩⟩ rfl rfl hl.1 rfl (lv_room (Nat.le_of_ble_eq_true rfl)) d_M_root_13 ⟨Nat.le_of_ble_eq_true rfl, Nat.le_of_ble_eq_true rfl⟩) ?_
        refine lv_if_eq (tgt := 23) hx hb d_M_root_16 (by decide) (fun c_16 => ?_) (fun c_16 => ?_)
        · refine lv_iconst (v := 0) hx hb d_M_root_23 (by decide) ?_
          have hj : mR g a x u = 0 := by simp [mR, c_2, c_8, c_16]
          rw [hj] at kx
          exact kx
        · refine lv_iconst (v := 1) hx hb d_M_root_19 (by decide) ?_
          refine lv_goto (tgt := 24) hx hb d_M_root_20 (by decide) ?_
          have hj : mR g a x u = 1 := by simp [mR, c_2, c_8, c_16]
          rw [hj] at kx
          exact kx
  refine J1 _ ?_
  refine lv_iconst (v := 1) hx hb d_M_root_24 (by decide) ?_
  refine kc_i (va_runV (As := [.int (mR g a x u), .int 1]) (rest := []) ⟨hx, hb, hml, hown, hts⟩ (c_M_goes l D ty ad _ n f th rt qu b w T g a o (mR g a x u) 1) (cwV 2 hts (kGV kS1 m_M_52 m_im_M_goes m_sel_M_goes m_ini_M m_code_M_goes) rfl rfl rfl (by decide +kernel) ⟨Nat.le_of_ble_eq_true rfl, Nat.le_of_ble_eq_true rfl⟩) ⟨kP_blind, va_recv hK hP (ci := 3) (q0 := 10) rfl gw_10, fun U hU hW => ⟨rfl, kP_at hK hP hD U hU hW⟩⟩ rfl rfl hl.1 rfl (lv_room (Nat.le_of_ble_eq_true rfl)) d_M_root_25 ⟨Nat.le_of_ble_eq_true rfl, Nat.le_of_ble_eq_true rfl⟩) hD hS hA (fun r u H locs hu hP hD hS hz => ?_)
  obtain ⟨rfl, rfl⟩ := hu
  refine lv_if_ne (tgt := 33) hx hb d_M_root_28 (by decide) (fun c_28 => ?_) (fun c_28 => absurd c_28 hc)
  refine lv_aload_n hx hb d_M_root_33 rfl (lv_at hl 0 rfl) ?_
  refine va_get (D := D) (ci := 3) (v := .ref (ad 17)) (C := R_M) (T := F_M) (N := 16) hx hb hts (fun w h => kS1 w (i_M w h)) hown hK hP 10 gw_10 rfl 8 (by decide) (hts _ (kS1 _ m_M_29)) (fun _ h9 => h9) rfl d_M_root_34 ?_
  refine lv_iload_n hx hb d_M_root_37 rfl (lv_at hl 1 rfl) ?_
  refine va_iald (f := a 8) hx hb hK hP 17 0 gw_17 rfl (mR_in (mG_1 hc)) d_M_root_38 ?_
  refine lv_istore_n (lv' := [(3, .int ((a 8) x.toNatClampNeg)), (0, .ref (ad 10)), (1, .int x), (2, .int u)]) hx hb d_M_root_39 rfl hl (by decide) rfl (fun ls hl => ?_)
  refine lv_aload_n hx hb d_M_root_40 rfl (lv_at hl 1 rfl) ?_
  refine va_get (D := D) (ci := 3) (v := .ref (ad 17)) (C := R_M) (T := F_M) (N := 16) hx hb hts (fun w h => kS1 w (i_M w h)) hown hK hP 10 gw_10 rfl 8 (by decide) (hts _ (kS1 _ m_M_29)) (fun _ h9 => h9) rfl d_M_root_41 ?_
  refine lv_iload_n hx hb d_M_root_44 rfl (lv_at hl 2 rfl) ?_
  refine lv_iload_n hx hb d_M_root_45 rfl (lv_at hl 3 rfl) ?_
  refine lv_iconst (v := 1) hx hb d_M_root_46 (by decide) ?_
  refine lv_iadd hx hb d_M_root_47 ?_
  refine va_iast (f := a 8) hx hb hK hP hD hS 17 0 gw_17 rfl (mR_in (mG_1 hc)) d_M_root_48 (fun H locs hP hD hS => ?_)
  have hP := kw_P (gw_sa8 (r := upd (a 8) x.toNatClampNeg (u + 1))) hP
  have hD := kw_D (gw_sa8 (r := upd (a 8) x.toNatClampNeg (u + 1))) hD
  refine lv_iload_n hx hb d_M_root_49 rfl (lv_at hl 0 rfl) ?_
  refine lv_iconst (v := 1) hx hb d_M_root_50 (by decide) ?_
  refine lv_isub hx hb d_M_root_51 ?_
  have hu : (gW n ty ad f th rt qu b w T (upd g 0 (mT (mR g a x u) 1)) (va_up a 8 (upd (a 8) x.toNatClampNeg (u + 1))) o : va_W) = gW n ty ad f th rt qu b w T (upd g 0 (mT (mR g a x u) 1)) (va_up a 8 (upd (a 8) x.toNatClampNeg (u + 1))) o := by simp [c_28]
  have hv : (((a 8) x.toNatClampNeg) - 1 : Int32) = a 8 x.toNatClampNeg - 1 := by simp [c_28]
  exact W.iret (v := ((a 8) x.toNatClampNeg) - 1) hx hb hr (fun t ht hW => ⟨⟨_, _, rfl, ⟨hv, hu⟩, by rw [ht]; exact hP, va_K.moved hW.alike hK, hD⟩, hS.F ht⟩) hS.2.2 d_M_root_52
