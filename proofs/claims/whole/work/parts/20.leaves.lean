/-! Part 05: Search and Thing: what each method answers and does. -/
set_option maxHeartbeats 4000000 in
set_option maxRecDepth 100000 in
/-- has(x) -/
theorem c_S_has (l : Launch) (D : va_G) (ty : Nat → ClassId) (ad : Nat → Nat) (sz : Nat) (N : Nat) (c : Nat → va_E) (si sj sk : Nat) (S : SR) (hi : si < N) (hj : sj < N) (hk : sk < N) (hji : sj ≠ si) (hki : sk ≠ si) (hkj : sk ≠ sj) (x : Int32) : Met l y_S_has w_S_has ({ frames := 0, cells := 0, slots := 0, locals := 0 }) (va_Pc [.ref (ad si), .int x] (kP D kCl (kTy ty) (wL N ad (sUp ty ad c si sj sk S)) sz)) (kQr (some (.int (sHas S x)))) 0 0 (fun _ => False) := by
  refine Met.ofW (cc := b_S_has) (maxL := 2) (ret := (some .boolean)) (by decide) rfl ?_
  intro p e s m args below meth cd s₁ B hml hv
  obtain ⟨rfl, hsz, hP, hK, hD0⟩ := hv
  have hx := B.exec
  have hb := B.bytes
  have hr := B.returns
  have hts := atoms_spec (ws := w_S_has) B.pre
  have hown : s.vm.findClass R_S = some m.cls := findClass_of_methodNamed B.named
  have hlocks := B.notSynchronized
  subst hsz
  have hD := hD0
  have hl := lv_entry ([.ref (ad si), .int x]) (n := 2) (Nat.le_of_ble_eq_true rfl)
  rw [lg_entry_eq]
  generalize (lg_sl ([.ref (ad si), .int x]) ++ List.replicate (2 - (lg_sl ([.ref (ad si), .int x])).length) Slot.unset).toArray = ls at hl ⊢
  have hl : lv_has ls 2 [(0, .ref (ad si)), (1, .int x)] := hl
  refine lv_iload_n hx hb d_S_has_0 rfl (lv_at hl 1 rfl) ?_
  refine lv_if_lt (tgt := 26) hx hb d_S_has_1 (by decide) (fun c_1 => ?_) (fun c_1 => ?_)
  · refine lv_iconst (v := 0) hx hb d_S_has_26 (by decide) ?_
    have hv : sHas S x = 0 := by simp [sHas, c_1]
    exact W.zret (v := 0) hx hb hr rfl (fun t ht hW => ⟨by rw [hv], ht⟩) (fun q hq => by cases hq) d_S_has_27
  · refine lv_iload_n hx hb d_S_has_4 rfl (lv_at hl 1 rfl) ?_
    refine lv_aload_n hx hb d_S_has_5 rfl (lv_at hl 0 rfl) ?_
    refine va_get (D := D) (ci := 1) (v := .ref (ad sj)) (C := R_S) (T := F_S) (N := 3) hx hb hts (fun w h => kS1 w (i_S w h)) hown hK hP si (sw_o (S := S) hi) rfl 0 (by decide) (hts _ (kS1 _ m_S_9)) (fun _ h9 => h9) rfl d_S_has_6 ?_
    refine va_alen (v := 300) hx hb hK hP sj 1 (sw_f (S := S) hj hji) rfl rfl d_S_has_9 ?_
    refine lv_icmp_ge (tgt := 26) hx hb d_S_has_10 (by decide) (fun c_10 => ?_) (fun c_10 => ?_)
    · refine lv_iconst (v := 0) hx hb d_S_has_26 (by decide) ?_
      have hv : sHas S x = 0 := by simp [sHas, c_1, c_10]
      exact W.zret (v := 0) hx hb hr rfl (fun t ht hW => ⟨by rw [hv], ht⟩) (fun q hq => by cases hq) d_S_has_27
    · refine lv_aload_n hx hb d_S_has_13 rfl (lv_at hl 0 rfl) ?_
      refine va_get (D := D) (ci := 1) (v := .ref (ad sj)) (C := R_S) (T := F_S) (N := 3) hx hb hts (fun w h => kS1 w (i_S w h)) hown hK hP si (sw_o (S := S) hi) rfl 0 (by decide) (hts _ (kS1 _ m_S_9)) (fun _ h9 => h9) rfl d_S_has_14 ?_
      refine lv_iload_n hx hb d_S_has_17 rfl (lv_at hl 1 rfl) ?_
      refine va_zald (f := S.1) hx hb hK hP sj 1 (sw_f (S := S) hj hji) rfl (kin c_1 c_10 rfl) d_S_has_18 ?_
      refine lv_if_eq (tgt := 26) hx hb d_S_has_19 (by decide) (fun c_19 => ?_) (fun c_19 => ?_)
      · refine lv_iconst (v := 0) hx hb d_S_has_26 (by decide) ?_
        have hv : sHas S x = 0 := by simp [sHas, c_1, c_10, c_19]
        exact W.zret (v := 0) hx hb hr rfl (fun t ht hW => ⟨by rw [hv], ht⟩) (fun q hq => by cases hq) d_S_has_27
      · refine lv_iconst (v := 1) hx hb d_S_has_22 (by decide) ?_
        refine lv_goto (tgt := 27) hx hb d_S_has_23 (by decide) ?_
        have hv : sHas S x = 1 := by simp [sHas, c_1, c_10, c_19]
        exact W.zret (v := 1) hx hb hr rfl (fun t ht hW => ⟨by rw [hv], ht⟩) (fun q hq => by cases hq) d_S_has_27
set_option maxHeartbeats 4000000 in
set_option maxRecDepth 100000 in
/-- at(x) -/
theorem c_S_at (l : Launch) (D : va_G) (ty : Nat → ClassId) (ad : Nat → Nat) (sz : Nat) (N : Nat) (c : Nat → va_E) (si sj sk : Nat) (S : SR) (hi : si < N) (hj : sj < N) (hk : sk < N) (hji : sj ≠ si) (hki : sk ≠ si) (hkj : sk ≠ sj) (x : Int32) : Met l y_S_at w_S_at ({ frames := 0, cells := 0, slots := 0, locals := 0 }) (va_Pc [.ref (ad si), .int x] (kP D kCl (kTy ty) (wL N ad (sUp ty ad c si sj sk S)) sz)) (kQr (some (.int (sAt S x)))) 0 0 (fun _ => False) := by
  refine Met.ofW (cc := b_S_at) (maxL := 2) (ret := (some .int)) (by decide) rfl ?_
  intro p e s m args below meth cd s₁ B hml hv
  obtain ⟨rfl, hsz, hP, hK, hD0⟩ := hv
  have hx := B.exec
  have hb := B.bytes
  have hr := B.returns
  have hts := atoms_spec (ws := w_S_at) B.pre
  have hown : s.vm.findClass R_S = some m.cls := findClass_of_methodNamed B.named
  have hlocks := B.notSynchronized
  subst hsz
  have hD := hD0
  have hl := lv_entry ([.ref (ad si), .int x]) (n := 2) (Nat.le_of_ble_eq_true rfl)
  rw [lg_entry_eq]
  generalize (lg_sl ([.ref (ad si), .int x]) ++ List.replicate (2 - (lg_sl ([.ref (ad si), .int x])).length) Slot.unset).toArray = ls at hl ⊢
  have hl : lv_has ls 2 [(0, .ref (ad si)), (1, .int x)] := hl
  refine lv_iload_n hx hb d_S_at_0 rfl (lv_at hl 1 rfl) ?_
  refine lv_if_lt (tgt := 30) hx hb d_S_at_1 (by decide) (fun c_1 => ?_) (fun c_1 => ?_)
  · refine lv_iconst (v := (-1)) hx hb d_S_at_30 (by decide) ?_
    have hv : sAt S x = (-1) := by simp [sAt, c_1]
    exact W.iret (v := (-1)) hx hb hr (fun t ht hW => ⟨by rw [hv], ht⟩) (fun q hq => by cases hq) d_S_at_31
  · refine lv_iload_n hx hb d_S_at_4 rfl (lv_at hl 1 rfl) ?_
    refine lv_aload_n hx hb d_S_at_5 rfl (lv_at hl 0 rfl) ?_
    refine va_get (D := D) (ci := 1) (v := .int S.2.2) (C := R_S) (T := F_S) (N := 3) hx hb hts (fun w h => kS1 w (i_S w h)) hown hK hP si (sw_o (S := S) hi) rfl 2 (by decide) (hts _ (kS1 _ m_S_19)) (fun _ h9 => h9) rfl d_S_at_6 ?_
    refine lv_icmp_ge (tgt := 30) hx hb d_S_at_9 (by decide) (fun c_9 => ?_) (fun c_9 => ?_)
    · refine lv_iconst (v := (-1)) hx hb d_S_at_30 (by decide) ?_
      have hv : sAt S x = (-1) := by simp [sAt, c_1, c_9]
      exact W.iret (v := (-1)) hx hb hr (fun t ht hW => ⟨by rw [hv], ht⟩) (fun q hq => by cases hq) d_S_at_31
    · refine lv_iload_n hx hb d_S_at_12 rfl (lv_at hl 1 rfl) ?_
      refine lv_aload_n hx hb d_S_at_13 rfl (lv_at hl 0 rfl) ?_
      refine va_get (D := D) (ci := 1) (v := .ref (ad sk)) (C := R_S) (T := F_S) (N := 3) hx hb hts (fun w h => kS1 w (i_S w h)) hown hK hP si (sw_o (S := S) hi) rfl 1 (by decide) (hts _ (kS1 _ m_S_15)) (fun _ h9 => h9) rfl d_S_at_14 ?_
      refine va_alen (v := 300) hx hb hK hP sk 0 (sw_r (S := S) hk hki hkj) rfl rfl d_S_at_17 ?_
      refine lv_icmp_ge (tgt := 30) hx hb d_S_at_18 (by decide) (fun c_18 => ?_) (fun c_18 => ?_)
      · refine lv_iconst (v := (-1)) hx hb d_S_at_30 (by decide) ?_
        have hv : sAt S x = (-1) := by simp [sAt, c_1, c_9, c_18]
        exact W.iret (v := (-1)) hx hb hr (fun t ht hW => ⟨by rw [hv], ht⟩) (fun q hq => by cases hq) d_S_at_31
      · refine lv_aload_n hx hb d_S_at_21 rfl (lv_at hl 0 rfl) ?_
        refine va_get (D := D) (ci := 1) (v := .ref (ad sk)) (C := R_S) (T := F_S) (N := 3) hx hb hts (fun w h => kS1 w (i_S w h)) hown hK hP si (sw_o (S := S) hi) rfl 1 (by decide) (hts _ (kS1 _ m_S_15)) (fun _ h9 => h9) rfl d_S_at_22 ?_
        refine lv_iload_n hx hb d_S_at_25 rfl (lv_at hl 1 rfl) ?_
        refine va_iald (f := S.2.1) hx hb hK hP sk 0 (sw_r (S := S) hk hki hkj) rfl (kin c_1 c_18 rfl) d_S_at_26 ?_
        refine lv_goto (tgt := 31) hx hb d_S_at_27 (by decide) ?_
        have hv : sAt S x = S.2.1 x.toNatClampNeg := by simp [sAt, c_1, c_9, c_18]
        exact W.iret (v := S.2.1 x.toNatClampNeg) hx hb hr (fun t ht hW => ⟨by rw [hv], ht⟩) (fun q hq => by cases hq) d_S_at_31
set_option maxHeartbeats 4000000 in
set_option maxRecDepth 100000 in
/-- add(x) -/
theorem c_S_add (l : Launch) (D : va_G) (ty : Nat → ClassId) (ad : Nat → Nat) (sz : Nat) (N : Nat) (c : Nat → va_E) (si sj sk : Nat) (S : SR) (hi : si < N) (hj : sj < N) (hk : sk < N) (hji : sj ≠ si) (hki : sk ≠ si) (hkj : sk ≠ sj) (x : Int32) : Met l y_S_add w_S_add ({ frames := 0, cells := 0, slots := 0, locals := 0 }) (va_Pc [.ref (ad si), .int x] (kP D kCl (kTy ty) (wL N ad (sUp ty ad c si sj sk S)) sz)) (va_Qv (fun u9 : va_W => u9 = (wL N ad (sUp ty ad c si sj sk (sAdd S x)))) (kB D kCl (kTy ty) (va_A (wL N ad (sUp ty ad c si sj sk S)) sz)) (va_A (wL N ad (sUp ty ad c si sj sk S)) sz)) 0 0 (va_A (wL N ad (sUp ty ad c si sj sk S)) sz) := by
  refine Met.ofW (cc := b_S_add) (maxL := 2) (ret := none) (by decide) rfl ?_
  intro p e s m args below meth cd s₁ B hml hv
  obtain ⟨rfl, hsz, hP, hK, hD0⟩ := hv
  have hx := B.exec
  have hb := B.bytes
  have hr := B.returns
  have hts := atoms_spec (ws := w_S_add) B.pre
  have hown : s.vm.findClass R_S = some m.cls := findClass_of_methodNamed B.named
  have hlocks := B.notSynchronized
  subst hsz
  have hD := hD0.self (sz := s.heap.size)
  generalize hAe : va_A (wL N ad (sUp ty ad c si sj sk S)) s.heap.size = A at hD ⊢
  have hA : ∀ q : Nat, s.heap.size ≤ q → A q := fun q h => by rw [← hAe]; exact Or.inr h
  have hS : va_S A s.heap s.heap [] := va_S.rf
  have hl := lv_entry ([.ref (ad si), .int x]) (n := 2) (Nat.le_of_ble_eq_true rfl)
  rw [lg_entry_eq]
  generalize (lg_sl ([.ref (ad si), .int x]) ++ List.replicate (2 - (lg_sl ([.ref (ad si), .int x])).length) Slot.unset).toArray = ls at hl ⊢
  have hl : lv_has ls 2 [(0, .ref (ad si)), (1, .int x)] := hl
  refine lv_iload_n hx hb d_S_add_0 rfl (lv_at hl 1 rfl) ?_
  refine lv_if_lt (tgt := 41) hx hb d_S_add_1 (by decide) (fun c_1 => ?_) (fun c_1 => ?_)
  · have hu : (wL N ad (sUp ty ad c si sj sk S) : va_W) = wL N ad (sUp ty ad c si sj sk (sAdd S x)) := by simp [sAdd, kb1, c_1]
    exact W.vret hx hb hr (fun t ht hW => ⟨⟨_, rfl, hu, by rw [ht]; exact hP, va_K.moved hW.alike hK, hD⟩, hS.F ht⟩) hS.2.2 d_S_add_41
  · refine lv_iload_n hx hb d_S_add_4 rfl (lv_at hl 1 rfl) ?_
    refine lv_aload_n hx hb d_S_add_5 rfl (lv_at hl 0 rfl) ?_
    refine va_get (D := D) (ci := 1) (v := .ref (ad sj)) (C := R_S) (T := F_S) (N := 3) hx hb hts (fun w h => kS1 w (i_S w h)) hown hK hP si (sw_o (S := S) hi) rfl 0 (by decide) (hts _ (kS1 _ m_S_9)) (fun _ h9 => h9) rfl d_S_add_6 ?_
    refine va_alen (v := 300) hx hb hK hP sj 1 (sw_f (S := S) hj hji) rfl rfl d_S_add_9 ?_
    refine lv_icmp_ge (tgt := 41) hx hb d_S_add_10 (by decide) (fun c_10 => ?_) (fun c_10 => ?_)
    · have hu : (wL N ad (sUp ty ad c si sj sk S) : va_W) = wL N ad (sUp ty ad c si sj sk (sAdd S x)) := by simp [sAdd, kb1, c_1, c_10]
      exact W.vret hx hb hr (fun t ht hW => ⟨⟨_, rfl, hu, by rw [ht]; exact hP, va_K.moved hW.alike hK, hD⟩, hS.F ht⟩) hS.2.2 d_S_add_41
    · refine lv_aload_n hx hb d_S_add_13 rfl (lv_at hl 0 rfl) ?_
      refine va_get (D := D) (ci := 1) (v := .ref (ad sj)) (C := R_S) (T := F_S) (N := 3) hx hb hts (fun w h => kS1 w (i_S w h)) hown hK hP si (sw_o (S := S) hi) rfl 0 (by decide) (hts _ (kS1 _ m_S_9)) (fun _ h9 => h9) rfl d_S_add_14 ?_
      refine lv_iload_n hx hb d_S_add_17 rfl (lv_at hl 1 rfl) ?_
      refine va_zald (f := S.1) hx hb hK hP sj 1 (sw_f (S := S) hj hji) rfl (kin c_1 c_10 rfl) d_S_add_18 ?_
      refine lv_if_ne (tgt := 41) hx hb d_S_add_19 (by decide) (fun c_19 => ?_) (fun c_19 => ?_)
      · have hu : (wL N ad (sUp ty ad c si sj sk S) : va_W) = wL N ad (sUp ty ad c si sj sk (sAdd S x)) := by simp [sAdd, kb1, c_1, c_10, c_19]
        exact W.vret hx hb hr (fun t ht hW => ⟨⟨_, rfl, hu, by rw [ht]; exact hP, va_K.moved hW.alike hK, hD⟩, hS.F ht⟩) hS.2.2 d_S_add_41
      · refine lv_aload_n hx hb d_S_add_22 rfl (lv_at hl 0 rfl) ?_
        refine va_get (D := D) (ci := 1) (v := .int S.2.2) (C := R_S) (T := F_S) (N := 3) hx hb hts (fun w h => kS1 w (i_S w h)) hown hK hP si (sw_o (S := S) hi) rfl 2 (by decide) (hts _ (kS1 _ m_S_19)) (fun _ h9 => h9) rfl d_S_add_23 ?_
        refine lv_if_lt (tgt := 41) hx hb d_S_add_26 (by decide) (fun c_26 => ?_) (fun c_26 => ?_)
        · have hu : (wL N ad (sUp ty ad c si sj sk S) : va_W) = wL N ad (sUp ty ad c si sj sk (sAdd S x)) := by simp [sAdd, kb1, c_1, c_10, c_19, c_26]
          exact W.vret hx hb hr (fun t ht hW => ⟨⟨_, rfl, hu, by rw [ht]; exact hP, va_K.moved hW.alike hK, hD⟩, hS.F ht⟩) hS.2.2 d_S_add_41
        · refine lv_aload_n hx hb d_S_add_29 rfl (lv_at hl 0 rfl) ?_
          refine va_get (D := D) (ci := 1) (v := .int S.2.2) (C := R_S) (T := F_S) (N := 3) hx hb hts (fun w h => kS1 w (i_S w h)) hown hK hP si (sw_o (S := S) hi) rfl 2 (by decide) (hts _ (kS1 _ m_S_19)) (fun _ h9 => h9) rfl d_S_add_30 ?_
          refine lv_aload_n hx hb d_S_add_33 rfl (lv_at hl 0 rfl) ?_
          refine va_get (D := D) (ci := 1) (v := .ref (ad sk)) (C := R_S) (T := F_S) (N := 3) hx hb hts (fun w h => kS1 w (i_S w h)) hown hK hP si (sw_o (S := S) hi) rfl 1 (by decide) (hts _ (kS1 _ m_S_15)) (fun _ h9 => h9) rfl d_S_add_34 ?_
          refine va_alen (v := 300) hx hb hK hP sk 0 (sw_r (S := S) hk hki hkj) rfl rfl d_S_add_37 ?_
          refine lv_icmp_lt (tgt := 42) hx hb d_S_add_38 (by decide) (fun c_38 => ?_) (fun c_38 => ?_)
          · refine lv_aload_n hx hb d_S_add_42 rfl (lv_at hl 0 rfl) ?_
            refine va_get (D := D) (ci := 1) (v := .ref (ad sj)) (C := R_S) (T := F_S) (N := 3) hx hb hts (fun w h => kS1 w (i_S w h)) hown hK hP si (sw_o (S := S) hi) rfl 0 (by decide) (hts _ (kS1 _ m_S_9)) (fun _ h9 => h9) rfl d_S_add_43 ?_
            refine lv_iload_n hx hb d_S_add_46 rfl (lv_at hl 1 rfl) ?_
            refine lv_iconst (v := 1) hx hb d_S_add_47 (by decide) ?_
            refine va_zast (f := S.1) hx hb hK hP hD hS sj 1 (sw_f (S := S) hj hji) rfl (kin c_1 c_10 rfl) d_S_add_48 (fun H locs hP hD hS => ?_)
            have hP := kw_P (sw_sf (S := S) (f := upd S.1 x.toNatClampNeg (vp_nar .boolean 1)) hji) hP
            have hD := kw_D (sw_sf (S := S) (f := upd S.1 x.toNatClampNeg (vp_nar .boolean 1)) hji) hD
            refine lv_aload_n hx hb d_S_add_49 rfl (lv_at hl 0 rfl) ?_
            refine va_get (D := D) (ci := 1) (v := .ref (ad sk)) (C := R_S) (T := F_S) (N := 3) hx hb hts (fun w h => kS1 w (i_S w h)) hown hK hP si (sw_o (S := (upd S.1 x.toNatClampNeg (vp_nar .boolean 1), S.2.1, S.2.2)) hi) rfl 1 (by decide) (hts _ (kS1 _ m_S_15)) (fun _ h9 => h9) rfl d_S_add_50 ?_
            refine lv_aload_n hx hb d_S_add_53 rfl (lv_at hl 0 rfl) ?_
            refine va_get (D := D) (ci := 1) (v := .int S.2.2) (C := R_S) (T := F_S) (N := 3) hx hb hts (fun w h => kS1 w (i_S w h)) hown hK hP si (sw_o (S := (upd S.1 x.toNatClampNeg (vp_nar .boolean 1), S.2.1, S.2.2)) hi) rfl 2 (by decide) (hts _ (kS1 _ m_S_19)) (fun _ h9 => h9) rfl d_S_add_54 ?_
            refine lv_iload_n hx hb d_S_add_57 rfl (lv_at hl 1 rfl) ?_
            refine va_iast (f := S.2.1) hx hb hK hP hD hS sk 0 (sw_r (S := (upd S.1 x.toNatClampNeg (vp_nar .boolean 1), S.2.1, S.2.2)) hk hki hkj) rfl (kin2 c_26 c_38 rfl) d_S_add_58 (fun H locs hP hD hS => ?_)
            have hP := kw_P (sw_sr (S := (upd S.1 x.toNatClampNeg (vp_nar .boolean 1), S.2.1, S.2.2)) (f := upd S.2.1 S.2.2.toNatClampNeg x) hki hkj) hP
            have hD := kw_D (sw_sr (S := (upd S.1 x.toNatClampNeg (vp_nar .boolean 1), S.2.1, S.2.2)) (f := upd S.2.1 S.2.2.toNatClampNeg x) hki hkj) hD
            refine lv_aload_n hx hb d_S_add_59 rfl (lv_at hl 0 rfl) ?_
            refine lv_dup hx hb d_S_add_60 rfl ?_
            refine va_get (D := D) (ci := 1) (v := .int S.2.2) (C := R_S) (T := F_S) (N := 3) hx hb hts (fun w h => kS1 w (i_S w h)) hown hK hP si (sw_o (S := (upd S.1 x.toNatClampNeg (vp_nar .boolean 1), upd S.2.1 S.2.2.toNatClampNeg x, S.2.2)) hi) rfl 2 (by decide) (hts _ (kS1 _ m_S_19)) (fun _ h9 => h9) rfl d_S_add_61 ?_
            refine lv_iconst (v := 1) hx hb d_S_add_64 (by decide) ?_
            refine lv_iadd hx hb d_S_add_65 ?_
            refine va_put (D := D) (ci := 1) (v := .int (S.2.2 + 1)) (ty := .int) (C := R_S) (T := F_S) (N := 3) hx hb hts (fun w h => kS1 w (i_S w h)) tt_S tt_S_ok n_S hown hK hP hD hS si (sw_o (S := (upd S.1 x.toNatClampNeg (vp_nar .boolean 1), upd S.2.1 S.2.2.toNatClampNeg x, S.2.2)) hi) rfl 2 (by decide) (hts _ (kS1 _ m_S_19)) (fun _ h9 => h9) rfl (by decide +kernel) rfl rfl (Nat.le_of_ble_eq_true rfl) d_S_add_66 (fun H locs hP hD hS => ?_)
            have hP := kw_P (sw_so (S := (upd S.1 x.toNatClampNeg (vp_nar .boolean 1), upd S.2.1 S.2.2.toNatClampNeg x, S.2.2)) (v := S.2.2 + 1)) hP
            have hD := kw_D (sw_so (S := (upd S.1 x.toNatClampNeg (vp_nar .boolean 1), upd S.2.1 S.2.2.toNatClampNeg x, S.2.2)) (v := S.2.2 + 1)) hD
            have hu : (wL N ad (sUp ty ad c si sj sk (upd S.1 x.toNatClampNeg (vp_nar .boolean 1), upd S.2.1 S.2.2.toNatClampNeg x, S.2.2 + 1)) : va_W) = wL N ad (sUp ty ad c si sj sk (sAdd S x)) := by simp [sAdd, kb1, c_1, c_10, c_19, c_26, c_38]
            exact W.vret hx hb hr (fun t ht hW => ⟨⟨_, rfl, hu, by rw [ht]; exact hP, va_K.moved hW.alike hK, hD⟩, hS.F ht⟩) hS.2.2 d_S_add_69
          · have hu : (wL N ad (sUp ty ad c si sj sk S) : va_W) = wL N ad (sUp ty ad c si sj sk (sAdd S x)) := by simp [sAdd, kb1, c_1, c_10, c_19, c_26, c_38]
            exact W.vret hx hb hr (fun t ht hW => ⟨⟨_, rfl, hu, by rw [ht]; exact hP, va_K.moved hW.alike hK, hD⟩, hS.F ht⟩) hS.2.2 d_S_add_41
set_option maxHeartbeats 4000000 in
set_option maxRecDepth 100000 in
/-- forgetAll() -/
theorem c_S_forgetAll (l : Launch) (D : va_G) (ty : Nat → ClassId) (ad : Nat → Nat) (sz : Nat) (N : Nat) (c : Nat → va_E) (si sj sk : Nat) (S : SR) (hi : si < N) (hj : sj < N) (hk : sk < N) (hji : sj ≠ si) (hki : sk ≠ si) (hkj : sk ≠ sj) : Met l y_S_forgetAll w_S_forgetAll ({ frames := 0, cells := 0, slots := 0, locals := 0 }) (va_Pc [.ref (ad si)] (kP D kCl (kTy ty) (wL N ad (sUp ty ad c si sj sk S)) sz)) (va_Qv (fun u9 : va_W => u9 = (wL N ad (sUp ty ad c si sj sk (sFg S)))) (kB D kCl (kTy ty) (va_A (wL N ad (sUp ty ad c si sj sk S)) sz)) (va_A (wL N ad (sUp ty ad c si sj sk S)) sz)) 0 0 (va_A (wL N ad (sUp ty ad c si sj sk S)) sz) := by
  refine Met.ofW (cc := b_S_forgetAll) (maxL := 2) (ret := none) (by decide) rfl ?_
  intro p e s m args below meth cd s₁ B hml hv
  obtain ⟨rfl, hsz, hP, hK, hD0⟩ := hv
  have hx := B.exec
  have hb := B.bytes
  have hr := B.returns
  have hts := atoms_spec (ws := w_S_forgetAll) B.pre
  have hown : s.vm.findClass R_S = some m.cls := findClass_of_methodNamed B.named
  have hlocks := B.notSynchronized
  subst hsz
  have hD := hD0.self (sz := s.heap.size)
  generalize hAe : va_A (wL N ad (sUp ty ad c si sj sk S)) s.heap.size = A at hD ⊢
  have hA : ∀ q : Nat, s.heap.size ≤ q → A q := fun q h => by rw [← hAe]; exact Or.inr h
  have hS : va_S A s.heap s.heap [] := va_S.rf
  have hl := lv_entry ([.ref (ad si)]) (n := 2) (Nat.le_of_ble_eq_true rfl)
  rw [lg_entry_eq]
  generalize (lg_sl ([.ref (ad si)]) ++ List.replicate (2 - (lg_sl ([.ref (ad si)])).length) Slot.unset).toArray = ls at hl ⊢
  have hl : lv_has ls 2 [(0, .ref (ad si))] := hl
  refine lv_iconst (v := 0) hx hb d_S_forgetAll_0 (by decide) ?_
  refine lv_istore_n (lv' := [(1, .int 0), (0, .ref (ad si))]) hx hb d_S_forgetAll_1 rfl hl (by decide) rfl (fun ls hl => ?_)
  have L1 : ∀ (Q : State → Prop) (rem i : Nat) (H : Heap) (locs : List Loc) (ls : Array Slot), i + rem = 300 → va_P D kCl (wL N ad (sUp ty ad c si sj sk (zf i S.1, S.2.1, S.2.2))) H → va_D A (wL N ad (sUp ty ad c si sj sk (zf i S.1, S.2.1, S.2.2))) → va_S A s.heap H locs → lv_has ls 2 [(0, .ref (ad si)), (1, .int (nI i))] → (∀ (H : Heap) (locs : List Loc) (ls : Array Slot), va_P D kCl (wL N ad (sUp ty ad c si sj sk (zf 300 S.1, S.2.1, S.2.2))) H → va_D A (wL N ad (sUp ty ad c si sj sk (zf 300 S.1, S.2.1, S.2.2))) → va_S A s.heap H locs → lv_has ls 2 [(0, .ref (ad si)), (1, .int (nI 300))] → W p l e (headSpec w_S_forgetAll ({ frames := 0, cells := 0, slots := 0, locals := 0 })).room s m ([.ref (ad si)] : List Value).toArray below meth cd H locs 0 0 Q (F0 m 24 ls [])) → W p l e (headSpec w_S_forgetAll ({ frames := 0, cells := 0, slots := 0, locals := 0 })).room s m ([.ref (ad si)] : List Value).toArray below meth cd H locs 0 0 Q (F0 m 2 ls []) := by
    intro Q rem
    induction rem with
    | zero =>
      intro i H locs ls hir_i hP hD hS hl kx
      obtain rfl : 300 = i := by omega
      refine lv_iload_n hx hb d_S_forgetAll_2 rfl (lv_at hl 1 rfl) ?_
      refine lv_aload_n hx hb d_S_forgetAll_3 rfl (lv_at hl 0 rfl) ?_
      refine va_get (D := D) (ci := 1) (v := .ref (ad sj)) (C := R_S) (T := F_S) (N := 3) hx hb hts (fun w h => kS1 w (i_S w h)) hown hK hP si (sw_o (S := (zf 300 S.1, S.2.1, S.2.2)) hi) rfl 0 (by decide) (hts _ (kS1 _ m_S_9)) (fun _ h9 => h9) rfl d_S_forgetAll_4 ?_
      refine va_alen (v := 300) hx hb hK hP sj 1 (sw_f (S := (zf 300 S.1, S.2.1, S.2.2)) hj hji) rfl rfl d_S_forgetAll_7 ?_
      refine lv_icmp_ge (tgt := 24) hx hb d_S_forgetAll_8 (by decide) (fun c_8' => ?_) (fun c_8' => absurd (nI_le (a := 300) (b := 300) (Nat.le_refl _) (by omega)) c_8')
      exact kx _ _ ls hP hD hS hl
    | succ rem ih =>
      intro i H locs ls hir_i hP hD hS hl kx
      have hlt_i : i < 300 := by omega
      refine lv_iload_n hx hb d_S_forgetAll_2 rfl (lv_at hl 1 rfl) ?_
      refine lv_aload_n hx hb d_S_forgetAll_3 rfl (lv_at hl 0 rfl) ?_
      refine va_get (D := D) (ci := 1) (v := .ref (ad sj)) (C := R_S) (T := F_S) (N := 3) hx hb hts (fun w h => kS1 w (i_S w h)) hown hK hP si (sw_o (S := (zf i S.1, S.2.1, S.2.2)) hi) rfl 0 (by decide) (hts _ (kS1 _ m_S_9)) (fun _ h9 => h9) rfl d_S_forgetAll_4 ?_
      refine va_alen (v := 300) hx hb hK hP sj 1 (sw_f (S := (zf i S.1, S.2.1, S.2.2)) hj hji) rfl rfl d_S_forgetAll_7 ?_
      refine lv_icmp_ge (tgt := 24) hx hb d_S_forgetAll_8 (by decide) (fun c_8' => absurd c_8' (nI_ge (b := 300) hlt_i (by omega))) (fun c_8' => ?_)
      refine lv_aload_n hx hb d_S_forgetAll_11 rfl (lv_at hl 0 rfl) ?_
      refine va_get (D := D) (ci := 1) (v := .ref (ad sj)) (C := R_S) (T := F_S) (N := 3) hx hb hts (fun w h => kS1 w (i_S w h)) hown hK hP si (sw_o (S := (zf i S.1, S.2.1, S.2.2)) hi) rfl 0 (by decide) (hts _ (kS1 _ m_S_9)) (fun _ h9 => h9) rfl d_S_forgetAll_12 ?_
      refine lv_iload_n hx hb d_S_forgetAll_15 rfl (lv_at hl 1 rfl) ?_
      refine lv_iconst (v := 0) hx hb d_S_forgetAll_16 (by decide) ?_
      refine va_zast (f := zf i S.1) hx hb hK hP hD hS sj 1 (sw_f (S := (zf i S.1, S.2.1, S.2.2)) hj hji) rfl (vp_in_nI hlt_i (by omega)) d_S_forgetAll_17 (fun H locs hP hD hS => ?_)
      rw [nI_clamp (n := i) (by omega)] at hP hD
      have hP := kw_P (sw_sf (S := (zf i S.1, S.2.1, S.2.2)) (f := upd (zf i S.1) i (vp_nar .boolean 0)) hji) hP
      have hD := kw_D (sw_sf (S := (zf i S.1, S.2.1, S.2.2)) (f := upd (zf i S.1) i (vp_nar .boolean 0)) hji) hD
      refine lv_iinc (v := nI i + 1) (lv' := [(1, .int (nI i + 1)), (0, .ref (ad si))]) hx hb d_S_forgetAll_18 hl (k := 1) rfl rfl (by decide) rfl (fun ls hl => ?_)
      refine lv_goto (tgt := 2) hx hb d_S_forgetAll_21 (by decide) ?_
      have hl := lv_sub (l' := [(0, .ref (ad si)), (1, .int (nI i + 1))]) hl [1, 0] rfl
      have hqq9 : (.int (nI i + 1) : Value) = .int (nI (i + 1)) := by rw [nI_1]
      rw [hqq9] at hl
      have hE : (wL N ad (sUp ty ad c si sj sk (upd (zf i S.1) i (vp_nar .boolean 0), S.2.1, S.2.2)) : va_W) = wL N ad (sUp ty ad c si sj sk (zf (i + 1) S.1, S.2.1, S.2.2)) := by rw [kb0, zf_s]
      have hP := kw_P hE hP
      have hD := kw_D hE hD
      exact ih (i + 1) _ _ ls (by omega) hP hD hS hl kx
  have hl := lv_sub (l' := [(0, .ref (ad si)), (1, .int 0)]) hl [1, 0] rfl
  have hqq9 : (.int 0 : Value) = .int (nI 0) := by rw [nI_0]
  rw [hqq9] at hl
  refine L1 _ (300 - 0) 0 _ _ ls (by omega) hP hD hS hl (fun H locs ls hP hD hS hl => ?_)
  refine lv_aload_n hx hb d_S_forgetAll_24 rfl (lv_at hl 0 rfl) ?_
  refine lv_iconst (v := 0) hx hb d_S_forgetAll_25 (by decide) ?_
  refine va_put (D := D) (ci := 1) (v := .int 0) (ty := .int) (C := R_S) (T := F_S) (N := 3) hx hb hts (fun w h => kS1 w (i_S w h)) tt_S tt_S_ok n_S hown hK hP hD hS si (sw_o (S := (zf 300 S.1, S.2.1, S.2.2)) hi) rfl 2 (by decide) (hts _ (kS1 _ m_S_19)) (fun _ h9 => h9) rfl (by decide +kernel) rfl rfl (Nat.le_of_ble_eq_true rfl) d_S_forgetAll_26 (fun H locs hP hD hS => ?_)
  have hP := kw_P (sw_so (S := (zf 300 S.1, S.2.1, S.2.2)) (v := 0)) hP
  have hD := kw_D (sw_so (S := (zf 300 S.1, S.2.1, S.2.2)) (v := 0)) hD
  have hu : (wL N ad (sUp ty ad c si sj sk (zf 300 S.1, S.2.1, 0)) : va_W) = wL N ad (sUp ty ad c si sj sk (sFg S)) := by simp [sFg]
  exact W.vret hx hb hr (fun t ht hW => ⟨⟨_, rfl, hu, by rw [ht]; exact hP, va_K.moved hW.alike hK, hD⟩, hS.F ht⟩) hS.2.2 d_S_forgetAll_29
set_option maxHeartbeats 4000000 in
set_option maxRecDepth 100000 in
/-- hasField(x) -/
theorem c_T_hasField (l : Launch) (D : va_G) (ty : Nat → ClassId) (ad : Nat → Nat) (sz : Nat) (N : Nat) (c : Nat → va_E) (i j : Nat) (v1 v2 v3 : Int32) (len : Nat) (r : Nat → Int32) (hi : i < N) (hj : j < N) (hT : c i = .inr (2, [.ref (ad j), .int v1, .int v2, .int v3])) (hF : c j = .inl (ty 0, len, .inl r)) (x : Int32) : Met l y_T_hasField w_T_hasField ({ frames := 0, cells := 0, slots := 0, locals := 0 }) (va_Pc [.ref (ad i), .int x] (kP D kCl (kTy ty) (wL N ad c) sz)) (kQr (some (.int (tHasF len x)))) 0 0 (fun _ => False) := by
  refine Met.ofW (cc := b_T_hasField) (maxL := 2) (ret := (some .boolean)) (by decide) rfl ?_
  intro p e s m args below meth cd s₁ B hml hv
  obtain ⟨rfl, hsz, hP, hK, hD0⟩ := hv
  have hx := B.exec
  have hb := B.bytes
  have hr := B.returns
  have hts := atoms_spec (ws := w_T_hasField) B.pre
  have hown : s.vm.findClass R_T = some m.cls := findClass_of_methodNamed B.named
  have hlocks := B.notSynchronized
  subst hsz
  have hD := hD0
  have hl := lv_entry ([.ref (ad i), .int x]) (n := 2) (Nat.le_of_ble_eq_true rfl)
  rw [lg_entry_eq]
  generalize (lg_sl ([.ref (ad i), .int x]) ++ List.replicate (2 - (lg_sl ([.ref (ad i), .int x])).length) Slot.unset).toArray = ls at hl ⊢
  have hl : lv_has ls 2 [(0, .ref (ad i)), (1, .int x)] := hl
  refine lv_iload_n hx hb d_T_hasField_0 rfl (lv_at hl 1 rfl) ?_
  refine lv_if_lt (tgt := 17) hx hb d_T_hasField_1 (by decide) (fun c_1 => ?_) (fun c_1 => ?_)
  · refine lv_iconst (v := 0) hx hb d_T_hasField_17 (by decide) ?_
    have hv : tHasF len x = 0 := by simp [tHasF, c_1]
    exact W.zret (v := 0) hx hb hr rfl (fun t ht hW => ⟨by rw [hv], ht⟩) (fun q hq => by cases hq) d_T_hasField_18
  · refine lv_iload_n hx hb d_T_hasField_4 rfl (lv_at hl 1 rfl) ?_
    refine lv_aload_n hx hb d_T_hasField_5 rfl (lv_at hl 0 rfl) ?_
    refine va_get (D := D) (ci := 2) (v := .ref (ad j)) (C := R_T) (T := F_T) (N := 4) hx hb hts (fun w h => kS1 w (i_T w h)) hown hK hP i (wl_at hi hT) rfl 0 (by decide) (hts _ (kS1 _ m_T_15)) (fun _ h9 => h9) rfl d_T_hasField_6 ?_
    refine va_alen (v := nI len) hx hb hK hP j 0 (wl_at hj hF) rfl rfl d_T_hasField_9 ?_
    refine lv_icmp_ge (tgt := 17) hx hb d_T_hasField_10 (by decide) (fun c_10 => ?_) (fun c_10 => ?_)
    · refine lv_iconst (v := 0) hx hb d_T_hasField_17 (by decide) ?_
      have hv : tHasF len x = 0 := by simp [tHasF, c_1, c_10]
      exact W.zret (v := 0) hx hb hr rfl (fun t ht hW => ⟨by rw [hv], ht⟩) (fun q hq => by cases hq) d_T_hasField_18
    · refine lv_iconst (v := 1) hx hb d_T_hasField_13 (by decide) ?_
      refine lv_goto (tgt := 18) hx hb d_T_hasField_14 (by decide) ?_
      have hv : tHasF len x = 1 := by simp [tHasF, c_1, c_10]
      exact W.zret (v := 1) hx hb hr rfl (fun t ht hW => ⟨by rw [hv], ht⟩) (fun q hq => by cases hq) d_T_hasField_18
set_option maxHeartbeats 4000000 in
set_option maxRecDepth 100000 in
/-- hasWeakField() -/
theorem c_T_hasWeakField (l : Launch) (D : va_G) (ty : Nat → ClassId) (ad : Nat → Nat) (sz : Nat) (N : Nat) (c : Nat → va_E) (i j : Nat) (v1 v2 v3 : Int32) (len : Nat) (r : Nat → Int32) (hi : i < N) (hj : j < N) (hT : c i = .inr (2, [.ref (ad j), .int v1, .int v2, .int v3])) (hF : c j = .inl (ty 0, len, .inl r)) : Met l y_T_hasWeakField w_T_hasWeakField ({ frames := 1, cells := 0, slots := 0, locals := 21 }) (va_Pc [.ref (ad i)] (kP D kCl (kTy ty) (wL N ad c) sz)) (kQr (some (.int (tHasW v1 len)))) 0 0 (fun _ => False) := by
  refine Met.ofW (cc := b_T_hasWeakField) (maxL := 1) (ret := (some .boolean)) (by decide) rfl ?_
  intro p e s m args below meth cd s₁ B hml hv
  obtain ⟨rfl, hsz, hP, hK, hD0⟩ := hv
  have hx := B.exec
  have hb := B.bytes
  have hr := B.returns
  have hts := atoms_spec (ws := w_T_hasWeakField) B.pre
  have hown : s.vm.findClass R_T = some m.cls := findClass_of_methodNamed B.named
  have hlocks := B.notSynchronized
  subst hsz
  have hD := hD0
  have hl := lv_entry ([.ref (ad i)]) (n := 1) (Nat.le_of_ble_eq_true rfl)
  rw [lg_entry_eq]
  generalize (lg_sl ([.ref (ad i)]) ++ List.replicate (1 - (lg_sl ([.ref (ad i)])).length) Slot.unset).toArray = ls at hl ⊢
  have hl : lv_has ls 1 [(0, .ref (ad i))] := hl
  refine lv_aload_n hx hb d_T_hasWeakField_0 rfl (lv_at hl 0 rfl) ?_
  refine va_get (D := D) (ci := 2) (v := .int v1) (C := R_T) (T := F_T) (N := 4) hx hb hts (fun w h => kS1 w (i_T w h)) hown hK hP i (wl_at hi hT) rfl 1 (by decide) (hts _ (kS1 _ m_T_9)) (fun _ h9 => h9) rfl d_T_hasWeakField_1 ?_
  refine lv_iconst (v := 1) hx hb d_T_hasWeakField_4 (by decide) ?_
  refine lv_icmp_ne (tgt := 20) hx hb d_T_hasWeakField_5 (by decide) (fun c_5 => ?_) (fun c_5 => ?_)
  · refine lv_iconst (v := 0) hx hb d_T_hasWeakField_20 (by decide) ?_
    have hv : tHasW v1 len = 0 := by simp [tHasW, c_5]
    exact W.zret (v := 0) hx hb hr rfl (fun t ht hW => ⟨by rw [hv], ht⟩) (fun q hq => by cases hq) d_T_hasWeakField_21
  · refine lv_aload_n hx hb d_T_hasWeakField_8 rfl (lv_at hl 0 rfl) ?_
    refine lv_iconst (v := 0) hx hb d_T_hasWeakField_9 (by decide) ?_
    refine kc_R (va_runV (As := [.int 0]) (rest := []) ⟨hx, hb, hml, hown, hts⟩ (c_T_hasField l D ty ad _ N c i j v1 v2 v3 len r hi hj hT hF 0) (cwV 1 hts (kGV kS1 m_T_26 m_im_T_hasField m_sel_T_hasField m_ini_T m_code_T_hasField) rfl rfl rfl (by decide +kernel) ⟨Nat.le_of_ble_eq_true rfl, Nat.le_of_ble_eq_true rfl⟩) ⟨kP_blind, va_recv hK hP (ci := 2) (q0 := i) rfl (wl_at hi hT), fun U hU hW => ⟨rfl, kP_at hK hP hD U hU hW⟩⟩ rfl rfl hl.1 rfl (lv_room (Nat.le_of_ble_eq_true rfl)) d_T_hasWeakField_10 ⟨Nat.le_of_ble_eq_true rfl, Nat.le_of_ble_eq_true rfl⟩) ?_
    refine lv_if_eq (tgt := 20) hx hb d_T_hasWeakField_13 (by decide) (fun c_13 => ?_) (fun c_13 => ?_)
    · refine lv_iconst (v := 0) hx hb d_T_hasWeakField_20 (by decide) ?_
      have hv : tHasW v1 len = 0 := by simp [tHasW, c_5, c_13]
      exact W.zret (v := 0) hx hb hr rfl (fun t ht hW => ⟨by rw [hv], ht⟩) (fun q hq => by cases hq) d_T_hasWeakField_21
    · refine lv_iconst (v := 1) hx hb d_T_hasWeakField_16 (by decide) ?_
      refine lv_goto (tgt := 21) hx hb d_T_hasWeakField_17 (by decide) ?_
      have hv : tHasW v1 len = 1 := by simp [tHasW, c_5, c_13]
      exact W.zret (v := 1) hx hb hr rfl (fun t ht hW => ⟨by rw [hv], ht⟩) (fun q hq => by cases hq) d_T_hasWeakField_21
set_option maxHeartbeats 4000000 in
set_option maxRecDepth 100000 in
/-- waitsForQueue() -/
theorem c_T_waitsForQueue (l : Launch) (D : va_G) (ty : Nat → ClassId) (ad : Nat → Nat) (sz : Nat) (N : Nat) (c : Nat → va_E) (i j : Nat) (v1 v2 v3 : Int32) (len : Nat) (r : Nat → Int32) (hi : i < N) (hj : j < N) (hT : c i = .inr (2, [.ref (ad j), .int v1, .int v2, .int v3])) (hF : c j = .inl (ty 0, len, .inl r)) : Met l y_T_waitsForQueue w_T_waitsForQueue ({ frames := 0, cells := 0, slots := 0, locals := 0 }) (va_Pc [.ref (ad i)] (kP D kCl (kTy ty) (wL N ad c) sz)) (kQr (some (.int (tWait v1 v2)))) 0 0 (fun _ => False) := by
  refine Met.ofW (cc := b_T_waitsForQueue) (maxL := 1) (ret := (some .boolean)) (by decide) rfl ?_
  intro p e s m args below meth cd s₁ B hml hv
  obtain ⟨rfl, hsz, hP, hK, hD0⟩ := hv
  have hx := B.exec
  have hb := B.bytes
  have hr := B.returns
  have hts := atoms_spec (ws := w_T_waitsForQueue) B.pre
  have hown : s.vm.findClass R_T = some m.cls := findClass_of_methodNamed B.named
  have hlocks := B.notSynchronized
  subst hsz
  have hD := hD0
  have hl := lv_entry ([.ref (ad i)]) (n := 1) (Nat.le_of_ble_eq_true rfl)
  rw [lg_entry_eq]
  generalize (lg_sl ([.ref (ad i)]) ++ List.replicate (1 - (lg_sl ([.ref (ad i)])).length) Slot.unset).toArray = ls at hl ⊢
  have hl : lv_has ls 1 [(0, .ref (ad i))] := hl
  refine lv_aload_n hx hb d_T_waitsForQueue_0 rfl (lv_at hl 0 rfl) ?_
  refine va_get (D := D) (ci := 2) (v := .int v1) (C := R_T) (T := F_T) (N := 4) hx hb hts (fun w h => kS1 w (i_T w h)) hown hK hP i (wl_at hi hT) rfl 1 (by decide) (hts _ (kS1 _ m_T_9)) (fun _ h9 => h9) rfl d_T_waitsForQueue_1 ?_
  refine lv_iconst (v := 2) hx hb d_T_waitsForQueue_4 (by decide) ?_
  refine lv_icmp_ne (tgt := 19) hx hb d_T_waitsForQueue_5 (by decide) (fun c_5 => ?_) (fun c_5 => ?_)
  · refine lv_iconst (v := 0) hx hb d_T_waitsForQueue_19 (by decide) ?_
    have hv : tWait v1 v2 = 0 := by simp [tWait, c_5]
    exact W.zret (v := 0) hx hb hr rfl (fun t ht hW => ⟨by rw [hv], ht⟩) (fun q hq => by cases hq) d_T_waitsForQueue_20
  · refine lv_aload_n hx hb d_T_waitsForQueue_8 rfl (lv_at hl 0 rfl) ?_
    refine va_get (D := D) (ci := 2) (v := .int v2) (C := R_T) (T := F_T) (N := 4) hx hb hts (fun w h => kS1 w (i_T w h)) hown hK hP i (wl_at hi hT) rfl 2 (by decide) (hts _ (kS1 _ m_T_19)) (fun _ h9 => h9) rfl d_T_waitsForQueue_9 ?_
    refine lv_if_ne (tgt := 19) hx hb d_T_waitsForQueue_12 (by decide) (fun c_12 => ?_) (fun c_12 => ?_)
    · refine lv_iconst (v := 0) hx hb d_T_waitsForQueue_19 (by decide) ?_
      have hv : tWait v1 v2 = 0 := by simp [tWait, c_5, c_12]
      exact W.zret (v := 0) hx hb hr rfl (fun t ht hW => ⟨by rw [hv], ht⟩) (fun q hq => by cases hq) d_T_waitsForQueue_20
    · refine lv_iconst (v := 1) hx hb d_T_waitsForQueue_15 (by decide) ?_
      refine lv_goto (tgt := 20) hx hb d_T_waitsForQueue_16 (by decide) ?_
      have hv : tWait v1 v2 = 1 := by simp [tWait, c_5, c_12]
      exact W.zret (v := 1) hx hb hr rfl (fun t ht hW => ⟨by rw [hv], ht⟩) (fun q hq => by cases hq) d_T_waitsForQueue_20
