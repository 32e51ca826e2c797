/-! Part 33: the model's further methods. -/
set_option maxHeartbeats 4000000 in
set_option maxRecDepth 100000 in
/-- many() -/
theorem c_M_many (l : Launch) (D : va_G) (ty : Nat → ClassId) (ad : Nat → Nat) (sz : Nat) (n : Nat) (f : Nat → Int32) (th : Nat → Bool) (rt qu : Nat → Int32) (b w : SR) (T : Nat → TH) (g : Nat → Int32) (a : Nat → Nat → Int32) (o : Nat → Int64) (hg1 : g 1 = nI n) (hn3 : n ≤ 300) : Met l y_M_many w_M_many ({ frames := 0, cells := 0, slots := 0, locals := 0 }) (va_Pc [.ref (ad 10)] (kP D kCl (kTy ty) (gW n ty ad f th rt qu b w T g a o) sz)) (kQr (some (.int (it (mC (a 2)) n 0)))) 0 0 (fun _ => False) := by
  refine Met.ofW (cc := b_M_many) (maxL := 3) (ret := (some .int)) (by decide) rfl ?_
  intro p e s m args below meth cd s₁ B hml hv
  obtain ⟨rfl, hsz, hP, hK, hD0⟩ := hv
  have hx := B.exec
  have hb := B.bytes
  have hr := B.returns
  have hts := atoms_spec (ws := w_M_many) B.pre
  have hown : s.vm.findClass R_M = some m.cls := findClass_of_methodNamed B.named
  have hlocks := B.notSynchronized
  subst hsz
  have hD := hD0
  have hl := lv_entry ([.ref (ad 10)]) (n := 3) (Nat.le_of_ble_eq_true rfl)
  rw [lg_entry_eq]
  generalize (lg_sl ([.ref (ad 10)]) ++ List.replicate (3 - (lg_sl ([.ref (ad 10)])).length) Slot.unset).toArray = ls at hl ⊢
  have hl : lv_has ls 3 [(0, .ref (ad 10))] := hl
  refine lv_iconst (v := 0) hx hb d_M_many_0 (by decide) ?_
  refine lv_istore_n (lv' := [(1, .int 0), (0, .ref (ad 10))]) hx hb d_M_many_1 rfl hl (by decide) rfl (fun ls hl => ?_)
  refine lv_iconst (v := 0) hx hb d_M_many_2 (by decide) ?_
  refine lv_istore_n (lv' := [(2, .int 0), (1, .int 0), (0, .ref (ad 10))]) hx hb d_M_many_3 rfl hl (by decide) rfl (fun ls hl => ?_)
  have L1 : ∀ (Q : State → Prop) (rem i : Nat) (ls : Array Slot), i + rem = n → lv_has ls 3 [(0, .ref (ad 10)), (1, .int (it (mC (a 2)) i 0)), (2, .int (nI i))] → (∀ (ls : Array Slot), lv_has ls 3 [(0, .ref (ad 10)), (1, .int (it (mC (a 2)) n 0))] → W p l e (headSpec w_M_many ({ frames := 0, cells := 0, slots := 0, locals := 0 })).room s m ([.ref (ad 10)] : List Value).toArray below meth cd s.heap [] 0 0 Q (F0 m 35 ls [])) → W p l e (headSpec w_M_many ({ frames := 0, cells := 0, slots := 0, locals := 0 })).room s m ([.ref (ad 10)] : List Value).toArray below meth cd s.heap [] 0 0 Q (F0 m 4 ls []) := by
    intro Q rem
    induction rem with
    | zero =>
      intro i ls hir_i hl kx
      obtain rfl : n = i := by omega
      refine lv_iload_n hx hb d_M_many_4 rfl (lv_at hl 2 rfl) ?_
      refine lv_aload_n hx hb d_M_many_5 rfl (lv_at hl 0 rfl) ?_
      refine va_get (D := D) (ci := 3) (v := .int (g 1)) (C := R_M) (T := F_M) (N := 16) hx hb hts (fun w h => kS1 w (i_M w h)) hown hK hP 10 gw_10 rfl 1 (by decide) (hts _ (kS1 _ m_M_45)) (fun _ h9 => h9) rfl d_M_many_6 ?_
      refine lv_icmp_ge (tgt := 35) hx hb d_M_many_9 (by decide) (fun c_9' => ?_) (fun c_9' => absurd (by rw [hg1]; exact nI_le (Nat.le_refl _) (by omega)) c_9')
      have hl := lv_sub (l' := [(0, .ref (ad 10)), (1, .int (it (mC (a 2)) n 0))]) hl [0, 1] rfl
      exact kx ls hl
    | succ rem ih =>
      intro i ls hir_i hl kx
      have hlt_i : i < n := by omega
      refine lv_iload_n hx hb d_M_many_4 rfl (lv_at hl 2 rfl) ?_
      refine lv_aload_n hx hb d_M_many_5 rfl (lv_at hl 0 rfl) ?_
      refine va_get (D := D) (ci := 3) (v := .int (g 1)) (C := R_M) (T := F_M) (N := 16) hx hb hts (fun w h => kS1 w (i_M w h)) hown hK hP 10 gw_10 rfl 1 (by decide) (hts _ (kS1 _ m_M_45)) (fun _ h9 => h9) rfl d_M_many_6 ?_
      refine lv_icmp_ge (tgt := 35) hx hb d_M_many_9 (by decide) (fun c_9' => absurd c_9' (by rw [hg1]; exact nI_ge hlt_i (by omega))) (fun c_9' => ?_)
      refine lv_aload_n hx hb d_M_many_12 rfl (lv_at hl 0 rfl) ?_
      refine va_get (D := D) (ci := 3) (v := .ref (ad 11)) (C := R_M) (T := F_M) (N := 16) hx hb hts (fun w h => kS1 w (i_M w h)) hown hK hP 10 gw_10 rfl 2 (by decide) (hts _ (kS1 _ m_M_7)) (fun _ h9 => h9) rfl d_M_many_13 ?_
      refine lv_iload_n hx hb d_M_many_16 rfl (lv_at hl 2 rfl) ?_
      refine va_zald (f := a 2) hx hb hK hP 11 1 gw_11 rfl (vp_in_nI (N := 300) (by omega) (by omega)) d_M_many_17 ?_
      rw [nI_clamp (n := i) (by omega)]
      refine lv_if_eq (tgt := 27) hx hb d_M_many_18 (by decide) (fun c_18' => ?_) (fun c_18' => ?_)
      · refine lv_iload_n hx hb d_M_many_27 rfl (lv_at hl 1 rfl) ?_
        refine lv_istore_n (lv' := [(1, .int (it (mC (a 2)) i 0)), (0, .ref (ad 10)), (2, .int (nI i))]) hx hb d_M_many_28 rfl hl (by decide) rfl (fun ls hl => ?_)
        refine lv_iinc (v := nI i + 1) (lv' := [(2, .int (nI i + 1)), (1, .int (it (mC (a 2)) i 0)), (0, .ref (ad 10))]) hx hb d_M_many_29 hl (k := 2) rfl rfl (by decide) rfl (fun ls hl => ?_)
        refine lv_goto (tgt := 4) hx hb d_M_many_32 (by decide) ?_
        have hl := lv_sub (l' := [(0, .ref (ad 10)), (1, .int (it (mC (a 2)) i 0)), (2, .int (nI i + 1))]) hl [2, 1, 0] rfl
        have hqq9 : (.int (it (mC (a 2)) i 0) : Value) = .int (it (mC (a 2)) (i + 1) 0) := by rw [it_s, mC]; simp [c_9', c_18']
        rw [hqq9] at hl
        have hqq9 : (.int (nI i + 1) : Value) = .int (nI (i + 1)) := by rw [nI_1]
        rw [hqq9] at hl
        exact ih (i + 1) ls (by omega) hl kx
      · refine lv_iload_n hx hb d_M_many_21 rfl (lv_at hl 1 rfl) ?_
        refine lv_iconst (v := 1) hx hb d_M_many_22 (by decide) ?_
        refine lv_iadd hx hb d_M_many_23 ?_
        refine lv_goto (tgt := 28) hx hb d_M_many_24 (by decide) ?_
        refine lv_istore_n (lv' := [(1, .int ((it (mC (a 2)) i 0) + 1)), (0, .ref (ad 10)), (2, .int (nI i))]) hx hb d_M_many_28 rfl hl (by decide) rfl (fun ls hl => ?_)
        refine lv_iinc (v := nI i + 1) (lv' := [(2, .int (nI i + 1)), (1, .int ((it (mC (a 2)) i 0) + 1)), (0, .ref (ad 10))]) hx hb d_M_many_29 hl (k := 2) rfl rfl (by decide) rfl (fun ls hl => ?_)
        refine lv_goto (tgt := 4) hx hb d_M_many_32 (by decide) ?_
        have hl := lv_sub (l' := [(0, .ref (ad 10)), (1, .int ((it (mC (a 2)) i 0) + 1)), (2, .int (nI i + 1))]) hl [2, 1, 0] rfl
        have hqq9 : (.int ((it (mC (a 2)) i 0) + 1) : Value) = .int (it (mC (a 2)) (i + 1) 0) := by rw [it_s, mC]; simp [c_9', c_18']
        rw [hqq9] at hl
        have hqq9 : (.int (nI i + 1) : Value) = .int (nI (i + 1)) := by rw [nI_1]
        rw [hqq9] at hl
        exact ih (i + 1) ls (by omega) hl kx
  have hl := lv_sub (l' := [(0, .ref (ad 10)), (1, .int 0), (2, .int 0)]) hl [2, 1, 0] rfl
  have hqq9 : (.int 0 : Value) = .int (nI 0) := by rw [nI_0]
  rw [hqq9] at hl
  refine L1 _ (n - 0) 0 ls (by omega) hl (fun ls hl => ?_)
  refine lv_iload_n hx hb d_M_many_35 rfl (lv_at hl 1 rfl) ?_
  have hv : it (mC (a 2)) n 0 = it (mC (a 2)) n 0 := by simp []
  exact W.iret (v := it (mC (a 2)) n 0) hx hb hr (fun t ht hW => ⟨by rw [hv], ht⟩) (fun q hq => by cases hq) d_M_many_36
set_option maxHeartbeats 4000000 in
set_option maxRecDepth 100000 in
/-- waiting() -/
theorem c_M_waiting (l : Launch) (D : va_G) (ty : Nat → ClassId) (ad : Nat → Nat) (sz : Nat) (n : Nat) (f : Nat → Int32) (th : Nat → Bool) (rt qu : Nat → Int32) (b w : SR) (T : Nat → TH) (g : Nat → Int32) (a : Nat → Nat → Int32) (o : Nat → Int64) (hg1 : g 1 = nI n) (hn3 : n ≤ 300) : Met l y_M_waiting w_M_waiting ({ frames := 0, cells := 0, slots := 0, locals := 0 }) (va_Pc [.ref (ad 10)] (kP D kCl (kTy ty) (gW n ty ad f th rt qu b w T g a o) sz)) (kQr (some (.int (it (mWt a) n 0)))) 0 0 (fun _ => False) := by
  refine Met.ofW (cc := b_M_waiting) (maxL := 3) (ret := (some .int)) (by decide) rfl ?_
  intro p e s m args below meth cd s₁ B hml hv
  obtain ⟨rfl, hsz, hP, hK, hD0⟩ := hv
  have hx := B.exec
  have hb := B.bytes
  have hr := B.returns
  have hts := atoms_spec (ws := w_M_waiting) B.pre
  have hown : s.vm.findClass R_M = some m.cls := findClass_of_methodNamed B.named
  have hlocks := B.notSynchronized
  subst hsz
  have hD := hD0
  have hl := lv_entry ([.ref (ad 10)]) (n := 3) (Nat.le_of_ble_eq_true rfl)
  rw [lg_entry_eq]
  generalize (lg_sl ([.ref (ad 10)]) ++ List.replicate (3 - (lg_sl ([.ref (ad 10)])).length) Slot.unset).toArray = ls at hl ⊢
  have hl : lv_has ls 3 [(0, .ref (ad 10))] := hl
  refine lv_iconst (v := 0) hx hb d_M_waiting_0 (by decide) ?_
  refine lv_istore_n (lv' := [(1, .int 0), (0, .ref (ad 10))]) hx hb d_M_waiting_1 rfl hl (by decide) rfl (fun ls hl => ?_)
  refine lv_iconst (v := 0) hx hb d_M_waiting_2 (by decide) ?_
  refine lv_istore_n (lv' := [(2, .int 0), (1, .int 0), (0, .ref (ad 10))]) hx hb d_M_waiting_3 rfl hl (by decide) rfl (fun ls hl => ?_)
  have L1 : ∀ (Q : State → Prop) (rem i : Nat) (ls : Array Slot), i + rem = n → lv_has ls 3 [(0, .ref (ad 10)), (1, .int (it (mWt a) i 0)), (2, .int (nI i))] → (∀ (ls : Array Slot), lv_has ls 3 [(0, .ref (ad 10)), (1, .int (it (mWt a) n 0))] → W p l e (headSpec w_M_waiting ({ frames := 0, cells := 0, slots := 0, locals := 0 })).room s m ([.ref (ad 10)] : List Value).toArray below meth cd s.heap [] 0 0 Q (F0 m 54 ls [])) → W p l e (headSpec w_M_waiting ({ frames := 0, cells := 0, slots := 0, locals := 0 })).room s m ([.ref (ad 10)] : List Value).toArray below meth cd s.heap [] 0 0 Q (F0 m 4 ls []) := by
    intro Q rem
    induction rem with
    | zero =>
      intro i ls hir_i hl kx
      obtain rfl : n = i := by omega
      refine lv_iload_n hx hb d_M_waiting_4 rfl (lv_at hl 2 rfl) ?_
      refine lv_aload_n hx hb d_M_waiting_5 rfl (lv_at hl 0 rfl) ?_
      refine va_get (D := D) (ci := 3) (v := .int (g 1)) (C := R_M) (T := F_M) (N := 16) hx hb hts (fun w h => kS1 w (i_M w h)) hown hK hP 10 gw_10 rfl 1 (by decide) (hts _ (kS1 _ m_M_45)) (fun _ h9 => h9) rfl d_M_waiting_6 ?_
      refine lv_icmp_ge (tgt := 54) hx hb d_M_waiting_9 (by decide) (fun c_9' => ?_) (fun c_9' => absurd (by rw [hg1]; exact nI_le (Nat.le_refl _) (by omega)) c_9')
      have hl := lv_sub (l' := [(0, .ref (ad 10)), (1, .int (it (mWt a) n 0))]) hl [0, 1] rfl
      exact kx ls hl
    | succ rem ih =>
      intro i ls hir_i hl kx
      have hlt_i : i < n := by omega
      refine lv_iload_n hx hb d_M_waiting_4 rfl (lv_at hl 2 rfl) ?_
      refine lv_aload_n hx hb d_M_waiting_5 rfl (lv_at hl 0 rfl) ?_
      refine va_get (D := D) (ci := 3) (v := .int (g 1)) (C := R_M) (T := F_M) (N := 16) hx hb hts (fun w h => kS1 w (i_M w h)) hown hK hP 10 gw_10 rfl 1 (by decide) (hts _ (kS1 _ m_M_45)) (fun _ h9 => h9) rfl d_M_waiting_6 ?_
      refine lv_icmp_ge (tgt := 54) hx hb d_M_waiting_9 (by decide) (fun c_9' => absurd c_9' (by rw [hg1]; exact nI_ge hlt_i (by omega))) (fun c_9' => ?_)
      refine lv_aload_n hx hb d_M_waiting_12 rfl (lv_at hl 0 rfl) ?_
      refine va_get (D := D) (ci := 3) (v := .ref (ad 11)) (C := R_M) (T := F_M) (N := 16) hx hb hts (fun w h => kS1 w (i_M w h)) hown hK hP 10 gw_10 rfl 2 (by decide) (hts _ (kS1 _ m_M_7)) (fun _ h9 => h9) rfl d_M_waiting_13 ?_
      refine lv_iload_n hx hb d_M_waiting_16 rfl (lv_at hl 2 rfl) ?_
      refine va_zald (f := a 2) hx hb hK hP 11 1 gw_11 rfl (vp_in_nI (N := 300) (by omega) (by omega)) d_M_waiting_17 ?_
      rw [nI_clamp (n := i) (by omega)]
      refine lv_if_eq (tgt := 46) hx hb d_M_waiting_18 (by decide) (fun c_18' => ?_) (fun c_18' => ?_)
      · refine lv_iload_n hx hb d_M_waiting_46 rfl (lv_at hl 1 rfl) ?_
        refine lv_istore_n (lv' := [(1, .int (it (mWt a) i 0)), (0, .ref (ad 10)), (2, .int (nI i))]) hx hb d_M_waiting_47 rfl hl (by decide) rfl (fun ls hl => ?_)
        refine lv_iinc (v := nI i + 1) (lv' := [(2, .int (nI i + 1)), (1, .int (it (mWt a) i 0)), (0, .ref (ad 10))]) hx hb d_M_waiting_48 hl (k := 2) rfl rfl (by decide) rfl (fun ls hl => ?_)
        refine lv_goto (tgt := 4) hx hb d_M_waiting_51 (by decide) ?_
        have hl := lv_sub (l' := [(0, .ref (ad 10)), (1, .int (it (mWt a) i 0)), (2, .int (nI i + 1))]) hl [2, 1, 0] rfl
        have hqq9 : (.int (it (mWt a) i 0) : Value) = .int (it (mWt a) (i + 1) 0) := by rw [it_s, mWt]; simp [c_9', c_18']
        rw [hqq9] at hl
        have hqq9 : (.int (nI i + 1) : Value) = .int (nI (i + 1)) := by rw [nI_1]
        rw [hqq9] at hl
        exact ih (i + 1) ls (by omega) hl kx
      · refine lv_aload_n hx hb d_M_waiting_21 rfl (lv_at hl 0 rfl) ?_
        refine va_get (D := D) (ci := 3) (v := .ref (ad 12)) (C := R_M) (T := F_M) (N := 16) hx hb hts (fun w h => kS1 w (i_M w h)) hown hK hP 10 gw_10 rfl 3 (by decide) (hts _ (kS1 _ m_M_13)) (fun _ h9 => h9) rfl d_M_waiting_22 ?_
        refine lv_iload_n hx hb d_M_waiting_25 rfl (lv_at hl 2 rfl) ?_
        refine va_iald (f := a 3) hx hb hK hP 12 0 gw_12 rfl (vp_in_nI (N := 300) (by omega) (by omega)) d_M_waiting_26 ?_
        rw [nI_clamp (n := i) (by omega)]
        refine lv_iconst (v := 2) hx hb d_M_waiting_27 (by decide) ?_
        refine lv_icmp_ne (tgt := 46) hx hb d_M_waiting_28 (by decide) (fun c_28' => ?_) (fun c_28' => ?_)
        · refine lv_iload_n hx hb d_M_waiting_46 rfl (lv_at hl 1 rfl) ?_
          refine lv_istore_n (lv' := [(1, .int (it (mWt a) i 0)), (0, .ref (ad 10)), (2, .int (nI i))]) hx hb d_M_waiting_47 rfl hl (by decide) rfl (fun ls hl => ?_)
          refine lv_iinc (v := nI i + 1) (lv' := [(2, .int (nI i + 1)), (1, .int (it (mWt a) i 0)), (0, .ref (ad 10))]) hx hb d_M_waiting_48 hl (k := 2) rfl rfl (by decide) rfl (fun ls hl => ?_)
          refine lv_goto (tgt := 4) hx hb d_M_waiting_51 (by decide) ?_
          have hl := lv_sub (l' := [(0, .ref (ad 10)), (1, .int (it (mWt a) i 0)), (2, .int (nI i + 1))]) hl [2, 1, 0] rfl
          have hqq9 : (.int (it (mWt a) i 0) : Value) = .int (it (mWt a) (i + 1) 0) := by rw [it_s, mWt]; simp [c_9', c_18', c_28']
          rw [hqq9] at hl
          have hqq9 : (.int (nI i + 1) : Value) = .int (nI (i + 1)) := by rw [nI_1]
          rw [hqq9] at hl
          exact ih (i + 1) ls (by omega) hl kx
        · refine lv_aload_n hx hb d_M_waiting_31 rfl (lv_at hl 0 rfl) ?_
          refine va_get (D := D) (ci := 3) (v := .ref (ad 16)) (C := R_M) (T := F_M) (N := 16) hx hb hts (fun w h => kS1 w (i_M w h)) hown hK hP 10 gw_10 rfl 7 (by decide) (hts _ (kS1 _ m_M_26)) (fun _ h9 => h9) rfl d_M_waiting_32 ?_
          refine lv_iload_n hx hb d_M_waiting_35 rfl (lv_at hl 2 rfl) ?_
          refine va_zald (f := a 7) hx hb hK hP 16 1 gw_16 rfl (vp_in_nI (N := 300) (by omega) (by omega)) d_M_waiting_36 ?_
          rw [nI_clamp (n := i) (by omega)]
          refine lv_if_ne (tgt := 46) hx hb d_M_waiting_37 (by decide) (fun c_37' => ?_) (fun c_37' => ?_)
          · refine lv_iload_n hx hb d_M_waiting_46 rfl (lv_at hl 1 rfl) ?_
            refine lv_istore_n (lv' := [(1, .int (it (mWt a) i 0)), (0, .ref (ad 10)), (2, .int (nI i))]) hx hb d_M_waiting_47 rfl hl (by decide) rfl (fun ls hl => ?_)
            refine lv_iinc (v := nI i + 1) (lv' := [(2, .int (nI i + 1)), (1, .int (it (mWt a) i 0)), (0, .ref (ad 10))]) hx hb d_M_waiting_48 hl (k := 2) rfl rfl (by decide) rfl (fun ls hl => ?_)
            refine lv_goto (tgt := 4) hx hb d_M_waiting_51 (by decide) ?_
            have hl := lv_sub (l' := [(0, .ref (ad 10)), (1, .int (it (mWt a) i 0)), (2, .int (nI i + 1))]) hl [2, 1, 0] rfl
            have hqq9 : (.int (it (mWt a) i 0) : Value) = .int (it (mWt a) (i + 1) 0) := by rw [it_s, mWt]; simp [c_9', c_18', c_28', c_37']
            rw [hqq9] at hl
            have hqq9 : (.int (nI i + 1) : Value) = .int (nI (i + 1)) := by rw [nI_1]
            rw [hqq9] at hl
            exact ih (i + 1) ls (by omega) hl kx
          · refine lv_iload_n hx hb d_M_waiting_40 rfl (lv_at hl 1 rfl) ?_
            refine lv_iconst (v := 1) hx hb d_M_waiting_41 (by decide) ?_
            refine lv_iadd hx hb d_M_waiting_42 ?_
            refine lv_goto (tgt := 47) hx hb d_M_waiting_43 (by decide) ?_
            refine lv_istore_n (lv' := [(1, .int ((it (mWt a) i 0) + 1)), (0, .ref (ad 10)), (2, .int (nI i))]) hx hb d_M_waiting_47 rfl hl (by decide) rfl (fun ls hl => ?_)
            refine lv_iinc (v := nI i + 1) (lv' := [(2, .int (nI i + 1)), (1, .int ((it (mWt a) i 0) + 1)), (0, .ref (ad 10))]) hx hb d_M_waiting_48 hl (k := 2) rfl rfl (by decide) rfl (fun ls hl => ?_)
            refine lv_goto (tgt := 4) hx hb d_M_waiting_51 (by decide) ?_
            have hl := lv_sub (l' := [(0, .ref (ad 10)), (1, .int ((it (mWt a) i 0) + 1)), (2, .int (nI i + 1))]) hl [2, 1, 0] rfl
            have hqq9 : (.int ((it (mWt a) i 0) + 1) : Value) = .int (it (mWt a) (i + 1) 0) := by rw [it_s, mWt]; simp [c_9', c_18', c_28', c_37']
            rw [hqq9] at hl
            have hqq9 : (.int (nI i + 1) : Value) = .int (nI (i + 1)) := by rw [nI_1]
            rw [hqq9] at hl
            exact ih (i + 1) ls (by omega) hl kx
  have hl := lv_sub (l' := [(0, .ref (ad 10)), (1, .int 0), (2, .int 0)]) hl [2, 1, 0] rfl
  have hqq9 : (.int 0 : Value) = .int (nI 0) := by rw [nI_0]
  rw [hqq9] at hl
  refine L1 _ (n - 0) 0 ls (by omega) hl (fun ls hl => ?_)
  refine lv_iload_n hx hb d_M_waiting_54 rfl (lv_at hl 1 rfl) ?_
  have hv : it (mWt a) n 0 = it (mWt a) n 0 := by simp []
  exact W.iret (v := it (mWt a) n 0) hx hb hr (fun t ht hW => ⟨by rw [hv], ht⟩) (fun q hq => by cases hq) d_M_waiting_55
set_option maxHeartbeats 4000000 in
set_option maxRecDepth 100000 in
/-- queued(x): refused -/
theorem c_M_queued_n (l : Launch) (D : va_G) (ty : Nat → ClassId) (ad : Nat → Nat) (sz : Nat) (n : Nat) (f : Nat → Int32) (th : Nat → Bool) (rt qu : Nat → Int32) (b w : SR) (T : Nat → TH) (g : Nat → Int32) (a : Nat → Nat → Int32) (o : Nat → Int64) (hg1 : g 1 = nI n) (hn3 : n ≤ 300) (q : Nat) (hq : g 9 = nI q) (hq3 : q ≤ 300) (x : Int32) (hc : mG (mQp x) 1 = 0) : Met l y_M_queued w_M_queued ({ frames := 1, cells := 0, slots := 0, locals := 22 }) (va_Pc [.ref (ad 10), .int x] (kP D kCl (kTy ty) (gW n ty ad f th rt qu b w T g a o) sz)) (va_Qi (fun (r9 : Int32) (u9 : va_W) => r9 = 0 ∧ u9 = (gW n ty ad f th rt qu b w T (upd g 0 (mT (mQp x) 1)) a o)) (kB D kCl (kTy ty) (va_A (gW n ty ad f th rt qu b w T g a o) sz)) (va_A (gW n ty ad f th rt qu b w T g a o) sz)) 0 0 (va_A (gW n ty ad f th rt qu b w T g a o) sz) := by
  refine Met.ofW (cc := b_M_queued) (maxL := 2) (ret := (some .int)) (by decide) rfl ?_
  intro p e s m args below meth cd s₁ B hml hv
  obtain ⟨rfl, hsz, hP, hK, hD0⟩ := hv
  have hx := B.exec
  have hb := B.bytes
  have hr := B.returns
  have hts := atoms_spec (ws := w_M_queued) B.pre
  have hown : s.vm.findClass R_M = some m.cls := findClass_of_methodNamed B.named
  have hlocks := B.notSynchronized
  subst hsz
  have hD := hD0.self (sz := s.heap.size)
  generalize hAe : va_A (gW n ty ad f th rt qu b w T g a o) s.heap.size = A at hD ⊢
  have hA : ∀ q : Nat, s.heap.size ≤ q → A q := fun q h => by rw [← hAe]; exact Or.inr h
  have hS : va_S A s.heap s.heap [] := va_S.rf
  have hl := lv_entry ([.ref (ad 10), .int x]) (n := 2) (Nat.le_of_ble_eq_true rfl)
  rw [lg_entry_eq]
  generalize (lg_sl ([.ref (ad 10), .int x]) ++ List.replicate (2 - (lg_sl ([.ref (ad 10), .int x])).length) Slot.unset).toArray = ls at hl ⊢
  have hl : lv_has ls 2 [(0, .ref (ad 10)), (1, .int x)] := hl
  refine lv_aload_n hx hb d_M_queued_0 rfl (lv_at hl 0 rfl) ?_
  have J1 : ∀ (Q : State → Prop), W p l e (headSpec w_M_queued ({ frames := 1, cells := 0, slots := 0, locals := 22 })).room s m ([.ref (ad 10), .int x] : List Value).toArray below meth cd s.heap [] 0 0 Q (F0 m 10 ls [.int (mQp x), .ref (ad 10)]) → W p l e (headSpec w_M_queued ({ frames := 1, cells := 0, slots := 0, locals := 22 })).room s m ([.ref (ad 10), .int x] : List Value).toArray below meth cd s.heap [] 0 0 Q (F0 m 1 ls [.ref (ad 10)]) := by
    intro Q kx
    refine lv_iload_n hx hb d_M_queued_1 rfl (lv_at hl 1 rfl) ?_
    refine lv_if_lt (tgt := 9) hx hb d_M_queued_2 (by decide) (fun c_2 => ?_) (fun c_2 => ?_)
    · refine lv_iconst (v := 0) hx hb d_M_queued_9 (by decide) ?_
      have hj : mQp x = 0 := by simp [mQp, c_2]
      rw [hj] at kx
      exact kx
    · refine lv_iconst (v := 1) hx hb d_M_queued_5 (by decide) ?_
      refine lv_goto (tgt := 10) hx hb d_M_queued_6 (by decide) ?_
      have hj : mQp x = 1 := by simp [mQp, c_2]
      rw [hj] at kx
      exact kx
  refine J1 _ ?_
  refine lv_iconst (v := 1) hx hb d_M_queued_10 (by decide) ?_
  refine kc_i (va_runV (As := [.int (mQp x), .int 1]) (rest := []) ⟨hx, hb, hml, hown, hts⟩ (c_M_goes l D ty ad _ n f th rt qu b w T g a o (mQp x) 1) (cwV 2 hts (kGV kS1 m_M_52 m_im_M_goes m_sel_M_goes m_ini_M m_code_M_goes) rfl rfl rfl (by decide +kernel) ⟨Nat.le_of_ble_eq_true rfl, Nat.le_of_ble_eq_true rfl⟩) ⟨kP_blind, va_recv hK hP (ci := 3) (q0 := 10) rfl gw_10, fun U hU hW => ⟨rfl, kP_at hK hP hD U hU hW⟩⟩ rfl rfl hl.1 rfl (lv_room (Nat.le_of_ble_eq_true rfl)) d_M_queued_11 ⟨Nat.le_of_ble_eq_true rfl, Nat.le_of_ble_eq_true rfl⟩) hD hS hA (fun r u H locs hu hP hD hS hz => ?_)
  obtain ⟨rfl, rfl⟩ := hu
  refine lv_if_ne (tgt := 19) hx hb d_M_queued_14 (by decide) (fun c_14 => absurd hc c_14) (fun c_14 => ?_)
  refine lv_iconst (v := 0) hx hb d_M_queued_17 (by decide) ?_
  have hu : (gW n ty ad f th rt qu b w T (upd g 0 (mT (mQp x) 1)) a o : va_W) = gW n ty ad f th rt qu b w T (upd g 0 (mT (mQp x) 1)) a o := by simp [c_14]
  have hv : (0 : Int32) = 0 := by simp [c_14]
  exact W.iret (v := 0) hx hb hr (fun t ht hW => ⟨⟨_, _, rfl, ⟨hv, hu⟩, by rw [ht]; exact hP, va_K.moved hW.alike hK, hD⟩, hS.F ht⟩) hS.2.2 d_M_queued_18
set_option maxHeartbeats 4000000 in
set_option maxRecDepth 100000 in
/-- queued(x): it goes -/
theorem c_M_queued_y (l : Launch) (D : va_G) (ty : Nat → ClassId) (ad : Nat → Nat) (sz : Nat) (n : Nat) (f : Nat → Int32) (th : Nat → Bool) (rt qu : Nat → Int32) (b w : SR) (T : Nat → TH) (g : Nat → Int32) (a : Nat → Nat → Int32) (o : Nat → Int64) (hg1 : g 1 = nI n) (hn3 : n ≤ 300) (q : Nat) (hq : g 9 = nI q) (hq3 : q ≤ 300) (x : Int32) (hc : ¬ mG (mQp x) 1 = 0) : Met l y_M_queued w_M_queued ({ frames := 1, cells := 0, slots := 0, locals := 22 }) (va_Pc [.ref (ad 10), .int x] (kP D kCl (kTy ty) (gW n ty ad f th rt qu b w T g a o) sz)) (va_Qi (fun (r9 : Int32) (u9 : va_W) => r9 = (mQd g a x) ∧ u9 = (gW n ty ad f th rt qu b w T (upd g 0 (mT (mQp x) 1)) a o)) (kB D kCl (kTy ty) (va_A (gW n ty ad f th rt qu b w T g a o) sz)) (va_A (gW n ty ad f th rt qu b w T g a o) sz)) 0 0 (va_A (gW n ty ad f th rt qu b w T g a o) sz) := by
  refine Met.ofW (cc := b_M_queued) (maxL := 2) (ret := (some .int)) (by decide) rfl ?_
  intro p e s m args below meth cd s₁ B hml hv
  obtain ⟨rfl, hsz, hP, hK, hD0⟩ := hv
  have hx := B.exec
  have hb := B.bytes
  have hr := B.returns
  have hts := atoms_spec (ws := w_M_queued) B.pre
  have hown : s.vm.findClass R_M = some m.cls := findClass_of_methodNamed B.named
  have hlocks := B.notSynchronized
  subst hsz
  have hD := hD0.self (sz := s.heap.size)
  generalize hAe : va_A (gW n ty ad f th rt qu b w T g a o) s.heap.size = A at hD ⊢
  have hA : ∀ q : Nat, s.heap.size ≤ q → A q := fun q h => by rw [← hAe]; exact Or.inr h
  have hS : va_S A s.heap s.heap [] := va_S.rf
  have hl := lv_entry ([.ref (ad 10), .int x]) (n := 2) (Nat.le_of_ble_eq_true rfl)
  rw [lg_entry_eq]
  generalize (lg_sl ([.ref (ad 10), .int x]) ++ List.replicate (2 - (lg_sl ([.ref (ad 10), .int x])).length) Slot.unset).toArray = ls at hl ⊢
  have hl : lv_has ls 2 [(0, .ref (ad 10)), (1, .int x)] := hl
  refine lv_aload_n hx hb d_M_queued_0 rfl (lv_at hl 0 rfl) ?_
  have J1 : ∀ (Q : State → Prop), W p l e (headSpec w_M_queued ({ frames := 1, cells := 0, slots := 0, locals := 22 })).room s m ([.ref (ad 10), .int x] : List Value).toArray below meth cd s.heap [] 0 0 Q (F0 m 10 ls [.int (mQp x), .ref (ad 10)]) → W p l e (headSpec w_M_queued ({ frames := 1, cells := 0, slots := 0, locals := 22 })).room s m ([.ref (ad 10), .int x] : List Value).toArray below meth cd s.heap [] 0 0 Q (F0 m 1 ls [.ref (ad 10)]) := by
    intro Q kx
    refine lv_iload_n hx hb d_M_queued_1 rfl (lv_at hl 1 rfl) ?_
    refine lv_if_lt (tgt := 9) hx hb d_M_queued_2 (by decide) (fun c_2 => ?_) (fun c_2 => ?_)
    · refine lv_iconst (v := 0) hx hb d_M_queued_9 (by decide) ?_
      have hj : mQp x = 0 := by simp [mQp, c_2]
      rw [hj] at kx
      exact kx
    · refine lv_iconst (v := 1) hx hb d_M_queued_5 (by decide) ?_
      refine lv_goto (tgt := 10) hx hb d_M_queued_6 (by decide) ?_
      have hj : mQp x = 1 := by simp [mQp, c_2]
      rw [hj] at kx
      exact kx
  refine J1 _ ?_
  refine lv_iconst (v := 1) hx hb d_M_queued_10 (by decide) ?_
  refine kc_i (va_runV (As := [.int (mQp x), .int 1]) (rest := []) ⟨hx, hb, hml, hown, hts⟩ (c_M_goes l D ty ad _ n f th rt qu b w T g a o (mQp x) 1) (cwV 2 hts (kGV kS1 m_M_52 m_im_M_goes m_sel_M_goes m_ini_M m_code_M_goes) rfl rfl rfl (by decide +kernel) ⟨Nat.le_of_ble_eq_true rfl, Nat.le_of_ble_eq_true rfl⟩) ⟨kP_blind, va_recv hK hP (ci := 3) (q0 := 10) rfl gw_10, fun U hU hW => ⟨rfl, kP_at hK hP hD U hU hW⟩⟩ rfl rfl hl.1 rfl (lv_room (Nat.le_of_ble_eq_true rfl)) d_M_queued_11 ⟨Nat.le_of_ble_eq_true rfl, Nat.le_of_ble_eq_true rfl⟩) hD hS hA (fun r u H locs hu hP hD hS hz => ?_)
  obtain ⟨rfl, rfl⟩ := hu
  refine lv_if_ne (tgt := 19) hx hb d_M_queued_14 (by decide) (fun c_14 => ?_) (fun c_14 => absurd c_14 hc)
  refine lv_iload_n hx hb d_M_queued_19 rfl (lv_at hl 1 rfl) ?_
  refine lv_aload_n hx hb d_M_queued_20 rfl (lv_at hl 0 rfl) ?_
  refine va_get (D := D) (ci := 3) (v := .int (g 9)) (C := R_M) (T := F_M) (N := 16) hx hb hts (fun w h => kS1 w (i_M w h)) hown hK hP 10 gw_10 rfl 9 (by decide) (hts _ (kS1 _ m_M_63)) (fun _ h9 => h9) rfl d_M_queued_21 ?_
  refine lv_icmp_ge (tgt := 36) hx hb d_M_queued_24 (by decide) (fun c_24 => ?_) (fun c_24 => ?_)
  · refine lv_iconst (v := (-1)) hx hb d_M_queued_36 (by decide) ?_
    have hu : (gW n ty ad f th rt qu b w T (upd g 0 (mT (mQp x) 1)) a o : va_W) = gW n ty ad f th rt qu b w T (upd g 0 (mT (mQp x) 1)) a o := by simp [mQd, c_14, c_24]
    have hv : ((-1) : Int32) = mQd g a x := by simp [mQd, c_14, c_24]
    exact W.iret (v := (-1)) hx hb hr (fun t ht hW => ⟨⟨_, _, rfl, ⟨hv, hu⟩, by rw [ht]; exact hP, va_K.moved hW.alike hK, hD⟩, hS.F ht⟩) hS.2.2 d_M_queued_37
  · refine lv_aload_n hx hb d_M_queued_27 rfl (lv_at hl 0 rfl) ?_
    refine va_get (D := D) (ci := 3) (v := .ref (ad 18)) (C := R_M) (T := F_M) (N := 16) hx hb hts (fun w h => kS1 w (i_M w h)) hown hK hP 10 gw_10 rfl 10 (by decide) (hts _ (kS1 _ m_M_32)) (fun _ h9 => h9) rfl d_M_queued_28 ?_
    refine lv_iload_n hx hb d_M_queued_31 rfl (lv_at hl 1 rfl) ?_
    refine va_iald (f := a 10) hx hb hK hP 18 0 gw_18 rfl (kinQ hq hq3 hc c_24) d_M_queued_32 ?_
    refine lv_goto (tgt := 37) hx hb d_M_queued_33 (by decide) ?_
    have hu : (gW n ty ad f th rt qu b w T (upd g 0 (mT (mQp x) 1)) a o : va_W) = gW n ty ad f th rt qu b w T (upd g 0 (mT (mQp x) 1)) a o := by simp [mQd, c_14, c_24]
    have hv : ((a 10) x.toNatClampNeg : Int32) = mQd g a x := by simp [mQd, c_14, c_24]
    exact W.iret (v := (a 10) x.toNatClampNeg) hx hb hr (fun t ht hW => ⟨⟨_, _, rfl, ⟨hv, hu⟩, by rw [ht]; exact hP, va_K.moved hW.alike hK, hD⟩, hS.F ht⟩) hS.2.2 d_M_queued_37
set_option maxHeartbeats 4000000 in
set_option maxRecDepth 100000 in
/-- identity(x): refused -/
theorem c_M_identity_n (l : Launch) (D : va_G) (ty : Nat → ClassId) (ad : Nat → Nat) (sz : Nat) (n : Nat) (f : Nat → Int32) (th : Nat → Bool) (rt qu : Nat → Int32) (b w : SR) (T : Nat → TH) (g : Nat → Int32) (a : Nat → Nat → Int32) (o : Nat → Int64) (hg1 : g 1 = nI n) (hn3 : n ≤ 300) (x : Int32) (hc : mG (mI g a x) 1 = 0) : Met l y_M_identity w_M_identity ({ frames := 1, cells := 0, slots := 0, locals := 22 }) (va_Pc [.ref (ad 10), .int x] (kP D kCl (kTy ty) (gW n ty ad f th rt qu b w T g a o) sz)) (va_Qi (fun (r9 : Int32) (u9 : va_W) => r9 = 0 ∧ u9 = (gW n ty ad f th rt qu b w T (upd g 0 (mT (mI g a x) 1)) a o)) (kB D kCl (kTy ty) (va_A (gW n ty ad f th rt qu b w T g a o) sz)) (va_A (gW n ty ad f th rt qu b w T g a o) sz)) 0 0 (va_A (gW n ty ad f th rt qu b w T g a o) sz) := by
  refine Met.ofW (cc := b_M_identity) (maxL := 2) (ret := (some .int)) (by decide) rfl ?_
  intro p e s m args below meth cd s₁ B hml hv
  obtain ⟨rfl, hsz, hP, hK, hD0⟩ := hv
  have hx := B.exec
  have hb := B.bytes
  have hr := B.returns
  have hts := atoms_spec (ws := w_M_identity) B.pre
  have hown : s.vm.findClass R_M = some m.cls := findClass_of_methodNamed B.named
  have hlocks := B.notSynchronized
  subst hsz
  have hD := hD0.self (sz := s.heap.size)
  generalize hAe : va_A (gW n ty ad f th rt qu b w T g a o) s.heap.size = A at hD ⊢
  have hA : ∀ q : Nat, s.heap.size ≤ q → A q := fun q h => by rw [← hAe]; exact Or.inr h
  have hS : va_S A s.heap s.heap [] := va_S.rf
  have hl := lv_entry ([.ref (ad 10), .int x]) (n := 2) (Nat.le_of_ble_eq_true rfl)
  rw [lg_entry_eq]
  generalize (lg_sl ([.ref (ad 10), .int x]) ++ List.replicate (2 - (lg_sl ([.ref (ad 10), .int x])).length) Slot.unset).toArray = ls at hl ⊢
  have hl : lv_has ls 2 [(0, .ref (ad 10)), (1, .int x)] := hl
  refine lv_aload_n hx hb d_M_identity_0 rfl (lv_at hl 0 rfl) ?_
  refine lv_aload_n hx hb d_M_identity_1 rfl (lv_at hl 0 rfl) ?_
  refine lv_iload_n hx hb d_M_identity_2 rfl (lv_at hl 1 rfl) ?_
  refine kc_R (va_runV (As := [.int x]) (rest := [.ref (ad 10)]) ⟨hx, hb, hml, hown, hts⟩ (c_M_isThere l D ty ad _ n f th rt qu b w T g a o hg1 hn3 x) (cwV 1 hts (kGV kS1 m_M_48 m_im_M_isThere m_sel_M_isThere m_ini_M m_code_M_isThere) rfl rfl rfl (by decide +kernel) ⟨Nat.le_of_ble_eq_true rfl, Nat.le_of_ble_eq_true rfl⟩) ⟨kP_blind, va_recv hK hP (ci := 3) (q0 := 10) rfl gw_10, fun U hU hW => ⟨rfl, kP_at hK hP hD U hU hW⟩⟩ rfl rfl hl.1 rfl (lv_room (Nat.le_of_ble_eq_true rfl)) d_M_identity_3 ⟨Nat.le_of_ble_eq_true rfl, Nat.le_of_ble_eq_true rfl⟩) ?_
  refine lv_iconst (v := 1) hx hb d_M_identity_6 (by decide) ?_
  refine kc_i (va_runV (As := [.int (mI g a x), .int 1]) (rest := []) ⟨hx, hb, hml, hown, hts⟩ (c_M_goes l D ty ad _ n f th rt qu b w T g a o (mI g a x) 1) (cwV 2 hts (kGV kS1 m_M_52 m_im_M_goes m_sel_M_goes m_ini_M m_code_M_goes) rfl rfl rfl (by decide +kernel) ⟨Nat.le_of_ble_eq_true rfl, Nat.le_of_ble_eq_true rfl⟩) ⟨kP_blind, va_recv hK hP (ci := 3) (q0 := 10) rfl gw_10, fun U hU hW => ⟨rfl, kP_at hK hP hD U hU hW⟩⟩ rfl rfl hl.1 rfl (lv_room (Nat.le_of_ble_eq_true rfl)) d_M_identity_7 ⟨Nat.le_of_ble_eq_true rfl, Nat.le_of_ble_eq_true rfl⟩) hD hS hA (fun r u H locs hu hP hD hS hz => ?_)
  obtain ⟨rfl, rfl⟩ := hu
  refine lv_if_ne (tgt := 15) hx hb d_M_identity_10 (by decide) (fun c_10 => absurd hc c_10) (fun c_10 => ?_)
  refine lv_iconst (v := 0) hx hb d_M_identity_13 (by decide) ?_
  have hu : (gW n ty ad f th rt qu b w T (upd g 0 (mT (mI g a x) 1)) a o : va_W) = gW n ty ad f th rt qu b w T (upd g 0 (mT (mI g a x) 1)) a o := by simp [c_10]
  have hv : (0 : Int32) = 0 := by simp [c_10]
  exact W.iret (v := 0) hx hb hr (fun t ht hW => ⟨⟨_, _, rfl, ⟨hv, hu⟩, by rw [ht]; exact hP, va_K.moved hW.alike hK, hD⟩, hS.F ht⟩) hS.2.2 d_M_identity_14
set_option maxHeartbeats 4000000 in
set_option maxRecDepth 100000 in
/-- identity(x): it goes -/
theorem c_M_identity_y (l : Launch) (D : va_G) (ty : Nat → ClassId) (ad : Nat → Nat) (sz : Nat) (n : Nat) (f : Nat → Int32) (th : Nat → Bool) (rt qu : Nat → Int32) (b w : SR) (T : Nat → TH) (g : Nat → Int32) (a : Nat → Nat → Int32) (o : Nat → Int64) (hg1 : g 1 = nI n) (hn3 : n ≤ 300) (x : Int32) (hc : ¬ mG (mI g a x) 1 = 0) : Met l y_M_identity w_M_identity ({ frames := 1, cells := 0, slots := 0, locals := 22 }) (va_Pc [.ref (ad 10), .int x] (kP D kCl (kTy ty) (gW n ty ad f th rt qu b w T g a o) sz)) (va_Qi (fun (r9 : Int32) (u9 : va_W) => r9 = ((if a 6 x.toNatClampNeg = 0 then g 13 + 1 else a 6 x.toNatClampNeg) - 1) ∧ u9 = (gW n ty ad f th rt qu b w T (if a 6 x.toNatClampNeg = 0 then upd (upd g 0 (mT (mI g a x) 1)) 13 (g 13 + 1) else upd g 0 (mT (mI g a x) 1)) (if a 6 x.toNatClampNeg = 0 then va_up a 6 (upd (a 6) x.toNatClampNeg (g 13 + 1)) else a) o)) (kB D kCl (kTy ty) (va_A (gW n ty ad f th rt qu b w T g a o) sz)) (va_A (gW n ty ad f th rt qu b w T g a o) sz)) 0 0 (va_A (gW n ty ad f th rt qu b w T g a o) sz) := by
  refine Met.ofW (cc := b_M_identity) (maxL := 2) (ret := (some .int)) (by decide) rfl ?_
  intro p e s m args below meth cd s₁ B hml hv
  obtain ⟨rfl, hsz, hP, hK, hD0⟩ := hv
  have hx := B.exec
  have hb := B.bytes
  have hr := B.returns
  have hts := atoms_spec (ws := w_M_identity) B.pre
  have hown : s.vm.findClass R_M = some m.cls := findClass_of_methodNamed B.named
  have hlocks := B.notSynchronized
  subst hsz
  have hD := hD0.self (sz := s.heap.size)
  generalize hAe : va_A (gW n ty ad f th rt qu b w T g a o) s.heap.size = A at hD ⊢
  have hA : ∀ q : Nat, s.heap.size ≤ q → A q := fun q h => by rw [← hAe]; exact Or.inr h
  have hS : va_S A s.heap s.heap [] := va_S.rf
  have hl := lv_entry ([.ref (ad 10), .int x]) (n := 2) (Nat.le_of_ble_eq_true rfl)
  rw [lg_entry_eq]
  generalize (lg_sl ([.ref (ad 10), .int x]) ++ List.replicate (2 - (lg_sl ([.ref (ad 10), .int x])).length) Slot.unset).toArray = ls at hl ⊢
  have hl : lv_has ls 2 [(0, .ref (ad 10)), (1, .int x)] := hl
  refine lv_aload_n hx hb d_M_identity_0 rfl (lv_at hl 0 rfl) ?_
  refine lv_aload_n hx hb d_M_identity_1 rfl (lv_at hl 0 rfl) ?_
  refine lv_iload_n hx hb d_M_identity_2 rfl (lv_at hl 1 rfl) ?_
  refine kc_R (va_runV (As := [.int x]) (rest := [.ref (ad 10)]) ⟨hx, hb, hml, hown, hts⟩ (c_M_isThere l D ty ad _ n f th rt qu b w T g a o hg1 hn3 x) (cwV 1 hts (kGV kS1 m_M_48 m_im_M_isThere m_sel_M_isThere m_ini_M m_code_M_isThere) rfl rfl rfl (by decide +kernel) ⟨Nat.le_of_ble_eq_true rfl, Nat.le_of_ble_eq_true rfl⟩) ⟨kP_blind, va_recv hK hP (ci := 3) (q0 := 10) rfl gw_10, fun U hU hW => ⟨rfl, kP_at hK hP hD U hU hW⟩⟩ rfl rfl hl.1 rfl (lv_room (Nat.le_of_ble_eq_true rfl)) d_M_identity_3 ⟨Nat.le_of_ble_eq_true rfl, Nat.le_of_ble_eq_true rfl⟩) ?_
  refine lv_iconst (v := 1) hx hb d_M_identity_6 (by decide) ?_
  refine kc_i (va_runV (As := [.int (mI g a x), .int 1]) (rest := []) ⟨hx, hb, hml, hown, hts⟩ (c_M_goes l D ty ad _ n f th rt qu b w T g a o (mI g a x) 1) (cwV 2 hts (kGV kS1 m_M_52 m_im_M_goes m_sel_M_goes m_ini_M m_code_M_goes) rfl rfl rfl (by decide +kernel) ⟨Nat.le_of_ble_eq_true rfl, Nat.le_of_ble_eq_true rfl⟩) ⟨kP_blind, va_recv hK hP (ci := 3) (q0 := 10) rfl gw_10, fun U hU hW => ⟨rfl, kP_at hK hP hD U hU hW⟩⟩ rfl rfl hl.1 rfl (lv_room (Nat.le_of_ble_eq_true rfl)) d_M_identity_7 ⟨Nat.le_of_ble_eq_true rfl, Nat.le_of_ble_eq_true rfl⟩) hD hS hA (fun r u H locs hu hP hD hS hz => ?_)
  obtain ⟨rfl, rfl⟩ := hu
  refine lv_if_ne (tgt := 15) hx hb d_M_identity_10 (by decide) (fun c_10 => ?_) (fun c_10 => absurd c_10 hc)
  refine lv_aload_n hx hb d_M_identity_15 rfl (lv_at hl 0 rfl) ?_
  refine va_get (D := D) (ci := 3) (v := .ref (ad 15)) (C := R_M) (T := F_M) (N := 16) hx hb hts (fun w h => kS1 w (i_M w h)) hown hK hP 10 gw_10 rfl 6 (by decide) (hts _ (kS1 _ m_M_23)) (fun _ h9 => h9) rfl d_M_identity_16 ?_
  refine lv_iload_n hx hb d_M_identity_19 rfl (lv_at hl 1 rfl) ?_
  refine va_iald (f := a 6) hx hb hK hP 15 0 gw_15 rfl (mI_in hg1 hn3 (mG_1 hc)) d_M_identity_20 ?_
  refine lv_if_ne (tgt := 44) hx hb d_M_identity_21 (by decide) (fun c_21 => ?_) (fun c_21 => ?_)
  · refine lv_aload_n hx hb d_M_identity_44 rfl (lv_at hl 0 rfl) ?_
    refine va_get (D := D) (ci := 3) (v := .ref (ad 15)) (C := R_M) (T := F_M) (N := 16) hx hb hts (fun w h => kS1 w (i_M w h)) hown hK hP 10 gw_10 rfl 6 (by decide) (hts _ (kS1 _ m_M_23)) (fun _ h9 => h9) rfl d_M_identity_45 ?_
    refine lv_iload_n hx hb d_M_identity_48 rfl (lv_at hl 1 rfl) ?_
    refine va_iald (f := a 6) hx hb hK hP 15 0 gw_15 rfl (mI_in hg1 hn3 (mG_1 hc)) d_M_identity_49 ?_
    refine lv_iconst (v := 1) hx hb d_M_identity_50 (by decide) ?_
    refine lv_isub hx hb d_M_identity_51 ?_
    have hu : (gW n ty ad f th rt qu b w T (upd g 0 (mT (mI g a x) 1)) a o : va_W) = gW n ty ad f th rt qu b w T (if a 6 x.toNatClampNeg = 0 then upd (upd g 0 (mT (mI g a x) 1)) 13 (g 13 + 1) else upd g 0 (mT (mI g a x) 1)) (if a 6 x.toNatClampNeg = 0 then va_up a 6 (upd (a 6) x.toNatClampNeg (g 13 + 1)) else a) o := by simp [pk_us, c_10, c_21]
    have hv : (((a 6) x.toNatClampNeg) - 1 : Int32) = (if a 6 x.toNatClampNeg = 0 then g 13 + 1 else a 6 x.toNatClampNeg) - 1 := by simp [pk_us, c_10, c_21]
    exact W.iret (v := ((a 6) x.toNatClampNeg) - 1) hx hb hr (fun t ht hW => ⟨⟨_, _, rfl, ⟨hv, hu⟩, by rw [ht]; exact hP, va_K.moved hW.alike hK, hD⟩, hS.F ht⟩) hS.2.2 d_M_identity_52
  · refine lv_aload_n hx hb d_M_identity_24 rfl (lv_at hl 0 rfl) ?_
    refine lv_dup hx hb d_M_identity_25 rfl ?_
    refine va_get (D := D) (ci := 3) (v := .int (g 13)) (C := R_M) (T := F_M) (N := 16) hx hb hts (fun w h => kS1 w (i_M w h)) hown hK hP 10 gw_10 rfl 13 (by decide) (hts _ (kS1 _ m_M_76)) (fun _ h9 => h9) rfl d_M_identity_26 ?_
    refine lv_iconst (v := 1) hx hb d_M_identity_29 (by decide) ?_
    refine lv_iadd hx hb d_M_identity_30 ?_
    refine va_put (D := D) (ci := 3) (v := .int ((g 13) + 1)) (ty := .int) (C := R_M) (T := F_M) (N := 16) hx hb hts (fun w h => kS1 w (i_M w h)) tt_M tt_M_ok n_M hown hK hP hD hS 10 gw_10 rfl 13 (by decide) (hts _ (kS1 _ m_M_76)) (fun _ h9 => h9) rfl (by decide +kernel) rfl rfl (Nat.le_of_ble_eq_true rfl) d_M_identity_31 (fun H locs hP hD hS => ?_)
    have hP := kw_P (gw_sM13 (v := (g 13) + 1)) hP
    have hD := kw_D (gw_sM13 (v := (g 13) + 1)) hD
    refine lv_aload_n hx hb d_M_identity_34 rfl (lv_at hl 0 rfl) ?_
    refine va_get (D := D) (ci := 3) (v := .ref (ad 15)) (C := R_M) (T := F_M) (N := 16) hx hb hts (fun w h => kS1 w (i_M w h)) hown hK hP 10 gw_10 rfl 6 (by decide) (hts _ (kS1 _ m_M_23)) (fun _ h9 => h9) rfl d_M_identity_35 ?_
    refine lv_iload_n hx hb d_M_identity_38 rfl (lv_at hl 1 rfl) ?_
    refine lv_aload_n hx hb d_M_identity_39 rfl (lv_at hl 0 rfl) ?_
    refine va_get (D := D) (ci := 3) (v := .int ((g 13) + 1)) (C := R_M) (T := F_M) (N := 16) hx hb hts (fun w h => kS1 w (i_M w h)) hown hK hP 10 gw_10 rfl 13 (by decide) (hts _ (kS1 _ m_M_76)) (fun _ h9 => h9) rfl d_M_identity_40 ?_
    refine va_iast (f := a 6) hx hb hK hP hD hS 15 0 gw_15 rfl (mI_in hg1 hn3 (mG_1 hc)) d_M_identity_43 (fun H locs hP hD hS => ?_)
    have hP := kw_P (gw_sa6 (r := upd (a 6) x.toNatClampNeg ((g 13) + 1))) hP
    have hD := kw_D (gw_sa6 (r := upd (a 6) x.toNatClampNeg ((g 13) + 1))) hD
    refine lv_aload_n hx hb d_M_identity_44 rfl (lv_at hl 0 rfl) ?_
    refine va_get (D := D) (ci := 3) (v := .ref (ad 15)) (C := R_M) (T := F_M) (N := 16) hx hb hts (fun w h => kS1 w (i_M w h)) hown hK hP 10 gw_10 rfl 6 (by decide) (hts _ (kS1 _ m_M_23)) (fun _ h9 => h9) rfl d_M_identity_45 ?_
    refine lv_iload_n hx hb d_M_identity_48 rfl (lv_at hl 1 rfl) ?_
    refine va_iald (f := upd (a 6) x.toNatClampNeg ((g 13) + 1)) hx hb hK hP 15 0 gw_15 rfl (mI_in hg1 hn3 (mG_1 hc)) d_M_identity_49 ?_
    refine lv_iconst (v := 1) hx hb d_M_identity_50 (by decide) ?_
    refine lv_isub hx hb d_M_identity_51 ?_
    have hu : (gW n ty ad f th rt qu b w T (upd (upd g 0 (mT (mI g a x) 1)) 13 ((g 13) + 1)) (va_up a 6 (upd (a 6) x.toNatClampNeg ((g 13) + 1))) o : va_W) = gW n ty ad f th rt qu b w T (if a 6 x.toNatClampNeg = 0 then upd (upd g 0 (mT (mI g a x) 1)) 13 (g 13 + 1) else upd g 0 (mT (mI g a x) 1)) (if a 6 x.toNatClampNeg = 0 then va_up a 6 (upd (a 6) x.toNatClampNeg (g 13 + 1)) else a) o := by simp [pk_us, c_10, c_21]
    have hv : (((upd (a 6) x.toNatClampNeg ((g 13) + 1)) x.toNatClampNeg) - 1 : Int32) = (if a 6 x.toNatClampNeg = 0 then g 13 + 1 else a 6 x.toNatClampNeg) - 1 := by simp [pk_us, c_10, c_21]
    exact W.iret (v := ((upd (a 6) x.toNatClampNeg ((g 13) + 1)) x.toNatClampNeg) - 1) hx hb hr (fun t ht hW => ⟨⟨_, _, rfl, ⟨hv, hu⟩, by rw [ht]; exact hP, va_K.moved hW.alike hK, hD⟩, hS.F ht⟩) hS.2.2 d_M_identity_52
set_option maxHeartbeats 4000000 in
set_option maxRecDepth 100000 in
/-- about(x, y): refused -/
theorem c_M_about_n (l : Launch) (D : va_G) (ty : Nat → ClassId) (ad : Nat → Nat) (sz : Nat) (n : Nat) (f : Nat → Int32) (th : Nat → Bool) (rt qu : Nat → Int32) (b w : SR) (T : Nat → TH) (g : Nat → Int32) (a : Nat → Nat → Int32) (o : Nat → Int64) (hg1 : g 1 = nI n) (hn3 : n ≤ 300) (q : Nat) (hq : g 9 = nI q) (hq3 : q ≤ 300) (hL : ∀ k, k < n → ∃ v, v ≤ 12 ∧ a 4 k = nI v) (hR : ∀ r, r < 16 → ∃ v, v ≤ 300 ∧ a 8 r = nI v) (hQ : ∀ i, i < q → ∃ v, v < 300 ∧ a 10 i = nI v) (hF : ∀ i, i < 3600 → ∃ v, v ≤ 300 ∧ a 5 i = nI v) (hW1 : ∀ k, k < n → a 3 k = 1 → 0 < (a 4 k).toNatClampNeg) (x y : Int32) (hc : mG (mI g a x) (mAp y) = 0) : Met l y_M_about w_M_about ({ frames := 1, cells := 0, slots := 0, locals := 22 }) (va_Pc [.ref (ad 10), .int x, .int y] (kP D kCl (kTy ty) (gW n ty ad f th rt qu b w T g a o) sz)) (va_Qi (fun (r9 : Int32) (u9 : va_W) => r9 = 0 ∧ u9 = (gW n ty ad f th rt qu b w T (upd g 0 (mT (mI g a x) (mAp y))) a o)) (kB D kCl (kTy ty) (va_A (gW n ty ad f th rt qu b w T g a o) sz)) (va_A (gW n ty ad f th rt qu b w T g a o) sz)) 0 0 (va_A (gW n ty ad f th rt qu b w T g a o) sz) := by
  refine Met.ofW (cc := b_M_about) (maxL := 4) (ret := (some .int)) (by decide) rfl ?_
  intro p e s m args below meth cd s₁ B hml hv
  obtain ⟨rfl, hsz, hP, hK, hD0⟩ := hv
  have hx := B.exec
  have hb := B.bytes
  have hr := B.returns
  have hts := atoms_spec (ws := w_M_about) B.pre
  have hown : s.vm.findClass R_M = some m.cls := findClass_of_methodNamed B.named
  have hlocks := B.notSynchronized
  subst hsz
  have hD := hD0.self (sz := s.heap.size)
  generalize hAe : va_A (gW n ty ad f th rt qu b w T g a o) s.heap.size = A at hD ⊢
  have hA : ∀ q : Nat, s.heap.size ≤ q → A q := fun q h => by rw [← hAe]; exact Or.inr h
  have hS : va_S A s.heap s.heap [] := va_S.rf
  have hl := lv_entry ([.ref (ad 10), .int x, .int y]) (n := 4) (Nat.le_of_ble_eq_true rfl)
  rw [lg_entry_eq]
  generalize (lg_sl ([.ref (ad 10), .int x, .int y]) ++ List.replicate (4 - (lg_sl ([.ref (ad 10), .int x, .int y])).length) Slot.unset).toArray = ls at hl ⊢
  have hl : lv_has ls 4 [(0, .ref (ad 10)), (1, .int x), (2, .int y)] := hl
  refine lv_aload_n hx hb d_M_about_0 rfl (lv_at hl 0 rfl) ?_
  refine lv_aload_n hx hb d_M_about_1 rfl (lv_at hl 0 rfl) ?_
  refine lv_iload_n hx hb d_M_about_2 rfl (lv_at hl 1 rfl) ?_
  refine kc_R (va_runV (As := [.int x]) (rest := [.ref (ad 10)]) ⟨hx, hb, hml, hown, hts⟩ (c_M_isThere l D ty ad _ n f th rt qu b w T g a o hg1 hn3 x) (cwV 1 hts (kGV kS1 m_M_48 m_im_M_isThere m_sel_M_isThere m_ini_M m_code_M_isThere) rfl rfl rfl (by decide +kernel) ⟨Nat.le_of_ble_eq_true rfl, Nat.le_of_ble_eq_true rfl⟩) ⟨kP_blind, va_recv hK hP (ci := 3) (q0 := 10) rfl gw_10, fun U hU hW => ⟨rfl, kP_at hK hP hD U hU hW⟩⟩ rfl rfl hl.1 rfl (lv_room (Nat.le_of_ble_eq_true rfl)) d_M_about_3 ⟨Nat.le_of_ble_eq_true rfl, Nat.le_of_ble_eq_true rfl⟩) ?_
  have J1 : ∀ (Q : State → Prop), W p l e (headSpec w_M_about ({ frames := 1, cells := 0, slots := 0, locals := 22 })).room s m ([.ref (ad 10), .int x, .int y] : List Value).toArray below meth cd s.heap [] 0 0 Q (F0 m 20 ls [.int (mAp y), .int (mI g a x), .ref (ad 10)]) → W p l e (headSpec w_M_about ({ frames := 1, cells := 0, slots := 0, locals := 22 })).room s m ([.ref (ad 10), .int x, .int y] : List Value).toArray below meth cd s.heap [] 0 0 Q (F0 m 6 ls [.int (mI g a x), .ref (ad 10)]) := by
    intro Q kx
    refine lv_iload_n hx hb d_M_about_6 rfl (lv_at hl 2 rfl) ?_
    refine lv_if_lt (tgt := 19) hx hb d_M_about_7 (by decide) (fun c_7 => ?_) (fun c_7 => ?_)
    · refine lv_iconst (v := 0) hx hb d_M_about_19 (by decide) ?_
      have hj : mAp y = 0 := by simp [mAp, c_7]
      rw [hj] at kx
      exact kx
    · refine lv_iload_n hx hb d_M_about_10 rfl (lv_at hl 2 rfl) ?_
      refine lv_iconst (v := 3) hx hb d_M_about_11 (by decide) ?_
      refine lv_icmp_gt (tgt := 19) hx hb d_M_about_12 (by decide) (fun c_12 => ?_) (fun c_12 => ?_)
      · refine lv_iconst (v := 0) hx hb d_M_about_19 (by decide) ?_
        have hj : mAp y = 0 := by simp [mAp, c_7, c_12]
        rw [hj] at kx
        exact kx
      · refine lv_iconst (v := 1) hx hb d_M_about_15 (by decide) ?_
        refine lv_goto (tgt := 20) hx hb d_M_about_16 (by decide) ?_
        have hj : mAp y = 1 := by simp [mAp, c_7, c_12]
        rw [hj] at kx
        exact kx
  refine J1 _ ?_
  refine kc_i (va_runV (As := [.int (mI g a x), .int (mAp y)]) (rest := []) ⟨hx, hb, hml, hown, hts⟩ (c_M_goes l D ty ad _ n f th rt qu b w T g a o (mI g a x) (mAp y)) (cwV 2 hts (kGV kS1 m_M_52 m_im_M_goes m_sel_M_goes m_ini_M m_code_M_goes) rfl rfl rfl (by decide +kernel) ⟨Nat.le_of_ble_eq_true rfl, Nat.le_of_ble_eq_true rfl⟩) ⟨kP_blind, va_recv hK hP (ci := 3) (q0 := 10) rfl gw_10, fun U hU hW => ⟨rfl, kP_at hK hP hD U hU hW⟩⟩ rfl rfl hl.1 rfl (lv_room (Nat.le_of_ble_eq_true rfl)) d_M_about_20 ⟨Nat.le_of_ble_eq_true rfl, Nat.le_of_ble_eq_true rfl⟩) hD hS hA (fun r u H locs hu hP hD hS hz => ?_)
  obtain ⟨rfl, rfl⟩ := hu
  refine lv_if_ne (tgt := 28) hx hb d_M_about_23 (by decide) (fun c_23 => absurd hc c_23) (fun c_23 => ?_)
  refine lv_iconst (v := 0) hx hb d_M_about_26 (by decide) ?_
  have hu : (gW n ty ad f th rt qu b w T (upd g 0 (mT (mI g a x) (mAp y))) a o : va_W) = gW n ty ad f th rt qu b w T (upd g 0 (mT (mI g a x) (mAp y))) a o := by simp [c_23]
  have hv : (0 : Int32) = 0 := by simp [c_23]
  exact W.iret (v := 0) hx hb hr (fun t ht hW => ⟨⟨_, _, rfl, ⟨hv, hu⟩, by rw [ht]; exact hP, va_K.moved hW.alike hK, hD⟩, hS.F ht⟩) hS.2.2 d_M_about_27
set_option maxHeartbeats 4000000 in
set_option maxRecDepth 100000 in
/-- about(x, 0), x there -/
theorem c_M_about_0 (l : Launch) (D : va_G) (ty : Nat → ClassId) (ad : Nat → Nat) (sz : Nat) (n : Nat) (f : Nat → Int32) (th : Nat → Bool) (rt qu : Nat → Int32) (b w : SR) (T : Nat → TH) (g : Nat → Int32) (a : Nat → Nat → Int32) (o : Nat → Int64) (hg1 : g 1 = nI n) (hn3 : n ≤ 300) (q : Nat) (hq : g 9 = nI q) (hq3 : q ≤ 300) (hL : ∀ k, k < n → ∃ v, v ≤ 12 ∧ a 4 k = nI v) (hR : ∀ r, r < 16 → ∃ v, v ≤ 300 ∧ a 8 r = nI v) (hQ : ∀ i, i < q → ∃ v, v < 300 ∧ a 10 i = nI v) (hF : ∀ i, i < 3600 → ∃ v, v ≤ 300 ∧ a 5 i = nI v) (hW1 : ∀ k, k < n → a 3 k = 1 → 0 < (a 4 k).toNatClampNeg) (x : Int32) (hc : ¬ mG (mI g a x) 1 = 0) : Met l y_M_about w_M_about ({ frames := 1, cells := 0, slots := 0, locals := 25 }) (va_Pc [.ref (ad 10), .int x, .int 0] (kP D kCl (kTy ty) (gW n ty ad f th rt qu b w T g a o) sz)) (va_Qi (fun (r9 : Int32) (u9 : va_W) => r9 = (a 3 x.toNatClampNeg) ∧ u9 = (gW n ty ad f th rt qu b w T (upd g 0 (mT (mI g a x) 1)) a o)) (kB D kCl (kTy ty) (va_A (gW n ty ad f th rt qu b w T g a o) sz)) (va_A (gW n ty ad f th rt qu b w T g a o) sz)) 0 0 (va_A (gW n ty ad f th rt qu b w T g a o) sz) := by
  refine Met.ofW (cc := b_M_about) (maxL := 4) (ret := (some .int)) (by decide) rfl ?_
  intro p e s m args below meth cd s₁ B hml hv
  obtain ⟨rfl, hsz, hP, hK, hD0⟩ := hv
  have hx := B.exec
  have hb := B.bytes
  have hr := B.returns
  have hts := atoms_spec (ws := w_M_about) B.pre
  have hown : s.vm.findClass R_M = some m.cls := findClass_of_methodNamed B.named
  have hlocks := B.notSynchronized
  subst hsz
  have hD := hD0.self (sz := s.heap.size)
  generalize hAe : va_A (gW n ty ad f th rt qu b w T g a o) s.heap.size = A at hD ⊢
  have hA : ∀ q : Nat, s.heap.size ≤ q → A q := fun q h => by rw [← hAe]; exact Or.inr h
  have hS : va_S A s.heap s.heap [] := va_S.rf
  have hl := lv_entry ([.ref (ad 10), .int x, .int 0]) (n := 4) (Nat.le_of_ble_eq_true rfl)
  rw [lg_entry_eq]
  generalize (lg_sl ([.ref (ad 10), .int x, .int 0]) ++ List.replicate (4 - (lg_sl ([.ref (ad 10), .int x, .int 0])).length) Slot.unset).toArray = ls at hl ⊢
  have hl : lv_has ls 4 [(0, .ref (ad 10)), (1, .int x), (2, .int 0)] := hl
  refine lv_aload_n hx hb d_M_about_0 rfl (lv_at hl 0 rfl) ?_
  refine lv_aload_n hx hb d_M_about_1 rfl (lv_at hl 0 rfl) ?_
  refine lv_iload_n hx hb d_M_about_2 rfl (lv_at hl 1 rfl) ?_
  refine kc_R (va_runV (As := [.int x]) (rest := [.ref (ad 10)]) ⟨hx, hb, hml, hown, hts⟩ (c_M_isThere l D ty ad _ n f th rt qu b w T g a o hg1 hn3 x) (cwV 1 hts (kGV kS1 m_M_48 m_im_M_isThere m_sel_M_isThere m_ini_M m_code_M_isThere) rfl rfl rfl (by decide +kernel) ⟨Nat.le_of_ble_eq_true rfl, Nat.le_of_ble_eq_true rfl⟩) ⟨kP_blind, va_recv hK hP (ci := 3) (q0 := 10) rfl gw_10, fun U hU hW => ⟨rfl, kP_at hK hP hD U hU hW⟩⟩ rfl rfl hl.1 rfl (lv_room (Nat.le_of_ble_eq_true rfl)) d_M_about_3 ⟨Nat.le_of_ble_eq_true rfl, Nat.le_of_ble_eq_true rfl⟩) ?_
  refine lv_iload_n hx hb d_M_about_6 rfl (lv_at hl 2 rfl) ?_
  refine lv_if_lt (tgt := 19) hx hb d_M_about_7 (by decide) (fun c_7 => absurd c_7 (by decide)) (fun c_7 => ?_)
  refine lv_iload_n hx hb d_M_about_10 rfl (lv_at hl 2 rfl) ?_
  refine lv_iconst (v := 3) hx hb d_M_about_11 (by decide) ?_
  refine lv_icmp_gt (tgt := 19) hx hb d_M_about_12 (by decide) (fun c_12 => absurd c_12 (by decide)) (fun c_12 => ?_)
  refine lv_iconst (v := 1) hx hb d_M_about_15 (by decide) ?_
  refine lv_goto (tgt := 20) hx hb d_M_about_16 (by decide) ?_
  refine kc_i (va_runV (As := [.int (mI g a x), .int 1]) (rest := []) ⟨hx, hb, hml, hown, hts⟩ (c_M_goes l D ty ad _ n f th rt qu b w T g a o (mI g a x) 1) (cwV 2 hts (kGV kS1 m_M_52 m_im_M_goes m_sel_M_goes m_ini_M m_code_M_goes) rfl rfl rfl (by decide +kernel) ⟨Nat.le_of_ble_eq_true rfl, Nat.le_of_ble_eq_true rfl⟩) ⟨kP_blind, va_recv hK hP (ci := 3) (q0 := 10) rfl gw_10, fun U hU hW => ⟨rfl, kP_at hK hP hD U hU hW⟩⟩ rfl rfl hl.1 rfl (lv_room (Nat.le_of_ble_eq_true rfl)) d_M_about_20 ⟨Nat.le_of_ble_eq_true rfl, Nat.le_of_ble_eq_true rfl⟩) hD hS hA (fun r u H locs hu hP hD hS hz => ?_)
  obtain ⟨rfl, rfl⟩ := hu
  refine lv_if_ne (tgt := 28) hx hb d_M_about_23 (by decide) (fun c_23 => ?_) (fun c_23 => absurd c_23 hc)
  refine lv_iload_n hx hb d_M_about_28 rfl (lv_at hl 2 rfl) ?_
  refine lv_iconst (v := 2) hx hb d_M_about_29 (by decide) ?_
  refine lv_icmp_ge (tgt := 53) hx hb d_M_about_30 (by decide) (fun c_30 => absurd c_30 (by decide)) (fun c_30 => ?_)
  refine lv_iload_n hx hb d_M_about_33 rfl (lv_at hl 2 rfl) ?_
  refine lv_if_ne (tgt := 46) hx hb d_M_about_34 (by decide) (fun c_34 => absurd (by decide) c_34) (fun c_34 => ?_)
  refine lv_aload_n hx hb d_M_about_37 rfl (lv_at hl 0 rfl) ?_
  refine va_get (D := D) (ci := 3) (v := .ref (ad 12)) (C := R_M) (T := F_M) (N := 16) hx hb hts (fun w h => kS1 w (i_M w h)) hown hK hP 10 gw_10 rfl 3 (by decide) (hts _ (kS1 _ m_M_13)) (fun _ h9 => h9) rfl d_M_about_38 ?_
  refine lv_iload_n hx hb d_M_about_41 rfl (lv_at hl 1 rfl) ?_
  refine va_iald (f := a 3) hx hb hK hP 12 0 gw_12 rfl (mI_in hg1 hn3 (mG_1 hc)) d_M_about_42 ?_
  refine lv_goto (tgt := 52) hx hb d_M_about_43 (by decide) ?_
  have hu : (gW n ty ad f th rt qu b w T (upd g 0 (mT (mI g a x) 1)) a o : va_W) = gW n ty ad f th rt qu b w T (upd g 0 (mT (mI g a x) 1)) a o := by simp [c_7, c_12, c_23, c_30, c_34]
  have hv : ((a 3) x.toNatClampNeg : Int32) = a 3 x.toNatClampNeg := by simp [c_7, c_12, c_23, c_30, c_34]
  exact W.iret (v := (a 3) x.toNatClampNeg) hx hb hr (fun t ht hW => ⟨⟨_, _, rfl, ⟨hv, hu⟩, by rw [ht]; exact hP, va_K.moved hW.alike hK, hD⟩, hS.F ht⟩) hS.2.2 d_M_about_52
set_option maxHeartbeats 4000000 in
set_option maxRecDepth 100000 in
/-- about(x, 1), x there -/
theorem c_M_about_1 (l : Launch) (D : va_G) (ty : Nat → ClassId) (ad : Nat → Nat) (sz : Nat) (n : Nat) (f : Nat → Int32) (th : Nat → Bool) (rt qu : Nat → Int32) (b w : SR) (T : Nat → TH) (g : Nat → Int32) (a : Nat → Nat → Int32) (o : Nat → Int64) (hg1 : g 1 = nI n) (hn3 : n ≤ 300) (q : Nat) (hq : g 9 = nI q) (hq3 : q ≤ 300) (hL : ∀ k, k < n → ∃ v, v ≤ 12 ∧ a 4 k = nI v) (hR : ∀ r, r < 16 → ∃ v, v ≤ 300 ∧ a 8 r = nI v) (hQ : ∀ i, i < q → ∃ v, v < 300 ∧ a 10 i = nI v) (hF : ∀ i, i < 3600 → ∃ v, v ≤ 300 ∧ a 5 i = nI v) (hW1 : ∀ k, k < n → a 3 k = 1 → 0 < (a 4 k).toNatClampNeg) (x : Int32) (hc : ¬ mG (mI g a x) 1 = 0) : Met l y_M_about w_M_about ({ frames := 1, cells := 0, slots := 0, locals := 25 }) (va_Pc [.ref (ad 10), .int x, .int 1] (kP D kCl (kTy ty) (gW n ty ad f th rt qu b w T g a o) sz)) (va_Qi (fun (r9 : Int32) (u9 : va_W) => r9 = (a 4 x.toNatClampNeg) ∧ u9 = (gW n ty ad f th rt qu b w T (upd g 0 (mT (mI g a x) 1)) a o)) (kB D kCl (kTy ty) (va_A (gW n ty ad f th rt qu b w T g a o) sz)) (va_A (gW n ty ad f th rt qu b w T g a o) sz)) 0 0 (va_A (gW n ty ad f th rt qu b w T g a o) sz) := by
  refine Met.ofW (cc := b_M_about) (maxL := 4) (ret := (some .int)) (by decide) rfl ?_
  intro p e s m args below meth cd s₁ B hml hv
  obtain ⟨rfl, hsz, hP, hK, hD0⟩ := hv
  have hx := B.exec
  have hb := B.bytes
  have hr := B.returns
  have hts := atoms_spec (ws := w_M_about) B.pre
  have hown : s.vm.findClass R_M = some m.cls := findClass_of_methodNamed B.named
  have hlocks := B.notSynchronized
  subst hsz
  have hD := hD0.self (sz := s.heap.size)
  generalize hAe : va_A (gW n ty ad f th rt qu b w T g a o) s.heap.size = A at hD ⊢
  have hA : ∀ q : Nat, s.heap.size ≤ q → A q := fun q h => by rw [← hAe]; exact Or.inr h
  have hS : va_S A s.heap s.heap [] := va_S.rf
  have hl := lv_entry ([.ref (ad 10), .int x, .int 1]) (n := 4) (Nat.le_of_ble_eq_true rfl)
  rw [lg_entry_eq]
  generalize (lg_sl ([.ref (ad 10), .int x, .int 1]) ++ List.replicate (4 - (lg_sl ([.ref (ad 10), .int x, .int 1])).length) Slot.unset).toArray = ls at hl ⊢
  have hl : lv_has ls 4 [(0, .ref (ad 10)), (1, .int x), (2, .int 1)] := hl
  refine lv_aload_n hx hb d_M_about_0 rfl (lv_at hl 0 rfl) ?_
  refine lv_aload_n hx hb d_M_about_1 rfl (lv_at hl 0 rfl) ?_
  refine lv_iload_n hx hb d_M_about_2 rfl (lv_at hl 1 rfl) ?_
  refine kc_R (va_runV (As := [.int x]) (rest := [.ref (ad 10)]) ⟨hx, hb, hml, hown, hts⟩ (c_M_isThere l D ty ad _ n f th rt qu b w T g a o hg1 hn3 x) (cwV 1 hts (kGV kS1 m_M_48 m_im_M_isThere m_sel_M_isThere m_ini_M m_code_M_isThere) rfl rfl rfl (by decide +kernel) ⟨Nat.le_of_ble_eq_true rfl, Nat.le_of_ble_eq_true rfl⟩) ⟨kP_blind, va_recv hK hP (ci := 3) (q0 := 10) rfl gw_10, fun U hU hW => ⟨rfl, kP_at hK hP hD U hU hW⟩⟩ rfl rfl hl.1 rfl (lv_room (Nat.le_of_ble_eq_true rfl)) d_M_about_3 ⟨Nat.le_of_ble_eq_true rfl, Nat.le_of_ble_eq_true rfl⟩) ?_
  refine lv_iload_n hx hb d_M_about_6 rfl (lv_at hl 2 rfl) ?_
  refine lv_if_lt (tgt := 19) hx hb d_M_about_7 (by decide) (fun c_7 => absurd c_7 (by decide)) (fun c_7 => ?_)
  refine lv_iload_n hx hb d_M_about_10 rfl (lv_at hl 2 rfl) ?_
  refine lv_iconst (v := 3) hx hb d_M_about_11 (by decide) ?_
  refine lv_icmp_gt (tgt := 19) hx hb d_M_about_12 (by decide) (fun c_12 => absurd c_12 (by decide)) (fun c_12 => ?_)
  refine lv_iconst (v := 1) hx hb d_M_about_15 (by decide) ?_
  refine lv_goto (tgt := 20) hx hb d_M_about_16 (by decide) ?_
  refine kc_i (va_runV (As := [.int (mI g a x), .int 1]) (rest := []) ⟨hx, hb, hml, hown, hts⟩ (c_M_goes l D ty ad _ n f th rt qu b w T g a o (mI g a x) 1) (cwV 2 hts (kGV kS1 m_M_52 m_im_M_goes m_sel_M_goes m_ini_M m_code_M_goes) rfl rfl rfl (by decide +kernel) ⟨Nat.le_of_ble_eq_true rfl, Nat.le_of_ble_eq_true rfl⟩) ⟨kP_blind, va_recv hK hP (ci := 3) (q0 := 10) rfl gw_10, fun U hU hW => ⟨rfl, kP_at hK hP hD U hU hW⟩⟩ rfl rfl hl.1 rfl (lv_room (Nat.le_of_ble_eq_true rfl)) d_M_about_20 ⟨Nat.le_of_ble_eq_true rfl, Nat.le_of_ble_eq_true rfl⟩) hD hS hA (fun r u H locs hu hP hD hS hz => ?_)
  obtain ⟨rfl, rfl⟩ := hu
  refine lv_if_ne (tgt := 28) hx hb d_M_about_23 (by decide) (fun c_23 => ?_) (fun c_23 => absurd c_23 hc)
  refine lv_iload_n hx hb d_M_about_28 rfl (lv_at hl 2 rfl) ?_
  refine lv_iconst (v := 2) hx hb d_M_about_29 (by decide) ?_
  refine lv_icmp_ge (tgt := 53) hx hb d_M_about_30 (by decide) (fun c_30 => absurd c_30 (by decide)) (fun c_30 => ?_)
  refine lv_iload_n hx hb d_M_about_33 rfl (lv_at hl 2 rfl) ?_
  refine lv_if_ne (tgt := 46) hx hb d_M_about_34 (by decide) (fun c_34 => ?_) (fun c_34 => absurd c_34 (by decide))
  refine lv_aload_n hx hb d_M_about_46 rfl (lv_at hl 0 rfl) ?_
  refine va_get (D := D) (ci := 3) (v := .ref (ad 13)) (C := R_M) (T := F_M) (N := 16) hx hb hts (fun w h => kS1 w (i_M w h)) hown hK hP 10 gw_10 rfl 4 (by decide) (hts _ (kS1 _ m_M_17)) (fun _ h9 => h9) rfl d_M_about_47 ?_
  refine lv_iload_n hx hb d_M_about_50 rfl (lv_at hl 1 rfl) ?_
  refine va_iald (f := a 4) hx hb hK hP 13 0 gw_13 rfl (mI_in hg1 hn3 (mG_1 hc)) d_M_about_51 ?_
  have hu : (gW n ty ad f th rt qu b w T (upd g 0 (mT (mI g a x) 1)) a o : va_W) = gW n ty ad f th rt qu b w T (upd g 0 (mT (mI g a x) 1)) a o := by simp [c_7, c_12, c_23, c_30, c_34]
  have hv : ((a 4) x.toNatClampNeg : Int32) = a 4 x.toNatClampNeg := by simp [c_7, c_12, c_23, c_30, c_34]
  exact W.iret (v := (a 4) x.toNatClampNeg) hx hb hr (fun t ht hW => ⟨⟨_, _, rfl, ⟨hv, hu⟩, by rw [ht]; exact hP, va_K.moved hW.alike hK, hD⟩, hS.F ht⟩) hS.2.2 d_M_about_52
set_option maxHeartbeats 4000000 in
set_option maxRecDepth 100000 in
/-- about(x, 2), x there -/
theorem c_M_about_2 (l : Launch) (D : va_G) (ty : Nat → ClassId) (ad : Nat → Nat) (sz : Nat) (n : Nat) (f : Nat → Int32) (th : Nat → Bool) (rt qu : Nat → Int32) (b w : SR) (T : Nat → TH) (g : Nat → Int32) (a : Nat → Nat → Int32) (o : Nat → Int64) (hg1 : g 1 = nI n) (hn3 : n ≤ 300) (q : Nat) (hq : g 9 = nI q) (hq3 : q ≤ 300) (hL : ∀ k, k < n → ∃ v, v ≤ 12 ∧ a 4 k = nI v) (hR : ∀ r, r < 16 → ∃ v, v ≤ 300 ∧ a 8 r = nI v) (hQ : ∀ i, i < q → ∃ v, v < 300 ∧ a 10 i = nI v) (hF : ∀ i, i < 3600 → ∃ v, v ≤ 300 ∧ a 5 i = nI v) (hW1 : ∀ k, k < n → a 3 k = 1 → 0 < (a 4 k).toNatClampNeg) (x : Int32) (hc : ¬ mG (mI g a x) 1 = 0) : Met l y_M_about w_M_about ({ frames := 1, cells := 0, slots := 0, locals := 25 }) (va_Pc [.ref (ad 10), .int x, .int 2] (kP D kCl (kTy ty) (gW n ty ad f th rt qu b w T g a o) sz)) (va_Qi (fun (r9 : Int32) (u9 : va_W) => r9 = (if mD 0 a n q (a 14) x.toNatClampNeg = 0 then 0 else 1) ∧ u9 = (gW n ty ad f th rt qu b w T (upd g 0 (mT (mI g a x) 1)) (va_up a 14 (mD 0 a n q (a 14))) o)) (kB D kCl (kTy ty) (va_A (gW n ty ad f th rt qu b w T g a o) sz)) (va_A (gW n ty ad f th rt qu b w T g a o) sz)) 0 0 (va_A (gW n ty ad f th rt qu b w T g a o) sz) := by
  refine Met.ofW (cc := b_M_about) (maxL := 4) (ret := (some .int)) (by decide) rfl ?_
  intro p e s m args below meth cd s₁ B hml hv
  obtain ⟨rfl, hsz, hP, hK, hD0⟩ := hv
  have hx := B.exec
  have hb := B.bytes
  have hr := B.returns
  have hts := atoms_spec (ws := w_M_about) B.pre
  have hown : s.vm.findClass R_M = some m.cls := findClass_of_methodNamed B.named
  have hlocks := B.notSynchronized
  subst hsz
  have hD := hD0.self (sz := s.heap.size)
  generalize hAe : va_A (gW n ty ad f th rt qu b w T g a o) s.heap.size = A at hD ⊢
  have hA : ∀ q : Nat, s.heap.size ≤ q → A q := fun q h => by rw [← hAe]; exact Or.inr h
  have hS : va_S A s.heap s.heap [] := va_S.rf
  have hl := lv_entry ([.ref (ad 10), .int x, .int 2]) (n := 4) (Nat.le_of_ble_eq_true rfl)
  rw [lg_entry_eq]
  generalize (lg_sl ([.ref (ad 10), .int x, .int 2]) ++ List.replicate (4 - (lg_sl ([.ref (ad 10), .int x, .int 2])).length) Slot.unset).toArray = ls at hl ⊢
  have hl : lv_has ls 4 [(0, .ref (ad 10)), (1, .int x), (2, .int 2)] := hl
  refine lv_aload_n hx hb d_M_about_0 rfl (lv_at hl 0 rfl) ?_
  refine lv_aload_n hx hb d_M_about_1 rfl (lv_at hl 0 rfl) ?_
  refine lv_iload_n hx hb d_M_about_2 rfl (lv_at hl 1 rfl) ?_
  refine kc_R (va_runV (As := [.int x]) (rest := [.ref (ad 10)]) ⟨hx, hb, hml, hown, hts⟩ (c_M_isThere l D ty ad _ n f th rt qu b w T g a o hg1 hn3 x) (cwV 1 hts (kGV kS1 m_M_48 m_im_M_isThere m_sel_M_isThere m_ini_M m_code_M_isThere) rfl rfl rfl (by decide +kernel) ⟨Nat.le_of_ble_eq_true rfl, Nat.le_of_ble_eq_true rfl⟩) ⟨kP_blind, va_recv hK hP (ci := 3) (q0 := 10) rfl gw_10, fun U hU hW => ⟨rfl, kP_at hK hP hD U hU hW⟩⟩ rfl rfl hl.1 rfl (lv_room (Nat.le_of_ble_eq_true rfl)) d_M_about_3 ⟨Nat.le_of_ble_eq_true rfl, Nat.le_of_ble_eq_true rfl⟩) ?_
  refine lv_iload_n hx hb d_M_about_6 rfl (lv_at hl 2 rfl) ?_
  refine lv_if_lt (tgt := 19) hx hb d_M_about_7 (by decide) (fun c_7 => absurd c_7 (by decide)) (fun c_7 => ?_)
  refine lv_iload_n hx hb d_M_about_10 rfl (lv_at hl 2 rfl) ?_
  refine lv_iconst (v := 3) hx hb d_M_about_11 (by decide) ?_
  refine lv_icmp_gt (tgt := 19) hx hb d_M_about_12 (by decide) (fun c_12 => absurd c_12 (by decide)) (fun c_12 => ?_)
  refine lv_iconst (v := 1) hx hb d_M_about_15 (by decide) ?_
  refine lv_goto (tgt := 20) hx hb d_M_about_16 (by decide) ?_
  refine kc_i (va_runV (As := [.int (mI g a x), .int 1]) (rest := []) ⟨hx, hb, hml, hown, hts⟩ (c_M_goes l D ty ad _ n f th rt qu b w T g a o (mI g a x) 1) (cwV 2 hts (kGV kS1 m_M_52 m_im_M_goes m_sel_M_goes m_ini_M m_code_M_goes) rfl rfl rfl (by decide +kernel) ⟨Nat.le_of_ble_eq_true rfl, Nat.le_of_ble_eq_true rfl⟩) ⟨kP_blind, va_recv hK hP (ci := 3) (q0 := 10) rfl gw_10, fun U hU hW => ⟨rfl, kP_at hK hP hD U hU hW⟩⟩ rfl rfl hl.1 rfl (lv_room (Nat.le_of_ble_eq_true rfl)) d_M_about_20 ⟨Nat.le_of_ble_eq_true rfl, Nat.le_of_ble_eq_true rfl⟩) hD hS hA (fun r u H locs hu hP hD hS hz => ?_)
  obtain ⟨rfl, rfl⟩ := hu
  refine lv_if_ne (tgt := 28) hx hb d_M_about_23 (by decide) (fun c_23 => ?_) (fun c_23 => absurd c_23 hc)
  refine lv_iload_n hx hb d_M_about_28 rfl (lv_at hl 2 rfl) ?_
  refine lv_iconst (v := 2) hx hb d_M_about_29 (by decide) ?_
  refine lv_icmp_ge (tgt := 53) hx hb d_M_about_30 (by decide) (fun c_30 => ?_) (fun c_30 => absurd (by decide) c_30)
  refine lv_aload_n hx hb d_M_about_53 rfl (lv_at hl 0 rfl) ?_
  refine lv_iload_n hx hb d_M_about_54 rfl (lv_at hl 2 rfl) ?_
  refine lv_iconst (v := 3) hx hb d_M_about_55 (by decide) ?_
  refine lv_icmp_ne (tgt := 63) hx hb d_M_about_56 (by decide) (fun c_56 => ?_) (fun c_56 => absurd c_56 (by decide))
  refine lv_iconst (v := 0) hx hb d_M_about_63 (by decide) ?_
  refine kc_i (va_runV (As := [.int 0]) (rest := []) ⟨hx, hb, hml, hown, hts⟩ (c_M_find l D ty ad _ n f th rt qu b w T (upd g 0 (mT (mI g a x) 1)) a o hg1 hn3 0 q hq hq3 hL hR hQ hF hW1) (cwV 1 hts (kGV kS1 m_M_69 m_im_M_find m_sel_M_find m_ini_M m_code_M_find) rfl rfl rfl (by decide +kernel) ⟨Nat.le_of_ble_eq_true rfl, Nat.le_of_ble_eq_true rfl⟩) ⟨kP_blind, va_recv hK hP (ci := 3) (q0 := 10) rfl gw_10, fun U hU hW => ⟨rfl, kP_at hK hP hD U hU hW⟩⟩ rfl rfl hl.1 rfl (lv_room (Nat.le_of_ble_eq_true rfl)) d_M_about_64 ⟨Nat.le_of_ble_eq_true rfl, Nat.le_of_ble_eq_true rfl⟩) hD hS hA (fun r u H locs hu hP hD hS hz => ?_)
  obtain ⟨rfl, rfl⟩ := hu
  refine lv_istore_n (lv' := [(3, .int (it (mC (mD 0 a n q (a 14))) n 0)), (0, .ref (ad 10)), (1, .int x), (2, .int 2)]) hx hb d_M_about_67 rfl hl (by decide) rfl (fun ls hl => ?_)
  refine lv_aload_n hx hb d_M_about_68 rfl (lv_at hl 1 rfl) ?_
  refine va_get (D := D) (ci := 3) (v := .ref (ad 19)) (C := R_M) (T := F_M) (N := 16) hx hb hts (fun w h => kS1 w (i_M w h)) hown hK hP 10 gw_10 rfl 14 (by decide) (hts _ (kS1 _ m_M_35)) (fun _ h9 => h9) rfl d_M_about_69 ?_
  refine lv_iload_n hx hb d_M_about_72 rfl (lv_at hl 2 rfl) ?_
  refine va_zald (f := mD 0 a n q (a 14)) hx hb hK hP 19 1 gw_19 rfl (mI_in hg1 hn3 (mG_1 hc)) d_M_about_73 ?_
  refine lv_if_eq (tgt := 81) hx hb d_M_about_74 (by decide) (fun c_74 => ?_) (fun c_74 => ?_)
  · refine lv_iconst (v := 0) hx hb d_M_about_81 (by decide) ?_
    have hu : (gW n ty ad f th rt qu b w T (upd g 0 (mT (mI g a x) 1)) (va_up a 14 (mD 0 a n q (a 14))) o : va_W) = gW n ty ad f th rt qu b w T (upd g 0 (mT (mI g a x) 1)) (va_up a 14 (mD 0 a n q (a 14))) o := by simp [c_7, c_12, c_23, c_30, c_56, c_74]
    have hv : (0 : Int32) = if mD 0 a n q (a 14) x.toNatClampNeg = 0 then 0 else 1 := by simp [c_7, c_12, c_23, c_30, c_56, c_74]
    exact W.iret (v := 0) hx hb hr (fun t ht hW => ⟨⟨_, _, rfl, ⟨hv, hu⟩, by rw [ht]; exact hP, va_K.moved hW.alike hK, hD⟩, hS.F ht⟩) hS.2.2 d_M_about_82
  · refine lv_iconst (v := 1) hx hb d_M_about_77 (by decide) ?_
    refine lv_goto (tgt := 82) hx hb d_M_about_78 (by decide) ?_
    have hu : (gW n ty ad f th rt qu b w T (upd g 0 (mT (mI g a x) 1)) (va_up a 14 (mD 0 a n q (a 14))) o : va_W) = gW n ty ad f th rt qu b w T (upd g 0 (mT (mI g a x) 1)) (va_up a 14 (mD 0 a n q (a 14))) o := by simp [c_7, c_12, c_23, c_30, c_56, c_74]
    have hv : (1 : Int32) = if mD 0 a n q (a 14) x.toNatClampNeg = 0 then 0 else 1 := by simp [c_7, c_12, c_23, c_30, c_56, c_74]
    exact W.iret (v := 1) hx hb hr (fun t ht hW => ⟨⟨_, _, rfl, ⟨hv, hu⟩, by rw [ht]; exact hP, va_K.moved hW.alike hK, hD⟩, hS.F ht⟩) hS.2.2 d_M_about_82
set_option maxHeartbeats 4000000 in
set_option maxRecDepth 100000 in
/-- about(x, 3), x there -/
theorem c_M_about_3 (l : Launch) (D : va_G) (ty : Nat → ClassId) (ad : Nat → Nat) (sz : Nat) (n : Nat) (f : Nat → Int32) (th : Nat → Bool) (rt qu : Nat → Int32) (b w : SR) (T : Nat → TH) (g : Nat → Int32) (a : Nat → Nat → Int32) (o : Nat → Int64) (hg1 : g 1 = nI n) (hn3 : n ≤ 300) (q : Nat) (hq : g 9 = nI q) (hq3 : q ≤ 300) (hL : ∀ k, k < n → ∃ v, v ≤ 12 ∧ a 4 k = nI v) (hR : ∀ r, r < 16 → ∃ v, v ≤ 300 ∧ a 8 r = nI v) (hQ : ∀ i, i < q → ∃ v, v < 300 ∧ a 10 i = nI v) (hF : ∀ i, i < 3600 → ∃ v, v ≤ 300 ∧ a 5 i = nI v) (hW1 : ∀ k, k < n → a 3 k = 1 → 0 < (a 4 k).toNatClampNeg) (x : Int32) (hc : ¬ mG (mI g a x) 1 = 0) : Met l y_M_about w_M_about ({ frames := 1, cells := 0, slots := 0, locals := 25 }) (va_Pc [.ref (ad 10), .int x, .int 3] (kP D kCl (kTy ty) (gW n ty ad f th rt qu b w T g a o) sz)) (va_Qi (fun (r9 : Int32) (u9 : va_W) => r9 = (if mD 1 a n q (a 14) x.toNatClampNeg = 0 then 0 else 1) ∧ u9 = (gW n ty ad f th rt qu b w T (upd g 0 (mT (mI g a x) 1)) (va_up a 14 (mD 1 a n q (a 14))) o)) (kB D kCl (kTy ty) (va_A (gW n ty ad f th rt qu b w T g a o) sz)) (va_A (gW n ty ad f th rt qu b w T g a o) sz)) 0 0 (va_A (gW n ty ad f th rt qu b w T g a o) sz) := by
  refine Met.ofW (cc := b_M_about) (maxL := 4) (ret := (some .int)) (by decide) rfl ?_
  intro p e s m args below meth cd s₁ B hml hv
  obtain ⟨rfl, hsz, hP, hK, hD0⟩ := hv
  have hx := B.exec
  have hb := B.bytes
  have hr := B.returns
  have hts := atoms_spec (ws := w_M_about) B.pre
  have hown : s.vm.findClass R_M = some m.cls := findClass_of_methodNamed B.named
  have hlocks := B.notSynchronized
  subst hsz
  have hD := hD0.self (sz := s.heap.size)
  generalize hAe : va_A (gW n ty ad f th rt qu b w T g a o) s.heap.size = A at hD ⊢
  have hA : ∀ q : Nat, s.heap.size ≤ q → A q := fun q h => by rw [← hAe]; exact Or.inr h
  have hS : va_S A s.heap s.heap [] := va_S.rf
  have hl := lv_entry ([.ref (ad 10), .int x, .int 3]) (n := 4) (Nat.le_of_ble_eq_true rfl)
  rw [lg_entry_eq]
  generalize (lg_sl ([.ref (ad 10), .int x, .int 3]) ++ List.replicate (4 - (lg_sl ([.ref (ad 10), .int x, .int 3])).length) Slot.unset).toArray = ls at hl ⊢
  have hl : lv_has ls 4 [(0, .ref (ad 10)), (1, .int x), (2, .int 3)] := hl
  refine lv_aload_n hx hb d_M_about_0 rfl (lv_at hl 0 rfl) ?_
  refine lv_aload_n hx hb d_M_about_1 rfl (lv_at hl 0 rfl) ?_
  refine lv_iload_n hx hb d_M_about_2 rfl (lv_at hl 1 rfl) ?_
  refine kc_R (va_runV (As := [.int x]) (rest := [.ref (ad 10)]) ⟨hx, hb, hml, hown, hts⟩ (c_M_isThere l D ty ad _ n f th rt qu b w T g a o hg1 hn3 x) (cwV 1 hts (kGV kS1 m_M_48 m_im_M_isThere m_sel_M_isThere m_ini_M m_code_M_isThere) rfl rfl rfl (by decide +kernel) ⟨Nat.le_of_ble_eq_true rfl, Nat.le_of_ble_eq_true rfl⟩) ⟨kP_blind, va_recv hK hP (ci := 3) (q0 := 10) rfl gw_10, fun U hU hW => ⟨rfl, kP_at hK hP hD U hU hW⟩⟩ rfl rfl hl.1 rfl (lv_room (Nat.le_of_ble_eq_true rfl)) d_M_about_3 ⟨Nat.le_of_ble_eq_true rfl, Nat.le_of_ble_eq_true rfl⟩) ?_
  refine lv_iload_n hx hb d_M_about_6 rfl (lv_at hl 2 rfl) ?_
  refine lv_if_lt (tgt := 19) hx hb d_M_about_7 (by decide) (fun c_7 => absurd c_7 (by decide)) (fun c_7 => ?_)
  refine lv_iload_n hx hb d_M_about_10 rfl (lv_at hl 2 rfl) ?_
  refine lv_iconst (v := 3) hx hb d_M_about_11 (by decide) ?_
  refine lv_icmp_gt (tgt := 19) hx hb d_M_about_12 (by decide) (fun c_12 => absurd c_12 (by decide)) (fun c_12 => ?_)
  refine lv_iconst (v := 1) hx hb d_M_about_15 (by decide) ?_
  refine lv_goto (tgt := 20) hx hb d_M_about_16 (by decide) ?_
  refine kc_i (va_runV (As := [.int (mI g a x), .int 1]) (rest := []) ⟨hx, hb, hml, hown, hts⟩ (c_M_goes l D ty ad _ n f th rt qu b w T g a o (mI g a x) 1) (cwV 2 hts (kGV kS1 m_M_52 m_im_M_goes m_sel_M_goes m_ini_M m_code_M_goes) rfl rfl rfl (by decide +kernel) ⟨Nat.le_of_ble_eq_true rfl, Nat.le_of_ble_eq_true rfl⟩) ⟨kP_blind, va_recv hK hP (ci := 3) (q0 := 10) rfl gw_10, fun U hU hW => ⟨rfl, kP_at hK hP hD U hU hW⟩⟩ rfl rfl hl.1 rfl (lv_room (Nat.le_of_ble_eq_true rfl)) d_M_about_20 ⟨Nat.le_of_ble_eq_true rfl, Nat.le_of_ble_eq_true rfl⟩) hD hS hA (fun r u H locs hu hP hD hS hz => ?_)
  obtain ⟨rfl, rfl⟩ := hu
  refine lv_if_ne (tgt := 28) hx hb d_M_about_23 (by decide) (fun c_23 => ?_) (fun c_23 => absurd c_23 hc)
  refine lv_iload_n hx hb d_M_about_28 rfl (lv_at hl 2 rfl) ?_
  refine lv_iconst (v := 2) hx hb d_M_about_29 (by decide) ?_
  refine lv_icmp_ge (tgt := 53) hx hb d_M_about_30 (by decide) (fun c_30 => ?_) (fun c_30 => absurd (by decide) c_30)
  refine lv_aload_n hx hb d_M_about_53 rfl (lv_at hl 0 rfl) ?_
  refine lv_iload_n hx hb d_M_about_54 rfl (lv_at hl 2 rfl) ?_
  refine lv_iconst (v := 3) hx hb d_M_about_55 (by decide) ?_
  refine lv_icmp_ne (tgt := 63) hx hb d_M_about_56 (by decide) (fun c_56 => absurd (by decide) c_56) (fun c_56 => ?_)
  refine lv_iconst (v := 1) hx hb d_M_about_59 (by decide) ?_
  refine lv_goto (tgt := 64) hx hb d_M_about_60 (by decide) ?_
  refine kc_i (va_runV (As := [.int 1]) (rest := []) ⟨hx, hb, hml, hown, hts⟩ (c_M_find l D ty ad _ n f th rt qu b w T (upd g 0 (mT (mI g a x) 1)) a o hg1 hn3 1 q hq hq3 hL hR hQ hF hW1) (cwV 1 hts (kGV kS1 m_M_69 m_im_M_find m_sel_M_find m_ini_M m_code_M_find) rfl rfl rfl (by decide +kernel) ⟨Nat.le_of_ble_eq_true rfl, Nat.le_of_ble_eq_true rfl⟩) ⟨kP_blind, va_recv hK hP (ci := 3) (q0 := 10) rfl gw_10, fun U hU hW => ⟨rfl, kP_at hK hP hD U hU hW⟩⟩ rfl rfl hl.1 rfl (lv_room (Nat.le_of_ble_eq_true rfl)) d_M_about_64 ⟨Nat.le_of_ble_eq_true rfl, Nat.le_of_ble_eq_true rfl⟩) hD hS hA (fun r u H locs hu hP hD hS hz => ?_)
  obtain ⟨rfl, rfl⟩ := hu
  refine lv_istore_n (lv' := [(3, .int (it (mC (mD 1 a n q (a 14))) n 0)), (0, .ref (ad 10)), (1, .int x), (2, .int 3)]) hx hb d_M_about_67 rfl hl (by decide) rfl (fun ls hl => ?_)
  refine lv_aload_n hx hb d_M_about_68 rfl (lv_at hl 1 rfl) ?_
  refine va_get (D := D) (ci := 3) (v := .ref (ad 19)) (C := R_M) (T := F_M) (N := 16) hx hb hts (fun w h => kS1 w (i_M w h)) hown hK hP 10 gw_10 rfl 14 (by decide) (hts _ (kS1 _ m_M_35)) (fun _ h9 => h9) rfl d_M_about_69 ?_
  refine lv_iload_n hx hb d_M_about_72 rfl (lv_at hl 2 rfl) ?_
  refine va_zald (f := mD 1 a n q (a 14)) hx hb hK hP 19 1 gw_19 rfl (mI_in hg1 hn3 (mG_1 hc)) d_M_about_73 ?_
  refine lv_if_eq (tgt := 81) hx hb d_M_about_74 (by decide) (fun c_74 => ?_) (fun c_74 => ?_)
  · refine lv_iconst (v := 0) hx hb d_M_about_81 (by decide) ?_
    have hu : (gW n ty ad f th rt qu b w T (upd g 0 (mT (mI g a x) 1)) (va_up a 14 (mD 1 a n q (a 14))) o : va_W) = gW n ty ad f th rt qu b w T (upd g 0 (mT (mI g a x) 1)) (va_up a 14 (mD 1 a n q (a 14))) o := by simp [c_7, c_12, c_23, c_30, c_56, c_74]
    have hv : (0 : Int32) = if mD 1 a n q (a 14) x.toNatClampNeg = 0 then 0 else 1 := by simp [c_7, c_12, c_23, c_30, c_56, c_74]
    exact W.iret (v := 0) hx hb hr (fun t ht hW => ⟨⟨_, _, rfl, ⟨hv, hu⟩, by rw [ht]; exact hP, va_K.moved hW.alike hK, hD⟩, hS.F ht⟩) hS.2.2 d_M_about_82
  · refine lv_iconst (v := 1) hx hb d_M_about_77 (by decide) ?_
    refine lv_goto (tgt := 82) hx hb d_M_about_78 (by decide) ?_
    have hu : (gW n ty ad f th rt qu b w T (upd g 0 (mT (mI g a x) 1)) (va_up a 14 (mD 1 a n q (a 14))) o : va_W) = gW n ty ad f th rt qu b w T (upd g 0 (mT (mI g a x) 1)) (va_up a 14 (mD 1 a n q (a 14))) o := by simp [c_7, c_12, c_23, c_30, c_56, c_74]
    have hv : (1 : Int32) = if mD 1 a n q (a 14) x.toNatClampNeg = 0 then 0 else 1 := by simp [c_7, c_12, c_23, c_30, c_56, c_74]
    exact W.iret (v := 1) hx hb hr (fun t ht hW => ⟨⟨_, _, rfl, ⟨hv, hu⟩, by rw [ht]; exact hP, va_K.moved hW.alike hK, hD⟩, hS.F ht⟩) hS.2.2 d_M_about_82
set_option maxHeartbeats 4000000 in
set_option maxRecDepth 100000 in
/-- count(y): refused -/
theorem c_M_count_n (l : Launch) (D : va_G) (ty : Nat → ClassId) (ad : Nat → Nat) (sz : Nat) (n : Nat) (f : Nat → Int32) (th : Nat → Bool) (rt qu : Nat → Int32) (b w : SR) (T : Nat → TH) (g : Nat → Int32) (a : Nat → Nat → Int32) (o : Nat → Int64) (hg1 : g 1 = nI n) (hn3 : n ≤ 300) (y : Int32) (hc : mG (mCp y) 1 = 0) : Met l y_M_count w_M_count ({ frames := 1, cells := 0, slots := 0, locals := 22 }) (va_Pc [.ref (ad 10), .int y] (kP D kCl (kTy ty) (gW n ty ad f th rt qu b w T g a o) sz)) (va_Qi (fun (r9 : Int32) (u9 : va_W) => r9 = 0 ∧ u9 = (gW n ty ad f th rt qu b w T (upd g 0 (mT (mCp y) 1)) a o)) (kB D kCl (kTy ty) (va_A (gW n ty ad f th rt qu b w T g a o) sz)) (va_A (gW n ty ad f th rt qu b w T g a o) sz)) 0 0 (va_A (gW n ty ad f th rt qu b w T g a o) sz) := by
  refine Met.ofW (cc := b_M_count) (maxL := 2) (ret := (some .int)) (by decide) rfl ?_
  intro p e s m args below meth cd s₁ B hml hv
  obtain ⟨rfl, hsz, hP, hK, hD0⟩ := hv
  have hx := B.exec
  have hb := B.bytes
  have hr := B.returns
  have hts := atoms_spec (ws := w_M_count) B.pre
  have hown : s.vm.findClass R_M = some m.cls := findClass_of_methodNamed B.named
  have hlocks := B.notSynchronized
  subst hsz
  have hD := hD0.self (sz := s.heap.size)
  generalize hAe : va_A (gW n ty ad f th rt qu b w T g a o) s.heap.size = A at hD ⊢
  have hA : ∀ q : Nat, s.heap.size ≤ q → A q := fun q h => by rw [← hAe]; exact Or.inr h
  have hS : va_S A s.heap s.heap [] := va_S.rf
  have hl := lv_entry ([.ref (ad 10), .int y]) (n := 2) (Nat.le_of_ble_eq_true rfl)
  rw [lg_entry_eq]
  generalize (lg_sl ([.ref (ad 10), .int y]) ++ List.replicate (2 - (lg_sl ([.ref (ad 10), .int y])).length) Slot.unset).toArray = ls at hl ⊢
  have hl : lv_has ls 2 [(0, .ref (ad 10)), (1, .int y)] := hl
  refine lv_aload_n hx hb d_M_count_0 rfl (lv_at hl 0 rfl) ?_
  have J1 : ∀ (Q : State → Prop), W p l e (headSpec w_M_count ({ frames := 1, cells := 0, slots := 0, locals := 22 })).room s m ([.ref (ad 10), .int y] : List Value).toArray below meth cd s.heap [] 0 0 Q (F0 m 16 ls [.int (mCp y), .ref (ad 10)]) → W p l e (headSpec w_M_count ({ frames := 1, cells := 0, slots := 0, locals := 22 })).room s m ([.ref (ad 10), .int y] : List Value).toArray below meth cd s.heap [] 0 0 Q (F0 m 1 ls [.ref (ad 10)]) := by
    intro Q kx
    refine lv_iload_n hx hb d_M_count_1 rfl (lv_at hl 1 rfl) ?_
    refine lv_if_lt (tgt := 15) hx hb d_M_count_2 (by decide) (fun c_2 => ?_) (fun c_2 => ?_)
    · refine lv_iconst (v := 0) hx hb d_M_count_15 (by decide) ?_
      have hj : mCp y = 0 := by simp [mCp, c_2]
      rw [hj] at kx
      exact kx
    · refine lv_iload_n hx hb d_M_count_5 rfl (lv_at hl 1 rfl) ?_
      refine lv_bipush (v := 8) hx hb d_M_count_6 (by decide) ?_
      refine lv_icmp_gt (tgt := 15) hx hb d_M_count_8 (by decide) (fun c_8 => ?_) (fun c_8 => ?_)
      · refine lv_iconst (v := 0) hx hb d_M_count_15 (by decide) ?_
        have hj : mCp y = 0 := by simp [mCp, c_2, c_8]
        rw [hj] at kx
        exact kx
      · refine lv_iconst (v := 1) hx hb d_M_count_11 (by decide) ?_
        refine lv_goto (tgt := 16) hx hb d_M_count_12 (by decide) ?_
        have hj : mCp y = 1 := by simp [mCp, c_2, c_8]
        rw [hj] at kx
        exact kx
  refine J1 _ ?_
  refine lv_iconst (v := 1) hx hb d_M_count_16 (by decide) ?_
  refine kc_i (va_runV (As := [.int (mCp y), .int 1]) (rest := []) ⟨hx, hb, hml, hown, hts⟩ (c_M_goes l D ty ad _ n f th rt qu b w T g a o (mCp y) 1) (cwV 2 hts (kGV kS1 m_M_52 m_im_M_goes m_sel_M_goes m_ini_M m_code_M_goes) rfl rfl rfl (by decide +kernel) ⟨Nat.le_of_ble_eq_true rfl, Nat.le_of_ble_eq_true rfl⟩) ⟨kP_blind, va_recv hK hP (ci := 3) (q0 := 10) rfl gw_10, fun U hU hW => ⟨rfl, kP_at hK hP hD U hU hW⟩⟩ rfl rfl hl.1 rfl (lv_room (Nat.le_of_ble_eq_true rfl)) d_M_count_17 ⟨Nat.le_of_ble_eq_true rfl, Nat.le_of_ble_eq_true rfl⟩) hD hS hA (fun r u H locs hu hP hD hS hz => ?_)
  obtain ⟨rfl, rfl⟩ := hu
  refine lv_if_ne (tgt := 25) hx hb d_M_count_20 (by decide) (fun c_20 => absurd hc c_20) (fun c_20 => ?_)
  refine lv_iconst (v := 0) hx hb d_M_count_23 (by decide) ?_
  have hu : (gW n ty ad f th rt qu b w T (upd g 0 (mT (mCp y) 1)) a o : va_W) = gW n ty ad f th rt qu b w T (upd g 0 (mT (mCp y) 1)) a o := by simp [c_20]
  have hv : (0 : Int32) = 0 := by simp [c_20]
  exact W.iret (v := 0) hx hb hr (fun t ht hW => ⟨⟨_, _, rfl, ⟨hv, hu⟩, by rw [ht]; exact hP, va_K.moved hW.alike hK, hD⟩, hS.F ht⟩) hS.2.2 d_M_count_24
set_option maxHeartbeats 4000000 in
set_option maxRecDepth 100000 in
/-- count(0) -/
theorem c_M_count_0 (l : Launch) (D : va_G) (ty : Nat → ClassId) (ad : Nat → Nat) (sz : Nat) (n : Nat) (f : Nat → Int32) (th : Nat → Bool) (rt qu : Nat → Int32) (b w : SR) (T : Nat → TH) (g : Nat → Int32) (a : Nat → Nat → Int32) (o : Nat → Int64) (hg1 : g 1 = nI n) (hn3 : n ≤ 300) (q : Nat) (hq : g 9 = nI q) (hq3 : q ≤ 300) (hL : ∀ k, k < n → ∃ v, v ≤ 12 ∧ a 4 k = nI v) (hR : ∀ r, r < 16 → ∃ v, v ≤ 300 ∧ a 8 r = nI v) (hQ : ∀ i, i < q → ∃ v, v < 300 ∧ a 10 i = nI v) (hF : ∀ i, i < 3600 → ∃ v, v ≤ 300 ∧ a 5 i = nI v) (hW1 : ∀ k, k < n → a 3 k = 1 → 0 < (a 4 k).toNatClampNeg) : Met l y_M_count w_M_count ({ frames := 1, cells := 0, slots := 0, locals := 25 }) (va_Pc [.ref (ad 10), .int 0] (kP D kCl (kTy ty) (gW n ty ad f th rt qu b w T g a o) sz)) (va_Qi (fun (r9 : Int32) (u9 : va_W) => r9 = (it (mC (a 2)) n 0) ∧ u9 = (gW n ty ad f th rt qu b w T (upd g 0 (mT 1 1)) a o)) (kB D kCl (kTy ty) (va_A (gW n ty ad f th rt qu b w T g a o) sz)) (va_A (gW n ty ad f th rt qu b w T g a o) sz)) 0 0 (va_A (gW n ty ad f th rt qu b w T g a o) sz) := by
  refine Met.ofW (cc := b_M_count) (maxL := 2) (ret := (some .int)) (by decide) rfl ?_
  intro p e s m args below meth cd s₁ B hml hv
  obtain ⟨rfl, hsz, hP, hK, hD0⟩ := hv
  have hx := B.exec
  have hb := B.bytes
  have hr := B.returns
  have hts := atoms_spec (ws := w_M_count) B.pre
  have hown : s.vm.findClass R_M = some m.cls := findClass_of_methodNamed B.named
  have hlocks := B.notSynchronized
  subst hsz
  have hD := hD0.self (sz := s.heap.size)
  generalize hAe : va_A (gW n ty ad f th rt qu b w T g a o) s.heap.size = A at hD ⊢
  have hA : ∀ q : Nat, s.heap.size ≤ q → A q := fun q h => by rw [← hAe]; exact Or.inr h
  have hS : va_S A s.heap s.heap [] := va_S.rf
  have hl := lv_entry ([.ref (ad 10), .int 0]) (n := 2) (Nat.le_of_ble_eq_true rfl)
  rw [lg_entry_eq]
  generalize (lg_sl ([.ref (ad 10), .int 0]) ++ List.replicate (2 - (lg_sl ([.ref (ad 10), .int 0])).length) Slot.unset).toArray = ls at hl ⊢
  have hl : lv_has ls 2 [(0, .ref (ad 10)), (1, .int 0)] := hl
  refine lv_aload_n hx hb d_M_count_0 rfl (lv_at hl 0 rfl) ?_
  refine lv_iload_n hx hb d_M_count_1 rfl (lv_at hl 1 rfl) ?_
  refine lv_if_lt (tgt := 15) hx hb d_M_count_2 (by decide) (fun c_2 => absurd c_2 (by decide)) (fun c_2 => ?_)
  refine lv_iload_n hx hb d_M_count_5 rfl (lv_at hl 1 rfl) ?_
  refine lv_bipush (v := 8) hx hb d_M_count_6 (by decide) ?_
  refine lv_icmp_gt (tgt := 15) hx hb d_M_count_8 (by decide) (fun c_8 => absurd c_8 (by decide)) (fun c_8 => ?_)
  refine lv_iconst (v := 1) hx hb d_M_count_11 (by decide) ?_
  refine lv_goto (tgt := 16) hx hb d_M_count_12 (by decide) ?_
  refine lv_iconst (v := 1) hx hb d_M_count_16 (by decide) ?_
  refine kc_i (va_runV (As := [.int 1, .int 1]) (rest := []) ⟨hx, hb, hml, hown, hts⟩ (c_M_goes l D ty ad _ n f th rt qu b w T g a o 1 1) (cwV 2 hts (kGV kS1 m_M_52 m_im_M_goes m_sel_M_goes m_ini_M m_code_M_goes) rfl rfl rfl (by decide +kernel) ⟨Nat.le_of_ble_eq_true rfl, Nat.le_of_ble_eq_true rfl⟩) ⟨kP_blind, va_recv hK hP (ci := 3) (q0 := 10) rfl gw_10, fun U hU hW => ⟨rfl, kP_at hK hP hD U hU hW⟩⟩ rfl rfl hl.1 rfl (lv_room (Nat.le_of_ble_eq_true rfl)) d_M_count_17 ⟨Nat.le_of_ble_eq_true rfl, Nat.le_of_ble_eq_true rfl⟩) hD hS hA (fun r u H locs hu hP hD hS hz => ?_)
  obtain ⟨rfl, rfl⟩ := hu
  refine lv_if_ne (tgt := 25) hx hb d_M_count_20 (by decide) (fun c_20 => ?_) (fun c_20 => absurd c_20 (by decide))
  refine lv_iload_n hx hb d_M_count_25 rfl (lv_at hl 1 rfl) ?_
  refine lv_tableIn (off := 46) (tgt := 72) hx hb d_M_count_26 (by decide) (by decide) rfl (by decide) ?_
  refine lv_aload_n hx hb d_M_count_72 rfl (lv_at hl 0 rfl) ?_
  refine kc_R (va_runV (As := []) (rest := []) ⟨hx, hb, hml, hown, hts⟩ (c_M_many l D ty ad _ n f th rt qu b w T (upd g 0 (mT 1 1)) a o hg1 hn3) (cwV 0 hts (kGV kS1 m_M_79 m_im_M_many m_sel_M_many m_ini_M m_code_M_many) rfl rfl rfl (by decide +kernel) ⟨Nat.le_of_ble_eq_true rfl, Nat.le_of_ble_eq_true rfl⟩) ⟨kP_blind, va_recv hK hP (ci := 3) (q0 := 10) rfl gw_10, fun U hU hW => ⟨rfl, kP_at hK hP hD U hU hW⟩⟩ rfl rfl hl.1 rfl (lv_room (Nat.le_of_ble_eq_true rfl)) d_M_count_73 ⟨Nat.le_of_ble_eq_true rfl, Nat.le_of_ble_eq_true rfl⟩) ?_
  have hu : (gW n ty ad f th rt qu b w T (upd g 0 (mT 1 1)) a o : va_W) = gW n ty ad f th rt qu b w T (upd g 0 (mT 1 1)) a o := by simp [c_2, c_8, c_20]
  have hv : (it (mC (a 2)) n 0 : Int32) = it (mC (a 2)) n 0 := by simp [c_2, c_8, c_20]
  exact W.iret (v := it (mC (a 2)) n 0) hx hb hr (fun t ht hW => ⟨⟨_, _, rfl, ⟨hv, hu⟩, by rw [ht]; exact hP, va_K.moved hW.alike hK, hD⟩, hS.F ht⟩) hS.2.2 d_M_count_76
set_option maxHeartbeats 4000000 in
set_option maxRecDepth 100000 in
/-- count(1) -/
theorem c_M_count_1 (l : Launch) (D : va_G) (ty : Nat → ClassId) (ad : Nat → Nat) (sz : Nat) (n : Nat) (f : Nat → Int32) (th : Nat → Bool) (rt qu : Nat → Int32) (b w : SR) (T : Nat → TH) (g : Nat → Int32) (a : Nat → Nat → Int32) (o : Nat → Int64) (hg1 : g 1 = nI n) (hn3 : n ≤ 300) (q : Nat) (hq : g 9 = nI q) (hq3 : q ≤ 300) (hL : ∀ k, k < n → ∃ v, v ≤ 12 ∧ a 4 k = nI v) (hR : ∀ r, r < 16 → ∃ v, v ≤ 300 ∧ a 8 r = nI v) (hQ : ∀ i, i < q → ∃ v, v < 300 ∧ a 10 i = nI v) (hF : ∀ i, i < 3600 → ∃ v, v ≤ 300 ∧ a 5 i = nI v) (hW1 : ∀ k, k < n → a 3 k = 1 → 0 < (a 4 k).toNatClampNeg) : Met l y_M_count w_M_count ({ frames := 1, cells := 0, slots := 0, locals := 25 }) (va_Pc [.ref (ad 10), .int 1] (kP D kCl (kTy ty) (gW n ty ad f th rt qu b w T g a o) sz)) (va_Qi (fun (r9 : Int32) (u9 : va_W) => r9 = (it (mC (mD 0 a n q (a 14))) n 0) ∧ u9 = (gW n ty ad f th rt qu b w T (upd g 0 (mT 1 1)) (va_up a 14 (mD 0 a n q (a 14))) o)) (kB D kCl (kTy ty) (va_A (gW n ty ad f th rt qu b w T g a o) sz)) (va_A (gW n ty ad f th rt qu b w T g a o) sz)) 0 0 (va_A (gW n ty ad f th rt qu b w T g a o) sz) := by
  refine Met.ofW (cc := b_M_count) (maxL := 2) (ret := (some .int)) (by decide) rfl ?_
  intro p e s m args below meth cd s₁ B hml hv
  obtain ⟨rfl, hsz, hP, hK, hD0⟩ := hv
  have hx := B.exec
  have hb := B.bytes
  have hr := B.returns
  have hts := atoms_spec (ws := w_M_count) B.pre
  have hown : s.vm.findClass R_M = some m.cls := findClass_of_methodNamed B.named
  have hlocks := B.notSynchronized
  subst hsz
  have hD := hD0.self (sz := s.heap.size)
  generalize hAe : va_A (gW n ty ad f th rt qu b w T g a o) s.heap.size = A at hD ⊢
  have hA : ∀ q : Nat, s.heap.size ≤ q → A q := fun q h => by rw [← hAe]; exact Or.inr h
  have hS : va_S A s.heap s.heap [] := va_S.rf
  have hl := lv_entry ([.ref (ad 10), .int 1]) (n := 2) (Nat.le_of_ble_eq_true rfl)
  rw [lg_entry_eq]
  generalize (lg_sl ([.ref (ad 10), .int 1]) ++ List.replicate (2 - (lg_sl ([.ref (ad 10), .int 1])).length) Slot.unset).toArray = ls at hl ⊢
  have hl : lv_has ls 2 [(0, .ref (ad 10)), (1, .int 1)] := hl
  refine lv_aload_n hx hb d_M_count_0 rfl (lv_at hl 0 rfl) ?_
  refine lv_iload_n hx hb d_M_count_1 rfl (lv_at hl 1 rfl) ?_
  refine lv_if_lt (tgt := 15) hx hb d_M_count_2 (by decide) (fun c_2 => absurd c_2 (by decide)) (fun c_2 => ?_)
  refine lv_iload_n hx hb d_M_count_5 rfl (lv_at hl 1 rfl) ?_
  refine lv_bipush (v := 8) hx hb d_M_count_6 (by decide) ?_
  refine lv_icmp_gt (tgt := 15) hx hb d_M_count_8 (by decide) (fun c_8 => absurd c_8 (by decide)) (fun c_8 => ?_)
  refine lv_iconst (v := 1) hx hb d_M_count_11 (by decide) ?_
  refine lv_goto (tgt := 16) hx hb d_M_count_12 (by decide) ?_
  refine lv_iconst (v := 1) hx hb d_M_count_16 (by decide) ?_
  refine kc_i (va_runV (As := [.int 1, .int 1]) (rest := []) ⟨hx, hb, hml, hown, hts⟩ (c_M_goes l D ty ad _ n f th rt qu b w T g a o 1 1) (cwV 2 hts (kGV kS1 m_M_52 m_im_M_goes m_sel_M_goes m_ini_M m_code_M_goes) rfl rfl rfl (by decide +kernel) ⟨Nat.le_of_ble_eq_true rfl, Nat.le_of_ble_eq_true rfl⟩) ⟨kP_blind, va_recv hK hP (ci := 3) (q0 := 10) rfl gw_10, fun U hU hW => ⟨rfl, kP_at hK hP hD U hU hW⟩⟩ rfl rfl hl.1 rfl (lv_room (Nat.le_of_ble_eq_true rfl)) d_M_count_17 ⟨Nat.le_of_ble_eq_true rfl, Nat.le_of_ble_eq_true rfl⟩) hD hS hA (fun r u H locs hu hP hD hS hz => ?_)
  obtain ⟨rfl, rfl⟩ := hu
  refine lv_if_ne (tgt := 25) hx hb d_M_count_20 (by decide) (fun c_20 => ?_) (fun c_20 => absurd c_20 (by decide))
  refine lv_iload_n hx hb d_M_count_25 rfl (lv_at hl 1 rfl) ?_
  refine lv_tableIn (off := 51) (tgt := 77) hx hb d_M_count_26 (by decide) (by decide) rfl (by decide) ?_
  refine lv_aload_n hx hb d_M_count_77 rfl (lv_at hl 0 rfl) ?_
  refine lv_iconst (v := 0) hx hb d_M_count_78 (by decide) ?_
  refine kc_i (va_runV (As := [.int 0]) (rest := []) ⟨hx, hb, hml, hown, hts⟩ (c_M_find l D ty ad _ n f th rt qu b w T (upd g 0 (mT 1 1)) a o hg1 hn3 0 q hq hq3 hL hR hQ hF hW1) (cwV 1 hts (kGV kS1 m_M_69 m_im_M_find m_sel_M_find m_ini_M m_code_M_find) rfl rfl rfl (by decide +kernel) ⟨Nat.le_of_ble_eq_true rfl, Nat.le_of_ble_eq_true rfl⟩) ⟨kP_blind, va_recv hK hP (ci := 3) (q0 := 10) rfl gw_10, fun U hU hW => ⟨rfl, kP_at hK hP hD U hU hW⟩⟩ rfl rfl hl.1 rfl (lv_room (Nat.le_of_ble_eq_true rfl)) d_M_count_79 ⟨Nat.le_of_ble_eq_true rfl, Nat.le_of_ble_eq_true rfl⟩) hD hS hA (fun r u H locs hu hP hD hS hz => ?_)
  obtain ⟨rfl, rfl⟩ := hu
  have hu : (gW n ty ad f th rt qu b w T (upd g 0 (mT 1 1)) (va_up a 14 (mD 0 a n q (a 14))) o : va_W) = gW n ty ad f th rt qu b w T (upd g 0 (mT 1 1)) (va_up a 14 (mD 0 a n q (a 14))) o := by simp [c_2, c_8, c_20]
  have hv : (it (mC (mD 0 a n q (a 14))) n 0 : Int32) = it (mC (mD 0 a n q (a 14))) n 0 := by simp [c_2, c_8, c_20]
  exact W.iret (v := it (mC (mD 0 a n q (a 14))) n 0) hx hb hr (fun t ht hW => ⟨⟨_, _, rfl, ⟨hv, hu⟩, by rw [ht]; exact hP, va_K.moved hW.alike hK, hD⟩, hS.F ht⟩) hS.2.2 d_M_count_82
set_option maxHeartbeats 4000000 in
set_option maxRecDepth 100000 in
/-- count(2) -/
theorem c_M_count_2 (l : Launch) (D : va_G) (ty : Nat → ClassId) (ad : Nat → Nat) (sz : Nat) (n : Nat) (f : Nat → Int32) (th : Nat → Bool) (rt qu : Nat → Int32) (b w : SR) (T : Nat → TH) (g : Nat → Int32) (a : Nat → Nat → Int32) (o : Nat → Int64) (hg1 : g 1 = nI n) (hn3 : n ≤ 300) (q : Nat) (hq : g 9 = nI q) (hq3 : q ≤ 300) (hL : ∀ k, k < n → ∃ v, v ≤ 12 ∧ a 4 k = nI v) (hR : ∀ r, r < 16 → ∃ v, v ≤ 300 ∧ a 8 r = nI v) (hQ : ∀ i, i < q → ∃ v, v < 300 ∧ a 10 i = nI v) (hF : ∀ i, i < 3600 → ∃ v, v ≤ 300 ∧ a 5 i = nI v) (hW1 : ∀ k, k < n → a 3 k = 1 → 0 < (a 4 k).toNatClampNeg) : Met l y_M_count w_M_count ({ frames := 1, cells := 0, slots := 0, locals := 25 }) (va_Pc [.ref (ad 10), .int 2] (kP D kCl (kTy ty) (gW n ty ad f th rt qu b w T g a o) sz)) (va_Qi (fun (r9 : Int32) (u9 : va_W) => r9 = (it (mC (mD 1 a n q (a 14))) n 0) ∧ u9 = (gW n ty ad f th rt qu b w T (upd g 0 (mT 1 1)) (va_up a 14 (mD 1 a n q (a 14))) o)) (kB D kCl (kTy ty) (va_A (gW n ty ad f th rt qu b w T g a o) sz)) (va_A (gW n ty ad f th rt qu b w T g a o) sz)) 0 0 (va_A (gW n ty ad f th rt qu b w T g a o) sz) := by
  refine Met.ofW (cc := b_M_count) (maxL := 2) (ret := (some .int)) (by decide) rfl ?_
  intro p e s m args below meth cd s₁ B hml hv
  obtain ⟨rfl, hsz, hP, hK, hD0⟩ := hv
  have hx := B.exec
  have hb := B.bytes
  have hr := B.returns
  have hts := atoms_spec (ws := w_M_count) B.pre
  have hown : s.vm.findClass R_M = some m.cls := findClass_of_methodNamed B.named
  have hlocks := B.notSynchronized
  subst hsz
  have hD := hD0.self (sz := s.heap.size)
  generalize hAe : va_A (gW n ty ad f th rt qu b w T g a o) s.heap.size = A at hD ⊢
  have hA : ∀ q : Nat, s.heap.size ≤ q → A q := fun q h => by rw [← hAe]; exact Or.inr h
  have hS : va_S A s.heap s.heap [] := va_S.rf
  have hl := lv_entry ([.ref (ad 10), .int 2]) (n := 2) (Nat.le_of_ble_eq_true rfl)
  rw [lg_entry_eq]
  generalize (lg_sl ([.ref (ad 10), .int 2]) ++ List.replicate (2 - (lg_sl ([.ref (ad 10), .int 2])).length) Slot.unset).toArray = ls at hl ⊢
  have hl : lv_has ls 2 [(0, .ref (ad 10)), (1, .int 2)] := hl
  refine lv_aload_n hx hb d_M_count_0 rfl (lv_at hl 0 rfl) ?_
  refine lv_iload_n hx hb d_M_count_1 rfl (lv_at hl 1 rfl) ?_
  refine lv_if_lt (tgt := 15) hx hb d_M_count_2 (by decide) (fun c_2 => absurd c_2 (by decide)) (fun c_2 => ?_)
  refine lv_iload_n hx hb d_M_count_5 rfl (lv_at hl 1 rfl) ?_
  refine lv_bipush (v := 8) hx hb d_M_count_6 (by decide) ?_
  refine lv_icmp_gt (tgt := 15) hx hb d_M_count_8 (by decide) (fun c_8 => absurd c_8 (by decide)) (fun c_8 => ?_)
  refine lv_iconst (v := 1) hx hb d_M_count_11 (by decide) ?_
  refine lv_goto (tgt := 16) hx hb d_M_count_12 (by decide) ?_
  refine lv_iconst (v := 1) hx hb d_M_count_16 (by decide) ?_
  refine kc_i (va_runV (As := [.int 1, .int 1]) (rest := []) ⟨hx, hb, hml, hown, hts⟩ (c_M_goes l D ty ad _ n f th rt qu b w T g a o 1 1) (cwV 2 hts (kGV kS1 m_M_52 m_im_M_goes m_sel_M_goes m_ini_M m_code_M_goes) rfl rfl rfl (by decide +kernel) ⟨Nat.le_of_ble_eq_true rfl, Nat.le_of_ble_eq_true rfl⟩) ⟨kP_blind, va_recv hK hP (ci := 3) (q0 := 10) rfl gw_10, fun U hU hW => ⟨rfl, kP_at hK hP hD U hU hW⟩⟩ rfl rfl hl.1 rfl (lv_room (Nat.le_of_ble_eq_true rfl)) d_M_count_17 ⟨Nat.le_of_ble_eq_true rfl, Nat.le_of_ble_eq_true rfl⟩) hD hS hA (fun r u H locs hu hP hD hS hz => ?_)
  obtain ⟨rfl, rfl⟩ := hu
  refine lv_if_ne (tgt := 25) hx hb d_M_count_20 (by decide) (fun c_20 => ?_) (fun c_20 => absurd c_20 (by decide))
  refine lv_iload_n hx hb d_M_count_25 rfl (lv_at hl 1 rfl) ?_
  refine lv_tableIn (off := 57) (tgt := 83) hx hb d_M_count_26 (by decide) (by decide) rfl (by decide) ?_
  refine lv_aload_n hx hb d_M_count_83 rfl (lv_at hl 0 rfl) ?_
  refine lv_iconst (v := 1) hx hb d_M_count_84 (by decide) ?_
  refine kc_i (va_runV (As := [.int 1]) (rest := []) ⟨hx, hb, hml, hown, hts⟩ (c_M_find l D ty ad _ n f th rt qu b w T (upd g 0 (mT 1 1)) a o hg1 hn3 1 q hq hq3 hL hR hQ hF hW1) (cwV 1 hts (kGV kS1 m_M_69 m_im_M_find m_sel_M_find m_ini_M m_code_M_find) rfl rfl rfl (by decide +kernel) ⟨Nat.le_of_ble_eq_true rfl, Nat.le_of_ble_eq_true rfl⟩) ⟨kP_blind, va_recv hK hP (ci := 3) (q0 := 10) rfl gw_10, fun U hU hW => ⟨rfl, kP_at hK hP hD U hU hW⟩⟩ rfl rfl hl.1 rfl (lv_room (Nat.le_of_ble_eq_true rfl)) d_M_count_85 ⟨Nat.le_of_ble_eq_true rfl, Nat.le_of_ble_eq_true rfl⟩) hD hS hA (fun r u H locs hu hP hD hS hz => ?_)
  obtain ⟨rfl, rfl⟩ := hu
  have hu : (gW n ty ad f th rt qu b w T (upd g 0 (mT 1 1)) (va_up a 14 (mD 1 a n q (a 14))) o : va_W) = gW n ty ad f th rt qu b w T (upd g 0 (mT 1 1)) (va_up a 14 (mD 1 a n q (a 14))) o := by simp [c_2, c_8, c_20]
  have hv : (it (mC (mD 1 a n q (a 14))) n 0 : Int32) = it (mC (mD 1 a n q (a 14))) n 0 := by simp [c_2, c_8, c_20]
  exact W.iret (v := it (mC (mD 1 a n q (a 14))) n 0) hx hb hr (fun t ht hW => ⟨⟨_, _, rfl, ⟨hv, hu⟩, by rw [ht]; exact hP, va_K.moved hW.alike hK, hD⟩, hS.F ht⟩) hS.2.2 d_M_count_88
set_option maxHeartbeats 4000000 in
set_option maxRecDepth 100000 in
/-- count(3) -/
theorem c_M_count_3 (l : Launch) (D : va_G) (ty : Nat → ClassId) (ad : Nat → Nat) (sz : Nat) (n : Nat) (f : Nat → Int32) (th : Nat → Bool) (rt qu : Nat → Int32) (b w : SR) (T : Nat → TH) (g : Nat → Int32) (a : Nat → Nat → Int32) (o : Nat → Int64) (hg1 : g 1 = nI n) (hn3 : n ≤ 300) (q : Nat) (hq : g 9 = nI q) (hq3 : q ≤ 300) (hL : ∀ k, k < n → ∃ v, v ≤ 12 ∧ a 4 k = nI v) (hR : ∀ r, r < 16 → ∃ v, v ≤ 300 ∧ a 8 r = nI v) (hQ : ∀ i, i < q → ∃ v, v < 300 ∧ a 10 i = nI v) (hF : ∀ i, i < 3600 → ∃ v, v ≤ 300 ∧ a 5 i = nI v) (hW1 : ∀ k, k < n → a 3 k = 1 → 0 < (a 4 k).toNatClampNeg) : Met l y_M_count w_M_count ({ frames := 1, cells := 0, slots := 0, locals := 25 }) (va_Pc [.ref (ad 10), .int 3] (kP D kCl (kTy ty) (gW n ty ad f th rt qu b w T g a o) sz)) (va_Qi (fun (r9 : Int32) (u9 : va_W) => r9 = (g 9) ∧ u9 = (gW n ty ad f th rt qu b w T (upd g 0 (mT 1 1)) a o)) (kB D kCl (kTy ty) (va_A (gW n ty ad f th rt qu b w T g a o) sz)) (va_A (gW n ty ad f th rt qu b w T g a o) sz)) 0 0 (va_A (gW n ty ad f th rt qu b w T g a o) sz) := by
  refine Met.ofW (cc := b_M_count) (maxL := 2) (ret := (some .int)) (by decide) rfl ?_
  intro p e s m args below meth cd s₁ B hml hv
  obtain ⟨rfl, hsz, hP, hK, hD0⟩ := hv
  have hx := B.exec
  have hb := B.bytes
  have hr := B.returns
  have hts := atoms_spec (ws := w_M_count) B.pre
  have hown : s.vm.findClass R_M = some m.cls := findClass_of_methodNamed B.named
  have hlocks := B.notSynchronized
  subst hsz
  have hD := hD0.self (sz := s.heap.size)
  generalize hAe : va_A (gW n ty ad f th rt qu b w T g a o) s.heap.size = A at hD ⊢
  have hA : ∀ q : Nat, s.heap.size ≤ q → A q := fun q h => by rw [← hAe]; exact Or.inr h
  have hS : va_S A s.heap s.heap [] := va_S.rf
  have hl := lv_entry ([.ref (ad 10), .int 3]) (n := 2) (Nat.le_of_ble_eq_true rfl)
  rw [lg_entry_eq]
  generalize (lg_sl ([.ref (ad 10), .int 3]) ++ List.replicate (2 - (lg_sl ([.ref (ad 10), .int 3])).length) Slot.unset).toArray = ls at hl ⊢
  have hl : lv_has ls 2 [(0, .ref (ad 10)), (1, .int 3)] := hl
  refine lv_aload_n hx hb d_M_count_0 rfl (lv_at hl 0 rfl) ?_
  refine lv_iload_n hx hb d_M_count_1 rfl (lv_at hl 1 rfl) ?_
  refine lv_if_lt (tgt := 15) hx hb d_M_count_2 (by decide) (fun c_2 => absurd c_2 (by decide)) (fun c_2 => ?_)
  refine lv_iload_n hx hb d_M_count_5 rfl (lv_at hl 1 rfl) ?_
  refine lv_bipush (v := 8) hx hb d_M_count_6 (by decide) ?_
  refine lv_icmp_gt (tgt := 15) hx hb d_M_count_8 (by decide) (fun c_8 => absurd c_8 (by decide)) (fun c_8 => ?_)
  refine lv_iconst (v := 1) hx hb d_M_count_11 (by decide) ?_
  refine lv_goto (tgt := 16) hx hb d_M_count_12 (by decide) ?_
  refine lv_iconst (v := 1) hx hb d_M_count_16 (by decide) ?_
  refine kc_i (va_runV (As := [.int 1, .int 1]) (rest := []) ⟨hx, hb, hml, hown, hts⟩ (c_M_goes l D ty ad _ n f th rt qu b w T g a o 1 1) (cwV 2 hts (kGV kS1 m_M_52 m_im_M_goes m_sel_M_goes m_ini_M m_code_M_goes) rfl rfl rfl (by decide +kernel) ⟨Nat.le_of_ble_eq_true rfl, Nat.le_of_ble_eq_true rfl⟩) ⟨kP_blind, va_recv hK hP (ci := 3) (q0 := 10) rfl gw_10, fun U hU hW => ⟨rfl, kP_at hK hP hD U hU hW⟩⟩ rfl rfl hl.1 rfl (lv_room (Nat.le_of_ble_eq_true rfl)) d_M_count_17 ⟨Nat.le_of_ble_eq_true rfl, Nat.le_of_ble_eq_true rfl⟩) hD hS hA (fun r u H locs hu hP hD hS hz => ?_)
  obtain ⟨rfl, rfl⟩ := hu
  refine lv_if_ne (tgt := 25) hx hb d_M_count_20 (by decide) (fun c_20 => ?_) (fun c_20 => absurd c_20 (by decide))
  refine lv_iload_n hx hb d_M_count_25 rfl (lv_at hl 1 rfl) ?_
  refine lv_tableIn (off := 63) (tgt := 89) hx hb d_M_count_26 (by decide) (by decide) rfl (by decide) ?_
  refine lv_aload_n hx hb d_M_count_89 rfl (lv_at hl 0 rfl) ?_
  refine va_get (D := D) (ci := 3) (v := .int (g 9)) (C := R_M) (T := F_M) (N := 16) hx hb hts (fun w h => kS1 w (i_M w h)) hown hK hP 10 gw_10 rfl 9 (by decide) (hts _ (kS1 _ m_M_63)) (fun _ h9 => h9) rfl d_M_count_90 ?_
  have hu : (gW n ty ad f th rt qu b w T (upd g 0 (mT 1 1)) a o : va_W) = gW n ty ad f th rt qu b w T (upd g 0 (mT 1 1)) a o := by simp [c_2, c_8, c_20]
  have hv : (g 9 : Int32) = g 9 := by simp [c_2, c_8, c_20]
  exact W.iret (v := g 9) hx hb hr (fun t ht hW => ⟨⟨_, _, rfl, ⟨hv, hu⟩, by rw [ht]; exact hP, va_K.moved hW.alike hK, hD⟩, hS.F ht⟩) hS.2.2 d_M_count_93
set_option maxHeartbeats 4000000 in
set_option maxRecDepth 100000 in
/-- count(4) -/
theorem c_M_count_4 (l : Launch) (D : va_G) (ty : Nat → ClassId) (ad : Nat → Nat) (sz : Nat) (n : Nat) (f : Nat → Int32) (th : Nat → Bool) (rt qu : Nat → Int32) (b w : SR) (T : Nat → TH) (g : Nat → Int32) (a : Nat → Nat → Int32) (o : Nat → Int64) (hg1 : g 1 = nI n) (hn3 : n ≤ 300) (q : Nat) (hq : g 9 = nI q) (hq3 : q ≤ 300) (hL : ∀ k, k < n → ∃ v, v ≤ 12 ∧ a 4 k = nI v) (hR : ∀ r, r < 16 → ∃ v, v ≤ 300 ∧ a 8 r = nI v) (hQ : ∀ i, i < q → ∃ v, v < 300 ∧ a 10 i = nI v) (hF : ∀ i, i < 3600 → ∃ v, v ≤ 300 ∧ a 5 i = nI v) (hW1 : ∀ k, k < n → a 3 k = 1 → 0 < (a 4 k).toNatClampNeg) : Met l y_M_count w_M_count ({ frames := 1, cells := 0, slots := 0, locals := 25 }) (va_Pc [.ref (ad 10), .int 4] (kP D kCl (kTy ty) (gW n ty ad f th rt qu b w T g a o) sz)) (va_Qi (fun (r9 : Int32) (u9 : va_W) => r9 = (it (mWt a) n 0) ∧ u9 = (gW n ty ad f th rt qu b w T (upd g 0 (mT 1 1)) a o)) (kB D kCl (kTy ty) (va_A (gW n ty ad f th rt qu b w T g a o) sz)) (va_A (gW n ty ad f th rt qu b w T g a o) sz)) 0 0 (va_A (gW n ty ad f th rt qu b w T g a o) sz) := by
  refine Met.ofW (cc := b_M_count) (maxL := 2) (ret := (some .int)) (by decide) rfl ?_
  intro p e s m args below meth cd s₁ B hml hv
  obtain ⟨rfl, hsz, hP, hK, hD0⟩ := hv
  have hx := B.exec
  have hb := B.bytes
  have hr := B.returns
  have hts := atoms_spec (ws := w_M_count) B.pre
  have hown : s.vm.findClass R_M = some m.cls := findClass_of_methodNamed B.named
  have hlocks := B.notSynchronized
  subst hsz
  have hD := hD0.self (sz := s.heap.size)
  generalize hAe : va_A (gW n ty ad f th rt qu b w T g a o) s.heap.size = A at hD ⊢
  have hA : ∀ q : Nat, s.heap.size ≤ q → A q := fun q h => by rw [← hAe]; exact Or.inr h
  have hS : va_S A s.heap s.heap [] := va_S.rf
  have hl := lv_entry ([.ref (ad 10), .int 4]) (n := 2) (Nat.le_of_ble_eq_true rfl)
  rw [lg_entry_eq]
  generalize (lg_sl ([.ref (ad 10), .int 4]) ++ List.replicate (2 - (lg_sl ([.ref (ad 10), .int 4])).length) Slot.unset).toArray = ls at hl ⊢
  have hl : lv_has ls 2 [(0, .ref (ad 10)), (1, .int 4)] := hl
  refine lv_aload_n hx hb d_M_count_0 rfl (lv_at hl 0 rfl) ?_
  refine lv_iload_n hx hb d_M_count_1 rfl (lv_at hl 1 rfl) ?_
  refine lv_if_lt (tgt := 15) hx hb d_M_count_2 (by decide) (fun c_2 => absurd c_2 (by decide)) (fun c_2 => ?_)
  refine lv_iload_n hx hb d_M_count_5 rfl (lv_at hl 1 rfl) ?_
  refine lv_bipush (v := 8) hx hb d_M_count_6 (by decide) ?_
  refine lv_icmp_gt (tgt := 15) hx hb d_M_count_8 (by decide) (fun c_8 => absurd c_8 (by decide)) (fun c_8 => ?_)
  refine lv_iconst (v := 1) hx hb d_M_count_11 (by decide) ?_
  refine lv_goto (tgt := 16) hx hb d_M_count_12 (by decide) ?_
  refine lv_iconst (v := 1) hx hb d_M_count_16 (by decide) ?_
  refine kc_i (va_runV (As := [.int 1, .int 1]) (rest := []) ⟨hx, hb, hml, hown, hts⟩ (c_M_goes l D ty ad _ n f th rt qu b w T g a o 1 1) (cwV 2 hts (kGV kS1 m_M_52 m_im_M_goes m_sel_M_goes m_ini_M m_code_M_goes) rfl rfl rfl (by decide +kernel) ⟨Nat.le_of_ble_eq_true rfl, Nat.le_of_ble_eq_true rfl⟩) ⟨kP_blind, va_recv hK hP (ci := 3) (q0 := 10) rfl gw_10, fun U hU hW => ⟨rfl, kP_at hK hP hD U hU hW⟩⟩ rfl rfl hl.1 rfl (lv_room (Nat.le_of_ble_eq_true rfl)) d_M_count_17 ⟨Nat.le_of_ble_eq_true rfl, Nat.le_of_ble_eq_true rfl⟩) hD hS hA (fun r u H locs hu hP hD hS hz => ?_)
  obtain ⟨rfl, rfl⟩ := hu
  refine lv_if_ne (tgt := 25) hx hb d_M_count_20 (by decide) (fun c_20 => ?_) (fun c_20 => absurd c_20 (by decide))
  refine lv_iload_n hx hb d_M_count_25 rfl (lv_at hl 1 rfl) ?_
  refine lv_tableIn (off := 68) (tgt := 94) hx hb d_M_count_26 (by decide) (by decide) rfl (by decide) ?_
  refine lv_aload_n hx hb d_M_count_94 rfl (lv_at hl 0 rfl) ?_
  refine kc_R (va_runV (As := []) (rest := []) ⟨hx, hb, hml, hown, hts⟩ (c_M_waiting l D ty ad _ n f th rt qu b w T (upd g 0 (mT 1 1)) a o hg1 hn3) (cwV 0 hts (kGV kS1 m_M_83 m_im_M_waiting m_sel_M_waiting m_ini_M m_code_M_waiting) rfl rfl rfl (by decide +kernel) ⟨Nat.le_of_ble_eq_true rfl, Nat.le_of_ble_eq_true rfl⟩) ⟨kP_blind, va_recv hK hP (ci := 3) (q0 := 10) rfl gw_10, fun U hU hW => ⟨rfl, kP_at hK hP hD U hU hW⟩⟩ rfl rfl hl.1 rfl (lv_room (Nat.le_of_ble_eq_true rfl)) d_M_count_95 ⟨Nat.le_of_ble_eq_true rfl, Nat.le_of_ble_eq_true rfl⟩) ?_
  have hu : (gW n ty ad f th rt qu b w T (upd g 0 (mT 1 1)) a o : va_W) = gW n ty ad f th rt qu b w T (upd g 0 (mT 1 1)) a o := by simp [c_2, c_8, c_20]
  have hv : (it (mWt a) n 0 : Int32) = it (mWt a) n 0 := by simp [c_2, c_8, c_20]
  exact W.iret (v := it (mWt a) n 0) hx hb hr (fun t ht hW => ⟨⟨_, _, rfl, ⟨hv, hu⟩, by rw [ht]; exact hP, va_K.moved hW.alike hK, hD⟩, hS.F ht⟩) hS.2.2 d_M_count_98
set_option maxHeartbeats 4000000 in
set_option maxRecDepth 100000 in
/-- count(5) -/
theorem c_M_count_5 (l : Launch) (D : va_G) (ty : Nat → ClassId) (ad : Nat → Nat) (sz : Nat) (n : Nat) (f : Nat → Int32) (th : Nat → Bool) (rt qu : Nat → Int32) (b w : SR) (T : Nat → TH) (g : Nat → Int32) (a : Nat → Nat → Int32) (o : Nat → Int64) (hg1 : g 1 = nI n) (hn3 : n ≤ 300) (q : Nat) (hq : g 9 = nI q) (hq3 : q ≤ 300) (hL : ∀ k, k < n → ∃ v, v ≤ 12 ∧ a 4 k = nI v) (hR : ∀ r, r < 16 → ∃ v, v ≤ 300 ∧ a 8 r = nI v) (hQ : ∀ i, i < q → ∃ v, v < 300 ∧ a 10 i = nI v) (hF : ∀ i, i < 3600 → ∃ v, v ≤ 300 ∧ a 5 i = nI v) (hW1 : ∀ k, k < n → a 3 k = 1 → 0 < (a 4 k).toNatClampNeg) : Met l y_M_count w_M_count ({ frames := 1, cells := 0, slots := 0, locals := 25 }) (va_Pc [.ref (ad 10), .int 5] (kP D kCl (kTy ty) (gW n ty ad f th rt qu b w T g a o) sz)) (va_Qi (fun (r9 : Int32) (u9 : va_W) => r9 = (g 12) ∧ u9 = (gW n ty ad f th rt qu b w T (upd g 0 (mT 1 1)) a o)) (kB D kCl (kTy ty) (va_A (gW n ty ad f th rt qu b w T g a o) sz)) (va_A (gW n ty ad f th rt qu b w T g a o) sz)) 0 0 (va_A (gW n ty ad f th rt qu b w T g a o) sz) := by
  refine Met.ofW (cc := b_M_count) (maxL := 2) (ret := (some .int)) (by decide) rfl ?_
  intro p e s m args below meth cd s₁ B hml hv
  obtain ⟨rfl, hsz, hP, hK, hD0⟩ := hv
  have hx := B.exec
  have hb := B.bytes
  have hr := B.returns
  have hts := atoms_spec (ws := w_M_count) B.pre
  have hown : s.vm.findClass R_M = some m.cls := findClass_of_methodNamed B.named
  have hlocks := B.notSynchronized
  subst hsz
  have hD := hD0.self (sz := s.heap.size)
  generalize hAe : va_A (gW n ty ad f th rt qu b w T g a o) s.heap.size = A at hD ⊢
  have hA : ∀ q : Nat, s.heap.size ≤ q → A q := fun q h => by rw [← hAe]; exact Or.inr h
  have hS : va_S A s.heap s.heap [] := va_S.rf
  have hl := lv_entry ([.ref (ad 10), .int 5]) (n := 2) (Nat.le_of_ble_eq_true rfl)
  rw [lg_entry_eq]
  generalize (lg_sl ([.ref (ad 10), .int 5]) ++ List.replicate (2 - (lg_sl ([.ref (ad 10), .int 5])).length) Slot.unset).toArray = ls at hl ⊢
  have hl : lv_has ls 2 [(0, .ref (ad 10)), (1, .int 5)] := hl
  refine lv_aload_n hx hb d_M_count_0 rfl (lv_at hl 0 rfl) ?_
  refine lv_iload_n hx hb d_M_count_1 rfl (lv_at hl 1 rfl) ?_
  refine lv_if_lt (tgt := 15) hx hb d_M_count_2 (by decide) (fun c_2 => absurd c_2 (by decide)) (fun c_2 => ?_)
  refine lv_iload_n hx hb d_M_count_5 rfl (lv_at hl 1 rfl) ?_
  refine lv_bipush (v := 8) hx hb d_M_count_6 (by decide) ?_
  refine lv_icmp_gt (tgt := 15) hx hb d_M_count_8 (by decide) (fun c_8 => absurd c_8 (by decide)) (fun c_8 => ?_)
  refine lv_iconst (v := 1) hx hb d_M_count_11 (by decide) ?_
  refine lv_goto (tgt := 16) hx hb d_M_count_12 (by decide) ?_
  refine lv_iconst (v := 1) hx hb d_M_count_16 (by decide) ?_
  refine kc_i (va_runV (As := [.int 1, .int 1]) (rest := []) ⟨hx, hb, hml, hown, hts⟩ (c_M_goes l D ty ad _ n f th rt qu b w T g a o 1 1) (cwV 2 hts (kGV kS1 m_M_52 m_im_M_goes m_sel_M_goes m_ini_M m_code_M_goes) rfl rfl rfl (by decide +kernel) ⟨Nat.le_of_ble_eq_true rfl, Nat.le_of_ble_eq_true rfl⟩) ⟨kP_blind, va_recv hK hP (ci := 3) (q0 := 10) rfl gw_10, fun U hU hW => ⟨rfl, kP_at hK hP hD U hU hW⟩⟩ rfl rfl hl.1 rfl (lv_room (Nat.le_of_ble_eq_true rfl)) d_M_count_17 ⟨Nat.le_of_ble_eq_true rfl, Nat.le_of_ble_eq_true rfl⟩) hD hS hA (fun r u H locs hu hP hD hS hz => ?_)
  obtain ⟨rfl, rfl⟩ := hu
  refine lv_if_ne (tgt := 25) hx hb d_M_count_20 (by decide) (fun c_20 => ?_) (fun c_20 => absurd c_20 (by decide))
  refine lv_iload_n hx hb d_M_count_25 rfl (lv_at hl 1 rfl) ?_
  refine lv_tableIn (off := 73) (tgt := 99) hx hb d_M_count_26 (by decide) (by decide) rfl (by decide) ?_
  refine lv_aload_n hx hb d_M_count_99 rfl (lv_at hl 0 rfl) ?_
  refine va_get (D := D) (ci := 3) (v := .int (g 12)) (C := R_M) (T := F_M) (N := 16) hx hb hts (fun w h => kS1 w (i_M w h)) hown hK hP 10 gw_10 rfl 12 (by decide) (hts _ (kS1 _ m_M_73)) (fun _ h9 => h9) rfl d_M_count_100 ?_
  have hu : (gW n ty ad f th rt qu b w T (upd g 0 (mT 1 1)) a o : va_W) = gW n ty ad f th rt qu b w T (upd g 0 (mT 1 1)) a o := by simp [c_2, c_8, c_20]
  have hv : (g 12 : Int32) = g 12 := by simp [c_2, c_8, c_20]
  exact W.iret (v := g 12) hx hb hr (fun t ht hW => ⟨⟨_, _, rfl, ⟨hv, hu⟩, by rw [ht]; exact hP, va_K.moved hW.alike hK, hD⟩, hS.F ht⟩) hS.2.2 d_M_count_103
set_option maxHeartbeats 4000000 in
set_option maxRecDepth 100000 in
/-- count(6) -/
theorem c_M_count_6 (l : Launch) (D : va_G) (ty : Nat → ClassId) (ad : Nat → Nat) (sz : Nat) (n : Nat) (f : Nat → Int32) (th : Nat → Bool) (rt qu : Nat → Int32) (b w : SR) (T : Nat → TH) (g : Nat → Int32) (a : Nat → Nat → Int32) (o : Nat → Int64) (hg1 : g 1 = nI n) (hn3 : n ≤ 300) (q : Nat) (hq : g 9 = nI q) (hq3 : q ≤ 300) (hL : ∀ k, k < n → ∃ v, v ≤ 12 ∧ a 4 k = nI v) (hR : ∀ r, r < 16 → ∃ v, v ≤ 300 ∧ a 8 r = nI v) (hQ : ∀ i, i < q → ∃ v, v < 300 ∧ a 10 i = nI v) (hF : ∀ i, i < 3600 → ∃ v, v ≤ 300 ∧ a 5 i = nI v) (hW1 : ∀ k, k < n → a 3 k = 1 → 0 < (a 4 k).toNatClampNeg) : Met l y_M_count w_M_count ({ frames := 1, cells := 0, slots := 0, locals := 25 }) (va_Pc [.ref (ad 10), .int 6] (kP D kCl (kTy ty) (gW n ty ad f th rt qu b w T g a o) sz)) (va_Qi (fun (r9 : Int32) (u9 : va_W) => r9 = (g 11) ∧ u9 = (gW n ty ad f th rt qu b w T (upd g 0 (mT 1 1)) a o)) (kB D kCl (kTy ty) (va_A (gW n ty ad f th rt qu b w T g a o) sz)) (va_A (gW n ty ad f th rt qu b w T g a o) sz)) 0 0 (va_A (gW n ty ad f th rt qu b w T g a o) sz) := by
  refine Met.ofW (cc := b_M_count) (maxL := 2) (ret := (some .int)) (by decide) rfl ?_
  intro p e s m args below meth cd s₁ B hml hv
  obtain ⟨rfl, hsz, hP, hK, hD0⟩ := hv
  have hx := B.exec
  have hb := B.bytes
  have hr := B.returns
  have hts := atoms_spec (ws := w_M_count) B.pre
  have hown : s.vm.findClass R_M = some m.cls := findClass_of_methodNamed B.named
  have hlocks := B.notSynchronized
  subst hsz
  have hD := hD0.self (sz := s.heap.size)
  generalize hAe : va_A (gW n ty ad f th rt qu b w T g a o) s.heap.size = A at hD ⊢
  have hA : ∀ q : Nat, s.heap.size ≤ q → A q := fun q h => by rw [← hAe]; exact Or.inr h
  have hS : va_S A s.heap s.heap [] := va_S.rf
  have hl := lv_entry ([.ref (ad 10), .int 6]) (n := 2) (Nat.le_of_ble_eq_true rfl)
  rw [lg_entry_eq]
  generalize (lg_sl ([.ref (ad 10), .int 6]) ++ List.replicate (2 - (lg_sl ([.ref (ad 10), .int 6])).length) Slot.unset).toArray = ls at hl ⊢
  have hl : lv_has ls 2 [(0, .ref (ad 10)), (1, .int 6)] := hl
  refine lv_aload_n hx hb d_M_count_0 rfl (lv_at hl 0 rfl) ?_
  refine lv_iload_n hx hb d_M_count_1 rfl (lv_at hl 1 rfl) ?_
  refine lv_if_lt (tgt := 15) hx hb d_M_count_2 (by decide) (fun c_2 => absurd c_2 (by decide)) (fun c_2 => ?_)
  refine lv_iload_n hx hb d_M_count_5 rfl (lv_at hl 1 rfl) ?_
  refine lv_bipush (v := 8) hx hb d_M_count_6 (by decide) ?_
  refine lv_icmp_gt (tgt := 15) hx hb d_M_count_8 (by decide) (fun c_8 => absurd c_8 (by decide)) (fun c_8 => ?_)
  refine lv_iconst (v := 1) hx hb d_M_count_11 (by decide) ?_
  refine lv_goto (tgt := 16) hx hb d_M_count_12 (by decide) ?_
  refine lv_iconst (v := 1) hx hb d_M_count_16 (by decide) ?_
  refine kc_i (va_runV (As := [.int 1, .int 1]) (rest := []) ⟨hx, hb, hml, hown, hts⟩ (c_M_goes l D ty ad _ n f th rt qu b w T g a o 1 1) (cwV 2 hts (kGV kS1 m_M_52 m_im_M_goes m_sel_M_goes m_ini_M m_code_M_goes) rfl rfl rfl (by decide +kernel) ⟨Nat.le_of_ble_eq_true rfl, Nat.le_of_ble_eq_true rfl⟩) ⟨kP_blind, va_recv hK hP (ci := 3) (q0 := 10) rfl gw_10, fun U hU hW => ⟨rfl, kP_at hK hP hD U hU hW⟩⟩ rfl rfl hl.1 rfl (lv_room (Nat.le_of_ble_eq_true rfl)) d_M_count_17 ⟨Nat.le_of_ble_eq_true rfl, Nat.le_of_ble_eq_true rfl⟩) hD hS hA (fun r u H locs hu hP hD hS hz => ?_)
  obtain ⟨rfl, rfl⟩ := hu
  refine lv_if_ne (tgt := 25) hx hb d_M_count_20 (by decide) (fun c_20 => ?_) (fun c_20 => absurd c_20 (by decide))
  refine lv_iload_n hx hb d_M_count_25 rfl (lv_at hl 1 rfl) ?_
  refine lv_tableIn (off := 78) (tgt := 104) hx hb d_M_count_26 (by decide) (by decide) rfl (by decide) ?_
  refine lv_aload_n hx hb d_M_count_104 rfl (lv_at hl 0 rfl) ?_
  refine va_get (D := D) (ci := 3) (v := .int (g 11)) (C := R_M) (T := F_M) (N := 16) hx hb hts (fun w h => kS1 w (i_M w h)) hown hK hP 10 gw_10 rfl 11 (by decide) (hts _ (kS1 _ m_M_66)) (fun _ h9 => h9) rfl d_M_count_105 ?_
  have hu : (gW n ty ad f th rt qu b w T (upd g 0 (mT 1 1)) a o : va_W) = gW n ty ad f th rt qu b w T (upd g 0 (mT 1 1)) a o := by simp [c_2, c_8, c_20]
  have hv : (g 11 : Int32) = g 11 := by simp [c_2, c_8, c_20]
  exact W.iret (v := g 11) hx hb hr (fun t ht hW => ⟨⟨_, _, rfl, ⟨hv, hu⟩, by rw [ht]; exact hP, va_K.moved hW.alike hK, hD⟩, hS.F ht⟩) hS.2.2 d_M_count_108
set_option maxHeartbeats 4000000 in
set_option maxRecDepth 100000 in
/-- count(7) -/
theorem c_M_count_7 (l : Launch) (D : va_G) (ty : Nat → ClassId) (ad : Nat → Nat) (sz : Nat) (n : Nat) (f : Nat → Int32) (th : Nat → Bool) (rt qu : Nat → Int32) (b w : SR) (T : Nat → TH) (g : Nat → Int32) (a : Nat → Nat → Int32) (o : Nat → Int64) (hg1 : g 1 = nI n) (hn3 : n ≤ 300) (q : Nat) (hq : g 9 = nI q) (hq3 : q ≤ 300) (hL : ∀ k, k < n → ∃ v, v ≤ 12 ∧ a 4 k = nI v) (hR : ∀ r, r < 16 → ∃ v, v ≤ 300 ∧ a 8 r = nI v) (hQ : ∀ i, i < q → ∃ v, v < 300 ∧ a 10 i = nI v) (hF : ∀ i, i < 3600 → ∃ v, v ≤ 300 ∧ a 5 i = nI v) (hW1 : ∀ k, k < n → a 3 k = 1 → 0 < (a 4 k).toNatClampNeg) : Met l y_M_count w_M_count ({ frames := 1, cells := 0, slots := 0, locals := 25 }) (va_Pc [.ref (ad 10), .int 7] (kP D kCl (kTy ty) (gW n ty ad f th rt qu b w T g a o) sz)) (va_Qi (fun (r9 : Int32) (u9 : va_W) => r9 = (g 13) ∧ u9 = (gW n ty ad f th rt qu b w T (upd g 0 (mT 1 1)) a o)) (kB D kCl (kTy ty) (va_A (gW n ty ad f th rt qu b w T g a o) sz)) (va_A (gW n ty ad f th rt qu b w T g a o) sz)) 0 0 (va_A (gW n ty ad f th rt qu b w T g a o) sz) := by
  refine Met.ofW (cc := b_M_count) (maxL := 2) (ret := (some .int)) (by decide) rfl ?_
  intro p e s m args below meth cd s₁ B hml hv
  obtain ⟨rfl, hsz, hP, hK, hD0⟩ := hv
  have hx := B.exec
  have hb := B.bytes
  have hr := B.returns
  have hts := atoms_spec (ws := w_M_count) B.pre
  have hown : s.vm.findClass R_M = some m.cls := findClass_of_methodNamed B.named
  have hlocks := B.notSynchronized
  subst hsz
  have hD := hD0.self (sz := s.heap.size)
  generalize hAe : va_A (gW n ty ad f th rt qu b w T g a o) s.heap.size = A at hD ⊢
  have hA : ∀ q : Nat, s.heap.size ≤ q → A q := fun q h => by rw [← hAe]; exact Or.inr h
  have hS : va_S A s.heap s.heap [] := va_S.rf
  have hl := lv_entry ([.ref (ad 10), .int 7]) (n := 2) (Nat.le_of_ble_eq_true rfl)
  rw [lg_entry_eq]
  generalize (lg_sl ([.ref (ad 10), .int 7]) ++ List.replicate (2 - (lg_sl ([.ref (ad 10), .int 7])).length) Slot.unset).toArray = ls at hl ⊢
  have hl : lv_has ls 2 [(0, .ref (ad 10)), (1, .int 7)] := hl
  refine lv_aload_n hx hb d_M_count_0 rfl (lv_at hl 0 rfl) ?_
  refine lv_iload_n hx hb d_M_count_1 rfl (lv_at hl 1 rfl) ?_
  refine lv_if_lt (tgt := 15) hx hb d_M_count_2 (by decide) (fun c_2 => absurd c_2 (by decide)) (fun c_2 => ?_)
  refine lv_iload_n hx hb d_M_count_5 rfl (lv_at hl 1 rfl) ?_
  refine lv_bipush (v := 8) hx hb d_M_count_6 (by decide) ?_
  refine lv_icmp_gt (tgt := 15) hx hb d_M_count_8 (by decide) (fun c_8 => absurd c_8 (by decide)) (fun c_8 => ?_)
  refine lv_iconst (v := 1) hx hb d_M_count_11 (by decide) ?_
  refine lv_goto (tgt := 16) hx hb d_M_count_12 (by decide) ?_
  refine lv_iconst (v := 1) hx hb d_M_count_16 (by decide) ?_
  refine kc_i (va_runV (As := [.int 1, .int 1]) (rest := []) ⟨hx, hb, hml, hown, hts⟩ (c_M_goes l D ty ad _ n f th rt qu b w T g a o 1 1) (cwV 2 hts (kGV kS1 m_M_52 m_im_M_goes m_sel_M_goes m_ini_M m_code_M_goes) rfl rfl rfl (by decide +kernel) ⟨Nat.le_of_ble_eq_true rfl, Nat.le_of_ble_eq_true rfl⟩) ⟨kP_blind, va_recv hK hP (ci := 3) (q0 := 10) rfl gw_10, fun U hU hW => ⟨rfl, kP_at hK hP hD U hU hW⟩⟩ rfl rfl hl.1 rfl (lv_room (Nat.le_of_ble_eq_true rfl)) d_M_count_17 ⟨Nat.le_of_ble_eq_true rfl, Nat.le_of_ble_eq_true rfl⟩) hD hS hA (fun r u H locs hu hP hD hS hz => ?_)
  obtain ⟨rfl, rfl⟩ := hu
  refine lv_if_ne (tgt := 25) hx hb d_M_count_20 (by decide) (fun c_20 => ?_) (fun c_20 => absurd c_20 (by decide))
  refine lv_iload_n hx hb d_M_count_25 rfl (lv_at hl 1 rfl) ?_
  refine lv_tableIn (off := 83) (tgt := 109) hx hb d_M_count_26 (by decide) (by decide) rfl (by decide) ?_
  refine lv_aload_n hx hb d_M_count_109 rfl (lv_at hl 0 rfl) ?_
  refine va_get (D := D) (ci := 3) (v := .int (g 13)) (C := R_M) (T := F_M) (N := 16) hx hb hts (fun w h => kS1 w (i_M w h)) hown hK hP 10 gw_10 rfl 13 (by decide) (hts _ (kS1 _ m_M_76)) (fun _ h9 => h9) rfl d_M_count_110 ?_
  have hu : (gW n ty ad f th rt qu b w T (upd g 0 (mT 1 1)) a o : va_W) = gW n ty ad f th rt qu b w T (upd g 0 (mT 1 1)) a o := by simp [c_2, c_8, c_20]
  have hv : (g 13 : Int32) = g 13 := by simp [c_2, c_8, c_20]
  exact W.iret (v := g 13) hx hb hr (fun t ht hW => ⟨⟨_, _, rfl, ⟨hv, hu⟩, by rw [ht]; exact hP, va_K.moved hW.alike hK, hD⟩, hS.F ht⟩) hS.2.2 d_M_count_113
set_option maxHeartbeats 4000000 in
set_option maxRecDepth 100000 in
/-- count(8) -/
theorem c_M_count_8 (l : Launch) (D : va_G) (ty : Nat → ClassId) (ad : Nat → Nat) (sz : Nat) (n : Nat) (f : Nat → Int32) (th : Nat → Bool) (rt qu : Nat → Int32) (b w : SR) (T : Nat → TH) (g : Nat → Int32) (a : Nat → Nat → Int32) (o : Nat → Int64) (hg1 : g 1 = nI n) (hn3 : n ≤ 300) (q : Nat) (hq : g 9 = nI q) (hq3 : q ≤ 300) (hL : ∀ k, k < n → ∃ v, v ≤ 12 ∧ a 4 k = nI v) (hR : ∀ r, r < 16 → ∃ v, v ≤ 300 ∧ a 8 r = nI v) (hQ : ∀ i, i < q → ∃ v, v < 300 ∧ a 10 i = nI v) (hF : ∀ i, i < 3600 → ∃ v, v ≤ 300 ∧ a 5 i = nI v) (hW1 : ∀ k, k < n → a 3 k = 1 → 0 < (a 4 k).toNatClampNeg) : Met l y_M_count w_M_count ({ frames := 1, cells := 0, slots := 0, locals := 25 }) (va_Pc [.ref (ad 10), .int 8] (kP D kCl (kTy ty) (gW n ty ad f th rt qu b w T g a o) sz)) (va_Qi (fun (r9 : Int32) (u9 : va_W) => r9 = (g 1) ∧ u9 = (gW n ty ad f th rt qu b w T (upd g 0 (mT 1 1)) a o)) (kB D kCl (kTy ty) (va_A (gW n ty ad f th rt qu b w T g a o) sz)) (va_A (gW n ty ad f th rt qu b w T g a o) sz)) 0 0 (va_A (gW n ty ad f th rt qu b w T g a o) sz) := by
  refine Met.ofW (cc := b_M_count) (maxL := 2) (ret := (some .int)) (by decide) rfl ?_
  intro p e s m args below meth cd s₁ B hml hv
  obtain ⟨rfl, hsz, hP, hK, hD0⟩ := hv
  have hx := B.exec
  have hb := B.bytes
  have hr := B.returns
  have hts := atoms_spec (ws := w_M_count) B.pre
  have hown : s.vm.findClass R_M = some m.cls := findClass_of_methodNamed B.named
  have hlocks := B.notSynchronized
  subst hsz
  have hD := hD0.self (sz := s.heap.size)
  generalize hAe : va_A (gW n ty ad f th rt qu b w T g a o) s.heap.size = A at hD ⊢
  have hA : ∀ q : Nat, s.heap.size ≤ q → A q := fun q h => by rw [← hAe]; exact Or.inr h
  have hS : va_S A s.heap s.heap [] := va_S.rf
  have hl := lv_entry ([.ref (ad 10), .int 8]) (n := 2) (Nat.le_of_ble_eq_true rfl)
  rw [lg_entry_eq]
  generalize (lg_sl ([.ref (ad 10), .int 8]) ++ List.replicate (2 - (lg_sl ([.ref (ad 10), .int 8])).length) Slot.unset).toArray = ls at hl ⊢
  have hl : lv_has ls 2 [(0, .ref (ad 10)), (1, .int 8)] := hl
  refine lv_aload_n hx hb d_M_count_0 rfl (lv_at hl 0 rfl) ?_
  refine lv_iload_n hx hb d_M_count_1 rfl (lv_at hl 1 rfl) ?_
  refine lv_if_lt (tgt := 15) hx hb d_M_count_2 (by decide) (fun c_2 => absurd c_2 (by decide)) (fun c_2 => ?_)
  refine lv_iload_n hx hb d_M_count_5 rfl (lv_at hl 1 rfl) ?_
  refine lv_bipush (v := 8) hx hb d_M_count_6 (by decide) ?_
  refine lv_icmp_gt (tgt := 15) hx hb d_M_count_8 (by decide) (fun c_8 => absurd c_8 (by decide)) (fun c_8 => ?_)
  refine lv_iconst (v := 1) hx hb d_M_count_11 (by decide) ?_
  refine lv_goto (tgt := 16) hx hb d_M_count_12 (by decide) ?_
  refine lv_iconst (v := 1) hx hb d_M_count_16 (by decide) ?_
  refine kc_i (va_runV (As := [.int 1, .int 1]) (rest := []) ⟨hx, hb, hml, hown, hts⟩ (c_M_goes l D ty ad _ n f th rt qu b w T g a o 1 1) (cwV 2 hts (kGV kS1 m_M_52 m_im_M_goes m_sel_M_goes m_ini_M m_code_M_goes) rfl rfl rfl (by decide +kernel) ⟨Nat.le_of_ble_eq_true rfl, Nat.le_of_ble_eq_true rfl⟩) ⟨kP_blind, va_recv hK hP (ci := 3) (q0 := 10) rfl gw_10, fun U hU hW => ⟨rfl, kP_at hK hP hD U hU hW⟩⟩ rfl rfl hl.1 rfl (lv_room (Nat.le_of_ble_eq_true rfl)) d_M_count_17 ⟨Nat.le_of_ble_eq_true rfl, Nat.le_of_ble_eq_true rfl⟩) hD hS hA (fun r u H locs hu hP hD hS hz => ?_)
  obtain ⟨rfl, rfl⟩ := hu
  refine lv_if_ne (tgt := 25) hx hb d_M_count_20 (by decide) (fun c_20 => ?_) (fun c_20 => absurd c_20 (by decide))
  refine lv_iload_n hx hb d_M_count_25 rfl (lv_at hl 1 rfl) ?_
  refine lv_tableOut (tgt := 114) hx hb d_M_count_26 (Or.inr (by decide)) (by decide) ?_
  refine lv_aload_n hx hb d_M_count_114 rfl (lv_at hl 0 rfl) ?_
  refine va_get (D := D) (ci := 3) (v := .int (g 1)) (C := R_M) (T := F_M) (N := 16) hx hb hts (fun w h => kS1 w (i_M w h)) hown hK hP 10 gw_10 rfl 1 (by decide) (hts _ (kS1 _ m_M_45)) (fun _ h9 => h9) rfl d_M_count_115 ?_
  have hu : (gW n ty ad f th rt qu b w T (upd g 0 (mT 1 1)) a o : va_W) = gW n ty ad f th rt qu b w T (upd g 0 (mT 1 1)) a o := by simp [c_2, c_8, c_20]
  have hv : (g 1 : Int32) = g 1 := by simp [c_2, c_8, c_20]
  exact W.iret (v := g 1) hx hb hr (fun t ht hW => ⟨⟨_, _, rfl, ⟨hv, hu⟩, by rw [ht]; exact hP, va_K.moved hW.alike hK, hD⟩, hS.F ht⟩) hS.2.2 d_M_count_118
set_option maxHeartbeats 4000000 in
set_option maxRecDepth 100000 in
/-- take(): nothing there -/
theorem c_M_take_0 (l : Launch) (D : va_G) (ty : Nat → ClassId) (ad : Nat → Nat) (sz : Nat) (n : Nat) (f : Nat → Int32) (th : Nat → Bool) (rt qu : Nat → Int32) (b w : SR) (T : Nat → TH) (g : Nat → Int32) (a : Nat → Nat → Int32) (o : Nat → Int64) (hq : g 9 = 0) : Met l y_M_take w_M_take ({ frames := 0, cells := 0, slots := 0, locals := 0 }) (va_Pc [.ref (ad 10)] (kP D kCl (kTy ty) (gW n ty ad f th rt qu b w T g a o) sz)) (va_Qi (fun (r9 : Int32) (u9 : va_W) => r9 = (-1) ∧ u9 = (gW n ty ad f th rt qu b w T (upd g 0 0) a o)) (kB D kCl (kTy ty) (va_A (gW n ty ad f th rt qu b w T g a o) sz)) (va_A (gW n ty ad f th rt qu b w T g a o) sz)) 0 0 (va_A (gW n ty ad f th rt qu b w T g a o) sz) := by
  refine Met.ofW (cc := b_M_take) (maxL := 3) (ret := (some .int)) (by decide) rfl ?_
  intro p e s m args below meth cd s₁ B hml hv
  obtain ⟨rfl, hsz, hP, hK, hD0⟩ := hv
  have hx := B.exec
  have hb := B.bytes
  have hr := B.returns
  have hts := atoms_spec (ws := w_M_take) B.pre
  have hown : s.vm.findClass R_M = some m.cls := findClass_of_methodNamed B.named
  have hlocks := B.notSynchronized
  subst hsz
  have hD := hD0.self (sz := s.heap.size)
  generalize hAe : va_A (gW n ty ad f th rt qu b w T g a o) s.heap.size = A at hD ⊢
  have hA : ∀ q : Nat, s.heap.size ≤ q → A q := fun q h => by rw [← hAe]; exact Or.inr h
  have hS : va_S A s.heap s.heap [] := va_S.rf
  have hl := lv_entry ([.ref (ad 10)]) (n := 3) (Nat.le_of_ble_eq_true rfl)
  rw [lg_entry_eq]
  generalize (lg_sl ([.ref (ad 10)]) ++ List.replicate (3 - (lg_sl ([.ref (ad 10)])).length) Slot.unset).toArray = ls at hl ⊢
  have hl : lv_has ls 3 [(0, .ref (ad 10))] := hl
  refine lv_aload_n hx hb d_M_take_0 rfl (lv_at hl 0 rfl) ?_
  refine lv_iconst (v := 0) hx hb d_M_take_1 (by decide) ?_
  refine va_put (D := D) (ci := 3) (v := .int 0) (ty := .int) (C := R_M) (T := F_M) (N := 16) hx hb hts (fun w h => kS1 w (i_M w h)) tt_M tt_M_ok n_M hown hK hP hD hS 10 gw_10 rfl 0 (by decide) (hts _ (kS1 _ m_M_41)) (fun _ h9 => h9) rfl (by decide +kernel) rfl rfl (Nat.le_of_ble_eq_true rfl) d_M_take_2 (fun H locs hP hD hS => ?_)
  have hP := kw_P (gw_sM0 (v := 0)) hP
  have hD := kw_D (gw_sM0 (v := 0)) hD
  refine lv_aload_n hx hb d_M_take_5 rfl (lv_at hl 0 rfl) ?_
  refine va_get (D := D) (ci := 3) (v := .int (g 9)) (C := R_M) (T := F_M) (N := 16) hx hb hts (fun w h => kS1 w (i_M w h)) hown hK hP 10 gw_10 rfl 9 (by decide) (hts _ (kS1 _ m_M_63)) (fun _ h9 => h9) rfl d_M_take_6 ?_
  refine lv_if_ne (tgt := 14) hx hb d_M_take_9 (by decide) (fun c_9 => absurd hq c_9) (fun c_9 => ?_)
  refine lv_iconst (v := (-1)) hx hb d_M_take_12 (by decide) ?_
  have hu : (gW n ty ad f th rt qu b w T (upd g 0 0) a o : va_W) = gW n ty ad f th rt qu b w T (upd g 0 0) a o := by simp [c_9]
  have hv : ((-1) : Int32) = (-1) := by simp [c_9]
  exact W.iret (v := (-1)) hx hb hr (fun t ht hW => ⟨⟨_, _, rfl, ⟨hv, hu⟩, by rw [ht]; exact hP, va_K.moved hW.alike hK, hD⟩, hS.F ht⟩) hS.2.2 d_M_take_13
set_option maxHeartbeats 4000000 in
set_option maxRecDepth 100000 in
/-- take() -/
theorem c_M_take_1 (l : Launch) (D : va_G) (ty : Nat → ClassId) (ad : Nat → Nat) (sz : Nat) (n : Nat) (f : Nat → Int32) (th : Nat → Bool) (rt qu : Nat → Int32) (b w : SR) (T : Nat → TH) (g : Nat → Int32) (a : Nat → Nat → Int32) (o : Nat → Int64) (q : Nat) (hq : g 9 = nI (q + 1)) (hq3 : q < 300) (hQ0 : ∃ v, v < 300 ∧ a 10 0 = nI v) : Met l y_M_take w_M_take ({ frames := 0, cells := 0, slots := 0, locals := 0 }) (va_Pc [.ref (ad 10)] (kP D kCl (kTy ty) (gW n ty ad f th rt qu b w T g a o) sz)) (va_Qi (fun (r9 : Int32) (u9 : va_W) => r9 = (a 10 0) ∧ u9 = (gW n ty ad f th rt qu b w T (upd (upd g 0 0) 9 (g 9 - 1)) (va_up (it mTk q a) 3 (upd ((it mTk q a) 3) (a 10 0).toNatClampNeg 0)) o)) (kB D kCl (kTy ty) (va_A (gW n ty ad f th rt qu b w T g a o) sz)) (va_A (gW n ty ad f th rt qu b w T g a o) sz)) 0 0 (va_A (gW n ty ad f th rt qu b w T g a o) sz) := by
  refine Met.ofW (cc := b_M_take) (maxL := 3) (ret := (some .int)) (by decide) rfl ?_
  intro p e s m args below meth cd s₁ B hml hv
  obtain ⟨rfl, hsz, hP, hK, hD0⟩ := hv
  have hx := B.exec
  have hb := B.bytes
  have hr := B.returns
  have hts := atoms_spec (ws := w_M_take) B.pre
  have hown : s.vm.findClass R_M = some m.cls := findClass_of_methodNamed B.named
  have hlocks := B.notSynchronized
  subst hsz
  have hD := hD0.self (sz := s.heap.size)
  generalize hAe : va_A (gW n ty ad f th rt qu b w T g a o) s.heap.size = A at hD ⊢
  have hA : ∀ q : Nat, s.heap.size ≤ q → A q := fun q h => by rw [← hAe]; exact Or.inr h
  have hS : va_S A s.heap s.heap [] := va_S.rf
  have hl := lv_entry ([.ref (ad 10)]) (n := 3) (Nat.le_of_ble_eq_true rfl)
  rw [lg_entry_eq]
  generalize (lg_sl ([.ref (ad 10)]) ++ List.replicate (3 - (lg_sl ([.ref (ad 10)])).length) Slot.unset).toArray = ls at hl ⊢
  have hl : lv_has ls 3 [(0, .ref (ad 10))] := hl
  refine lv_aload_n hx hb d_M_take_0 rfl (lv_at hl 0 rfl) ?_
  refine lv_iconst (v := 0) hx hb d_M_take_1 (by decide) ?_
  refine va_put (D := D) (ci := 3) (v := .int 0) (ty := .int) (C := R_M) (T := F_M) (N := 16) hx hb hts (fun w h => kS1 w (i_M w h)) tt_M tt_M_ok n_M hown hK hP hD hS 10 gw_10 rfl 0 (by decide) (hts _ (kS1 _ m_M_41)) (fun _ h9 => h9) rfl (by decide +kernel) rfl rfl (Nat.le_of_ble_eq_true rfl) d_M_take_2 (fun H locs hP hD hS => ?_)
  have hP := kw_P (gw_sM0 (v := 0)) hP
  have hD := kw_D (gw_sM0 (v := 0)) hD
  refine lv_aload_n hx hb d_M_take_5 rfl (lv_at hl 0 rfl) ?_
  refine va_get (D := D) (ci := 3) (v := .int (g 9)) (C := R_M) (T := F_M) (N := 16) hx hb hts (fun w h => kS1 w (i_M w h)) hown hK hP 10 gw_10 rfl 9 (by decide) (hts _ (kS1 _ m_M_63)) (fun _ h9 => h9) rfl d_M_take_6 ?_
  refine lv_if_ne (tgt := 14) hx hb d_M_take_9 (by decide) (fun c_9 => ?_) (fun c_9 => absurd c_9 (by rw [hq]; exact nI_ne0 (by omega) (by omega)))
  refine lv_aload_n hx hb d_M_take_14 rfl (lv_at hl 0 rfl) ?_
  refine va_get (D := D) (ci := 3) (v := .ref (ad 18)) (C := R_M) (T := F_M) (N := 16) hx hb hts (fun w h => kS1 w (i_M w h)) hown hK hP 10 gw_10 rfl 10 (by decide) (hts _ (kS1 _ m_M_32)) (fun _ h9 => h9) rfl d_M_take_15 ?_
  refine lv_iconst (v := 0) hx hb d_M_take_18 (by decide) ?_
  refine va_iald (f := a 10) hx hb hK hP 18 0 gw_18 rfl (by rw [← nI_0]; exact vp_in_nI (N := 300) (by omega) (by omega)) d_M_take_19 ?_
  rw [sb_cl0]
  refine lv_istore_n (lv' := [(1, .int ((a 10) 0)), (0, .ref (ad 10))]) hx hb d_M_take_20 rfl hl (by decide) rfl (fun ls hl => ?_)
  refine lv_aload_n hx hb d_M_take_21 rfl (lv_at hl 1 rfl) ?_
  refine lv_dup hx hb d_M_take_22 rfl ?_
  refine va_get (D := D) (ci := 3) (v := .int (g 9)) (C := R_M) (T := F_M) (N := 16) hx hb hts (fun w h => kS1 w (i_M w h)) hown hK hP 10 gw_10 rfl 9 (by decide) (hts _ (kS1 _ m_M_63)) (fun _ h9 => h9) rfl d_M_take_23 ?_
  refine lv_iconst (v := 1) hx hb d_M_take_26 (by decide) ?_
  refine lv_isub hx hb d_M_take_27 ?_
  refine va_put (D := D) (ci := 3) (v := .int ((g 9) - 1)) (ty := .int) (C := R_M) (T := F_M) (N := 16) hx hb hts (fun w h => kS1 w (i_M w h)) tt_M tt_M_ok n_M hown hK hP hD hS 10 gw_10 rfl 9 (by decide) (hts _ (kS1 _ m_M_63)) (fun _ h9 => h9) rfl (by decide +kernel) rfl rfl (Nat.le_of_ble_eq_true rfl) d_M_take_28 (fun H locs hP hD hS => ?_)
  have hP := kw_P (gw_sM9 (v := (g 9) - 1)) hP
  have hD := kw_D (gw_sM9 (v := (g 9) - 1)) hD
  refine lv_iconst (v := 0) hx hb d_M_take_31 (by decide) ?_
  refine lv_istore_n (lv' := [(2, .int 0), (1, .int ((a 10) 0)), (0, .ref (ad 10))]) hx hb d_M_take_32 rfl hl (by decide) rfl (fun ls hl => ?_)
  have L1 : ∀ (Q : State → Prop) (rem i : Nat) (H : Heap) (locs : List Loc) (ls : Array Slot), i + rem = q → va_P D kCl (gW n ty ad f th rt qu b w T (upd (upd g 0 0) 9 (g 9 - 1)) (it mTk i a) o) H → va_D A (gW n ty ad f th rt qu b w T (upd (upd g 0 0) 9 (g 9 - 1)) (it mTk i a) o) → va_S A s.heap H locs → lv_has ls 3 [(0, .ref (ad 10)), (1, .int (a 10 0)), (2, .int (nI i))] → (∀ (H : Heap) (locs : List Loc) (ls : Array Slot), va_P D kCl (gW n ty ad f th rt qu b w T (upd (upd g 0 0) 9 (g 9 - 1)) (it mTk q a) o) H → va_D A (gW n ty ad f th rt qu b w T (upd (upd g 0 0) 9 (g 9 - 1)) (it mTk q a) o) → va_S A s.heap H locs → lv_has ls 3 [(0, .ref (ad 10)), (1, .int (a 10 0))] → W p l e (headSpec w_M_take ({ frames := 0, cells := 0, slots := 0, locals := 0 })).room s m ([.ref (ad 10)] : List Value).toArray below meth cd H locs 0 0 Q (F0 m 61 ls [])) → W p l e (headSpec w_M_take ({ frames := 0, cells := 0, slots := 0, locals := 0 })).room s m ([.ref (ad 10)] : List Value).toArray below meth cd H locs 0 0 Q (F0 m 33 ls []) := by
    intro Q rem
    induction rem with
    | zero =>
      intro i H locs ls hir_i hP hD hS hl kx
      obtain rfl : q = i := by omega
      refine lv_iload_n hx hb d_M_take_33 rfl (lv_at hl 2 rfl) ?_
      refine lv_aload_n hx hb d_M_take_34 rfl (lv_at hl 0 rfl) ?_
      refine va_get (D := D) (ci := 3) (v := .int (g 9 - 1)) (C := R_M) (T := F_M) (N := 16) hx hb hts (fun w h => kS1 w (i_M w h)) hown hK hP 10 gw_10 rfl 9 (by decide) (hts _ (kS1 _ m_M_63)) (fun _ h9 => h9) rfl d_M_take_35 ?_
      refine lv_icmp_ge (tgt := 61) hx hb d_M_take_38 (by decide) (fun c_38' => ?_) (fun c_38' => absurd (by rw [hq, nI_pred]; exact nI_le (Nat.le_refl _) (by omega)) c_38')
      have hl := lv_sub (l' := [(0, .ref (ad 10)), (1, .int (a 10 0))]) hl [0, 1] rfl
      exact kx _ _ ls hP hD hS hl
    | succ rem ih =>
      intro i H locs ls hir_i hP hD hS hl kx
      have hlt_i : i < q := by omega
      refine lv_iload_n hx hb d_M_take_33 rfl (lv_at hl 2 rfl) ?_
      refine lv_aload_n hx hb d_M_take_34 rfl (lv_at hl 0 rfl) ?_
      refine va_get (D := D) (ci := 3) (v := .int (g 9 - 1)) (C := R_M) (T := F_M) (N := 16) hx hb hts (fun w h => kS1 w (i_M w h)) hown hK hP 10 gw_10 rfl 9 (by decide) (hts _ (kS1 _ m_M_63)) (fun _ h9 => h9) rfl d_M_take_35 ?_
      refine lv_icmp_ge (tgt := 61) hx hb d_M_take_38 (by decide) (fun c_38' => absurd c_38' (by rw [hq, nI_pred]; exact nI_ge hlt_i (by omega))) (fun c_38' => ?_)
      refine lv_aload_n hx hb d_M_take_41 rfl (lv_at hl 0 rfl) ?_
      refine va_get (D := D) (ci := 3) (v := .ref (ad 18)) (C := R_M) (T := F_M) (N := 16) hx hb hts (fun w h => kS1 w (i_M w h)) hown hK hP 10 gw_10 rfl 10 (by decide) (hts _ (kS1 _ m_M_32)) (fun _ h9 => h9) rfl d_M_take_42 ?_
      refine lv_iload_n hx hb d_M_take_45 rfl (lv_at hl 2 rfl) ?_
      refine lv_aload_n hx hb d_M_take_46 rfl (lv_at hl 0 rfl) ?_
      refine va_get (D := D) (ci := 3) (v := .ref (ad 18)) (C := R_M) (T := F_M) (N := 16) hx hb hts (fun w h => kS1 w (i_M w h)) hown hK hP 10 gw_10 rfl 10 (by decide) (hts _ (kS1 _ m_M_32)) (fun _ h9 => h9) rfl d_M_take_47 ?_
      refine lv_iload_n hx hb d_M_take_50 rfl (lv_at hl 2 rfl) ?_
      refine lv_iconst (v := 1) hx hb d_M_take_51 (by decide) ?_
      refine lv_iadd hx hb d_M_take_52 ?_
      refine va_iald (f := (it mTk i a) 10) hx hb hK hP 18 0 gw_18 rfl (k1i (N := 300) (by omega) (by omega)) d_M_take_53 ?_
      rw [k1c (i := i) (by omega)]
      refine va_iast (f := (it mTk i a) 10) hx hb hK hP hD hS 18 0 gw_18 rfl (vp_in_nI (N := 300) (by omega) (by omega)) d_M_take_54 (fun H locs hP hD hS => ?_)
      rw [nI_clamp (n := i) (by omega)] at hP hD
      have hP := kw_P (gw_sa10 (r := upd ((it mTk i a) 10) i (((it mTk i a) 10) (i + 1)))) hP
      have hD := kw_D (gw_sa10 (r := upd ((it mTk i a) 10) i (((it mTk i a) 10) (i + 1)))) hD
      refine lv_iinc (v := nI i + 1) (lv' := [(2, .int (nI i + 1)), (0, .ref (ad 10)), (1, .int (a 10 0))]) hx hb d_M_take_55 hl (k := 2) rfl rfl (by decide) rfl (fun ls hl => ?_)
      refine lv_goto (tgt := 33) hx hb d_M_take_58 (by decide) ?_
      have hl := lv_sub (l' := [(0, .ref (ad 10)), (1, .int (a 10 0)), (2, .int (nI i + 1))]) hl [1, 2, 0] rfl
      have hqq9 : (.int (nI i + 1) : Value) = .int (nI (i + 1)) := by rw [nI_1]
      rw [hqq9] at hl
      have hE : (gW n ty ad f th rt qu b w T (upd (upd g 0 0) 9 (g 9 - 1)) (va_up (it mTk i a) 10 (upd ((it mTk i a) 10) i (((it mTk i a) 10) (i + 1)))) o : va_W) = gW n ty ad f th rt qu b w T (upd (upd g 0 0) 9 (g 9 - 1)) (it mTk (i + 1) a) o := by rfl
      have hP := kw_P hE hP
      have hD := kw_D hE hD
      exact ih (i + 1) _ _ ls (by omega) hP hD hS hl kx
  have hl := lv_sub (l' := [(0, .ref (ad 10)), (1, .int ((a 10) 0)), (2, .int 0)]) hl [2, 1, 0] rfl
  have hqq9 : (.int ((a 10) 0) : Value) = .int (a 10 0) := by rfl
  rw [hqq9] at hl
  have hqq9 : (.int 0 : Value) = .int (nI 0) := by rw [nI_0]
  rw [hqq9] at hl
  have hE : (gW n ty ad f th rt qu b w T (upd (upd g 0 0) 9 ((g 9) - 1)) a o : va_W) = gW n ty ad f th rt qu b w T (upd (upd g 0 0) 9 (g 9 - 1)) a o := by rfl
  have hP := kw_P hE hP
  have hD := kw_D hE hD
  refine L1 _ (q - 0) 0 _ _ ls (by omega) hP hD hS hl (fun H locs ls hP hD hS hl => ?_)
  refine lv_aload_n hx hb d_M_take_61 rfl (lv_at hl 0 rfl) ?_
  refine va_get (D := D) (ci := 3) (v := .ref (ad 12)) (C := R_M) (T := F_M) (N := 16) hx hb hts (fun w h => kS1 w (i_M w h)) hown hK hP 10 gw_10 rfl 3 (by decide) (hts _ (kS1 _ m_M_13)) (fun _ h9 => h9) rfl d_M_take_62 ?_
  refine lv_iload_n hx hb d_M_take_65 rfl (lv_at hl 1 rfl) ?_
  refine lv_iconst (v := 0) hx hb d_M_take_66 (by decide) ?_
  refine va_iast (f := (it mTk q a) 3) hx hb hK hP hD hS 12 0 gw_12 rfl (kin9 hQ0) d_M_take_67 (fun H locs hP hD hS => ?_)
  have hP := kw_P (gw_sa3 (r := upd ((it mTk q a) 3) ((a 10 0).toNatClampNeg) 0)) hP
  have hD := kw_D (gw_sa3 (r := upd ((it mTk q a) 3) ((a 10 0).toNatClampNeg) 0)) hD
  refine lv_iload_n hx hb d_M_take_68 rfl (lv_at hl 1 rfl) ?_
  have hu : (gW n ty ad f th rt qu b w T (upd (upd g 0 0) 9 (g 9 - 1)) (va_up (it mTk q a) 3 (upd ((it mTk q a) 3) ((a 10 0).toNatClampNeg) 0)) o : va_W) = gW n ty ad f th rt qu b w T (upd (upd g 0 0) 9 (g 9 - 1)) (va_up (it mTk q a) 3 (upd ((it mTk q a) 3) (a 10 0).toNatClampNeg 0)) o := by rfl
  have hv : (a 10 0 : Int32) = a 10 0 := by simp [c_9]
  exact W.iret (v := a 10 0) hx hb hr (fun t ht hW => ⟨⟨_, _, rfl, ⟨hv, hu⟩, by rw [ht]; exact hP, va_K.moved hW.alike hK, hD⟩, hS.F ht⟩) hS.2.2 d_M_take_69
set_option maxHeartbeats 4000000 in
set_option maxRecDepth 100000 in
/-- sweep() -/
theorem c_M_sweep (l : Launch) (D : va_G) (ty : Nat → ClassId) (ad : Nat → Nat) (sz : Nat) (n : Nat) (f : Nat → Int32) (th : Nat → Bool) (rt qu : Nat → Int32) (b w : SR) (T : Nat → TH) (g : Nat → Int32) (a : Nat → Nat → Int32) (o : Nat → Int64) (hg1 : g 1 = nI n) (hn3 : n ≤ 300) (q : Nat) (hq : g 9 = nI q) (hq3 : q ≤ 300) (hL : ∀ k, k < n → ∃ v, v ≤ 12 ∧ a 4 k = nI v) (hR : ∀ r, r < 16 → ∃ v, v ≤ 300 ∧ a 8 r = nI v) (hQ : ∀ i, i < q → ∃ v, v < 300 ∧ a 10 i = nI v) (hF : ∀ i, i < 3600 → ∃ v, v ≤ 300 ∧ a 5 i = nI v) (hW1 : ∀ k, k < n → a 3 k = 1 → 0 < (a 4 k).toNatClampNeg) : Met l y_M_sweep w_M_sweep ({ frames := 1, cells := 0, slots := 0, locals := 25 }) (va_Pc [.ref (ad 10)] (kP D kCl (kTy ty) (gW n ty ad f th rt qu b w T g a o) sz)) (va_Qi (fun (r9 : Int32) (u9 : va_W) => r9 = ((it mSw n (va_up a 14 (mD 1 a n q (a 14)), 0)).2) ∧ u9 = (gW n ty ad f th rt qu b w T (upd g 0 0) ((it mSw n (va_up a 14 (mD 1 a n q (a 14)), 0)).1) o)) (kB D kCl (kTy ty) (va_A (gW n ty ad f th rt qu b w T g a o) sz)) (va_A (gW n ty ad f th rt qu b w T g a o) sz)) 0 0 (va_A (gW n ty ad f th rt qu b w T g a o) sz) := by
  refine Met.ofW (cc := b_M_sweep) (maxL := 4) (ret := (some .int)) (by decide) rfl ?_
  intro p e s m args below meth cd s₁ B hml hv
  obtain ⟨rfl, hsz, hP, hK, hD0⟩ := hv
  have hx := B.exec
  have hb := B.bytes
  have hr := B.returns
  have hts := atoms_spec (ws := w_M_sweep) B.pre
  have hown : s.vm.findClass R_M = some m.cls := findClass_of_methodNamed B.named
  have hlocks := B.notSynchronized
  subst hsz
  have hD := hD0.self (sz := s.heap.size)
  generalize hAe : va_A (gW n ty ad f th rt qu b w T g a o) s.heap.size = A at hD ⊢
  have hA : ∀ q : Nat, s.heap.size ≤ q → A q := fun q h => by rw [← hAe]; exact Or.inr h
  have hS : va_S A s.heap s.heap [] := va_S.rf
  have hl := lv_entry ([.ref (ad 10)]) (n := 4) (Nat.le_of_ble_eq_true rfl)
  rw [lg_entry_eq]
  generalize (lg_sl ([.ref (ad 10)]) ++ List.replicate (4 - (lg_sl ([.ref (ad 10)])).length) Slot.unset).toArray = ls at hl ⊢
  have hl : lv_has ls 4 [(0, .ref (ad 10))] := hl
  refine lv_aload_n hx hb d_M_sweep_0 rfl (lv_at hl 0 rfl) ?_
  refine lv_iconst (v := 0) hx hb d_M_sweep_1 (by decide) ?_
  refine va_put (D := D) (ci := 3) (v := .int 0) (ty := .int) (C := R_M) (T := F_M) (N := 16) hx hb hts (fun w h => kS1 w (i_M w h)) tt_M tt_M_ok n_M hown hK hP hD hS 10 gw_10 rfl 0 (by decide) (hts _ (kS1 _ m_M_41)) (fun _ h9 => h9) rfl (by decide +kernel) rfl rfl (Nat.le_of_ble_eq_true rfl) d_M_sweep_2 (fun H locs hP hD hS => ?_)
  have hP := kw_P (gw_sM0 (v := 0)) hP
  have hD := kw_D (gw_sM0 (v := 0)) hD
  refine lv_aload_n hx hb d_M_sweep_5 rfl (lv_at hl 0 rfl) ?_
  refine lv_iconst (v := 1) hx hb d_M_sweep_6 (by decide) ?_
  refine kc_i (va_runV (As := [.int 1]) (rest := []) ⟨hx, hb, hml, hown, hts⟩ (c_M_find l D ty ad _ n f th rt qu b w T (upd g 0 0) a o hg1 hn3 1 q hq hq3 hL hR hQ hF hW1) (cwV 1 hts (kGV kS1 m_M_69 m_im_M_find m_sel_M_find m_ini_M m_code_M_find) rfl rfl rfl (by decide +kernel) ⟨Nat.le_of_ble_eq_true rfl, Nat.le_of_ble_eq_true rfl⟩) ⟨kP_blind, va_recv hK hP (ci := 3) (q0 := 10) rfl gw_10, fun U hU hW => ⟨rfl, kP_at hK hP hD U hU hW⟩⟩ rfl rfl hl.1 rfl (lv_room (Nat.le_of_ble_eq_true rfl)) d_M_sweep_7 ⟨Nat.le_of_ble_eq_true rfl, Nat.le_of_ble_eq_true rfl⟩) hD hS hA (fun r u H locs hu hP hD hS hz => ?_)
  obtain ⟨rfl, rfl⟩ := hu
  refine lv_istore_n (lv' := [(1, .int (it (mC (mD 1 a n q (a 14))) n 0)), (0, .ref (ad 10))]) hx hb d_M_sweep_10 rfl hl (by decide) rfl (fun ls hl => ?_)
  refine lv_iconst (v := 0) hx hb d_M_sweep_11 (by decide) ?_
  refine lv_istore_n (lv' := [(2, .int 0), (1, .int (it (mC (mD 1 a n q (a 14))) n 0)), (0, .ref (ad 10))]) hx hb d_M_sweep_12 rfl hl (by decide) rfl (fun ls hl => ?_)
  refine lv_iconst (v := 0) hx hb d_M_sweep_13 (by decide) ?_
  refine lv_istore_n (lv' := [(3, .int 0), (2, .int 0), (1, .int (it (mC (mD 1 a n q (a 14))) n 0)), (0, .ref (ad 10))]) hx hb d_M_sweep_14 rfl hl (by decide) rfl (fun ls hl => ?_)
  have L1 : ∀ (Q : State → Prop) (rem i : Nat) (H : Heap) (locs : List Loc) (ls : Array Slot), i + rem = n → va_P D kCl (gW n ty ad f th rt qu b w T (upd g 0 0) ((it mSw i (va_up a 14 (mD 1 a n q (a 14)), 0)).1) o) H → va_D A (gW n ty ad f th rt qu b w T (upd g 0 0) ((it mSw i (va_up a 14 (mD 1 a n q (a 14)), 0)).1) o) → va_S A s.heap H locs → lv_has ls 4 [(0, .ref (ad 10)), (2, .int ((it mSw i (va_up a 14 (mD 1 a n q (a 14)), 0)).2)), (3, .int (nI i))] → (∀ (H : Heap) (locs : List Loc) (ls : Array Slot), va_P D kCl (gW n ty ad f th rt qu b w T (upd g 0 0) ((it mSw n (va_up a 14 (mD 1 a n q (a 14)), 0)).1) o) H → va_D A (gW n ty ad f th rt qu b w T (upd g 0 0) ((it mSw n (va_up a 14 (mD 1 a n q (a 14)), 0)).1) o) → va_S A s.heap H locs → lv_has ls 4 [(0, .ref (ad 10)), (2, .int ((it mSw n (va_up a 14 (mD 1 a n q (a 14)), 0)).2))] → W p l e (headSpec w_M_sweep ({ frames := 1, cells := 0, slots := 0, locals := 25 })).room s m ([.ref (ad 10)] : List Value).toArray below meth cd H locs 0 0 Q (F0 m 84 ls [])) → W p l e (headSpec w_M_sweep ({ frames := 1, cells := 0, slots := 0, locals := 25 })).room s m ([.ref (ad 10)] : List Value).toArray below meth cd H locs 0 0 Q (F0 m 15 ls []) := by
    intro Q rem
    induction rem with
    | zero =>
      intro i H locs ls hir_i hP hD hS hl kx
      obtain rfl : n = i := by omega
      refine lv_iload_n hx hb d_M_sweep_15 rfl (lv_at hl 2 rfl) ?_
      refine lv_aload_n hx hb d_M_sweep_16 rfl (lv_at hl 0 rfl) ?_
      refine va_get (D := D) (ci := 3) (v := .int (g 1)) (C := R_M) (T := F_M) (N := 16) hx hb hts (fun w h => kS1 w (i_M w h)) hown hK hP 10 gw_10 rfl 1 (by decide) (hts _ (kS1 _ m_M_45)) (fun _ h9 => h9) rfl d_M_sweep_17 ?_
      refine lv_icmp_ge (tgt := 84) hx hb d_M_sweep_20 (by decide) (fun c_20' => ?_) (fun c_20' => absurd (by rw [hg1]; exact nI_le (Nat.le_refl _) (by omega)) c_20')
      have hl := lv_sub (l' := [(0, .ref (ad 10)), (2, .int ((it mSw n (va_up a 14 (mD 1 a n q (a 14)), 0)).2))]) hl [0, 1] rfl
      exact kx _ _ ls hP hD hS hl
    | succ rem ih =>
      intro i H locs ls hir_i hP hD hS hl kx
      have hlt_i : i < n := by omega
      refine lv_iload_n hx hb d_M_sweep_15 rfl (lv_at hl 2 rfl) ?_
      refine lv_aload_n hx hb d_M_sweep_16 rfl (lv_at hl 0 rfl) ?_
      refine va_get (D := D) (ci := 3) (v := .int (g 1)) (C := R_M) (T := F_M) (N := 16) hx hb hts (fun w h => kS1 w (i_M w h)) hown hK hP 10 gw_10 rfl 1 (by decide) (hts _ (kS1 _ m_M_45)) (fun _ h9 => h9) rfl d_M_sweep_17 ?_
      refine lv_icmp_ge (tgt := 84) hx hb d_M_sweep_20 (by decide) (fun c_20' => absurd c_20' (by rw [hg1]; exact nI_ge hlt_i (by omega))) (fun c_20' => ?_)
      refine lv_aload_n hx hb d_M_sweep_23 rfl (lv_at hl 0 rfl) ?_
      refine va_get (D := D) (ci := 3) (v := .ref (ad 11)) (C := R_M) (T := F_M) (N := 16) hx hb hts (fun w h => kS1 w (i_M w h)) hown hK hP 10 gw_10 rfl 2 (by decide) (hts _ (kS1 _ m_M_7)) (fun _ h9 => h9) rfl d_M_sweep_24 ?_
      refine lv_iload_n hx hb d_M_sweep_27 rfl (lv_at hl 2 rfl) ?_
      refine va_zald (f := ((it mSw i (va_up a 14 (mD 1 a n q (a 14)), 0)).1) 2) hx hb hK hP 11 1 gw_11 rfl (vp_in_nI (N := 300) (by omega) (by omega)) d_M_sweep_28 ?_
      rw [nI_clamp (n := i) (by omega)]
      refine lv_if_eq (tgt := 47) hx hb d_M_sweep_29 (by decide) (fun c_29' => ?_) (fun c_29' => ?_)
      · refine lv_iload_n hx hb d_M_sweep_47 rfl (lv_at hl 1 rfl) ?_
        refine lv_istore_n (lv' := [(2, .int ((it mSw i (va_up a 14 (mD 1 a n q (a 14)), 0)).2)), (0, .ref (ad 10)), (3, .int (nI i))]) hx hb d_M_sweep_48 rfl hl (by decide) rfl (fun ls hl => ?_)
        refine lv_aload_n hx hb d_M_sweep_49 rfl (lv_at hl 1 rfl) ?_
        refine va_get (D := D) (ci := 3) (v := .ref (ad 11)) (C := R_M) (T := F_M) (N := 16) hx hb hts (fun w h => kS1 w (i_M w h)) hown hK hP 10 gw_10 rfl 2 (by decide) (hts _ (kS1 _ m_M_7)) (fun _ h9 => h9) rfl d_M_sweep_50 ?_
        refine lv_iload_n hx hb d_M_sweep_53 rfl (lv_at hl 2 rfl) ?_
        refine lv_aload_n hx hb d_M_sweep_54 rfl (lv_at hl 1 rfl) ?_
        refine va_get (D := D) (ci := 3) (v := .ref (ad 11)) (C := R_M) (T := F_M) (N := 16) hx hb hts (fun w h => kS1 w (i_M w h)) hown hK hP 10 gw_10 rfl 2 (by decide) (hts _ (kS1 _ m_M_7)) (fun _ h9 => h9) rfl d_M_sweep_55 ?_
        refine lv_iload_n hx hb d_M_sweep_58 rfl (lv_at hl 2 rfl) ?_
        refine va_zald (f := ((it mSw i (va_up a 14 (mD 1 a n q (a 14)), 0)).1) 2) hx hb hK hP 11 1 gw_11 rfl (vp_in_nI (N := 300) (by omega) (by omega)) d_M_sweep_59 ?_
        rw [nI_clamp (n := i) (by omega)]
        refine lv_if_eq (tgt := 76) hx hb d_M_sweep_60 (by decide) (fun c_60' => ?_) (fun c_60' => absurd c_29' c_60')
        refine lv_iconst (v := 0) hx hb d_M_sweep_76 (by decide) ?_
        refine va_zast (f := ((it mSw i (va_up a 14 (mD 1 a n q (a 14)), 0)).1) 2) hx hb hK hP hD hS 11 1 gw_11 rfl (vp_in_nI (N := 300) (by omega) (by omega)) d_M_sweep_77 (fun H locs hP hD hS => ?_)
        rw [nI_clamp (n := i) (by omega)] at hP hD
        have hP := kw_P (gw_sa2 (r := upd (((it mSw i (va_up a 14 (mD 1 a n q (a 14)), 0)).1) 2) i (vp_nar .boolean 0))) hP
        have hD := kw_D (gw_sa2 (r := upd (((it mSw i (va_up a 14 (mD 1 a n q (a 14)), 0)).1) 2) i (vp_nar .boolean 0))) hD
        refine lv_iinc (v := nI i + 1) (lv' := [(3, .int (nI i + 1)), (2, .int ((it mSw i (va_up a 14 (mD 1 a n q (a 14)), 0)).2)), (0, .ref (ad 10))]) hx hb d_M_sweep_78 hl (k := 2) rfl rfl (by decide) rfl (fun ls hl => ?_)
        refine lv_goto (tgt := 15) hx hb d_M_sweep_81 (by decide) ?_
        have hl := lv_sub (l' := [(0, .ref (ad 10)), (2, .int ((it mSw i (va_up a 14 (mD 1 a n q (a 14)), 0)).2)), (3, .int (nI i + 1))]) hl [2, 1, 0] rfl
        have hqq9 : (.int ((it mSw i (va_up a 14 (mD 1 a n q (a 14)), 0)).2) : Value) = .int ((it mSw (i + 1) (va_up a 14 (mD 1 a n q (a 14)), 0)).2) := by rw [it_s, mSw]; simp [kb0, kb1, c_20', c_29', c_60']
        rw [hqq9] at hl
        have hqq9 : (.int (nI i + 1) : Value) = .int (nI (i + 1)) := by rw [nI_1]
        rw [hqq9] at hl
        have hE : (gW n ty ad f th rt qu b w T (upd g 0 0) (va_up ((it mSw i (va_up a 14 (mD 1 a n q (a 14)), 0)).1) 2 (upd (((it mSw i (va_up a 14 (mD 1 a n q (a 14)), 0)).1) 2) i (vp_nar .boolean 0))) o : va_W) = gW n ty ad f th rt qu b w T (upd g 0 0) ((it mSw (i + 1) (va_up a 14 (mD 1 a n q (a 14)), 0)).1) o := by rw [it_s, mSw]; simp [kb0, kb1, c_20', c_29', c_60']
        have hP := kw_P hE hP
        have hD := kw_D hE hD
        exact ih (i + 1) _ _ ls (by omega) hP hD hS hl kx
      · refine lv_aload_n hx hb d_M_sweep_32 rfl (lv_at hl 0 rfl) ?_
        refine va_get (D := D) (ci := 3) (v := .ref (ad 19)) (C := R_M) (T := F_M) (N := 16) hx hb hts (fun w h => kS1 w (i_M w h)) hown hK hP 10 gw_10 rfl 14 (by decide) (hts _ (kS1 _ m_M_35)) (fun _ h9 => h9) rfl d_M_sweep_33 ?_
        refine lv_iload_n hx hb d_M_sweep_36 rfl (lv_at hl 2 rfl) ?_
        refine va_zald (f := ((it mSw i (va_up a 14 (mD 1 a n q (a 14)), 0)).1) 14) hx hb hK hP 19 1 gw_19 rfl (vp_in_nI (N := 300) (by omega) (by omega)) d_M_sweep_37 ?_
        rw [nI_clamp (n := i) (by omega)]
        refine lv_if_ne (tgt := 47) hx hb d_M_sweep_38 (by decide) (fun c_38' => ?_) (fun c_38' => ?_)
        · refine lv_iload_n hx hb d_M_sweep_47 rfl (lv_at hl 1 rfl) ?_
          refine lv_istore_n (lv' := [(2, .int ((it mSw i (va_up a 14 (mD 1 a n q (a 14)), 0)).2)), (0, .ref (ad 10)), (3, .int (nI i))]) hx hb d_M_sweep_48 rfl hl (by decide) rfl (fun ls hl => ?_)
          refine lv_aload_n hx hb d_M_sweep_49 rfl (lv_at hl 1 rfl) ?_
          refine va_get (D := D) (ci := 3) (v := .ref (ad 11)) (C := R_M) (T := F_M) (N := 16) hx hb hts (fun w h => kS1 w (i_M w h)) hown hK hP 10 gw_10 rfl 2 (by decide) (hts _ (kS1 _ m_M_7)) (fun _ h9 => h9) rfl d_M_sweep_50 ?_
          refine lv_iload_n hx hb d_M_sweep_53 rfl (lv_at hl 2 rfl) ?_
          refine lv_aload_n hx hb d_M_sweep_54 rfl (lv_at hl 1 rfl) ?_
          refine va_get (D := D) (ci := 3) (v := .ref (ad 11)) (C := R_M) (T := F_M) (N := 16) hx hb hts (fun w h => kS1 w (i_M w h)) hown hK hP 10 gw_10 rfl 2 (by decide) (hts _ (kS1 _ m_M_7)) (fun _ h9 => h9) rfl d_M_sweep_55 ?_
          refine lv_iload_n hx hb d_M_sweep_58 rfl (lv_at hl 2 rfl) ?_
          refine va_zald (f := ((it mSw i (va_up a 14 (mD 1 a n q (a 14)), 0)).1) 2) hx hb hK hP 11 1 gw_11 rfl (vp_in_nI (N := 300) (by omega) (by omega)) d_M_sweep_59 ?_
          rw [nI_clamp (n := i) (by omega)]
          refine lv_if_eq (tgt := 76) hx hb d_M_sweep_60 (by decide) (fun c_60' => absurd c_60' c_29') (fun c_60' => ?_)
          refine lv_aload_n hx hb d_M_sweep_63 rfl (lv_at hl 1 rfl) ?_
          refine va_get (D := D) (ci := 3) (v := .ref (ad 19)) (C := R_M) (T := F_M) (N := 16) hx hb hts (fun w h => kS1 w (i_M w h)) hown hK hP 10 gw_10 rfl 14 (by decide) (hts _ (kS1 _ m_M_35)) (fun _ h9 => h9) rfl d_M_sweep_64 ?_
          refine lv_iload_n hx hb d_M_sweep_67 rfl (lv_at hl 2 rfl) ?_
          refine va_zald (f := ((it mSw i (va_up a 14 (mD 1 a n q (a 14)), 0)).1) 14) hx hb hK hP 19 1 gw_19 rfl (vp_in_nI (N := 300) (by omega) (by omega)) d_M_sweep_68 ?_
          rw [nI_clamp (n := i) (by omega)]
          refine lv_if_eq (tgt := 76) hx hb d_M_sweep_69 (by decide) (fun c_69' => absurd c_69' c_38') (fun c_69' => ?_)
          refine lv_iconst (v := 1) hx hb d_M_sweep_72 (by decide) ?_
          refine lv_goto (tgt := 77) hx hb d_M_sweep_73 (by decide) ?_
          refine va_zast (f := ((it mSw i (va_up a 14 (mD 1 a n q (a 14)), 0)).1) 2) hx hb hK hP hD hS 11 1 gw_11 rfl (vp_in_nI (N := 300) (by omega) (by omega)) d_M_sweep_77 (fun H locs hP hD hS => ?_)
          rw [nI_clamp (n := i) (by omega)] at hP hD
          have hP := kw_P (gw_sa2 (r := upd (((it mSw i (va_up a 14 (mD 1 a n q (a 14)), 0)).1) 2) i (vp_nar .boolean 1))) hP
          have hD := kw_D (gw_sa2 (r := upd (((it mSw i (va_up a 14 (mD 1 a n q (a 14)), 0)).1) 2) i (vp_nar .boolean 1))) hD
          refine lv_iinc (v := nI i + 1) (lv' := [(3, .int (nI i + 1)), (2, .int ((it mSw i (va_up a 14 (mD 1 a n q (a 14)), 0)).2)), (0, .ref (ad 10))]) hx hb d_M_sweep_78 hl (k := 2) rfl rfl (by decide) rfl (fun ls hl => ?_)
          refine lv_goto (tgt := 15) hx hb d_M_sweep_81 (by decide) ?_
          have hl := lv_sub (l' := [(0, .ref (ad 10)), (2, .int ((it mSw i (va_up a 14 (mD 1 a n q (a 14)), 0)).2)), (3, .int (nI i + 1))]) hl [2, 1, 0] rfl
          have hqq9 : (.int ((it mSw i (va_up a 14 (mD 1 a n q (a 14)), 0)).2) : Value) = .int ((it mSw (i + 1) (va_up a 14 (mD 1 a n q (a 14)), 0)).2) := by rw [it_s, mSw]; simp [kb0, kb1, c_20', c_29', c_38', c_60', c_69']
          rw [hqq9] at hl
          have hqq9 : (.int (nI i + 1) : Value) = .int (nI (i + 1)) := by rw [nI_1]
          rw [hqq9] at hl
          have hE : (gW n ty ad f th rt qu b w T (upd g 0 0) (va_up ((it mSw i (va_up a 14 (mD 1 a n q (a 14)), 0)).1) 2 (upd (((it mSw i (va_up a 14 (mD 1 a n q (a 14)), 0)).1) 2) i (vp_nar .boolean 1))) o : va_W) = gW n ty ad f th rt qu b w T (upd g 0 0) ((it mSw (i + 1) (va_up a 14 (mD 1 a n q (a 14)), 0)).1) o := by rw [it_s, mSw]; simp [kb0, kb1, c_20', c_29', c_38', c_60', c_69']
          have hP := kw_P hE hP
          have hD := kw_D hE hD
          exact ih (i + 1) _ _ ls (by omega) hP hD hS hl kx
        · refine lv_iload_n hx hb d_M_sweep_41 rfl (lv_at hl 1 rfl) ?_
          refine lv_iconst (v := 1) hx hb d_M_sweep_42 (by decide) ?_
          refine lv_iadd hx hb d_M_sweep_43 ?_
          refine lv_goto (tgt := 48) hx hb d_M_sweep_44 (by decide) ?_
          refine lv_istore_n (lv' := [(2, .int (((it mSw i (va_up a 14 (mD 1 a n q (a 14)), 0)).2) + 1)), (0, .ref (ad 10)), (3, .int (nI i))]) hx hb d_M_sweep_48 rfl hl (by decide) rfl (fun ls hl => ?_)
          refine lv_aload_n hx hb d_M_sweep_49 rfl (lv_at hl 1 rfl) ?_
          refine va_get (D := D) (ci := 3) (v := .ref (ad 11)) (C := R_M) (T := F_M) (N := 16) hx hb hts (fun w h => kS1 w (i_M w h)) hown hK hP 10 gw_10 rfl 2 (by decide) (hts _ (kS1 _ m_M_7)) (fun _ h9 => h9) rfl d_M_sweep_50 ?_
          refine lv_iload_n hx hb d_M_sweep_53 rfl (lv_at hl 2 rfl) ?_
          refine lv_aload_n hx hb d_M_sweep_54 rfl (lv_at hl 1 rfl) ?_
          refine va_get (D := D) (ci := 3) (v := .ref (ad 11)) (C := R_M) (T := F_M) (N := 16) hx hb hts (fun w h => kS1 w (i_M w h)) hown hK hP 10 gw_10 rfl 2 (by decide) (hts _ (kS1 _ m_M_7)) (fun _ h9 => h9) rfl d_M_sweep_55 ?_
          refine lv_iload_n hx hb d_M_sweep_58 rfl (lv_at hl 2 rfl) ?_
          refine va_zald (f := ((it mSw i (va_up a 14 (mD 1 a n q (a 14)), 0)).1) 2) hx hb hK hP 11 1 gw_11 rfl (vp_in_nI (N := 300) (by omega) (by omega)) d_M_sweep_59 ?_
          rw [nI_clamp (n := i) (by omega)]
          refine lv_if_eq (tgt := 76) hx hb d_M_sweep_60 (by decide) (fun c_60' => absurd c_60' c_29') (fun c_60' => ?_)
          refine lv_aload_n hx hb d_M_sweep_63 rfl (lv_at hl 1 rfl) ?_
          refine va_get (D := D) (ci := 3) (v := .ref (ad 19)) (C := R_M) (T := F_M) (N := 16) hx hb hts (fun w h => kS1 w (i_M w h)) hown hK hP 10 gw_10 rfl 14 (by decide) (hts _ (kS1 _ m_M_35)) (fun _ h9 => h9) rfl d_M_sweep_64 ?_
          refine lv_iload_n hx hb d_M_sweep_67 rfl (lv_at hl 2 rfl) ?_
          refine va_zald (f := ((it mSw i (va_up a 14 (mD 1 a n q (a 14)), 0)).1) 14) hx hb hK hP 19 1 gw_19 rfl (vp_in_nI (N := 300) (by omega) (by omega)) d_M_sweep_68 ?_
          rw [nI_clamp (n := i) (by omega)]
          refine lv_if_eq (tgt := 76) hx hb d_M_sweep_69 (by decide) (fun c_69' => ?_) (fun c_69' => absurd c_38' c_69')
          refine lv_iconst (v := 0) hx hb d_M_sweep_76 (by decide) ?_
          refine va_zast (f := ((it mSw i (va_up a 14 (mD 1 a n q (a 14)), 0)).1) 2) hx hb hK hP hD hS 11 1 gw_11 rfl (vp_in_nI (N := 300) (by omega) (by omega)) d_M_sweep_77 (fun H locs hP hD hS => ?_)
          rw [nI_clamp (n := i) (by omega)] at hP hD
          have hP := kw_P (gw_sa2 (r := upd (((it mSw i (va_up a 14 (mD 1 a n q (a 14)), 0)).1) 2) i (vp_nar .boolean 0))) hP
          have hD := kw_D (gw_sa2 (r := upd (((it mSw i (va_up a 14 (mD 1 a n q (a 14)), 0)).1) 2) i (vp_nar .boolean 0))) hD
          refine lv_iinc (v := nI i + 1) (lv' := [(3, .int (nI i + 1)), (2, .int (((it mSw i (va_up a 14 (mD 1 a n q (a 14)), 0)).2) + 1)), (0, .ref (ad 10))]) hx hb d_M_sweep_78 hl (k := 2) rfl rfl (by decide) rfl (fun ls hl => ?_)
          refine lv_goto (tgt := 15) hx hb d_M_sweep_81 (by decide) ?_
          have hl := lv_sub (l' := [(0, .ref (ad 10)), (2, .int (((it mSw i (va_up a 14 (mD 1 a n q (a 14)), 0)).2) + 1)), (3, .int (nI i + 1))]) hl [2, 1, 0] rfl
          have hqq9 : (.int (((it mSw i (va_up a 14 (mD 1 a n q (a 14)), 0)).2) + 1) : Value) = .int ((it mSw (i + 1) (va_up a 14 (mD 1 a n q (a 14)), 0)).2) := by rw [it_s, mSw]; simp [kb0, kb1, c_20', c_29', c_38', c_60', c_69']
          rw [hqq9] at hl
          have hqq9 : (.int (nI i + 1) : Value) = .int (nI (i + 1)) := by rw [nI_1]
          rw [hqq9] at hl
          have hE : (gW n ty ad f th rt qu b w T (upd g 0 0) (va_up ((it mSw i (va_up a 14 (mD 1 a n q (a 14)), 0)).1) 2 (upd (((it mSw i (va_up a 14 (mD 1 a n q (a 14)), 0)).1) 2) i (vp_nar .boolean 0))) o : va_W) = gW n ty ad f th rt qu b w T (upd g 0 0) ((it mSw (i + 1) (va_up a 14 (mD 1 a n q (a 14)), 0)).1) o := by rw [it_s, mSw]; simp [kb0, kb1, c_20', c_29', c_38', c_60', c_69']
          have hP := kw_P hE hP
          have hD := kw_D hE hD
          exact ih (i + 1) _ _ ls (by omega) hP hD hS hl kx
  have hl := lv_sub (l' := [(0, .ref (ad 10)), (2, .int 0), (3, .int 0)]) hl [3, 1, 0] rfl
  have hqq9 : (.int 0 : Value) = .int (nI 0) := by rw [nI_0]
  rw [hqq9] at hl
  refine L1 _ (n - 0) 0 _ _ ls (by omega) hP hD hS hl (fun H locs ls hP hD hS hl => ?_)
  refine lv_iload_n hx hb d_M_sweep_84 rfl (lv_at hl 1 rfl) ?_
  have hu : (gW n ty ad f th rt qu b w T (upd g 0 0) ((it mSw n (va_up a 14 (mD 1 a n q (a 14)), 0)).1) o : va_W) = gW n ty ad f th rt qu b w T (upd g 0 0) ((it mSw n (va_up a 14 (mD 1 a n q (a 14)), 0)).1) o := by rfl
  have hv : ((it mSw n (va_up a 14 (mD 1 a n q (a 14)), 0)).2 : Int32) = (it mSw n (va_up a 14 (mD 1 a n q (a 14)), 0)).2 := by simp []
  exact W.iret (v := (it mSw n (va_up a 14 (mD 1 a n q (a 14)), 0)).2) hx hb hr (fun t ht hW => ⟨⟨_, _, rfl, ⟨hv, hu⟩, by rw [ht]; exact hP, va_K.moved hW.alike hK, hD⟩, hS.F ht⟩) hS.2.2 d_M_sweep_85
