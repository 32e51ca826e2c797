/-! Part 09: the keeper's writes. -/
set_option maxHeartbeats 4000000 in
set_option maxRecDepth 100000 in
/-- putInQueue(x, thing k) -/
theorem c_K_putInQueue (l : Launch) (D : va_G) (ty : Nat → ClassId) (ad : Nat → Nat) (sz : Nat) (n : Nat) (f : Nat → Int32) (th : Nat → Bool) (rt qu : Nat → Int32) (b w : SR) (T : Nat → TH) (g : Nat → Int32) (a : Nat → Nat → Int32) (o : Nat → Int64) (k : Nat) (hk : k < n) (x : Int32) : Met l y_K_putInQueue w_K_putInQueue ({ frames := 0, cells := 0, slots := 0, locals := 0 }) (va_Pc [.ref (ad 0), .int x, .ref (ad (22 + 2 * k))] (kP D kCl (kTy ty) (gW n ty ad f th rt qu b w T g a o) sz)) (va_Qv (fun u9 : va_W => u9 = (gW n ty ad ((kPut qu f T k x).2.1) th rt ((kPut qu f T k x).1) b w ((kPut qu f T k x).2.2) g a o)) (kB D kCl (kTy ty) (va_A (gW n ty ad f th rt qu b w T g a o) sz)) (va_A (gW n ty ad f th rt qu b w T g a o) sz)) 0 0 (va_A (gW n ty ad f th rt qu b w T g a o) sz) := by
  refine Met.ofW (cc := b_K_putInQueue) (maxL := 3) (ret := none) (by decide) rfl ?_
  intro p e s m args below meth cd s₁ B hml hv
  obtain ⟨rfl, hsz, hP, hK, hD0⟩ := hv
  have hx := B.exec
  have hb := B.bytes
  have hr := B.returns
  have hts := atoms_spec (ws := w_K_putInQueue) B.pre
  have hown : s.vm.findClass R_K = some m.cls := findClass_of_methodNamed B.named
  have hlocks := B.notSynchronized
  subst hsz
  have hD := hD0.self (sz := s.heap.size)
  generalize hAe : va_A (gW n ty ad f th rt qu b w T g a o) s.heap.size = A at hD ⊢
  have hA : ∀ q : Nat, s.heap.size ≤ q → A q := fun q h => by rw [← hAe]; exact Or.inr h
  have hS : va_S A s.heap s.heap [] := va_S.rf
  have hl := lv_entry ([.ref (ad 0), .int x, .ref (ad (22 + 2 * k))]) (n := 3) (Nat.le_of_ble_eq_true rfl)
  rw [lg_entry_eq]
  generalize (lg_sl ([.ref (ad 0), .int x, .ref (ad (22 + 2 * k))]) ++ List.replicate (3 - (lg_sl ([.ref (ad 0), .int x, .ref (ad (22 + 2 * k))])).length) Slot.unset).toArray = ls at hl ⊢
  have hl : lv_has ls 3 [(0, .ref (ad 0)), (1, .int x), (2, .ref (ad (22 + 2 * k)))] := hl
  refine lv_aload_n hx hb d_K_putInQueue_0 rfl (lv_at hl 0 rfl) ?_
  refine va_get (D := D) (ci := 0) (v := .int (f 4)) (C := R_K) (T := F_K) (N := 12) hx hb hts (fun w h => kS1 w (i_K w h)) hown hK hP 0 gw_0 rfl 4 (by decide) (hts _ (kS1 _ m_K_143)) (fun _ h9 => h9) rfl d_K_putInQueue_1 ?_
  refine lv_if_lt (tgt := 19) hx hb d_K_putInQueue_4 (by decide) (fun c_4 => ?_) (fun c_4 => ?_)
  · have hu : (gW n ty ad f th rt qu b w T g a o : va_W) = gW n ty ad ((kPut qu f T k x).2.1) th rt ((kPut qu f T k x).1) b w ((kPut qu f T k x).2.2) g a o := by simp [kPut, c_4]
    exact W.vret hx hb hr (fun t ht hW => ⟨⟨_, rfl, hu, by rw [ht]; exact hP, va_K.moved hW.alike hK, hD⟩, hS.F ht⟩) hS.2.2 d_K_putInQueue_19
  · refine lv_aload_n hx hb d_K_putInQueue_7 rfl (lv_at hl 0 rfl) ?_
    refine va_get (D := D) (ci := 0) (v := .int (f 4)) (C := R_K) (T := F_K) (N := 12) hx hb hts (fun w h => kS1 w (i_K w h)) hown hK hP 0 gw_0 rfl 4 (by decide) (hts _ (kS1 _ m_K_143)) (fun _ h9 => h9) rfl d_K_putInQueue_8 ?_
    refine lv_aload_n hx hb d_K_putInQueue_11 rfl (lv_at hl 0 rfl) ?_
    refine va_get (D := D) (ci := 0) (v := .ref (ad 3)) (C := R_K) (T := F_K) (N := 12) hx hb hts (fun w h => kS1 w (i_K w h)) hown hK hP 0 gw_0 rfl 2 (by decide) (hts _ (kS1 _ m_K_19)) (fun _ h9 => h9) rfl d_K_putInQueue_12 ?_
    refine va_alen (v := 300) hx hb hK hP 3 0 gw_3 rfl rfl d_K_putInQueue_15 ?_
    refine lv_icmp_lt (tgt := 20) hx hb d_K_putInQueue_16 (by decide) (fun c_16 => ?_) (fun c_16 => ?_)
    · refine lv_aload_n hx hb d_K_putInQueue_20 rfl (lv_at hl 0 rfl) ?_
      refine va_get (D := D) (ci := 0) (v := .ref (ad 3)) (C := R_K) (T := F_K) (N := 12) hx hb hts (fun w h => kS1 w (i_K w h)) hown hK hP 0 gw_0 rfl 2 (by decide) (hts _ (kS1 _ m_K_19)) (fun _ h9 => h9) rfl d_K_putInQueue_21 ?_
      refine lv_aload_n hx hb d_K_putInQueue_24 rfl (lv_at hl 0 rfl) ?_
      refine va_get (D := D) (ci := 0) (v := .int (f 4)) (C := R_K) (T := F_K) (N := 12) hx hb hts (fun w h => kS1 w (i_K w h)) hown hK hP 0 gw_0 rfl 4 (by decide) (hts _ (kS1 _ m_K_143)) (fun _ h9 => h9) rfl d_K_putInQueue_25 ?_
      refine lv_iload_n hx hb d_K_putInQueue_28 rfl (lv_at hl 1 rfl) ?_
      refine va_iast (f := qu) hx hb hK hP hD hS 3 0 gw_3 rfl (kin2 c_4 c_16 rfl) d_K_putInQueue_29 (fun H locs hP hD hS => ?_)
      have hP := kw_P (gw_squ (r := upd qu ((f 4).toNatClampNeg) x)) hP
      have hD := kw_D (gw_squ (r := upd qu ((f 4).toNatClampNeg) x)) hD
      refine lv_aload_n hx hb d_K_putInQueue_30 rfl (lv_at hl 0 rfl) ?_
      refine lv_dup hx hb d_K_putInQueue_31 rfl ?_
      refine va_get (D := D) (ci := 0) (v := .int (f 4)) (C := R_K) (T := F_K) (N := 12) hx hb hts (fun w h => kS1 w (i_K w h)) hown hK hP 0 gw_0 rfl 4 (by decide) (hts _ (kS1 _ m_K_143)) (fun _ h9 => h9) rfl d_K_putInQueue_32 ?_
      refine lv_iconst (v := 1) hx hb d_K_putInQueue_35 (by decide) ?_
      refine lv_iadd hx hb d_K_putInQueue_36 ?_
      refine va_put (D := D) (ci := 0) (v := .int ((f 4) + 1)) (ty := .int) (C := R_K) (T := F_K) (N := 12) hx hb hts (fun w h => kS1 w (i_K w h)) tt_K tt_K_ok n_K hown hK hP hD hS 0 gw_0 rfl 4 (by decide) (hts _ (kS1 _ m_K_143)) (fun _ h9 => h9) rfl (by decide +kernel) rfl rfl (Nat.le_of_ble_eq_true rfl) d_K_putInQueue_37 (fun H locs hP hD hS => ?_)
      have hP := kw_P (gw_sK4 (v := (f 4) + 1)) hP
      have hD := kw_D (gw_sK4 (v := (f 4) + 1)) hD
      refine lv_aload_n hx hb d_K_putInQueue_40 rfl (lv_at hl 2 rfl) ?_
      refine lv_iconst (v := 1) hx hb d_K_putInQueue_41 (by decide) ?_
      refine va_put (D := D) (ci := 2) (v := .int 1) (ty := .boolean) (C := R_T) (T := F_T) (N := 4) hx hb hts (fun w h => kS1 w (i_T w h)) tt_T tt_T_ok n_T hown hK hP hD hS (22 + 2 * k) (gw_T (k := k) hk) rfl 2 (by decide) (hts _ (kS1 _ m_K_146)) (fun _ h9 => h9) rfl (by decide +kernel) rfl rfl (Nat.le_of_ble_eq_true rfl) d_K_putInQueue_42 (fun H locs hP hD hS => ?_)
      have hP := kw_P (gw_sT (k := k) (v1 := (T k).1) (v2 := 1) (v3 := (T k).2.2.1)) hP
      have hD := kw_D (gw_sT (k := k) (v1 := (T k).1) (v2 := 1) (v3 := (T k).2.2.1)) hD
      have hu : (gW n ty ad (upd f 4 ((f 4) + 1)) th rt (upd qu ((f 4).toNatClampNeg) x) b w (va_up T k ((T k).1, 1, (T k).2.2.1, (T k).2.2.2)) g a o : va_W) = gW n ty ad ((kPut qu f T k x).2.1) th rt ((kPut qu f T k x).1) b w ((kPut qu f T k x).2.2) g a o := by simp [kPut, c_4, c_16]
      exact W.vret hx hb hr (fun t ht hW => ⟨⟨_, rfl, hu, by rw [ht]; exact hP, va_K.moved hW.alike hK, hD⟩, hS.F ht⟩) hS.2.2 d_K_putInQueue_45
    · have hu : (gW n ty ad f th rt qu b w T g a o : va_W) = gW n ty ad ((kPut qu f T k x).2.1) th rt ((kPut qu f T k x).1) b w ((kPut qu f T k x).2.2) g a o := by simp [kPut, c_4, c_16]
      exact W.vret hx hb hr (fun t ht hW => ⟨⟨_, rfl, hu, by rw [ht]; exact hP, va_K.moved hW.alike hK, hD⟩, hS.F ht⟩) hS.2.2 d_K_putInQueue_19
set_option maxHeartbeats 4000000 in
set_option maxRecDepth 100000 in
/-- queueUnreached() -/
theorem c_K_queueUnreached (l : Launch) (D : va_G) (ty : Nat → ClassId) (ad : Nat → Nat) (sz : Nat) (n : Nat) (f : Nat → Int32) (th : Nat → Bool) (rt qu : Nat → Int32) (b w : SR) (T : Nat → TH) (g : Nat → Int32) (a : Nat → Nat → Int32) (o : Nat → Int64) (hn : ∀ k, th k = true → k < n) : Met l y_K_queueUnreached w_K_queueUnreached ({ frames := 1, cells := 0, slots := 0, locals := 22 }) (va_Pc [.ref (ad 0)] (kP D kCl (kTy ty) (gW n ty ad f th rt qu b w T g a o) sz)) (va_Qi (fun (r9 : Int32) (u9 : va_W) => r9 = ((it (qU th b) 300 (qu, f, T, 0)).2.2.2) ∧ u9 = (gW n ty ad ((it (qU th b) 300 (qu, f, T, 0)).2.1) th rt ((it (qU th b) 300 (qu, f, T, 0)).1) b w ((it (qU th b) 300 (qu, f, T, 0)).2.2.1) g a o)) (kB D kCl (kTy ty) (va_A (gW n ty ad f th rt qu b w T g a o) sz)) (va_A (gW n ty ad f th rt qu b w T g a o) sz)) 0 0 (va_A (gW n ty ad f th rt qu b w T g a o) sz) := by
  refine Met.ofW (cc := b_K_queueUnreached) (maxL := 4) (ret := (some .int)) (by decide) rfl ?_
  intro p e s m args below meth cd s₁ B hml hv
  obtain ⟨rfl, hsz, hP, hK, hD0⟩ := hv
  have hx := B.exec
  have hb := B.bytes
  have hr := B.returns
  have hts := atoms_spec (ws := w_K_queueUnreached) B.pre
  have hown : s.vm.findClass R_K = some m.cls := findClass_of_methodNamed B.named
  have hlocks := B.notSynchronized
  subst hsz
  have hD := hD0.self (sz := s.heap.size)
  generalize hAe : va_A (gW n ty ad f th rt qu b w T g a o) s.heap.size = A at hD ⊢
  have hA : ∀ q : Nat, s.heap.size ≤ q → A q := fun q h => by rw [← hAe]; exact Or.inr h
  have hS : va_S A s.heap s.heap [] := va_S.rf
  have hl := lv_entry ([.ref (ad 0)]) (n := 4) (Nat.le_of_ble_eq_true rfl)
  rw [lg_entry_eq]
  generalize (lg_sl ([.ref (ad 0)]) ++ List.replicate (4 - (lg_sl ([.ref (ad 0)])).length) Slot.unset).toArray = ls at hl ⊢
  have hl : lv_has ls 4 [(0, .ref (ad 0))] := hl
  refine lv_iconst (v := 0) hx hb d_K_queueUnreached_0 (by decide) ?_
  refine lv_istore_n (lv' := [(1, .int 0), (0, .ref (ad 0))]) hx hb d_K_queueUnreached_1 rfl hl (by decide) rfl (fun ls hl => ?_)
  refine lv_iconst (v := 0) hx hb d_K_queueUnreached_2 (by decide) ?_
  refine lv_istore_n (lv' := [(2, .int 0), (1, .int 0), (0, .ref (ad 0))]) hx hb d_K_queueUnreached_3 rfl hl (by decide) rfl (fun ls hl => ?_)
  have L1 : ∀ (Q : State → Prop) (rem i : Nat) (H : Heap) (locs : List Loc) (ls : Array Slot), i + rem = 300 → va_P D kCl (gW n ty ad ((it (qU th b) i (qu, f, T, 0)).2.1) th rt ((it (qU th b) i (qu, f, T, 0)).1) b w ((it (qU th b) i (qu, f, T, 0)).2.2.1) g a o) H → va_D A (gW n ty ad ((it (qU th b) i (qu, f, T, 0)).2.1) th rt ((it (qU th b) i (qu, f, T, 0)).1) b w ((it (qU th b) i (qu, f, T, 0)).2.2.1) g a o) → va_S A s.heap H locs → lv_has ls 4 [(0, .ref (ad 0)), (1, .int ((it (qU th b) i (qu, f, T, 0)).2.2.2)), (2, .int (nI i))] → (∀ (H : Heap) (locs : List Loc) (ls : Array Slot), va_P D kCl (gW n ty ad ((it (qU th b) 300 (qu, f, T, 0)).2.1) th rt ((it (qU th b) 300 (qu, f, T, 0)).1) b w ((it (qU th b) 300 (qu, f, T, 0)).2.2.1) g a o) H → va_D A (gW n ty ad ((it (qU th b) 300 (qu, f, T, 0)).2.1) th rt ((it (qU th b) 300 (qu, f, T, 0)).1) b w ((it (qU th b) 300 (qu, f, T, 0)).2.2.1) g a o) → va_S A s.heap H locs → lv_has ls 4 [(0, .ref (ad 0)), (1, .int ((it (qU th b) 300 (qu, f, T, 0)).2.2.2))] → W p l e (headSpec w_K_queueUnreached ({ frames := 1, cells := 0, slots := 0, locals := 22 })).room s m ([.ref (ad 0)] : List Value).toArray below meth cd H locs 0 0 Q (F0 m 57 ls [])) → W p l e (headSpec w_K_queueUnreached ({ frames := 1, cells := 0, slots := 0, locals := 22 })).room s m ([.ref (ad 0)] : List Value).toArray below meth cd H locs 0 0 Q (F0 m 4 ls []) := by
    intro Q rem
    induction rem with
    | zero =>
      intro i H locs ls hir_i hP hD hS hl kx
      obtain rfl : 300 = i := by omega
      refine lv_iload_n hx hb d_K_queueUnreached_4 rfl (lv_at hl 2 rfl) ?_
      refine lv_aload_n hx hb d_K_queueUnreached_5 rfl (lv_at hl 0 rfl) ?_
      refine va_get (D := D) (ci := 0) (v := .ref (ad 1)) (C := R_K) (T := F_K) (N := 12) hx hb hts (fun w h => kS1 w (i_K w h)) hown hK hP 0 gw_0 rfl 0 (by decide) (hts _ (kS1 _ m_K_11)) (fun _ h9 => h9) rfl d_K_queueUnreached_6 ?_
      refine va_alen (v := 300) hx hb hK hP 1 2 gw_1 rfl rfl d_K_queueUnreached_9 ?_
      refine lv_icmp_ge (tgt := 57) hx hb d_K_queueUnreached_10 (by decide) (fun c_10' => ?_) (fun c_10' => absurd (nI_le (a := 300) (b := 300) (Nat.le_refl _) (by omega)) c_10')
      have hl := lv_sub (l' := [(0, .ref (ad 0)), (1, .int ((it (qU th b) 300 (qu, f, T, 0)).2.2.2))]) hl [0, 1] rfl
      exact kx _ _ ls hP hD hS hl
    | succ rem ih =>
      intro i H locs ls hir_i hP hD hS hl kx
      have hlt_i : i < 300 := by omega
      refine lv_iload_n hx hb d_K_queueUnreached_4 rfl (lv_at hl 2 rfl) ?_
      refine lv_aload_n hx hb d_K_queueUnreached_5 rfl (lv_at hl 0 rfl) ?_
      refine va_get (D := D) (ci := 0) (v := .ref (ad 1)) (C := R_K) (T := F_K) (N := 12) hx hb hts (fun w h => kS1 w (i_K w h)) hown hK hP 0 gw_0 rfl 0 (by decide) (hts _ (kS1 _ m_K_11)) (fun _ h9 => h9) rfl d_K_queueUnreached_6 ?_
      refine va_alen (v := 300) hx hb hK hP 1 2 gw_1 rfl rfl d_K_queueUnreached_9 ?_
      refine lv_icmp_ge (tgt := 57) hx hb d_K_queueUnreached_10 (by decide) (fun c_10' => absurd c_10' (nI_ge (b := 300) hlt_i (by omega))) (fun c_10' => ?_)
      refine lv_aload_n hx hb d_K_queueUnreached_13 rfl (lv_at hl 0 rfl) ?_
      refine va_get (D := D) (ci := 0) (v := .ref (ad 1)) (C := R_K) (T := F_K) (N := 12) hx hb hts (fun w h => kS1 w (i_K w h)) hown hK hP 0 gw_0 rfl 0 (by decide) (hts _ (kS1 _ m_K_11)) (fun _ h9 => h9) rfl d_K_queueUnreached_14 ?_
      refine lv_iload_n hx hb d_K_queueUnreached_17 rfl (lv_at hl 2 rfl) ?_
      refine va_aldq (f := thf ad th) hx hb hK hP 1 2 gw_1 rfl (vp_in_nI hlt_i (by omega)) d_K_queueUnreached_18 ?_
      rw [nI_clamp (n := i) (by omega)]
      by_cases hth_18 : th i = true
      · rw [kth_t hth_18]
        refine lv_astore_n (lv' := [(3, .ref (ad (22 + 2 * i))), (0, .ref (ad 0)), (1, .int ((it (qU th b) i (qu, f, T, 0)).2.2.2)), (2, .int (nI i))]) hx hb d_K_queueUnreached_19 rfl hl (by decide) rfl (fun ls hl => ?_)
        refine lv_aload_n hx hb d_K_queueUnreached_20 rfl (lv_at hl 0 rfl) ?_
        refine lv_ifnull hx hb d_K_queueUnreached_21 ?_
        refine lv_aload_n hx hb d_K_queueUnreached_24 rfl (lv_at hl 0 rfl) ?_
        refine kc_R (va_runV (As := []) (rest := []) ⟨hx, hb, hml, hown, hts⟩ (c_T_waitsForQueue l D ty ad _ (22 + 2 * n) (gc ty ad ((it (qU th b) i (qu, f, T, 0)).2.1) th rt ((it (qU th b) i (qu, f, T, 0)).1) b w ((it (qU th b) i (qu, f, T, 0)).2.2.1) g a o) (22 + 2 * i) (23 + 2 * i) ((((it (qU th b) i (qu, f, T, 0)).2.2.1) i).1) ((((it (qU th b) i (qu, f, T, 0)).2.2.1) i).2.1) ((((it (qU th b) i (qu, f, T, 0)).2.2.1) i).2.2.1) ((((it (qU th b) i (qu, f, T, 0)).2.2.1) i).2.2.2.1) ((((it (qU th b) i (qu, f, T, 0)).2.2.1) i).2.2.2.2) (gi_T (hn _ hth_18)) (gi_F (hn _ hth_18)) gc_T gc_F) (cwV 0 hts (kGV kS1 m_K_150 m_im_T_waitsForQueue m_sel_T_waitsForQueue m_ini_T m_code_T_waitsForQueue) rfl rfl rfl (by decide +kernel) ⟨Nat.le_of_ble_eq_true rfl, Nat.le_of_ble_eq_true rfl⟩) ⟨kP_blind, va_recv hK hP (ci := 2) (q0 := (22 + 2 * i)) rfl (gw_T (k := i) (hn _ hth_18)), fun U hU hW => ⟨rfl, kP_at hK hP hD U hU hW⟩⟩ rfl rfl hl.1 rfl (lv_room (Nat.le_of_ble_eq_true rfl)) d_K_queueUnreached_25 ⟨Nat.le_of_ble_eq_true rfl, Nat.le_of_ble_eq_true rfl⟩) ?_
        refine lv_if_eq (tgt := 51) hx hb d_K_queueUnreached_28 (by decide) (fun c_28' => ?_) (fun c_28' => ?_)
        · refine lv_iinc (v := nI i + 1) (lv' := [(2, .int (nI i + 1)), (3, .ref (ad (22 + 2 * i))), (0, .ref (ad 0)), (1, .int ((it (qU th b) i (qu, f, T, 0)).2.2.2))]) hx hb d_K_queueUnreached_51 hl (k := 3) rfl rfl (by decide) rfl (fun ls hl => ?_)
          refine lv_goto (tgt := 4) hx hb d_K_queueUnreached_54 (by decide) ?_
          have hl := lv_sub (l' := [(0, .ref (ad 0)), (1, .int ((it (qU th b) i (qu, f, T, 0)).2.2.2)), (2, .int (nI i + 1))]) hl [2, 3, 0] rfl
          have hqq9 : (.int ((it (qU th b) i (qu, f, T, 0)).2.2.2) : Value) = .int ((it (qU th b) (i + 1) (qu, f, T, 0)).2.2.2) := by rw [it_s, qU]; simp [c_10', hth_18, c_28']
          rw [hqq9] at hl
          have hqq9 : (.int (nI i + 1) : Value) = .int (nI (i + 1)) := by rw [nI_1]
          rw [hqq9] at hl
          have hE : (gW n ty ad ((it (qU th b) i (qu, f, T, 0)).2.1) th rt ((it (qU th b) i (qu, f, T, 0)).1) b w ((it (qU th b) i (qu, f, T, 0)).2.2.1) g a o : va_W) = gW n ty ad ((it (qU th b) (i + 1) (qu, f, T, 0)).2.1) th rt ((it (qU th b) (i + 1) (qu, f, T, 0)).1) b w ((it (qU th b) (i + 1) (qu, f, T, 0)).2.2.1) g a o := by rw [it_s, qU]; simp [c_10', hth_18, c_28']
          have hP := kw_P hE hP
          have hD := kw_D hE hD
          exact ih (i + 1) _ _ ls (by omega) hP hD hS hl kx
        · refine lv_aload_n hx hb d_K_queueUnreached_31 rfl (lv_at hl 1 rfl) ?_
          refine va_get (D := D) (ci := 0) (v := .ref (ad 4)) (C := R_K) (T := F_K) (N := 12) hx hb hts (fun w h => kS1 w (i_K w h)) hown hK hP 0 gw_0 rfl 5 (by decide) (hts _ (kS1 _ m_K_25)) (fun _ h9 => h9) rfl d_K_queueUnreached_32 ?_
          refine lv_iload_n hx hb d_K_queueUnreached_35 rfl (lv_at hl 3 rfl) ?_
          have hP := kw_P (congrArg (wL (22 + 2 * n) ad) (gw_sb (b := b) (S := b)).symm) hP
          have hD := kw_D (congrArg (wL (22 + 2 * n) ad) (gw_sb (b := b) (S := b)).symm) hD
          refine kc_R (va_runV (As := [.int (nI i)]) (rest := []) ⟨hx, hb, hml, hown, hts⟩ (c_S_has l D ty ad _ (22 + 2 * n) (gc ty ad ((it (qU th b) i (qu, f, T, 0)).2.1) th rt ((it (qU th b) i (qu, f, T, 0)).1) b w ((it (qU th b) i (qu, f, T, 0)).2.2.1) g a o) 4 5 6 b (by omega) (by omega) (by omega) (by omega) (by omega) (by omega) (nI i)) (cwV 1 hts (kGV kS1 m_K_110 m_im_S_has m_sel_S_has m_ini_S m_code_S_has) rfl rfl rfl (by decide +kernel) ⟨Nat.le_of_ble_eq_true rfl, Nat.le_of_ble_eq_true rfl⟩) ⟨kP_blind, va_recv hK hP (ci := 1) (q0 := 4) rfl (sw_o (S := b) (by omega)), fun U hU hW => ⟨rfl, kP_at hK hP hD U hU hW⟩⟩ rfl rfl hl.1 rfl (lv_room (Nat.le_of_ble_eq_true rfl)) d_K_queueUnreached_36 ⟨Nat.le_of_ble_eq_true rfl, Nat.le_of_ble_eq_true rfl⟩) ?_
          have hP := kw_P (congrArg (wL (22 + 2 * n) ad) (gw_sb (S := b))) hP
          have hD := kw_D (congrArg (wL (22 + 2 * n) ad) (gw_sb (S := b))) hD
          refine lv_if_ne (tgt := 51) hx hb d_K_queueUnreached_39 (by decide) (fun c_39' => ?_) (fun c_39' => ?_)
          · refine lv_iinc (v := nI i + 1) (lv' := [(2, .int (nI i + 1)), (3, .ref (ad (22 + 2 * i))), (0, .ref (ad 0)), (1, .int ((it (qU th b) i (qu, f, T, 0)).2.2.2))]) hx hb d_K_queueUnreached_51 hl (k := 3) rfl rfl (by decide) rfl (fun ls hl => ?_)
            refine lv_goto (tgt := 4) hx hb d_K_queueUnreached_54 (by decide) ?_
            have hl := lv_sub (l' := [(0, .ref (ad 0)), (1, .int ((it (qU th b) i (qu, f, T, 0)).2.2.2)), (2, .int (nI i + 1))]) hl [2, 3, 0] rfl
            have hqq9 : (.int ((it (qU th b) i (qu, f, T, 0)).2.2.2) : Value) = .int ((it (qU th b) (i + 1) (qu, f, T, 0)).2.2.2) := by rw [it_s, qU]; simp [c_10', hth_18, c_28', c_39']
            rw [hqq9] at hl
            have hqq9 : (.int (nI i + 1) : Value) = .int (nI (i + 1)) := by rw [nI_1]
            rw [hqq9] at hl
            have hE : (gW n ty ad ((it (qU th b) i (qu, f, T, 0)).2.1) th rt ((it (qU th b) i (qu, f, T, 0)).1) b w ((it (qU th b) i (qu, f, T, 0)).2.2.1) g a o : va_W) = gW n ty ad ((it (qU th b) (i + 1) (qu, f, T, 0)).2.1) th rt ((it (qU th b) (i + 1) (qu, f, T, 0)).1) b w ((it (qU th b) (i + 1) (qu, f, T, 0)).2.2.1) g a o := by rw [it_s, qU]; simp [c_10', hth_18, c_28', c_39']
            have hP := kw_P hE hP
            have hD := kw_D hE hD
            exact ih (i + 1) _ _ ls (by omega) hP hD hS hl kx
          · refine lv_aload_n hx hb d_K_queueUnreached_42 rfl (lv_at hl 1 rfl) ?_
            refine lv_iload_n hx hb d_K_queueUnreached_43 rfl (lv_at hl 3 rfl) ?_
            refine lv_aload_n hx hb d_K_queueUnreached_44 rfl (lv_at hl 0 rfl) ?_
            refine kc_v (va_runV (As := [.int (nI i), .ref (ad (22 + 2 * i))]) (rest := []) ⟨hx, hb, hml, hown, hts⟩ (c_K_putInQueue l D ty ad _ n ((it (qU th b) i (qu, f, T, 0)).2.1) th rt ((it (qU th b) i (qu, f, T, 0)).1) b w ((it (qU th b) i (qu, f, T, 0)).2.2.1) g a o i (hn _ hth_18) (nI i)) (cwV 2 hts (kGV kS1 m_K_173 m_im_K_putInQueue m_sel_K_putInQueue m_ini_K m_code_K_putInQueue) rfl rfl rfl (by decide +kernel) ⟨Nat.le_of_ble_eq_true rfl, Nat.le_of_ble_eq_true rfl⟩) ⟨kP_blind, va_recv hK hP (ci := 0) (q0 := 0) rfl gw_0, fun U hU hW => ⟨rfl, kP_at hK hP hD U hU hW⟩⟩ rfl rfl hl.1 rfl (lv_room (Nat.le_of_ble_eq_true rfl)) d_K_queueUnreached_45 ⟨Nat.le_of_ble_eq_true rfl, Nat.le_of_ble_eq_true rfl⟩) hD hS hA (fun u H locs hu hP hD hS hz => ?_)
            subst hu
            refine lv_iinc (v := (it (qU th b) i (qu, f, T, 0)).2.2.2 + 1) (lv' := [(1, .int ((it (qU th b) i (qu, f, T, 0)).2.2.2 + 1)), (3, .ref (ad (22 + 2 * i))), (0, .ref (ad 0)), (2, .int (nI i))]) hx hb d_K_queueUnreached_48 hl (k := 2) rfl rfl (by decide) rfl (fun ls hl => ?_)
            refine lv_iinc (v := nI i + 1) (lv' := [(2, .int (nI i + 1)), (1, .int ((it (qU th b) i (qu, f, T, 0)).2.2.2 + 1)), (3, .ref (ad (22 + 2 * i))), (0, .ref (ad 0))]) hx hb d_K_queueUnreached_51 hl (k := 3) rfl rfl (by decide) rfl (fun ls hl => ?_)
            refine lv_goto (tgt := 4) hx hb d_K_queueUnreached_54 (by decide) ?_
            have hl := lv_sub (l' := [(0, .ref (ad 0)), (1, .int ((it (qU th b) i (qu, f, T, 0)).2.2.2 + 1)), (2, .int (nI i + 1))]) hl [3, 1, 0] rfl
            have hqq9 : (.int ((it (qU th b) i (qu, f, T, 0)).2.2.2 + 1) : Value) = .int ((it (qU th b) (i + 1) (qu, f, T, 0)).2.2.2) := by rw [it_s, qU]; simp [c_10', hth_18, c_28', c_39']
            rw [hqq9] at hl
            have hqq9 : (.int (nI i + 1) : Value) = .int (nI (i + 1)) := by rw [nI_1]
            rw [hqq9] at hl
            have hE : (gW n ty ad ((kPut ((it (qU th b) i (qu, f, T, 0)).1) ((it (qU th b) i (qu, f, T, 0)).2.1) ((it (qU th b) i (qu, f, T, 0)).2.2.1) i (nI i)).2.1) th rt ((kPut ((it (qU th b) i (qu, f, T, 0)).1) ((it (qU th b) i (qu, f, T, 0)).2.1) ((it (qU th b) i (qu, f, T, 0)).2.2.1) i (nI i)).1) b w ((kPut ((it (qU th b) i (qu, f, T, 0)).1) ((it (qU th b) i (qu, f, T, 0)).2.1) ((it (qU th b) i (qu, f, T, 0)).2.2.1) i (nI i)).2.2) g a o : va_W) = gW n ty ad ((it (qU th b) (i + 1) (qu, f, T, 0)).2.1) th rt ((it (qU th b) (i + 1) (qu, f, T, 0)).1) b w ((it (qU th b) (i + 1) (qu, f, T, 0)).2.2.1) g a o := by rw [it_s, qU]; simp [c_10', hth_18, c_28', c_39']
            have hP := kw_P hE hP
            have hD := kw_D hE hD
            exact ih (i + 1) _ _ ls (by omega) hP hD hS hl kx
      · rw [kth_f hth_18]
        refine lv_astore_nN (lv' := [(3, .null), (0, .ref (ad 0)), (1, .int ((it (qU th b) i (qu, f, T, 0)).2.2.2)), (2, .int (nI i))]) hx hb d_K_queueUnreached_19 rfl hl (by decide) rfl (fun ls hl => ?_)
        refine lv_aload_nN hx hb d_K_queueUnreached_20 rfl (lv_at hl 0 rfl) ?_
        refine lv_ifnullN (tgt := 51) hx hb d_K_queueUnreached_21 (by decide) ?_
        refine lv_iinc (v := nI i + 1) (lv' := [(2, .int (nI i + 1)), (3, .null), (0, .ref (ad 0)), (1, .int ((it (qU th b) i (qu, f, T, 0)).2.2.2))]) hx hb d_K_queueUnreached_51 hl (k := 3) rfl rfl (by decide) rfl (fun ls hl => ?_)
        refine lv_goto (tgt := 4) hx hb d_K_queueUnreached_54 (by decide) ?_
        have hl := lv_sub (l' := [(0, .ref (ad 0)), (1, .int ((it (qU th b) i (qu, f, T, 0)).2.2.2)), (2, .int (nI i + 1))]) hl [2, 3, 0] rfl
        have hqq9 : (.int ((it (qU th b) i (qu, f, T, 0)).2.2.2) : Value) = .int ((it (qU th b) (i + 1) (qu, f, T, 0)).2.2.2) := by rw [it_s, qU]; simp [c_10', hth_18]
        rw [hqq9] at hl
        have hqq9 : (.int (nI i + 1) : Value) = .int (nI (i + 1)) := by rw [nI_1]
        rw [hqq9] at hl
        have hE : (gW n ty ad ((it (qU th b) i (qu, f, T, 0)).2.1) th rt ((it (qU th b) i (qu, f, T, 0)).1) b w ((it (qU th b) i (qu, f, T, 0)).2.2.1) g a o : va_W) = gW n ty ad ((it (qU th b) (i + 1) (qu, f, T, 0)).2.1) th rt ((it (qU th b) (i + 1) (qu, f, T, 0)).1) b w ((it (qU th b) (i + 1) (qu, f, T, 0)).2.2.1) g a o := by rw [it_s, qU]; simp [c_10', hth_18]
        have hP := kw_P hE hP
        have hD := kw_D hE hD
        exact ih (i + 1) _ _ ls (by omega) hP hD hS hl kx
  have hl := lv_sub (l' := [(0, .ref (ad 0)), (1, .int 0), (2, .int 0)]) hl [2, 1, 0] rfl
  have hqq9 : (.int 0 : Value) = .int (nI 0) := by rw [nI_0]
  rw [hqq9] at hl
  refine L1 _ (300 - 0) 0 _ _ ls (by omega) hP hD hS hl (fun H locs ls hP hD hS hl => ?_)
  refine lv_iload_n hx hb d_K_queueUnreached_57 rfl (lv_at hl 1 rfl) ?_
  have hu : (gW n ty ad ((it (qU th b) 300 (qu, f, T, 0)).2.1) th rt ((it (qU th b) 300 (qu, f, T, 0)).1) b w ((it (qU th b) 300 (qu, f, T, 0)).2.2.1) g a o : va_W) = gW n ty ad ((it (qU th b) 300 (qu, f, T, 0)).2.1) th rt ((it (qU th b) 300 (qu, f, T, 0)).1) b w ((it (qU th b) 300 (qu, f, T, 0)).2.2.1) g a o := by rfl
  have hv : ((it (qU th b) 300 (qu, f, T, 0)).2.2.2 : Int32) = (it (qU th b) 300 (qu, f, T, 0)).2.2.2 := by simp []
  exact W.iret (v := (it (qU th b) 300 (qu, f, T, 0)).2.2.2) hx hb hr (fun t ht hW => ⟨⟨_, _, rfl, ⟨hv, hu⟩, by rw [ht]; exact hP, va_K.moved hW.alike hK, hD⟩, hS.F ht⟩) hS.2.2 d_K_queueUnreached_58
set_option maxHeartbeats 4000000 in
set_option maxRecDepth 100000 in
/-- forgetUnreached() -/
theorem c_K_forgetUnreached (l : Launch) (D : va_G) (ty : Nat → ClassId) (ad : Nat → Nat) (sz : Nat) (n : Nat) (f : Nat → Int32) (th : Nat → Bool) (rt qu : Nat → Int32) (b w : SR) (T : Nat → TH) (g : Nat → Int32) (a : Nat → Nat → Int32) (o : Nat → Int64) (hn : ∀ k, th k = true → k < n) : Met l y_K_forgetUnreached w_K_forgetUnreached ({ frames := 2, cells := 0, slots := 0, locals := 41 }) (va_Pc [.ref (ad 0)] (kP D kCl (kTy ty) (gW n ty ad f th rt qu b w T g a o) sz)) (va_Qv (fun u9 : va_W => u9 = (gW n ty ad ((it (fU th b w) 300 (T, f)).2) th rt qu b w ((it (fU th b w) 300 (T, f)).1) g a o)) (kB D kCl (kTy ty) (va_A (gW n ty ad f th rt qu b w T g a o) sz)) (va_A (gW n ty ad f th rt qu b w T g a o) sz)) 0 0 (va_A (gW n ty ad f th rt qu b w T g a o) sz) := by
  refine Met.ofW (cc := b_K_forgetUnreached) (maxL := 4) (ret := none) (by decide) rfl ?_
  intro p e s m args below meth cd s₁ B hml hv
  obtain ⟨rfl, hsz, hP, hK, hD0⟩ := hv
  have hx := B.exec
  have hb := B.bytes
  have hr := B.returns
  have hts := atoms_spec (ws := w_K_forgetUnreached) B.pre
  have hown : s.vm.findClass R_K = some m.cls := findClass_of_methodNamed B.named
  have hlocks := B.notSynchronized
  subst hsz
  have hD := hD0.self (sz := s.heap.size)
  generalize hAe : va_A (gW n ty ad f th rt qu b w T g a o) s.heap.size = A at hD ⊢
  have hA : ∀ q : Nat, s.heap.size ≤ q → A q := fun q h => by rw [← hAe]; exact Or.inr h
  have hS : va_S A s.heap s.heap [] := va_S.rf
  have hl := lv_entry ([.ref (ad 0)]) (n := 4) (Nat.le_of_ble_eq_true rfl)
  rw [lg_entry_eq]
  generalize (lg_sl ([.ref (ad 0)]) ++ List.replicate (4 - (lg_sl ([.ref (ad 0)])).length) Slot.unset).toArray = ls at hl ⊢
  have hl : lv_has ls 4 [(0, .ref (ad 0))] := hl
  refine lv_iconst (v := 0) hx hb d_K_forgetUnreached_0 (by decide) ?_
  refine lv_istore_n (lv' := [(1, .int 0), (0, .ref (ad 0))]) hx hb d_K_forgetUnreached_1 rfl hl (by decide) rfl (fun ls hl => ?_)
  have L1 : ∀ (Q : State → Prop) (rem i : Nat) (H : Heap) (locs : List Loc) (ls : Array Slot), i + rem = 300 → va_P D kCl (gW n ty ad ((it (fU th b w) i (T, f)).2) th rt qu b w ((it (fU th b w) i (T, f)).1) g a o) H → va_D A (gW n ty ad ((it (fU th b w) i (T, f)).2) th rt qu b w ((it (fU th b w) i (T, f)).1) g a o) → va_S A s.heap H locs → lv_has ls 4 [(0, .ref (ad 0)), (1, .int (nI i))] → (∀ (H : Heap) (locs : List Loc) (ls : Array Slot), va_P D kCl (gW n ty ad ((it (fU th b w) 300 (T, f)).2) th rt qu b w ((it (fU th b w) 300 (T, f)).1) g a o) H → va_D A (gW n ty ad ((it (fU th b w) 300 (T, f)).2) th rt qu b w ((it (fU th b w) 300 (T, f)).1) g a o) → va_S A s.heap H locs → lv_has ls 4 [(0, .ref (ad 0))] → W p l e (headSpec w_K_forgetUnreached ({ frames := 2, cells := 0, slots := 0, locals := 41 })).room s m ([.ref (ad 0)] : List Value).toArray below meth cd H locs 0 0 Q (F0 m 89 ls [])) → W p l e (headSpec w_K_forgetUnreached ({ frames := 2, cells := 0, slots := 0, locals := 41 })).room s m ([.ref (ad 0)] : List Value).toArray below meth cd H locs 0 0 Q (F0 m 2 ls []) := by
    intro Q rem
    induction rem with
    | zero =>
      intro i H locs ls hir_i hP hD hS hl kx
      obtain rfl : 300 = i := by omega
      refine lv_iload_n hx hb d_K_forgetUnreached_2 rfl (lv_at hl 1 rfl) ?_
      refine lv_aload_n hx hb d_K_forgetUnreached_3 rfl (lv_at hl 0 rfl) ?_
      refine va_get (D := D) (ci := 0) (v := .ref (ad 1)) (C := R_K) (T := F_K) (N := 12) hx hb hts (fun w h => kS1 w (i_K w h)) hown hK hP 0 gw_0 rfl 0 (by decide) (hts _ (kS1 _ m_K_11)) (fun _ h9 => h9) rfl d_K_forgetUnreached_4 ?_
      refine va_alen (v := 300) hx hb hK hP 1 2 gw_1 rfl rfl d_K_forgetUnreached_7 ?_
      refine lv_icmp_ge (tgt := 89) hx hb d_K_forgetUnreached_8 (by decide) (fun c_8' => ?_) (fun c_8' => absurd (nI_le (a := 300) (b := 300) (Nat.le_refl _) (by omega)) c_8')
      have hl := lv_sub (l' := [(0, .ref (ad 0))]) hl [0] rfl
      exact kx _ _ ls hP hD hS hl
    | succ rem ih =>
      intro i H locs ls hir_i hP hD hS hl kx
      have hlt_i : i < 300 := by omega
      refine lv_iload_n hx hb d_K_forgetUnreached_2 rfl (lv_at hl 1 rfl) ?_
      refine lv_aload_n hx hb d_K_forgetUnreached_3 rfl (lv_at hl 0 rfl) ?_
      refine va_get (D := D) (ci := 0) (v := .ref (ad 1)) (C := R_K) (T := F_K) (N := 12) hx hb hts (fun w h => kS1 w (i_K w h)) hown hK hP 0 gw_0 rfl 0 (by decide) (hts _ (kS1 _ m_K_11)) (fun _ h9 => h9) rfl d_K_forgetUnreached_4 ?_
      refine va_alen (v := 300) hx hb hK hP 1 2 gw_1 rfl rfl d_K_forgetUnreached_7 ?_
      refine lv_icmp_ge (tgt := 89) hx hb d_K_forgetUnreached_8 (by decide) (fun c_8' => absurd c_8' (nI_ge (b := 300) hlt_i (by omega))) (fun c_8' => ?_)
      refine lv_aload_n hx hb d_K_forgetUnreached_11 rfl (lv_at hl 0 rfl) ?_
      refine va_get (D := D) (ci := 0) (v := .ref (ad 1)) (C := R_K) (T := F_K) (N := 12) hx hb hts (fun w h => kS1 w (i_K w h)) hown hK hP 0 gw_0 rfl 0 (by decide) (hts _ (kS1 _ m_K_11)) (fun _ h9 => h9) rfl d_K_forgetUnreached_12 ?_
      refine lv_iload_n hx hb d_K_forgetUnreached_15 rfl (lv_at hl 1 rfl) ?_
      refine va_aldq (f := thf ad th) hx hb hK hP 1 2 gw_1 rfl (vp_in_nI hlt_i (by omega)) d_K_forgetUnreached_16 ?_
      rw [nI_clamp (n := i) (by omega)]
      by_cases hth_16 : th i = true
      · rw [kth_t hth_16]
        refine lv_astore_n (lv' := [(2, .ref (ad (22 + 2 * i))), (0, .ref (ad 0)), (1, .int (nI i))]) hx hb d_K_forgetUnreached_17 rfl hl (by decide) rfl (fun ls hl => ?_)
        refine lv_aload_n hx hb d_K_forgetUnreached_18 rfl (lv_at hl 0 rfl) ?_
        refine lv_ifnull hx hb d_K_forgetUnreached_19 ?_
        refine lv_aload_n hx hb d_K_forgetUnreached_22 rfl (lv_at hl 0 rfl) ?_
        refine kc_R (va_runV (As := []) (rest := []) ⟨hx, hb, hml, hown, hts⟩ (c_T_hasWeakField l D ty ad _ (22 + 2 * n) (gc ty ad ((it (fU th b w) i (T, f)).2) th rt qu b w ((it (fU th b w) i (T, f)).1) g a o) (22 + 2 * i) (23 + 2 * i) ((((it (fU th b w) i (T, f)).1) i).1) ((((it (fU th b w) i (T, f)).1) i).2.1) ((((it (fU th b w) i (T, f)).1) i).2.2.1) ((((it (fU th b w) i (T, f)).1) i).2.2.2.1) ((((it (fU th b w) i (T, f)).1) i).2.2.2.2) (gi_T (hn _ hth_16)) (gi_F (hn _ hth_16)) gc_T gc_F) (cwV 0 hts (kGV kS1 m_K_170 m_im_T_hasWeakField m_sel_T_hasWeakField m_ini_T m_code_T_hasWeakField) rfl rfl rfl (by decide +kernel) ⟨Nat.le_of_ble_eq_true rfl, Nat.le_of_ble_eq_true rfl⟩) ⟨kP_blind, va_recv hK hP (ci := 2) (q0 := (22 + 2 * i)) rfl (gw_T (k := i) (hn _ hth_16)), fun U hU hW => ⟨rfl, kP_at hK hP hD U hU hW⟩⟩ rfl rfl hl.1 rfl (lv_room (Nat.le_of_ble_eq_true rfl)) d_K_forgetUnreached_23 ⟨Nat.le_of_ble_eq_true rfl, Nat.le_of_ble_eq_true rfl⟩) ?_
        refine lv_if_eq (tgt := 83) hx hb d_K_forgetUnreached_26 (by decide) (fun c_26' => ?_) (fun c_26' => ?_)
        · refine lv_iinc (v := nI i + 1) (lv' := [(1, .int (nI i + 1)), (2, .ref (ad (22 + 2 * i))), (0, .ref (ad 0))]) hx hb d_K_forgetUnreached_83 hl (k := 2) rfl rfl (by decide) rfl (fun ls hl => ?_)
          refine lv_goto (tgt := 2) hx hb d_K_forgetUnreached_86 (by decide) ?_
          have hl := lv_sub (l' := [(0, .ref (ad 0)), (1, .int (nI i + 1))]) hl [2, 0] rfl
          have hqq9 : (.int (nI i + 1) : Value) = .int (nI (i + 1)) := by rw [nI_1]
          rw [hqq9] at hl
          have hE : (gW n ty ad ((it (fU th b w) i (T, f)).2) th rt qu b w ((it (fU th b w) i (T, f)).1) g a o : va_W) = gW n ty ad ((it (fU th b w) (i + 1) (T, f)).2) th rt qu b w ((it (fU th b w) (i + 1) (T, f)).1) g a o := by rw [it_s, fU]; simp [c_8', hth_16, c_26']
          have hP := kw_P hE hP
          have hD := kw_D hE hD
          exact ih (i + 1) _ _ ls (by omega) hP hD hS hl kx
        · refine lv_aload_n hx hb d_K_forgetUnreached_29 rfl (lv_at hl 1 rfl) ?_
          refine va_get (D := D) (ci := 0) (v := .ref (ad 7)) (C := R_K) (T := F_K) (N := 12) hx hb hts (fun w h => kS1 w (i_K w h)) hown hK hP 0 gw_0 rfl 6 (by decide) (hts _ (kS1 _ m_K_29)) (fun _ h9 => h9) rfl d_K_forgetUnreached_30 ?_
          refine lv_iload_n hx hb d_K_forgetUnreached_33 rfl (lv_at hl 2 rfl) ?_
          have hP := kw_P (congrArg (wL (22 + 2 * n) ad) (gw_sw (w := w) (S := w)).symm) hP
          have hD := kw_D (congrArg (wL (22 + 2 * n) ad) (gw_sw (w := w) (S := w)).symm) hD
          refine kc_R (va_runV (As := [.int (nI i)]) (rest := []) ⟨hx, hb, hml, hown, hts⟩ (c_S_has l D ty ad _ (22 + 2 * n) (gc ty ad ((it (fU th b w) i (T, f)).2) th rt qu b w ((it (fU th b w) i (T, f)).1) g a o) 7 8 9 w (by omega) (by omega) (by omega) (by omega) (by omega) (by omega) (nI i)) (cwV 1 hts (kGV kS1 m_K_110 m_im_S_has m_sel_S_has m_ini_S m_code_S_has) rfl rfl rfl (by decide +kernel) ⟨Nat.le_of_ble_eq_true rfl, Nat.le_of_ble_eq_true rfl⟩) ⟨kP_blind, va_recv hK hP (ci := 1) (q0 := 7) rfl (sw_o (S := w) (by omega)), fun U hU hW => ⟨rfl, kP_at hK hP hD U hU hW⟩⟩ rfl rfl hl.1 rfl (lv_room (Nat.le_of_ble_eq_true rfl)) d_K_forgetUnreached_34 ⟨Nat.le_of_ble_eq_true rfl, Nat.le_of_ble_eq_true rfl⟩) ?_
          have hP := kw_P (congrArg (wL (22 + 2 * n) ad) (gw_sw (S := w))) hP
          have hD := kw_D (congrArg (wL (22 + 2 * n) ad) (gw_sw (S := w))) hD
          refine lv_if_ne (tgt := 43) hx hb d_K_forgetUnreached_37 (by decide) (fun c_37' => ?_) (fun c_37' => ?_)
          · refine lv_aload_n hx hb d_K_forgetUnreached_43 rfl (lv_at hl 0 rfl) ?_
            refine va_get (D := D) (ci := 2) (v := .ref (ad (23 + 2 * i))) (C := R_T) (T := F_T) (N := 4) hx hb hts (fun w h => kS1 w (i_T w h)) hown hK hP (22 + 2 * i) (gw_T (k := i) (hn _ hth_16)) rfl 0 (by decide) (hts _ (kS1 _ m_K_66)) (fun _ h9 => h9) rfl d_K_forgetUnreached_44 ?_
            refine lv_iconst (v := 0) hx hb d_K_forgetUnreached_47 (by decide) ?_
            refine va_iald (f := (((it (fU th b w) i (T, f)).1) i).2.2.2.2) hx hb hK hP (23 + 2 * i) 0 (gw_F (k := i) (hn _ hth_16)) rfl (kin0 c_26') d_K_forgetUnreached_48 ?_
            rw [sb_cl0]
            refine lv_istore_n (lv' := [(3, .int (((((it (fU th b w) i (T, f)).1) i).2.2.2.2) 0)), (2, .ref (ad (22 + 2 * i))), (0, .ref (ad 0)), (1, .int (nI i))]) hx hb d_K_forgetUnreached_49 rfl hl (by decide) rfl (fun ls hl => ?_)
            refine lv_iload_n hx hb d_K_forgetUnreached_50 rfl (lv_at hl 0 rfl) ?_
            refine lv_iconst (v := (-1)) hx hb d_K_forgetUnreached_51 (by decide) ?_
            refine lv_icmp_eq (tgt := 83) hx hb d_K_forgetUnreached_52 (by decide) (fun c_52' => ?_) (fun c_52' => ?_)
            · refine lv_iinc (v := nI i + 1) (lv' := [(1, .int (nI i + 1)), (3, .int (((((it (fU th b w) i (T, f)).1) i).2.2.2.2) 0)), (2, .ref (ad (22 + 2 * i))), (0, .ref (ad 0))]) hx hb d_K_forgetUnreached_83 hl (k := 3) rfl rfl (by decide) rfl (fun ls hl => ?_)
              refine lv_goto (tgt := 2) hx hb d_K_forgetUnreached_86 (by decide) ?_
              have hl := lv_sub (l' := [(0, .ref (ad 0)), (1, .int (nI i + 1))]) hl [3, 0] rfl
              have hqq9 : (.int (nI i + 1) : Value) = .int (nI (i + 1)) := by rw [nI_1]
              rw [hqq9] at hl
              have hE : (gW n ty ad ((it (fU th b w) i (T, f)).2) th rt qu b w ((it (fU th b w) i (T, f)).1) g a o : va_W) = gW n ty ad ((it (fU th b w) (i + 1) (T, f)).2) th rt qu b w ((it (fU th b w) (i + 1) (T, f)).1) g a o := by rw [it_s, fU]; simp [c_8', hth_16, c_26', c_37', c_52']
              have hP := kw_P hE hP
              have hD := kw_D hE hD
              exact ih (i + 1) _ _ ls (by omega) hP hD hS hl kx
            · refine lv_aload_n hx hb d_K_forgetUnreached_55 rfl (lv_at hl 2 rfl) ?_
              refine va_get (D := D) (ci := 0) (v := .ref (ad 4)) (C := R_K) (T := F_K) (N := 12) hx hb hts (fun w h => kS1 w (i_K w h)) hown hK hP 0 gw_0 rfl 5 (by decide) (hts _ (kS1 _ m_K_25)) (fun _ h9 => h9) rfl d_K_forgetUnreached_56 ?_
              refine lv_iload_n hx hb d_K_forgetUnreached_59 rfl (lv_at hl 0 rfl) ?_
              have hP := kw_P (congrArg (wL (22 + 2 * n) ad) (gw_sb (b := b) (S := b)).symm) hP
              have hD := kw_D (congrArg (wL (22 + 2 * n) ad) (gw_sb (b := b) (S := b)).symm) hD
              refine kc_R (va_runV (As := [.int (((((it (fU th b w) i (T, f)).1) i).2.2.2.2) 0)]) (rest := []) ⟨hx, hb, hml, hown, hts⟩ (c_S_has l D ty ad _ (22 + 2 * n) (gc ty ad ((it (fU th b w) i (T, f)).2) th rt qu b w ((it (fU th b w) i (T, f)).1) g a o) 4 5 6 b (by omega) (by omega) (by omega) (by omega) (by omega) (by omega) (((((it (fU th b w) i (T, f)).1) i).2.2.2.2) 0)) (cwV 1 hts (kGV kS1 m_K_110 m_im_S_has m_sel_S_has m_ini_S m_code_S_has) rfl rfl rfl (by decide +kernel) ⟨Nat.le_of_ble_eq_true rfl, Nat.le_of_ble_eq_true rfl⟩) ⟨kP_blind, va_recv hK hP (ci := 1) (q0 := 4) rfl (sw_o (S := b) (by omega)), fun U hU hW => ⟨rfl, kP_at hK hP hD U hU hW⟩⟩ rfl rfl hl.1 rfl (lv_room (Nat.le_of_ble_eq_true rfl)) d_K_forgetUnreached_60 ⟨Nat.le_of_ble_eq_true rfl, Nat.le_of_ble_eq_true rfl⟩) ?_
              have hP := kw_P (congrArg (wL (22 + 2 * n) ad) (gw_sb (S := b))) hP
              have hD := kw_D (congrArg (wL (22 + 2 * n) ad) (gw_sb (S := b))) hD
              refine lv_if_ne (tgt := 83) hx hb d_K_forgetUnreached_63 (by decide) (fun c_63' => ?_) (fun c_63' => ?_)
              · refine lv_iinc (v := nI i + 1) (lv' := [(1, .int (nI i + 1)), (3, .int (((((it (fU th b w) i (T, f)).1) i).2.2.2.2) 0)), (2, .ref (ad (22 + 2 * i))), (0, .ref (ad 0))]) hx hb d_K_forgetUnreached_83 hl (k := 3) rfl rfl (by decide) rfl (fun ls hl => ?_)
                refine lv_goto (tgt := 2) hx hb d_K_forgetUnreached_86 (by decide) ?_
                have hl := lv_sub (l' := [(0, .ref (ad 0)), (1, .int (nI i + 1))]) hl [3, 0] rfl
                have hqq9 : (.int (nI i + 1) : Value) = .int (nI (i + 1)) := by rw [nI_1]
                rw [hqq9] at hl
                have hE : (gW n ty ad ((it (fU th b w) i (T, f)).2) th rt qu b w ((it (fU th b w) i (T, f)).1) g a o : va_W) = gW n ty ad ((it (fU th b w) (i + 1) (T, f)).2) th rt qu b w ((it (fU th b w) (i + 1) (T, f)).1) g a o := by rw [it_s, fU]; simp [c_8', hth_16, c_26', c_37', c_52', c_63']
                have hP := kw_P hE hP
                have hD := kw_D hE hD
                exact ih (i + 1) _ _ ls (by omega) hP hD hS hl kx
              · refine lv_aload_n hx hb d_K_forgetUnreached_66 rfl (lv_at hl 1 rfl) ?_
                refine va_get (D := D) (ci := 2) (v := .ref (ad (23 + 2 * i))) (C := R_T) (T := F_T) (N := 4) hx hb hts (fun w h => kS1 w (i_T w h)) hown hK hP (22 + 2 * i) (gw_T (k := i) (hn _ hth_16)) rfl 0 (by decide) (hts _ (kS1 _ m_K_66)) (fun _ h9 => h9) rfl d_K_forgetUnreached_67 ?_
                refine lv_iconst (v := 0) hx hb d_K_forgetUnreached_70 (by decide) ?_
                refine lv_iconst (v := (-1)) hx hb d_K_forgetUnreached_71 (by decide) ?_
                refine va_iast (f := (((it (fU th b w) i (T, f)).1) i).2.2.2.2) hx hb hK hP hD hS (23 + 2 * i) 0 (gw_F (k := i) (hn _ hth_16)) rfl (kin0 c_26') d_K_forgetUnreached_72 (fun H locs hP hD hS => ?_)
                rw [sb_cl0] at hP hD
                have hP := kw_P (gw_sF (k := i) (N := (((it (fU th b w) i (T, f)).1) i).2.2.2.1) (r := upd ((((it (fU th b w) i (T, f)).1) i).2.2.2.2) 0 (-1))) hP
                have hD := kw_D (gw_sF (k := i) (N := (((it (fU th b w) i (T, f)).1) i).2.2.2.1) (r := upd ((((it (fU th b w) i (T, f)).1) i).2.2.2.2) 0 (-1))) hD
                refine lv_aload_n hx hb d_K_forgetUnreached_73 rfl (lv_at hl 2 rfl) ?_
                refine lv_dup hx hb d_K_forgetUnreached_74 rfl ?_
                refine va_get (D := D) (ci := 0) (v := .int (((it (fU th b w) i (T, f)).2) 9)) (C := R_K) (T := F_K) (N := 12) hx hb hts (fun w h => kS1 w (i_K w h)) hown hK hP 0 gw_0 rfl 9 (by decide) (hts _ (kS1 _ m_K_131)) (fun _ h9 => h9) rfl d_K_forgetUnreached_75 ?_
                refine lv_iconst (v := 1) hx hb d_K_forgetUnreached_78 (by decide) ?_
                refine lv_iadd hx hb d_K_forgetUnreached_79 ?_
                refine va_put (D := D) (ci := 0) (v := .int ((((it (fU th b w) i (T, f)).2) 9) + 1)) (ty := .int) (C := R_K) (T := F_K) (N := 12) hx hb hts (fun w h => kS1 w (i_K w h)) tt_K tt_K_ok n_K hown hK hP hD hS 0 gw_0 rfl 9 (by decide) (hts _ (kS1 _ m_K_131)) (fun _ h9 => h9) rfl (by decide +kernel) rfl rfl (Nat.le_of_ble_eq_true rfl) d_K_forgetUnreached_80 (fun H locs hP hD hS => ?_)
                have hP := kw_P (gw_sK9 (v := (((it (fU th b w) i (T, f)).2) 9) + 1)) hP
                have hD := kw_D (gw_sK9 (v := (((it (fU th b w) i (T, f)).2) 9) + 1)) hD
                refine lv_iinc (v := nI i + 1) (lv' := [(1, .int (nI i + 1)), (3, .int (((((it (fU th b w) i (T, f)).1) i).2.2.2.2) 0)), (2, .ref (ad (22 + 2 * i))), (0, .ref (ad 0))]) hx hb d_K_forgetUnreached_83 hl (k := 3) rfl rfl (by decide) rfl (fun ls hl => ?_)
                refine lv_goto (tgt := 2) hx hb d_K_forgetUnreached_86 (by decide) ?_
                have hl := lv_sub (l' := [(0, .ref (ad 0)), (1, .int (nI i + 1))]) hl [3, 0] rfl
                have hqq9 : (.int (nI i + 1) : Value) = .int (nI (i + 1)) := by rw [nI_1]
                rw [hqq9] at hl
                have hE : (gW n ty ad (upd ((it (fU th b w) i (T, f)).2) 9 ((((it (fU th b w) i (T, f)).2) 9) + 1)) th rt qu b w (va_up ((it (fU th b w) i (T, f)).1) i ((((it (fU th b w) i (T, f)).1) i).1, (((it (fU th b w) i (T, f)).1) i).2.1, (((it (fU th b w) i (T, f)).1) i).2.2.1, (((it (fU th b w) i (T, f)).1) i).2.2.2.1, upd ((((it (fU th b w) i (T, f)).1) i).2.2.2.2) 0 (-1))) g a o : va_W) = gW n ty ad ((it (fU th b w) (i + 1) (T, f)).2) th rt qu b w ((it (fU th b w) (i + 1) (T, f)).1) g a o := by rw [it_s, fU]; simp [c_8', hth_16, c_26', c_37', c_52', c_63']
                have hP := kw_P hE hP
                have hD := kw_D hE hD
                exact ih (i + 1) _ _ ls (by omega) hP hD hS hl kx
          · refine lv_goto (tgt := 83) hx hb d_K_forgetUnreached_40 (by decide) ?_
            refine lv_iinc (v := nI i + 1) (lv' := [(1, .int (nI i + 1)), (2, .ref (ad (22 + 2 * i))), (0, .ref (ad 0))]) hx hb d_K_forgetUnreached_83 hl (k := 2) rfl rfl (by decide) rfl (fun ls hl => ?_)
            refine lv_goto (tgt := 2) hx hb d_K_forgetUnreached_86 (by decide) ?_
            have hl := lv_sub (l' := [(0, .ref (ad 0)), (1, .int (nI i + 1))]) hl [2, 0] rfl
            have hqq9 : (.int (nI i + 1) : Value) = .int (nI (i + 1)) := by rw [nI_1]
            rw [hqq9] at hl
            have hE : (gW n ty ad ((it (fU th b w) i (T, f)).2) th rt qu b w ((it (fU th b w) i (T, f)).1) g a o : va_W) = gW n ty ad ((it (fU th b w) (i + 1) (T, f)).2) th rt qu b w ((it (fU th b w) (i + 1) (T, f)).1) g a o := by rw [it_s, fU]; simp [c_8', hth_16, c_26', c_37']
            have hP := kw_P hE hP
            have hD := kw_D hE hD
            exact ih (i + 1) _ _ ls (by omega) hP hD hS hl kx
      · rw [kth_f hth_16]
        refine lv_astore_nN (lv' := [(2, .null), (0, .ref (ad 0)), (1, .int (nI i))]) hx hb d_K_forgetUnreached_17 rfl hl (by decide) rfl (fun ls hl => ?_)
        refine lv_aload_nN hx hb d_K_forgetUnreached_18 rfl (lv_at hl 0 rfl) ?_
        refine lv_ifnullN (tgt := 83) hx hb d_K_forgetUnreached_19 (by decide) ?_
        refine lv_iinc (v := nI i + 1) (lv' := [(1, .int (nI i + 1)), (2, .null), (0, .ref (ad 0))]) hx hb d_K_forgetUnreached_83 hl (k := 2) rfl rfl (by decide) rfl (fun ls hl => ?_)
        refine lv_goto (tgt := 2) hx hb d_K_forgetUnreached_86 (by decide) ?_
        have hl := lv_sub (l' := [(0, .ref (ad 0)), (1, .int (nI i + 1))]) hl [2, 0] rfl
        have hqq9 : (.int (nI i + 1) : Value) = .int (nI (i + 1)) := by rw [nI_1]
        rw [hqq9] at hl
        have hE : (gW n ty ad ((it (fU th b w) i (T, f)).2) th rt qu b w ((it (fU th b w) i (T, f)).1) g a o : va_W) = gW n ty ad ((it (fU th b w) (i + 1) (T, f)).2) th rt qu b w ((it (fU th b w) (i + 1) (T, f)).1) g a o := by rw [it_s, fU]; simp [c_8', hth_16]
        have hP := kw_P hE hP
        have hD := kw_D hE hD
        exact ih (i + 1) _ _ ls (by omega) hP hD hS hl kx
  have hl := lv_sub (l' := [(0, .ref (ad 0)), (1, .int 0)]) hl [1, 0] rfl
  have hqq9 : (.int 0 : Value) = .int (nI 0) := by rw [nI_0]
  rw [hqq9] at hl
  refine L1 _ (300 - 0) 0 _ _ ls (by omega) hP hD hS hl (fun H locs ls hP hD hS hl => ?_)
  have hu : (gW n ty ad ((it (fU th b w) 300 (T, f)).2) th rt qu b w ((it (fU th b w) 300 (T, f)).1) g a o : va_W) = gW n ty ad ((it (fU th b w) 300 (T, f)).2) th rt qu b w ((it (fU th b w) 300 (T, f)).1) g a o := by rfl
  exact W.vret hx hb hr (fun t ht hW => ⟨⟨_, rfl, hu, by rw [ht]; exact hP, va_K.moved hW.alike hK, hD⟩, hS.F ht⟩) hS.2.2 d_K_forgetUnreached_89
