/-! Part 10: the keeper's face, where it answers. -/
set_option maxHeartbeats 4000000 in
set_option maxRecDepth 100000 in
/-- sweep() -/
theorem c_K_sweep (l : Launch) (D : va_G) (ty : Nat → ClassId) (ad : Nat → Nat) (sz : Nat) (n : Nat) (f : Nat → Int32) (th : Nat → Bool) (rt qu : Nat → Int32) (b w : SR) (T : Nat → TH) (g : Nat → Int32) (a : Nat → Nat → Int32) (o : Nat → Int64) (hn : ∀ k, th k = true → k < n) (h12 : ∀ k, (T k).2.2.2.1 ≤ 12) : Met l y_K_sweep w_K_sweep ({ frames := 4, cells := 0, slots := 0, locals := 90 }) (va_Pc [.ref (ad 0)] (kP D kCl (kTy ty) (gW n ty ad f th rt qu b w T g a o) sz)) (va_Qi (fun (r9 : Int32) (u9 : va_W) => r9 = ((it (sW (sKept f th rt qu T w)) 300 (th, 0)).2) ∧ u9 = (gW n ty ad (upd f 8 (f 8 - (it (sW (sKept f th rt qu T w)) 300 (th, 0)).2)) ((it (sW (sKept f th rt qu T w)) 300 (th, 0)).1) rt qu b (sKept f th rt qu T w) T g a o)) (kB D kCl (kTy ty) (va_A (gW n ty ad f th rt qu b w T g a o) sz)) (va_A (gW n ty ad f th rt qu b w T g a o) sz)) 0 0 (va_A (gW n ty ad f th rt qu b w T g a o) sz) := by
  refine Met.ofW (cc := b_K_sweep) (maxL := 3) (ret := (some .int)) (by decide) rfl ?_
  intro p e s m args below meth cd s₁ B hml hv
  obtain ⟨rfl, hsz, hP, hK, hD0⟩ := hv
  have hx := B.exec
  have hb := B.bytes
  have hr := B.returns
  have hts := atoms_spec (ws := w_K_sweep) B.pre
  have hown : s.vm.findClass R_K = some m.cls := findClass_of_methodNamed B.named
  have hlocks := B.notSynchronized
  subst hsz
  have hD := hD0.self (sz := s.heap.size)
  generalize hAe : va_A (gW n ty ad f th rt qu b w T g a o) s.heap.size = A at hD ⊢
  have hA : ∀ q : Nat, s.heap.size ≤ q → A q := fun q h => by rw [← hAe]; exact Or.inr h
  have hS : va_S A s.heap s.heap [] := va_S.rf
  have hl := lv_entry ([.ref (ad 0)]) (n := 3) (Nat.le_of_ble_eq_true rfl)
  rw [lg_entry_eq]
  generalize (lg_sl ([.ref (ad 0)]) ++ List.replicate (3 - (lg_sl ([.ref (ad 0)])).length) Slot.unset).toArray = ls at hl ⊢
  have hl : lv_has ls 3 [(0, .ref (ad 0))] := hl
  refine lv_aload_n hx hb d_K_sweep_0 rfl (lv_at hl 0 rfl) ?_
  refine lv_aload_n hx hb d_K_sweep_1 rfl (lv_at hl 0 rfl) ?_
  refine va_get (D := D) (ci := 0) (v := .ref (ad 7)) (C := R_K) (T := F_K) (N := 12) hx hb hts (fun w h => kS1 w (i_K w h)) hown hK hP 0 gw_0 rfl 6 (by decide) (hts _ (kS1 _ m_K_29)) (fun _ h9 => h9) rfl d_K_sweep_2 ?_
  have hP := kw_P (congrArg (wL (22 + 2 * n) ad) (gw_sw (w := w) (S := w)).symm) hP
  have hD := kw_D (congrArg (wL (22 + 2 * n) ad) (gw_sw (w := w) (S := w)).symm) hD
  refine kc_v (va_runV (As := [.ref (ad 7)]) (rest := []) ⟨hx, hb, hml, hown, hts⟩ (c_K_searchKept l D ty ad _ n f th rt qu b w T g a o 7 8 9 w (by omega) (by omega) (by omega) (by omega) (by omega) (by omega) hn h12) (cwV 1 hts (kGV kS1 m_K_107 m_im_K_searchKept m_sel_K_searchKept m_ini_K m_code_K_searchKept) rfl rfl rfl (by decide +kernel) ⟨Nat.le_of_ble_eq_true rfl, Nat.le_of_ble_eq_true rfl⟩) ⟨kP_blind, va_recv hK hP (ci := 0) (q0 := 0) rfl (gs_n (by omega) (by omega) (by omega) (gw_0)), fun U hU hW => ⟨rfl, kP_at hK hP hD U hU hW⟩⟩ rfl rfl hl.1 rfl (lv_room (Nat.le_of_ble_eq_true rfl)) d_K_sweep_5 ⟨Nat.le_of_ble_eq_true rfl, Nat.le_of_ble_eq_true rfl⟩) hD hS hA (fun u H locs hu hP hD hS hz => ?_)
  subst hu
  have hP := kw_P (congrArg (wL (22 + 2 * n) ad) (gw_sw (S := sKept f th rt qu T w))) hP
  have hD := kw_D (congrArg (wL (22 + 2 * n) ad) (gw_sw (S := sKept f th rt qu T w))) hD
  refine lv_iconst (v := 0) hx hb d_K_sweep_8 (by decide) ?_
  refine lv_istore_n (lv' := [(1, .int 0), (0, .ref (ad 0))]) hx hb d_K_sweep_9 rfl hl (by decide) rfl (fun ls hl => ?_)
  refine lv_iconst (v := 0) hx hb d_K_sweep_10 (by decide) ?_
  refine lv_istore_n (lv' := [(2, .int 0), (1, .int 0), (0, .ref (ad 0))]) hx hb d_K_sweep_11 rfl hl (by decide) rfl (fun ls hl => ?_)
  have L1 : ∀ (Q : State → Prop) (rem i : Nat) (H : Heap) (locs : List Loc) (ls : Array Slot), i + rem = 300 → va_P D kCl (gW n ty ad f ((it (sW (sKept f th rt qu T w)) i (th, 0)).1) rt qu b (sKept f th rt qu T w) T g a o) H → va_D A (gW n ty ad f ((it (sW (sKept f th rt qu T w)) i (th, 0)).1) rt qu b (sKept f th rt qu T w) T g a o) → va_S A s.heap H locs → lv_has ls 3 [(0, .ref (ad 0)), (1, .int ((it (sW (sKept f th rt qu T w)) i (th, 0)).2)), (2, .int (nI i))] → (∀ (H : Heap) (locs : List Loc) (ls : Array Slot), va_P D kCl (gW n ty ad f ((it (sW (sKept f th rt qu T w)) 300 (th, 0)).1) rt qu b (sKept f th rt qu T w) T g a o) H → va_D A (gW n ty ad f ((it (sW (sKept f th rt qu T w)) 300 (th, 0)).1) rt qu b (sKept f th rt qu T w) T g a o) → va_S A s.heap H locs → lv_has ls 3 [(0, .ref (ad 0)), (1, .int ((it (sW (sKept f th rt qu T w)) 300 (th, 0)).2))] → W p l e (headSpec w_K_sweep ({ frames := 4, cells := 0, slots := 0, locals := 90 })).room s m ([.ref (ad 0)] : List Value).toArray below meth cd H locs 0 0 Q (F0 m 57 ls [])) → W p l e (headSpec w_K_sweep ({ frames := 4, cells := 0, slots := 0, locals := 90 })).room s m ([.ref (ad 0)] : List Value).toArray below meth cd H locs 0 0 Q (F0 m 12 ls []) := by
    intro Q rem
    induction rem with
    | zero =>
      intro i H locs ls hir_i hP hD hS hl kx
      obtain rfl : 300 = i := by omega
      refine lv_iload_n hx hb d_K_sweep_12 rfl (lv_at hl 2 rfl) ?_
      refine lv_aload_n hx hb d_K_sweep_13 rfl (lv_at hl 0 rfl) ?_
      refine va_get (D := D) (ci := 0) (v := .ref (ad 1)) (C := R_K) (T := F_K) (N := 12) hx hb hts (fun w h => kS1 w (i_K w h)) hown hK hP 0 gw_0 rfl 0 (by decide) (hts _ (kS1 _ m_K_11)) (fun _ h9 => h9) rfl d_K_sweep_14 ?_
      refine va_alen (v := 300) hx hb hK hP 1 2 gw_1 rfl rfl d_K_sweep_17 ?_
      refine lv_icmp_ge (tgt := 57) hx hb d_K_sweep_18 (by decide) (fun c_18' => ?_) (fun c_18' => absurd (nI_le (a := 300) (b := 300) (Nat.le_refl _) (by omega)) c_18')
      have hl := lv_sub (l' := [(0, .ref (ad 0)), (1, .int ((it (sW (sKept f th rt qu T w)) 300 (th, 0)).2))]) hl [0, 1] rfl
      exact kx _ _ ls hP hD hS hl
    | succ rem ih =>
      intro i H locs ls hir_i hP hD hS hl kx
      have hlt_i : i < 300 := by omega
      refine lv_iload_n hx hb d_K_sweep_12 rfl (lv_at hl 2 rfl) ?_
      refine lv_aload_n hx hb d_K_sweep_13 rfl (lv_at hl 0 rfl) ?_
      refine va_get (D := D) (ci := 0) (v := .ref (ad 1)) (C := R_K) (T := F_K) (N := 12) hx hb hts (fun w h => kS1 w (i_K w h)) hown hK hP 0 gw_0 rfl 0 (by decide) (hts _ (kS1 _ m_K_11)) (fun _ h9 => h9) rfl d_K_sweep_14 ?_
      refine va_alen (v := 300) hx hb hK hP 1 2 gw_1 rfl rfl d_K_sweep_17 ?_
      refine lv_icmp_ge (tgt := 57) hx hb d_K_sweep_18 (by decide) (fun c_18' => absurd c_18' (nI_ge (b := 300) hlt_i (by omega))) (fun c_18' => ?_)
      refine lv_aload_n hx hb d_K_sweep_21 rfl (lv_at hl 0 rfl) ?_
      refine va_get (D := D) (ci := 0) (v := .ref (ad 1)) (C := R_K) (T := F_K) (N := 12) hx hb hts (fun w h => kS1 w (i_K w h)) hown hK hP 0 gw_0 rfl 0 (by decide) (hts _ (kS1 _ m_K_11)) (fun _ h9 => h9) rfl d_K_sweep_22 ?_
      refine lv_iload_n hx hb d_K_sweep_25 rfl (lv_at hl 2 rfl) ?_
      refine va_aldq (f := thf ad ((it (sW (sKept f th rt qu T w)) i (th, 0)).1)) hx hb hK hP 1 2 gw_1 rfl (vp_in_nI hlt_i (by omega)) d_K_sweep_26 ?_
      rw [nI_clamp (n := i) (by omega)]
      by_cases hth_26 : ((it (sW (sKept f th rt qu T w)) i (th, 0)).1) i = true
      · rw [kth_t hth_26]
        refine lv_ifnull hx hb d_K_sweep_27 ?_
        refine lv_aload_n hx hb d_K_sweep_30 rfl (lv_at hl 0 rfl) ?_
        refine va_get (D := D) (ci := 0) (v := .ref (ad 7)) (C := R_K) (T := F_K) (N := 12) hx hb hts (fun w h => kS1 w (i_K w h)) hown hK hP 0 gw_0 rfl 6 (by decide) (hts _ (kS1 _ m_K_29)) (fun _ h9 => h9) rfl d_K_sweep_31 ?_
        refine lv_iload_n hx hb d_K_sweep_34 rfl (lv_at hl 2 rfl) ?_
        have hP := kw_P (congrArg (wL (22 + 2 * n) ad) (gw_sw (w := sKept f th rt qu T w) (S := sKept f th rt qu T w)).symm) hP
        have hD := kw_D (congrArg (wL (22 + 2 * n) ad) (gw_sw (w := sKept f th rt qu T w) (S := sKept f th rt qu T w)).symm) hD
        refine kc_R (va_runV (As := [.int (nI i)]) (rest := []) ⟨hx, hb, hml, hown, hts⟩ (c_S_has l D ty ad _ (22 + 2 * n) (gc ty ad f ((it (sW (sKept f th rt qu T w)) i (th, 0)).1) rt qu b (sKept f th rt qu T w) T g a o) 7 8 9 (sKept f th rt qu T w) (by omega) (by omega) (by omega) (by omega) (by omega) (by omega) (nI i)) (cwV 1 hts (kGV kS1 m_K_110 m_im_S_has m_sel_S_has m_ini_S m_code_S_has) rfl rfl rfl (by decide +kernel) ⟨Nat.le_of_ble_eq_true rfl, Nat.le_of_ble_eq_true rfl⟩) ⟨kP_blind, va_recv hK hP (ci := 1) (q0 := 7) rfl (sw_o (S := sKept f th rt qu T w) (by omega)), fun U hU hW => ⟨rfl, kP_at hK hP hD U hU hW⟩⟩ rfl rfl hl.1 rfl (lv_room (Nat.le_of_ble_eq_true rfl)) d_K_sweep_35 ⟨Nat.le_of_ble_eq_true rfl, Nat.le_of_ble_eq_true rfl⟩) ?_
        have hP := kw_P (congrArg (wL (22 + 2 * n) ad) (gw_sw (S := sKept f th rt qu T w))) hP
        have hD := kw_D (congrArg (wL (22 + 2 * n) ad) (gw_sw (S := sKept f th rt qu T w))) hD
        refine lv_if_ne (tgt := 51) hx hb d_K_sweep_38 (by decide) (fun c_38' => ?_) (fun c_38' => ?_)
        · refine lv_iinc (v := nI i + 1) (lv' := [(2, .int (nI i + 1)), (0, .ref (ad 0)), (1, .int ((it (sW (sKept f th rt qu T w)) i (th, 0)).2))]) hx hb d_K_sweep_51 hl (k := 2) rfl rfl (by decide) rfl (fun ls hl => ?_)
          refine lv_goto (tgt := 12) hx hb d_K_sweep_54 (by decide) ?_
          have hl := lv_sub (l' := [(0, .ref (ad 0)), (1, .int ((it (sW (sKept f th rt qu T w)) i (th, 0)).2)), (2, .int (nI i + 1))]) hl [1, 2, 0] rfl
          have hqq9 : (.int ((it (sW (sKept f th rt qu T w)) i (th, 0)).2) : Value) = .int ((it (sW (sKept f th rt qu T w)) (i + 1) (th, 0)).2) := by rw [it_s, sW]; simp [c_18', hth_26, c_38']
          rw [hqq9] at hl
          have hqq9 : (.int (nI i + 1) : Value) = .int (nI (i + 1)) := by rw [nI_1]
          rw [hqq9] at hl
          have hE : (gW n ty ad f ((it (sW (sKept f th rt qu T w)) i (th, 0)).1) rt qu b (sKept f th rt qu T w) T g a o : va_W) = gW n ty ad f ((it (sW (sKept f th rt qu T w)) (i + 1) (th, 0)).1) rt qu b (sKept f th rt qu T w) T g a o := by rw [it_s, sW]; simp [c_18', hth_26, c_38']
          have hP := kw_P hE hP
          have hD := kw_D hE hD
          exact ih (i + 1) _ _ ls (by omega) hP hD hS hl kx
        · refine lv_aload_n hx hb d_K_sweep_41 rfl (lv_at hl 0 rfl) ?_
          refine va_get (D := D) (ci := 0) (v := .ref (ad 1)) (C := R_K) (T := F_K) (N := 12) hx hb hts (fun w h => kS1 w (i_K w h)) hown hK hP 0 gw_0 rfl 0 (by decide) (hts _ (kS1 _ m_K_11)) (fun _ h9 => h9) rfl d_K_sweep_42 ?_
          refine lv_iload_n hx hb d_K_sweep_45 rfl (lv_at hl 2 rfl) ?_
          refine lv_null hx hb d_K_sweep_46 ?_
          refine va_astqN hx hb hK hP hD hS 1 2 gw_1 rfl (vp_in_nI hlt_i (by omega)) d_K_sweep_47 (fun H locs hP hD hS => ?_)
          rw [nI_clamp (n := i) (by omega)] at hP hD
          have hP := kw_P (gw_sth (i := i)) hP
          have hD := kw_D (gw_sth (i := i)) hD
          refine lv_iinc (v := (it (sW (sKept f th rt qu T w)) i (th, 0)).2 + 1) (lv' := [(1, .int ((it (sW (sKept f th rt qu T w)) i (th, 0)).2 + 1)), (0, .ref (ad 0)), (2, .int (nI i))]) hx hb d_K_sweep_48 hl (k := 1) rfl rfl (by decide) rfl (fun ls hl => ?_)
          refine lv_iinc (v := nI i + 1) (lv' := [(2, .int (nI i + 1)), (1, .int ((it (sW (sKept f th rt qu T w)) i (th, 0)).2 + 1)), (0, .ref (ad 0))]) hx hb d_K_sweep_51 hl (k := 2) rfl rfl (by decide) rfl (fun ls hl => ?_)
          refine lv_goto (tgt := 12) hx hb d_K_sweep_54 (by decide) ?_
          have hl := lv_sub (l' := [(0, .ref (ad 0)), (1, .int ((it (sW (sKept f th rt qu T w)) i (th, 0)).2 + 1)), (2, .int (nI i + 1))]) hl [2, 1, 0] rfl
          have hqq9 : (.int ((it (sW (sKept f th rt qu T w)) i (th, 0)).2 + 1) : Value) = .int ((it (sW (sKept f th rt qu T w)) (i + 1) (th, 0)).2) := by rw [it_s, sW]; simp [c_18', hth_26, c_38']
          rw [hqq9] at hl
          have hqq9 : (.int (nI i + 1) : Value) = .int (nI (i + 1)) := by rw [nI_1]
          rw [hqq9] at hl
          have hE : (gW n ty ad f (va_up ((it (sW (sKept f th rt qu T w)) i (th, 0)).1) i false) rt qu b (sKept f th rt qu T w) T g a o : va_W) = gW n ty ad f ((it (sW (sKept f th rt qu T w)) (i + 1) (th, 0)).1) rt qu b (sKept f th rt qu T w) T g a o := by rw [it_s, sW]; simp [c_18', hth_26, c_38']
          have hP := kw_P hE hP
          have hD := kw_D hE hD
          exact ih (i + 1) _ _ ls (by omega) hP hD hS hl kx
      · rw [kth_f hth_26]
        refine lv_ifnullN (tgt := 51) hx hb d_K_sweep_27 (by decide) ?_
        refine lv_iinc (v := nI i + 1) (lv' := [(2, .int (nI i + 1)), (0, .ref (ad 0)), (1, .int ((it (sW (sKept f th rt qu T w)) i (th, 0)).2))]) hx hb d_K_sweep_51 hl (k := 2) rfl rfl (by decide) rfl (fun ls hl => ?_)
        refine lv_goto (tgt := 12) hx hb d_K_sweep_54 (by decide) ?_
        have hl := lv_sub (l' := [(0, .ref (ad 0)), (1, .int ((it (sW (sKept f th rt qu T w)) i (th, 0)).2)), (2, .int (nI i + 1))]) hl [1, 2, 0] rfl
        have hqq9 : (.int ((it (sW (sKept f th rt qu T w)) i (th, 0)).2) : Value) = .int ((it (sW (sKept f th rt qu T w)) (i + 1) (th, 0)).2) := by rw [it_s, sW]; simp [c_18', hth_26]
        rw [hqq9] at hl
        have hqq9 : (.int (nI i + 1) : Value) = .int (nI (i + 1)) := by rw [nI_1]
        rw [hqq9] at hl
        have hE : (gW n ty ad f ((it (sW (sKept f th rt qu T w)) i (th, 0)).1) rt qu b (sKept f th rt qu T w) T g a o : va_W) = gW n ty ad f ((it (sW (sKept f th rt qu T w)) (i + 1) (th, 0)).1) rt qu b (sKept f th rt qu T w) T g a o := by rw [it_s, sW]; simp [c_18', hth_26]
        have hP := kw_P hE hP
        have hD := kw_D hE hD
        exact ih (i + 1) _ _ ls (by omega) hP hD hS hl kx
  have hl := lv_sub (l' := [(0, .ref (ad 0)), (1, .int 0), (2, .int 0)]) hl [2, 1, 0] rfl
  have hqq9 : (.int 0 : Value) = .int (nI 0) := by rw [nI_0]
  rw [hqq9] at hl
  refine L1 _ (300 - 0) 0 _ _ ls (by omega) hP hD hS hl (fun H locs ls hP hD hS hl => ?_)
  refine lv_aload_n hx hb d_K_sweep_57 rfl (lv_at hl 0 rfl) ?_
  refine lv_dup hx hb d_K_sweep_58 rfl ?_
  refine va_get (D := D) (ci := 0) (v := .int (f 8)) (C := R_K) (T := F_K) (N := 12) hx hb hts (fun w h => kS1 w (i_K w h)) hown hK hP 0 gw_0 rfl 8 (by decide) (hts _ (kS1 _ m_K_55)) (fun _ h9 => h9) rfl d_K_sweep_59 ?_
  refine lv_iload_n hx hb d_K_sweep_62 rfl (lv_at hl 1 rfl) ?_
  refine lv_isub hx hb d_K_sweep_63 ?_
  refine va_put (D := D) (ci := 0) (v := .int ((f 8) - ((it (sW (sKept f th rt qu T w)) 300 (th, 0)).2))) (ty := .int) (C := R_K) (T := F_K) (N := 12) hx hb hts (fun w h => kS1 w (i_K w h)) tt_K tt_K_ok n_K hown hK hP hD hS 0 gw_0 rfl 8 (by decide) (hts _ (kS1 _ m_K_55)) (fun _ h9 => h9) rfl (by decide +kernel) rfl rfl (Nat.le_of_ble_eq_true rfl) d_K_sweep_64 (fun H locs hP hD hS => ?_)
  have hP := kw_P (gw_sK8 (v := (f 8) - ((it (sW (sKept f th rt qu T w)) 300 (th, 0)).2))) hP
  have hD := kw_D (gw_sK8 (v := (f 8) - ((it (sW (sKept f th rt qu T w)) 300 (th, 0)).2))) hD
  refine lv_iload_n hx hb d_K_sweep_67 rfl (lv_at hl 1 rfl) ?_
  have hu : (gW n ty ad (upd f 8 ((f 8) - ((it (sW (sKept f th rt qu T w)) 300 (th, 0)).2))) ((it (sW (sKept f th rt qu T w)) 300 (th, 0)).1) rt qu b (sKept f th rt qu T w) T g a o : va_W) = gW n ty ad (upd f 8 (f 8 - (it (sW (sKept f th rt qu T w)) 300 (th, 0)).2)) ((it (sW (sKept f th rt qu T w)) 300 (th, 0)).1) rt qu b (sKept f th rt qu T w) T g a o := by rfl
  have hv : ((it (sW (sKept f th rt qu T w)) 300 (th, 0)).2 : Int32) = (it (sW (sKept f th rt qu T w)) 300 (th, 0)).2 := by simp []
  exact W.iret (v := (it (sW (sKept f th rt qu T w)) 300 (th, 0)).2) hx hb hr (fun t ht hW => ⟨⟨_, _, rfl, ⟨hv, hu⟩, by rw [ht]; exact hP, va_K.moved hW.alike hK, hD⟩, hS.F ht⟩) hS.2.2 d_K_sweep_68
set_option maxHeartbeats 4000000 in
set_option maxRecDepth 100000 in
/-- clear() -/
theorem c_K_clear (l : Launch) (D : va_G) (ty : Nat → ClassId) (ad : Nat → Nat) (sz : Nat) (n : Nat) (f : Nat → Int32) (th : Nat → Bool) (rt qu : Nat → Int32) (b w : SR) (T : Nat → TH) (g : Nat → Int32) (a : Nat → Nat → Int32) (o : Nat → Int64) (hn : ∀ k, th k = true → k < n) (h12 : ∀ k, (T k).2.2.2.1 ≤ 12) : Met l y_K_clear w_K_clear ({ frames := 4, cells := 0, slots := 0, locals := 88 }) (va_Pc [.ref (ad 0)] (kP D kCl (kTy ty) (gW n ty ad f th rt qu b w T g a o) sz)) (va_Qi (fun (r9 : Int32) (u9 : va_W) => r9 = ((it (qU th (sReach f th rt qu T b)) 300 (qu, f, T, 0)).2.2.2) ∧ u9 = (gW n ty ad (upd (it (fU th (sReach f th rt qu T b) (sReach (it (qU th (sReach f th rt qu T b)) 300 (qu, f, T, 0)).2.1 th rt (it (qU th (sReach f th rt qu T b)) 300 (qu, f, T, 0)).1 (it (qU th (sReach f th rt qu T b)) 300 (qu, f, T, 0)).2.2.1 w)) 300 ((it (qU th (sReach f th rt qu T b)) 300 (qu, f, T, 0)).2.2.1, (it (qU th (sReach f th rt qu T b)) 300 (qu, f, T, 0)).2.1)).2 10 ((it (fU th (sReach f th rt qu T b) (sReach (it (qU th (sReach f th rt qu T b)) 300 (qu, f, T, 0)).2.1 th rt (it (qU th (sReach f th rt qu T b)) 300 (qu, f, T, 0)).1 (it (qU th (sReach f th rt qu T b)) 300 (qu, f, T, 0)).2.2.1 w)) 300 ((it (qU th (sReach f th rt qu T b)) 300 (qu, f, T, 0)).2.2.1, (it (qU th (sReach f th rt qu T b)) 300 (qu, f, T, 0)).2.1)).2 10 + 1)) th rt ((it (qU th (sReach f th rt qu T b)) 300 (qu, f, T, 0)).1) (sReach f th rt qu T b) (sReach (it (qU th (sReach f th rt qu T b)) 300 (qu, f, T, 0)).2.1 th rt (it (qU th (sReach f th rt qu T b)) 300 (qu, f, T, 0)).1 (it (qU th (sReach f th rt qu T b)) 300 (qu, f, T, 0)).2.2.1 w) ((it (fU th (sReach f th rt qu T b) (sReach (it (qU th (sReach f th rt qu T b)) 300 (qu, f, T, 0)).2.1 th rt (it (qU th (sReach f th rt qu T b)) 300 (qu, f, T, 0)).1 (it (qU th (sReach f th rt qu T b)) 300 (qu, f, T, 0)).2.2.1 w)) 300 ((it (qU th (sReach f th rt qu T b)) 300 (qu, f, T, 0)).2.2.1, (it (qU th (sReach f th rt qu T b)) 300 (qu, f, T, 0)).2.1)).1) g a o)) (kB D kCl (kTy ty) (va_A (gW n ty ad f th rt qu b w T g a o) sz)) (va_A (gW n ty ad f th rt qu b w T g a o) sz)) 0 0 (va_A (gW n ty ad f th rt qu b w T g a o) sz) := by
  refine Met.ofW (cc := b_K_clear) (maxL := 2) (ret := (some .int)) (by decide) rfl ?_
  intro p e s m args below meth cd s₁ B hml hv
  obtain ⟨rfl, hsz, hP, hK, hD0⟩ := hv
  have hx := B.exec
  have hb := B.bytes
  have hr := B.returns
  have hts := atoms_spec (ws := w_K_clear) B.pre
  have hown : s.vm.findClass R_K = some m.cls := findClass_of_methodNamed B.named
  have hlocks := B.notSynchronized
  subst hsz
  have hD := hD0.self (sz := s.heap.size)
  generalize hAe : va_A (gW n ty ad f th rt qu b w T g a o) s.heap.size = A at hD ⊢
  have hA : ∀ q : Nat, s.heap.size ≤ q → A q := fun q h => by rw [← hAe]; exact Or.inr h
  have hS : va_S A s.heap s.heap [] := va_S.rf
  have hl := lv_entry ([.ref (ad 0)]) (n := 2) (Nat.le_of_ble_eq_true rfl)
  rw [lg_entry_eq]
  generalize (lg_sl ([.ref (ad 0)]) ++ List.replicate (2 - (lg_sl ([.ref (ad 0)])).length) Slot.unset).toArray = ls at hl ⊢
  have hl : lv_has ls 2 [(0, .ref (ad 0))] := hl
  refine lv_aload_n hx hb d_K_clear_0 rfl (lv_at hl 0 rfl) ?_
  refine lv_aload_n hx hb d_K_clear_1 rfl (lv_at hl 0 rfl) ?_
  refine va_get (D := D) (ci := 0) (v := .ref (ad 4)) (C := R_K) (T := F_K) (N := 12) hx hb hts (fun w h => kS1 w (i_K w h)) hown hK hP 0 gw_0 rfl 5 (by decide) (hts _ (kS1 _ m_K_25)) (fun _ h9 => h9) rfl d_K_clear_2 ?_
  have hP := kw_P (congrArg (wL (22 + 2 * n) ad) (gw_sb (b := b) (S := b)).symm) hP
  have hD := kw_D (congrArg (wL (22 + 2 * n) ad) (gw_sb (b := b) (S := b)).symm) hD
  refine kc_v (va_runV (As := [.ref (ad 4)]) (rest := []) ⟨hx, hb, hml, hown, hts⟩ (c_K_searchReached l D ty ad _ n f th rt qu b w T g a o 4 5 6 b (by omega) (by omega) (by omega) (by omega) (by omega) (by omega) hn h12) (cwV 1 hts (kGV kS1 m_K_74 m_im_K_searchReached m_sel_K_searchReached m_ini_K m_code_K_searchReached) rfl rfl rfl (by decide +kernel) ⟨Nat.le_of_ble_eq_true rfl, Nat.le_of_ble_eq_true rfl⟩) ⟨kP_blind, va_recv hK hP (ci := 0) (q0 := 0) rfl (gs_n (by omega) (by omega) (by omega) (gw_0)), fun U hU hW => ⟨rfl, kP_at hK hP hD U hU hW⟩⟩ rfl rfl hl.1 rfl (lv_room (Nat.le_of_ble_eq_true rfl)) d_K_clear_5 ⟨Nat.le_of_ble_eq_true rfl, Nat.le_of_ble_eq_true rfl⟩) hD hS hA (fun u H locs hu hP hD hS hz => ?_)
  subst hu
  have hP := kw_P (congrArg (wL (22 + 2 * n) ad) (gw_sb (S := sReach f th rt qu T b))) hP
  have hD := kw_D (congrArg (wL (22 + 2 * n) ad) (gw_sb (S := sReach f th rt qu T b))) hD
  refine lv_aload_n hx hb d_K_clear_8 rfl (lv_at hl 0 rfl) ?_
  refine kc_i (va_runV (As := []) (rest := []) ⟨hx, hb, hml, hown, hts⟩ (c_K_queueUnreached l D ty ad _ n f th rt qu (sReach f th rt qu T b) w T g a o hn) (cwV 0 hts (kGV kS1 m_K_78 m_im_K_queueUnreached m_sel_K_queueUnreached m_ini_K m_code_K_queueUnreached) rfl rfl rfl (by decide +kernel) ⟨Nat.le_of_ble_eq_true rfl, Nat.le_of_ble_eq_true rfl⟩) ⟨kP_blind, va_recv hK hP (ci := 0) (q0 := 0) rfl gw_0, fun U hU hW => ⟨rfl, kP_at hK hP hD U hU hW⟩⟩ rfl rfl hl.1 rfl (lv_room (Nat.le_of_ble_eq_true rfl)) d_K_clear_9 ⟨Nat.le_of_ble_eq_true rfl, Nat.le_of_ble_eq_true rfl⟩) hD hS hA (fun r u H locs hu hP hD hS hz => ?_)
  obtain ⟨rfl, rfl⟩ := hu
  refine lv_istore_n (lv' := [(1, .int ((it (qU th (sReach f th rt qu T b)) 300 (qu, f, T, 0)).2.2.2)), (0, .ref (ad 0))]) hx hb d_K_clear_12 rfl hl (by decide) rfl (fun ls hl => ?_)
  refine lv_aload_n hx hb d_K_clear_13 rfl (lv_at hl 1 rfl) ?_
  refine lv_aload_n hx hb d_K_clear_14 rfl (lv_at hl 1 rfl) ?_
  refine va_get (D := D) (ci := 0) (v := .ref (ad 7)) (C := R_K) (T := F_K) (N := 12) hx hb hts (fun w h => kS1 w (i_K w h)) hown hK hP 0 gw_0 rfl 6 (by decide) (hts _ (kS1 _ m_K_29)) (fun _ h9 => h9) rfl d_K_clear_15 ?_
  have hP := kw_P (congrArg (wL (22 + 2 * n) ad) (gw_sw (w := w) (S := w)).symm) hP
  have hD := kw_D (congrArg (wL (22 + 2 * n) ad) (gw_sw (w := w) (S := w)).symm) hD
  refine kc_v (va_runV (As := [.ref (ad 7)]) (rest := []) ⟨hx, hb, hml, hown, hts⟩ (c_K_searchReached l D ty ad _ n ((it (qU th (sReach f th rt qu T b)) 300 (qu, f, T, 0)).2.1) th rt ((it (qU th (sReach f th rt qu T b)) 300 (qu, f, T, 0)).1) (sReach f th rt qu T b) w ((it (qU th (sReach f th rt qu T b)) 300 (qu, f, T, 0)).2.2.1) g a o 7 8 9 w (by omega) (by omega) (by omega) (by omega) (by omega) (by omega) hn (qU_12 h12)) (cwV 1 hts (kGV kS1 m_K_74 m_im_K_searchReached m_sel_K_searchReached m_ini_K m_code_K_searchReached) rfl rfl rfl (by decide +kernel) ⟨Nat.le_of_ble_eq_true rfl, Nat.le_of_ble_eq_true rfl⟩) ⟨kP_blind, va_recv hK hP (ci := 0) (q0 := 0) rfl (gs_n (by omega) (by omega) (by omega) (gw_0)), fun U hU hW => ⟨rfl, kP_at hK hP hD U hU hW⟩⟩ rfl rfl hl.1 rfl (lv_room (Nat.le_of_ble_eq_true rfl)) d_K_clear_18 ⟨Nat.le_of_ble_eq_true rfl, Nat.le_of_ble_eq_true rfl⟩) hD hS hA (fun u H locs hu hP hD hS hz => ?_)
  subst hu
  have hP := kw_P (congrArg (wL (22 + 2 * n) ad) (gw_sw (S := sReach ((it (qU th (sReach f th rt qu T b)) 300 (qu, f, T, 0)).2.1) th rt ((it (qU th (sReach f th rt qu T b)) 300 (qu, f, T, 0)).1) ((it (qU th (sReach f th rt qu T b)) 300 (qu, f, T, 0)).2.2.1) w))) hP
  have hD := kw_D (congrArg (wL (22 + 2 * n) ad) (gw_sw (S := sReach ((it (qU th (sReach f th rt qu T b)) 300 (qu, f, T, 0)).2.1) th rt ((it (qU th (sReach f th rt qu T b)) 300 (qu, f, T, 0)).1) ((it (qU th (sReach f th rt qu T b)) 300 (qu, f, T, 0)).2.2.1) w))) hD
  refine lv_aload_n hx hb d_K_clear_21 rfl (lv_at hl 1 rfl) ?_
  refine kc_v (va_runV (As := []) (rest := []) ⟨hx, hb, hml, hown, hts⟩ (c_K_forgetUnreached l D ty ad _ n ((it (qU th (sReach f th rt qu T b)) 300 (qu, f, T, 0)).2.1) th rt ((it (qU th (sReach f th rt qu T b)) 300 (qu, f, T, 0)).1) (sReach f th rt qu T b) (sReach ((it (qU th (sReach f th rt qu T b)) 300 (qu, f, T, 0)).2.1) th rt ((it (qU th (sReach f th rt qu T b)) 300 (qu, f, T, 0)).1) ((it (qU th (sReach f th rt qu T b)) 300 (qu, f, T, 0)).2.2.1) w) ((it (qU th (sReach f th rt qu T b)) 300 (qu, f, T, 0)).2.2.1) g a o hn) (cwV 0 hts (kGV kS1 m_K_82 m_im_K_forgetUnreached m_sel_K_forgetUnreached m_ini_K m_code_K_forgetUnreached) rfl rfl rfl (by decide +kernel) ⟨Nat.le_of_ble_eq_true rfl, Nat.le_of_ble_eq_true rfl⟩) ⟨kP_blind, va_recv hK hP (ci := 0) (q0 := 0) rfl gw_0, fun U hU hW => ⟨rfl, kP_at hK hP hD U hU hW⟩⟩ rfl rfl hl.1 rfl (lv_room (Nat.le_of_ble_eq_true rfl)) d_K_clear_22 ⟨Nat.le_of_ble_eq_true rfl, Nat.le_of_ble_eq_true rfl⟩) hD hS hA (fun u H locs hu hP hD hS hz => ?_)
  subst hu
  refine lv_aload_n hx hb d_K_clear_25 rfl (lv_at hl 1 rfl) ?_
  refine lv_dup hx hb d_K_clear_26 rfl ?_
  refine va_get (D := D) (ci := 0) (v := .int (((it (fU th (sReach f th rt qu T b) (sReach ((it (qU th (sReach f th rt qu T b)) 300 (qu, f, T, 0)).2.1) th rt ((it (qU th (sReach f th rt qu T b)) 300 (qu, f, T, 0)).1) ((it (qU th (sReach f th rt qu T b)) 300 (qu, f, T, 0)).2.2.1) w)) 300 ((it (qU th (sReach f th rt qu T b)) 300 (qu, f, T, 0)).2.2.1, (it (qU th (sReach f th rt qu T b)) 300 (qu, f, T, 0)).2.1)).2) 10)) (C := R_K) (T := F_K) (N := 12) hx hb hts (fun w h => kS1 w (i_K w h)) hown hK hP 0 gw_0 rfl 10 (by decide) (hts _ (kS1 _ m_K_85)) (fun _ h9 => h9) rfl d_K_clear_27 ?_
  refine lv_iconst (v := 1) hx hb d_K_clear_30 (by decide) ?_
  refine lv_iadd hx hb d_K_clear_31 ?_
  refine va_put (D := D) (ci := 0) (v := .int ((((it (fU th (sReach f th rt qu T b) (sReach ((it (qU th (sReach f th rt qu T b)) 300 (qu, f, T, 0)).2.1) th rt ((it (qU th (sReach f th rt qu T b)) 300 (qu, f, T, 0)).1) ((it (qU th (sReach f th rt qu T b)) 300 (qu, f, T, 0)).2.2.1) w)) 300 ((it (qU th (sReach f th rt qu T b)) 300 (qu, f, T, 0)).2.2.1, (it (qU th (sReach f th rt qu T b)) 300 (qu, f, T, 0)).2.1)).2) 10) + 1)) (ty := .int) (C := R_K) (T := F_K) (N := 12) hx hb hts (fun w h => kS1 w (i_K w h)) tt_K tt_K_ok n_K hown hK hP hD hS 0 gw_0 rfl 10 (by decide) (hts _ (kS1 _ m_K_85)) (fun _ h9 => h9) rfl (by decide +kernel) rfl rfl (Nat.le_of_ble_eq_true rfl) d_K_clear_32 (fun H locs hP hD hS => ?_)
  have hP := kw_P (gw_sK10 (v := (((it (fU th (sReach f th rt qu T b) (sReach ((it (qU th (sReach f th rt qu T b)) 300 (qu, f, T, 0)).2.1) th rt ((it (qU th (sReach f th rt qu T b)) 300 (qu, f, T, 0)).1) ((it (qU th (sReach f th rt qu T b)) 300 (qu, f, T, 0)).2.2.1) w)) 300 ((it (qU th (sReach f th rt qu T b)) 300 (qu, f, T, 0)).2.2.1, (it (qU th (sReach f th rt qu T b)) 300 (qu, f, T, 0)).2.1)).2) 10) + 1)) hP
  have hD := kw_D (gw_sK10 (v := (((it (fU th (sReach f th rt qu T b) (sReach ((it (qU th (sReach f th rt qu T b)) 300 (qu, f, T, 0)).2.1) th rt ((it (qU th (sReach f th rt qu T b)) 300 (qu, f, T, 0)).1) ((it (qU th (sReach f th rt qu T b)) 300 (qu, f, T, 0)).2.2.1) w)) 300 ((it (qU th (sReach f th rt qu T b)) 300 (qu, f, T, 0)).2.2.1, (it (qU th (sReach f th rt qu T b)) 300 (qu, f, T, 0)).2.1)).2) 10) + 1)) hD
  refine lv_iload_n hx hb d_K_clear_35 rfl (lv_at hl 0 rfl) ?_
  have hu : (gW n ty ad (upd ((it (fU th (sReach f th rt qu T b) (sReach ((it (qU th (sReach f th rt qu T b)) 300 (qu, f, T, 0)).2.1) th rt ((it (qU th (sReach f th rt qu T b)) 300 (qu, f, T, 0)).1) ((it (qU th (sReach f th rt qu T b)) 300 (qu, f, T, 0)).2.2.1) w)) 300 ((it (qU th (sReach f th rt qu T b)) 300 (qu, f, T, 0)).2.2.1, (it (qU th (sReach f th rt qu T b)) 300 (qu, f, T, 0)).2.1)).2) 10 ((((it (fU th (sReach f th rt qu T b) (sReach ((it (qU th (sReach f th rt qu T b)) 300 (qu, f, T, 0)).2.1) th rt ((it (qU th (sReach f th rt qu T b)) 300 (qu, f, T, 0)).1) ((it (qU th (sReach f th rt qu T b)) 300 (qu, f, T, 0)).2.2.1) w)) 300 ((it (qU th (sReach f th rt qu T b)) 300 (qu, f, T, 0)).2.2.1, (it (qU th (sReach f th rt qu T b)) 300 (qu, f, T, 0)).2.1)).2) 10) + 1)) th rt ((it (qU th (sReach f th rt qu T b)) 300 (qu, f, T, 0)).1) (sReach f th rt qu T b) (sReach ((it (qU th (sReach f th rt qu T b)) 300 (qu, f, T, 0)).2.1) th rt ((it (qU th (sReach f th rt qu T b)) 300 (qu, f, T, 0)).1) ((it (qU th (sReach f th rt qu T b)) 300 (qu, f, T, 0)).2.2.1) w) ((it (fU th (sReach f th rt qu T b) (sReach ((it (qU th (sReach f th rt qu T b)) 300 (qu, f, T, 0)).2.1) th rt ((it (qU th (sReach f th rt qu T b)) 300 (qu, f, T, 0)).1) ((it (qU th (sReach f th rt qu T b)) 300 (qu, f, T, 0)).2.2.1) w)) 300 ((it (qU th (sReach f th rt qu T b)) 300 (qu, f, T, 0)).2.2.1, (it (qU th (sReach f th rt qu T b)) 300 (qu, f, T, 0)).2.1)).1) g a o : va_W) = gW n ty ad (upd (it (fU th (sReach f th rt qu T b) (sReach (it (qU th (sReach f th rt qu T b)) 300 (qu, f, T, 0)).2.1 th rt (it (qU th (sReach f th rt qu T b)) 300 (qu, f, T, 0)).1 (it (qU th (sReach f th rt qu T b)) 300 (qu, f, T, 0)).2.2.1 w)) 300 ((it (qU th (sReach f th rt qu T b)) 300 (qu, f, T, 0)).2.2.1, (it (qU th (sReach f th rt qu T b)) 300 (qu, f, T, 0)).2.1)).2 10 ((it (fU th (sReach f th rt qu T b) (sReach (it (qU th (sReach f th rt qu T b)) 300 (qu, f, T, 0)).2.1 th rt (it (qU th (sReach f th rt qu T b)) 300 (qu, f, T, 0)).1 (it (qU th (sReach f th rt qu T b)) 300 (qu, f, T, 0)).2.2.1 w)) 300 ((it (qU th (sReach f th rt qu T b)) 300 (qu, f, T, 0)).2.2.1, (it (qU th (sReach f th rt qu T b)) 300 (qu, f, T, 0)).2.1)).2 10 + 1)) th rt ((it (qU th (sReach f th rt qu T b)) 300 (qu, f, T, 0)).1) (sReach f th rt qu T b) (sReach (it (qU th (sReach f th rt qu T b)) 300 (qu, f, T, 0)).2.1 th rt (it (qU th (sReach f th rt qu T b)) 300 (qu, f, T, 0)).1 (it (qU th (sReach f th rt qu T b)) 300 (qu, f, T, 0)).2.2.1 w) ((it (fU th (sReach f th rt qu T b) (sReach (it (qU th (sReach f th rt qu T b)) 300 (qu, f, T, 0)).2.1 th rt (it (qU th (sReach f th rt qu T b)) 300 (qu, f, T, 0)).1 (it (qU th (sReach f th rt qu T b)) 300 (qu, f, T, 0)).2.2.1 w)) 300 ((it (qU th (sReach f th rt qu T b)) 300 (qu, f, T, 0)).2.2.1, (it (qU th (sReach f th rt qu T b)) 300 (qu, f, T, 0)).2.1)).1) g a o := by rfl
  have hv : ((it (qU th (sReach f th rt qu T b)) 300 (qu, f, T, 0)).2.2.2 : Int32) = (it (qU th (sReach f th rt qu T b)) 300 (qu, f, T, 0)).2.2.2 := by simp []
  exact W.iret (v := (it (qU th (sReach f th rt qu T b)) 300 (qu, f, T, 0)).2.2.2) hx hb hr (fun t ht hW => ⟨⟨_, _, rfl, ⟨hv, hu⟩, by rw [ht]; exact hP, va_K.moved hW.alike hK, hD⟩, hS.F ht⟩) hS.2.2 d_K_clear_36
set_option maxHeartbeats 4000000 in
set_option maxRecDepth 100000 in
/-- take() -/
theorem c_K_take (l : Launch) (D : va_G) (ty : Nat → ClassId) (ad : Nat → Nat) (sz : Nat) (n : Nat) (f : Nat → Int32) (th : Nat → Bool) (rt qu : Nat → Int32) (b w : SR) (T : Nat → TH) (g : Nat → Int32) (a : Nat → Nat → Int32) (o : Nat → Int64) (hn : ∀ k, th k = true → k < n) : Met l y_K_take w_K_take ({ frames := 2, cells := 0, slots := 0, locals := 42 }) (va_Pc [.ref (ad 0)] (kP D kCl (kTy ty) (gW n ty ad f th rt qu b w T g a o) sz)) (va_Qi (fun (r9 : Int32) (u9 : va_W) => r9 = (if 0 < f 4 - f 3 then kQp f qu 0 else -1) ∧ u9 = (gW n ty ad (if 0 < f 4 - f 3 then upd f 3 (f 3 + 1) else f) th rt qu b w (if 0 < f 4 - f 3 then (if tOk th (kQp f qu 0) = true then va_up T (kQp f qu 0).toNatClampNeg (0, (T (kQp f qu 0).toNatClampNeg).2) else T) else T) g a o)) (kB D kCl (kTy ty) (va_A (gW n ty ad f th rt qu b w T g a o) sz)) (va_A (gW n ty ad f th rt qu b w T g a o) sz)) 0 0 (va_A (gW n ty ad f th rt qu b w T g a o) sz) := by
  refine Met.ofW (cc := b_K_take) (maxL := 3) (ret := (some .int)) (by decide) rfl ?_
  intro p e s m args below meth cd s₁ B hml hv
  obtain ⟨rfl, hsz, hP, hK, hD0⟩ := hv
  have hx := B.exec
  have hb := B.bytes
  have hr := B.returns
  have hts := atoms_spec (ws := w_K_take) B.pre
  have hown : s.vm.findClass R_K = some m.cls := findClass_of_methodNamed B.named
  have hlocks := B.notSynchronized
  subst hsz
  have hD := hD0.self (sz := s.heap.size)
  generalize hAe : va_A (gW n ty ad f th rt qu b w T g a o) s.heap.size = A at hD ⊢
  have hA : ∀ q : Nat, s.heap.size ≤ q → A q := fun q h => by rw [← hAe]; exact Or.inr h
  have hS : va_S A s.heap s.heap [] := va_S.rf
  have hl := lv_entry ([.ref (ad 0)]) (n := 3) (Nat.le_of_ble_eq_true rfl)
  rw [lg_entry_eq]
  generalize (lg_sl ([.ref (ad 0)]) ++ List.replicate (3 - (lg_sl ([.ref (ad 0)])).length) Slot.unset).toArray = ls at hl ⊢
  have hl : lv_has ls 3 [(0, .ref (ad 0))] := hl
  refine lv_aload_n hx hb d_K_take_0 rfl (lv_at hl 0 rfl) ?_
  refine kc_R (va_runV (As := []) (rest := []) ⟨hx, hb, hml, hown, hts⟩ (c_K_queueSize l D ty ad _ (22 + 2 * n) (gc ty ad f th rt qu b w T g a o) f (by omega) rfl) (cwV 0 hts (kGV kS1 m_K_88 m_im_K_queueSize m_sel_K_queueSize m_ini_K m_code_K_queueSize) rfl rfl rfl (by decide +kernel) ⟨Nat.le_of_ble_eq_true rfl, Nat.le_of_ble_eq_true rfl⟩) ⟨kP_blind, va_recv hK hP (ci := 0) (q0 := 0) rfl gw_0, fun U hU hW => ⟨rfl, kP_at hK hP hD U hU hW⟩⟩ rfl rfl hl.1 rfl (lv_room (Nat.le_of_ble_eq_true rfl)) d_K_take_1 ⟨Nat.le_of_ble_eq_true rfl, Nat.le_of_ble_eq_true rfl⟩) ?_
  refine lv_if_gt (tgt := 9) hx hb d_K_take_4 (by decide) (fun c_4 => ?_) (fun c_4 => ?_)
  · refine lv_aload_n hx hb d_K_take_9 rfl (lv_at hl 0 rfl) ?_
    refine lv_iconst (v := 0) hx hb d_K_take_10 (by decide) ?_
    refine kc_R (va_runV (As := [.int 0]) (rest := []) ⟨hx, hb, hml, hown, hts⟩ (c_K_queuePlace l D ty ad _ (22 + 2 * n) (gc ty ad f th rt qu b w T g a o) f (by omega) rfl qu rfl 0) (cwV 1 hts (kGV kS1 m_K_91 m_im_K_queuePlace m_sel_K_queuePlace m_ini_K m_code_K_queuePlace) rfl rfl rfl (by decide +kernel) ⟨Nat.le_of_ble_eq_true rfl, Nat.le_of_ble_eq_true rfl⟩) ⟨kP_blind, va_recv hK hP (ci := 0) (q0 := 0) rfl gw_0, fun U hU hW => ⟨rfl, kP_at hK hP hD U hU hW⟩⟩ rfl rfl hl.1 rfl (lv_room (Nat.le_of_ble_eq_true rfl)) d_K_take_11 ⟨Nat.le_of_ble_eq_true rfl, Nat.le_of_ble_eq_true rfl⟩) ?_
    refine lv_istore_n (lv' := [(1, .int (kQp f qu 0)), (0, .ref (ad 0))]) hx hb d_K_take_14 rfl hl (by decide) rfl (fun ls hl => ?_)
    refine lv_aload_n hx hb d_K_take_15 rfl (lv_at hl 1 rfl) ?_
    refine lv_dup hx hb d_K_take_16 rfl ?_
    refine va_get (D := D) (ci := 0) (v := .int (f 3)) (C := R_K) (T := F_K) (N := 12) hx hb hts (fun w h => kS1 w (i_K w h)) hown hK hP 0 gw_0 rfl 3 (by decide) (hts _ (kS1 _ m_K_95)) (fun _ h9 => h9) rfl d_K_take_17 ?_
    refine lv_iconst (v := 1) hx hb d_K_take_20 (by decide) ?_
    refine lv_iadd hx hb d_K_take_21 ?_
    refine va_put (D := D) (ci := 0) (v := .int ((f 3) + 1)) (ty := .int) (C := R_K) (T := F_K) (N := 12) hx hb hts (fun w h => kS1 w (i_K w h)) tt_K tt_K_ok n_K hown hK hP hD hS 0 gw_0 rfl 3 (by decide) (hts _ (kS1 _ m_K_95)) (fun _ h9 => h9) rfl (by decide +kernel) rfl rfl (Nat.le_of_ble_eq_true rfl) d_K_take_22 (fun H locs hP hD hS => ?_)
    have hP := kw_P (gw_sK3 (v := (f 3) + 1)) hP
    have hD := kw_D (gw_sK3 (v := (f 3) + 1)) hD
    refine lv_aload_n hx hb d_K_take_25 rfl (lv_at hl 1 rfl) ?_
    refine lv_iload_n hx hb d_K_take_26 rfl (lv_at hl 0 rfl) ?_
    refine kc_R (va_runV (As := [.int (kQp f qu 0)]) (rest := []) ⟨hx, hb, hml, hown, hts⟩ (c_K_thingOrNull l D ty ad _ (22 + 2 * n) (gc ty ad (upd f 3 ((f 3) + 1)) th rt qu b w T g a o) (upd f 3 ((f 3) + 1)) (by omega) rfl th rfl (kQp f qu 0)) (cwV 1 hts (kGV kS1 m_K_98 m_im_K_thingOrNull m_sel_K_thingOrNull m_ini_K m_code_K_thingOrNull) rfl rfl rfl (by decide +kernel) ⟨Nat.le_of_ble_eq_true rfl, Nat.le_of_ble_eq_true rfl⟩) ⟨kP_blind, va_recv hK hP (ci := 0) (q0 := 0) rfl gw_0, fun U hU hW => ⟨rfl, kP_at hK hP hD U hU hW⟩⟩ rfl rfl hl.1 rfl (lv_room (Nat.le_of_ble_eq_true rfl)) d_K_take_27 ⟨Nat.le_of_ble_eq_true rfl, Nat.le_of_ble_eq_true rfl⟩) ?_
    by_cases hto_27 : tOk th (kQp f qu 0) = true
    · obtain ⟨k27, hk3_k27, he_k27, ht_k27⟩ := tOk_k hto_27
      rw [tOr_tt he_k27 hk3_k27 ht_k27]
      refine lv_astore_n (lv' := [(2, .ref (ad (22 + 2 * k27))), (1, .int (kQp f qu 0)), (0, .ref (ad 0))]) hx hb d_K_take_30 rfl hl (by decide) rfl (fun ls hl => ?_)
      refine lv_aload_n hx hb d_K_take_31 rfl (lv_at hl 0 rfl) ?_
      refine lv_ifnull hx hb d_K_take_32 ?_
      refine lv_aload_n hx hb d_K_take_35 rfl (lv_at hl 0 rfl) ?_
      refine lv_iconst (v := 0) hx hb d_K_take_36 (by decide) ?_
      refine va_put (D := D) (ci := 2) (v := .int 0) (ty := .int) (C := R_T) (T := F_T) (N := 4) hx hb hts (fun w h => kS1 w (i_T w h)) tt_T tt_T_ok n_T hown hK hP hD hS (22 + 2 * k27) (gw_T (k := k27) (hn _ ht_k27)) rfl 1 (by decide) (hts _ (kS1 _ m_K_102)) (fun _ h9 => h9) rfl (by decide +kernel) rfl rfl (Nat.le_of_ble_eq_true rfl) d_K_take_37 (fun H locs hP hD hS => ?_)
      have hP := kw_P (gw_sT (k := k27) (v1 := 0) (v2 := (T k27).2.1) (v3 := (T k27).2.2.1)) hP
      have hD := kw_D (gw_sT (k := k27) (v1 := 0) (v2 := (T k27).2.1) (v3 := (T k27).2.2.1)) hD
      refine lv_iload_n hx hb d_K_take_40 rfl (lv_at hl 1 rfl) ?_
      have hc27 : (kQp f qu 0).toNatClampNeg = k27 := by rw [he_k27, nI_clamp (by omega)]
      have hu : (gW n ty ad (upd f 3 ((f 3) + 1)) th rt qu b w (va_up T k27 (0, (T k27).2.1, (T k27).2.2.1, (T k27).2.2.2)) g a o : va_W) = gW n ty ad (if 0 < f 4 - f 3 then upd f 3 (f 3 + 1) else f) th rt qu b w (if 0 < f 4 - f 3 then (if tOk th (kQp f qu 0) = true then va_up T (kQp f qu 0).toNatClampNeg (0, (T (kQp f qu 0).toNatClampNeg).2) else T) else T) g a o := by simp [c_4, hto_27, hc27]
      have hv : (kQp f qu 0 : Int32) = if 0 < f 4 - f 3 then kQp f qu 0 else -1 := by simp [c_4, hto_27, hc27]
      exact W.iret (v := kQp f qu 0) hx hb hr (fun t ht hW => ⟨⟨_, _, rfl, ⟨hv, hu⟩, by rw [ht]; exact hP, va_K.moved hW.alike hK, hD⟩, hS.F ht⟩) hS.2.2 d_K_take_41
    · rw [tOr_f hto_27]
      refine lv_astore_nN (lv' := [(2, .null), (1, .int (kQp f qu 0)), (0, .ref (ad 0))]) hx hb d_K_take_30 rfl hl (by decide) rfl (fun ls hl => ?_)
      refine lv_aload_nN hx hb d_K_take_31 rfl (lv_at hl 0 rfl) ?_
      refine lv_ifnullN (tgt := 40) hx hb d_K_take_32 (by decide) ?_
      refine lv_iload_n hx hb d_K_take_40 rfl (lv_at hl 1 rfl) ?_
      have hu : (gW n ty ad (upd f 3 ((f 3) + 1)) th rt qu b w T g a o : va_W) = gW n ty ad (if 0 < f 4 - f 3 then upd f 3 (f 3 + 1) else f) th rt qu b w (if 0 < f 4 - f 3 then (if tOk th (kQp f qu 0) = true then va_up T (kQp f qu 0).toNatClampNeg (0, (T (kQp f qu 0).toNatClampNeg).2) else T) else T) g a o := by simp [c_4, hto_27]
      have hv : (kQp f qu 0 : Int32) = if 0 < f 4 - f 3 then kQp f qu 0 else -1 := by simp [c_4, hto_27]
      exact W.iret (v := kQp f qu 0) hx hb hr (fun t ht hW => ⟨⟨_, _, rfl, ⟨hv, hu⟩, by rw [ht]; exact hP, va_K.moved hW.alike hK, hD⟩, hS.F ht⟩) hS.2.2 d_K_take_41
  · refine lv_iconst (v := (-1)) hx hb d_K_take_7 (by decide) ?_
    have hu : (gW n ty ad f th rt qu b w T g a o : va_W) = gW n ty ad (if 0 < f 4 - f 3 then upd f 3 (f 3 + 1) else f) th rt qu b w (if 0 < f 4 - f 3 then (if tOk th (kQp f qu 0) = true then va_up T (kQp f qu 0).toNatClampNeg (0, (T (kQp f qu 0).toNatClampNeg).2) else T) else T) g a o := by simp [c_4]
    have hv : ((-1) : Int32) = if 0 < f 4 - f 3 then kQp f qu 0 else -1 := by simp [c_4]
    exact W.iret (v := (-1)) hx hb hr (fun t ht hW => ⟨⟨_, _, rfl, ⟨hv, hu⟩, by rw [ht]; exact hP, va_K.moved hW.alike hK, hD⟩, hS.F ht⟩) hS.2.2 d_K_take_8
set_option maxHeartbeats 4000000 in
set_option maxRecDepth 100000 in
/-- identity(k), k there -/
theorem c_K_identity (l : Launch) (D : va_G) (ty : Nat → ClassId) (ad : Nat → Nat) (sz : Nat) (n : Nat) (f : Nat → Int32) (th : Nat → Bool) (rt qu : Nat → Int32) (b w : SR) (T : Nat → TH) (g : Nat → Int32) (a : Nat → Nat → Int32) (o : Nat → Int64) (hn : ∀ k, th k = true → k < n) (hn3 : n ≤ 300) (k : Nat) (hk : th k = true) : Met l y_K_identity w_K_identity ({ frames := 2, cells := 0, slots := 0, locals := 43 }) (va_Pc [.ref (ad 0), .int (nI k)] (kP D kCl (kTy ty) (gW n ty ad f th rt qu b w T g a o) sz)) (va_Qi (fun (r9 : Int32) (u9 : va_W) => r9 = (if (T k).2.2.1 = -1 then f 11 else (T k).2.2.1) ∧ u9 = (gW n ty ad (if (T k).2.2.1 = -1 then upd f 11 (f 11 + 1) else f) th rt qu b w (if (T k).2.2.1 = -1 then va_up T k ((T k).1, (T k).2.1, f 11, (T k).2.2.2) else T) g a o)) (kB D kCl (kTy ty) (va_A (gW n ty ad f th rt qu b w T g a o) sz)) (va_A (gW n ty ad f th rt qu b w T g a o) sz)) 0 0 (va_A (gW n ty ad f th rt qu b w T g a o) sz) := by
  refine Met.ofW (cc := b_K_identity) (maxL := 3) (ret := (some .int)) (by decide) rfl ?_
  intro p e s m args below meth cd s₁ B hml hv
  obtain ⟨rfl, hsz, hP, hK, hD0⟩ := hv
  have hx := B.exec
  have hb := B.bytes
  have hr := B.returns
  have hts := atoms_spec (ws := w_K_identity) B.pre
  have hown : s.vm.findClass R_K = some m.cls := findClass_of_methodNamed B.named
  have hlocks := B.notSynchronized
  subst hsz
  have hD := hD0.self (sz := s.heap.size)
  generalize hAe : va_A (gW n ty ad f th rt qu b w T g a o) s.heap.size = A at hD ⊢
  have hA : ∀ q : Nat, s.heap.size ≤ q → A q := fun q h => by rw [← hAe]; exact Or.inr h
  have hS : va_S A s.heap s.heap [] := va_S.rf
  have hl := lv_entry ([.ref (ad 0), .int (nI k)]) (n := 3) (Nat.le_of_ble_eq_true rfl)
  rw [lg_entry_eq]
  generalize (lg_sl ([.ref (ad 0), .int (nI k)]) ++ List.replicate (3 - (lg_sl ([.ref (ad 0), .int (nI k)])).length) Slot.unset).toArray = ls at hl ⊢
  have hl : lv_has ls 3 [(0, .ref (ad 0)), (1, .int (nI k))] := hl
  refine lv_aload_n hx hb d_K_identity_0 rfl (lv_at hl 0 rfl) ?_
  refine lv_iload_n hx hb d_K_identity_1 rfl (lv_at hl 1 rfl) ?_
  refine kc_R (va_runV (As := [.int (nI k)]) (rest := []) ⟨hx, hb, hml, hown, hts⟩ (c_K_thingThere l D ty ad _ n f th rt qu b w T g a o hn hn3 k hk) (cwV 1 hts (kGV kS1 m_K_114 m_im_K_thingThere m_sel_K_thingThere m_ini_K m_code_K_thingThere) rfl rfl rfl (by decide +kernel) ⟨Nat.le_of_ble_eq_true rfl, Nat.le_of_ble_eq_true rfl⟩) ⟨kP_blind, va_recv hK hP (ci := 0) (q0 := 0) rfl gw_0, fun U hU hW => ⟨rfl, kP_at hK hP hD U hU hW⟩⟩ rfl rfl hl.1 rfl (lv_room (Nat.le_of_ble_eq_true rfl)) d_K_identity_2 ⟨Nat.le_of_ble_eq_true rfl, Nat.le_of_ble_eq_true rfl⟩) ?_
  refine lv_astore_n (lv' := [(2, .ref (ad (22 + 2 * k))), (0, .ref (ad 0)), (1, .int (nI k))]) hx hb d_K_identity_5 rfl hl (by decide) rfl (fun ls hl => ?_)
  refine lv_aload_n hx hb d_K_identity_6 rfl (lv_at hl 0 rfl) ?_
  refine va_get (D := D) (ci := 2) (v := .int ((T k).2.2.1)) (C := R_T) (T := F_T) (N := 4) hx hb hts (fun w h => kS1 w (i_T w h)) hown hK hP (22 + 2 * k) (gw_T (k := k) (hn k hk)) rfl 3 (by decide) (hts _ (kS1 _ m_K_117)) (fun _ h9 => h9) rfl d_K_identity_7 ?_
  refine lv_iconst (v := (-1)) hx hb d_K_identity_10 (by decide) ?_
  refine lv_icmp_ne (tgt := 32) hx hb d_K_identity_11 (by decide) (fun c_11 => ?_) (fun c_11 => ?_)
  · refine lv_aload_n hx hb d_K_identity_32 rfl (lv_at hl 0 rfl) ?_
    refine va_get (D := D) (ci := 2) (v := .int ((T k).2.2.1)) (C := R_T) (T := F_T) (N := 4) hx hb hts (fun w h => kS1 w (i_T w h)) hown hK hP (22 + 2 * k) (gw_T (k := k) (hn k hk)) rfl 3 (by decide) (hts _ (kS1 _ m_K_117)) (fun _ h9 => h9) rfl d_K_identity_33 ?_
    have hu : (gW n ty ad f th rt qu b w T g a o : va_W) = gW n ty ad (if (T k).2.2.1 = -1 then upd f 11 (f 11 + 1) else f) th rt qu b w (if (T k).2.2.1 = -1 then va_up T k ((T k).1, (T k).2.1, f 11, (T k).2.2.2) else T) g a o := by simp [va_up_s, c_11]
    have hv : ((T k).2.2.1 : Int32) = if (T k).2.2.1 = -1 then f 11 else (T k).2.2.1 := by simp [va_up_s, c_11]
    exact W.iret (v := (T k).2.2.1) hx hb hr (fun t ht hW => ⟨⟨_, _, rfl, ⟨hv, hu⟩, by rw [ht]; exact hP, va_K.moved hW.alike hK, hD⟩, hS.F ht⟩) hS.2.2 d_K_identity_36
  · refine lv_aload_n hx hb d_K_identity_14 rfl (lv_at hl 0 rfl) ?_
    refine lv_aload_n hx hb d_K_identity_15 rfl (lv_at hl 1 rfl) ?_
    refine va_get (D := D) (ci := 0) (v := .int (f 11)) (C := R_K) (T := F_K) (N := 12) hx hb hts (fun w h => kS1 w (i_K w h)) hown hK hP 0 gw_0 rfl 11 (by decide) (hts _ (kS1 _ m_K_120)) (fun _ h9 => h9) rfl d_K_identity_16 ?_
    refine va_put (D := D) (ci := 2) (v := .int (f 11)) (ty := .int) (C := R_T) (T := F_T) (N := 4) hx hb hts (fun w h => kS1 w (i_T w h)) tt_T tt_T_ok n_T hown hK hP hD hS (22 + 2 * k) (gw_T (k := k) (hn k hk)) rfl 3 (by decide) (hts _ (kS1 _ m_K_117)) (fun _ h9 => h9) rfl (by decide +kernel) rfl rfl (Nat.le_of_ble_eq_true rfl) d_K_identity_19 (fun H locs hP hD hS => ?_)
    have hP := kw_P (gw_sT (k := k) (v1 := (T k).1) (v2 := (T k).2.1) (v3 := f 11)) hP
    have hD := kw_D (gw_sT (k := k) (v1 := (T k).1) (v2 := (T k).2.1) (v3 := f 11)) hD
    refine lv_aload_n hx hb d_K_identity_22 rfl (lv_at hl 1 rfl) ?_
    refine lv_dup hx hb d_K_identity_23 rfl ?_
    refine va_get (D := D) (ci := 0) (v := .int (f 11)) (C := R_K) (T := F_K) (N := 12) hx hb hts (fun w h => kS1 w (i_K w h)) hown hK hP 0 gw_0 rfl 11 (by decide) (hts _ (kS1 _ m_K_120)) (fun _ h9 => h9) rfl d_K_identity_24 ?_
    refine lv_iconst (v := 1) hx hb d_K_identity_27 (by decide) ?_
    refine lv_iadd hx hb d_K_identity_28 ?_
    refine va_put (D := D) (ci := 0) (v := .int ((f 11) + 1)) (ty := .int) (C := R_K) (T := F_K) (N := 12) hx hb hts (fun w h => kS1 w (i_K w h)) tt_K tt_K_ok n_K hown hK hP hD hS 0 gw_0 rfl 11 (by decide) (hts _ (kS1 _ m_K_120)) (fun _ h9 => h9) rfl (by decide +kernel) rfl rfl (Nat.le_of_ble_eq_true rfl) d_K_identity_29 (fun H locs hP hD hS => ?_)
    have hP := kw_P (gw_sK11 (v := (f 11) + 1)) hP
    have hD := kw_D (gw_sK11 (v := (f 11) + 1)) hD
    refine lv_aload_n hx hb d_K_identity_32 rfl (lv_at hl 0 rfl) ?_
    refine va_get (D := D) (ci := 2) (v := .int (((va_up T k ((T k).1, (T k).2.1, f 11, (T k).2.2.2)) k).2.2.1)) (C := R_T) (T := F_T) (N := 4) hx hb hts (fun w h => kS1 w (i_T w h)) hown hK hP (22 + 2 * k) (gw_T (k := k) (hn k hk)) rfl 3 (by decide) (hts _ (kS1 _ m_K_117)) (fun _ h9 => h9) rfl d_K_identity_33 ?_
    have hu : (gW n ty ad (upd f 11 ((f 11) + 1)) th rt qu b w (va_up T k ((T k).1, (T k).2.1, f 11, (T k).2.2.2)) g a o : va_W) = gW n ty ad (if (T k).2.2.1 = -1 then upd f 11 (f 11 + 1) else f) th rt qu b w (if (T k).2.2.1 = -1 then va_up T k ((T k).1, (T k).2.1, f 11, (T k).2.2.2) else T) g a o := by simp [va_up_s, c_11]
    have hv : (((va_up T k ((T k).1, (T k).2.1, f 11, (T k).2.2.2)) k).2.2.1 : Int32) = if (T k).2.2.1 = -1 then f 11 else (T k).2.2.1 := by simp [va_up_s, c_11]
    exact W.iret (v := ((va_up T k ((T k).1, (T k).2.1, f 11, (T k).2.2.2)) k).2.2.1) hx hb hr (fun t ht hW => ⟨⟨_, _, rfl, ⟨hv, hu⟩, by rw [ht]; exact hP, va_K.moved hW.alike hK, hD⟩, hS.F ht⟩) hS.2.2 d_K_identity_36
set_option maxHeartbeats 4000000 in
set_option maxRecDepth 100000 in
/-- set(k, j, x), all there -/
theorem c_K_set (l : Launch) (D : va_G) (ty : Nat → ClassId) (ad : Nat → Nat) (sz : Nat) (n : Nat) (f : Nat → Int32) (th : Nat → Bool) (rt qu : Nat → Int32) (b w : SR) (T : Nat → TH) (g : Nat → Int32) (a : Nat → Nat → Int32) (o : Nat → Int64) (hn : ∀ k, th k = true → k < n) (hn3 : n ≤ 300) (k j : Nat) (x : Int32) (hk : th k = true) (hj : j < (T k).2.2.2.1) (h12 : (T k).2.2.2.1 ≤ 12) (hx0 : x = -1 ∨ tOk th x = true) : Met l y_K_set w_K_set ({ frames := 3, cells := 0, slots := 0, locals := 66 }) (va_Pc [.ref (ad 0), .int (nI k), .int (nI j), .int x] (kP D kCl (kTy ty) (gW n ty ad f th rt qu b w T g a o) sz)) (va_Qi (fun (r9 : Int32) (u9 : va_W) => r9 = ((T k).2.2.2.2 j) ∧ u9 = (gW n ty ad f th rt qu b w (va_up T k ((T k).1, (T k).2.1, (T k).2.2.1, (T k).2.2.2.1, upd (T k).2.2.2.2 j x)) g a o)) (kB D kCl (kTy ty) (va_A (gW n ty ad f th rt qu b w T g a o) sz)) (va_A (gW n ty ad f th rt qu b w T g a o) sz)) 0 0 (va_A (gW n ty ad f th rt qu b w T g a o) sz) := by
  refine Met.ofW (cc := b_K_set) (maxL := 6) (ret := (some .int)) (by decide) rfl ?_
  intro p e s m args below meth cd s₁ B hml hv
  obtain ⟨rfl, hsz, hP, hK, hD0⟩ := hv
  have hx := B.exec
  have hb := B.bytes
  have hr := B.returns
  have hts := atoms_spec (ws := w_K_set) B.pre
  have hown : s.vm.findClass R_K = some m.cls := findClass_of_methodNamed B.named
  have hlocks := B.notSynchronized
  subst hsz
  have hD := hD0.self (sz := s.heap.size)
  generalize hAe : va_A (gW n ty ad f th rt qu b w T g a o) s.heap.size = A at hD ⊢
  have hA : ∀ q : Nat, s.heap.size ≤ q → A q := fun q h => by rw [← hAe]; exact Or.inr h
  have hS : va_S A s.heap s.heap [] := va_S.rf
  have hl := lv_entry ([.ref (ad 0), .int (nI k), .int (nI j), .int x]) (n := 6) (Nat.le_of_ble_eq_true rfl)
  rw [lg_entry_eq]
  generalize (lg_sl ([.ref (ad 0), .int (nI k), .int (nI j), .int x]) ++ List.replicate (6 - (lg_sl ([.ref (ad 0), .int (nI k), .int (nI j), .int x])).length) Slot.unset).toArray = ls at hl ⊢
  have hl : lv_has ls 6 [(0, .ref (ad 0)), (1, .int (nI k)), (2, .int (nI j)), (3, .int x)] := hl
  refine lv_aload_n hx hb d_K_set_0 rfl (lv_at hl 0 rfl) ?_
  refine lv_iload_n hx hb d_K_set_1 rfl (lv_at hl 1 rfl) ?_
  refine lv_iload_n hx hb d_K_set_2 rfl (lv_at hl 2 rfl) ?_
  refine kc_R (va_runV (As := [.int (nI k), .int (nI j)]) (rest := []) ⟨hx, hb, hml, hown, hts⟩ (c_K_thingWithField l D ty ad _ n f th rt qu b w T g a o hn hn3 k j hk hj h12) (cwV 2 hts (kGV kS1 m_K_58 m_im_K_thingWithField m_sel_K_thingWithField m_ini_K m_code_K_thingWithField) rfl rfl rfl (by decide +kernel) ⟨Nat.le_of_ble_eq_true rfl, Nat.le_of_ble_eq_true rfl⟩) ⟨kP_blind, va_recv hK hP (ci := 0) (q0 := 0) rfl gw_0, fun U hU hW => ⟨rfl, kP_at hK hP hD U hU hW⟩⟩ rfl rfl hl.1 rfl (lv_room (Nat.le_of_ble_eq_true rfl)) d_K_set_3 ⟨Nat.le_of_ble_eq_true rfl, Nat.le_of_ble_eq_true rfl⟩) ?_
  refine lv_astore (lv' := [(4, .ref (ad (22 + 2 * k))), (0, .ref (ad 0)), (1, .int (nI k)), (2, .int (nI j)), (3, .int x)]) hx hb d_K_set_6 hl (by decide) rfl (fun ls hl => ?_)
  refine lv_aload_n hx hb d_K_set_8 rfl (lv_at hl 1 rfl) ?_
  refine lv_iload_n hx hb d_K_set_9 rfl (lv_at hl 4 rfl) ?_
  refine kc_R (va_runV (As := [.int x]) (rest := []) ⟨hx, hb, hml, hown, hts⟩ (c_K_needThingOrNone l D ty ad _ n f th rt qu b w T g a o x hx0) (cwV 1 hts (kGV kS1 m_K_62 m_im_K_needThingOrNone m_sel_K_needThingOrNone m_ini_K m_code_K_needThingOrNone) rfl rfl rfl (by decide +kernel) ⟨Nat.le_of_ble_eq_true rfl, Nat.le_of_ble_eq_true rfl⟩) ⟨kP_blind, va_recv hK hP (ci := 0) (q0 := 0) rfl gw_0, fun U hU hW => ⟨rfl, kP_at hK hP hD U hU hW⟩⟩ rfl rfl hl.1 rfl (lv_room (Nat.le_of_ble_eq_true rfl)) d_K_set_10 ⟨Nat.le_of_ble_eq_true rfl, Nat.le_of_ble_eq_true rfl⟩) ?_
  refine lv_aload hx hb d_K_set_13 (lv_at hl 0 rfl) ?_
  refine va_get (D := D) (ci := 2) (v := .ref (ad (23 + 2 * k))) (C := R_T) (T := F_T) (N := 4) hx hb hts (fun w h => kS1 w (i_T w h)) hown hK hP (22 + 2 * k) (gw_T (k := k) (hn k hk)) rfl 0 (by decide) (hts _ (kS1 _ m_K_66)) (fun _ h9 => h9) rfl d_K_set_15 ?_
  refine lv_iload_n hx hb d_K_set_18 rfl (lv_at hl 3 rfl) ?_
  refine va_iald (f := (T k).2.2.2.2) hx hb hK hP (23 + 2 * k) 0 (gw_F (k := k) (hn k hk)) rfl (vp_in_nI hj (by omega)) d_K_set_19 ?_
  rw [nI_clamp (n := j) (by omega)]
  refine lv_istore (lv' := [(5, .int (((T k).2.2.2.2) j)), (4, .ref (ad (22 + 2 * k))), (0, .ref (ad 0)), (1, .int (nI k)), (2, .int (nI j)), (3, .int x)]) hx hb d_K_set_20 hl (by decide) rfl (fun ls hl => ?_)
  refine lv_aload hx hb d_K_set_22 (lv_at hl 1 rfl) ?_
  refine va_get (D := D) (ci := 2) (v := .ref (ad (23 + 2 * k))) (C := R_T) (T := F_T) (N := 4) hx hb hts (fun w h => kS1 w (i_T w h)) hown hK hP (22 + 2 * k) (gw_T (k := k) (hn k hk)) rfl 0 (by decide) (hts _ (kS1 _ m_K_66)) (fun _ h9 => h9) rfl d_K_set_24 ?_
  refine lv_iload_n hx hb d_K_set_27 rfl (lv_at hl 4 rfl) ?_
  refine lv_iload_n hx hb d_K_set_28 rfl (lv_at hl 5 rfl) ?_
  refine va_iast (f := (T k).2.2.2.2) hx hb hK hP hD hS (23 + 2 * k) 0 (gw_F (k := k) (hn k hk)) rfl (vp_in_nI hj (by omega)) d_K_set_29 (fun H locs hP hD hS => ?_)
  rw [nI_clamp (n := j) (by omega)] at hP hD
  have hP := kw_P (gw_sF (k := k) (N := (T k).2.2.2.1) (r := upd ((T k).2.2.2.2) j x)) hP
  have hD := kw_D (gw_sF (k := k) (N := (T k).2.2.2.1) (r := upd ((T k).2.2.2.2) j x)) hD
  refine lv_iload hx hb d_K_set_30 (lv_at hl 0 rfl) ?_
  have hu : (gW n ty ad f th rt qu b w (va_up T k ((T k).1, (T k).2.1, (T k).2.2.1, (T k).2.2.2.1, upd ((T k).2.2.2.2) j x)) g a o : va_W) = gW n ty ad f th rt qu b w (va_up T k ((T k).1, (T k).2.1, (T k).2.2.1, (T k).2.2.2.1, upd (T k).2.2.2.2 j x)) g a o := by simp []
  have hv : (((T k).2.2.2.2) j : Int32) = (T k).2.2.2.2 j := by simp []
  exact W.iret (v := ((T k).2.2.2.2) j) hx hb hr (fun t ht hW => ⟨⟨_, _, rfl, ⟨hv, hu⟩, by rw [ht]; exact hP, va_K.moved hW.alike hK, hD⟩, hS.F ht⟩) hS.2.2 d_K_set_32
set_option maxHeartbeats 4000000 in
set_option maxRecDepth 100000 in
/-- root(r, x), both there -/
theorem c_K_root (l : Launch) (D : va_G) (ty : Nat → ClassId) (ad : Nat → Nat) (sz : Nat) (n : Nat) (f : Nat → Int32) (th : Nat → Bool) (rt qu : Nat → Int32) (b w : SR) (T : Nat → TH) (g : Nat → Int32) (a : Nat → Nat → Int32) (o : Nat → Int64) (r : Nat) (x : Int32) (hr16 : r < 16) (hx0 : x = -1 ∨ tOk th x = true) : Met l y_K_root w_K_root ({ frames := 2, cells := 0, slots := 0, locals := 42 }) (va_Pc [.ref (ad 0), .int (nI r), .int x] (kP D kCl (kTy ty) (gW n ty ad f th rt qu b w T g a o) sz)) (va_Qi (fun (r9 : Int32) (u9 : va_W) => r9 = (rt r) ∧ u9 = (gW n ty ad f th (upd rt r x) qu b w T g a o)) (kB D kCl (kTy ty) (va_A (gW n ty ad f th rt qu b w T g a o) sz)) (va_A (gW n ty ad f th rt qu b w T g a o) sz)) 0 0 (va_A (gW n ty ad f th rt qu b w T g a o) sz) := by
  refine Met.ofW (cc := b_K_root) (maxL := 4) (ret := (some .int)) (by decide) rfl ?_
  intro p e s m args below meth cd s₁ B hml hv
  obtain ⟨rfl, hsz, hP, hK, hD0⟩ := hv
  have hx := B.exec
  have hb := B.bytes
  have hr := B.returns
  have hts := atoms_spec (ws := w_K_root) B.pre
  have hown : s.vm.findClass R_K = some m.cls := findClass_of_methodNamed B.named
  have hlocks := B.notSynchronized
  subst hsz
  have hD := hD0.self (sz := s.heap.size)
  generalize hAe : va_A (gW n ty ad f th rt qu b w T g a o) s.heap.size = A at hD ⊢
  have hA : ∀ q : Nat, s.heap.size ≤ q → A q := fun q h => by rw [← hAe]; exact Or.inr h
  have hS : va_S A s.heap s.heap [] := va_S.rf
  have hl := lv_entry ([.ref (ad 0), .int (nI r), .int x]) (n := 4) (Nat.le_of_ble_eq_true rfl)
  rw [lg_entry_eq]
  generalize (lg_sl ([.ref (ad 0), .int (nI r), .int x]) ++ List.replicate (4 - (lg_sl ([.ref (ad 0), .int (nI r), .int x])).length) Slot.unset).toArray = ls at hl ⊢
  have hl : lv_has ls 4 [(0, .ref (ad 0)), (1, .int (nI r)), (2, .int x)] := hl
  refine lv_iload_n hx hb d_K_root_0 rfl (lv_at hl 1 rfl) ?_
  refine lv_if_lt (tgt := 13) hx hb d_K_root_1 (by decide) (fun c_1 => absurd c_1 (nI_pos (by omega))) (fun c_1 => ?_)
  refine lv_iload_n hx hb d_K_root_4 rfl (lv_at hl 1 rfl) ?_
  refine lv_aload_n hx hb d_K_root_5 rfl (lv_at hl 0 rfl) ?_
  refine va_get (D := D) (ci := 0) (v := .ref (ad 2)) (C := R_K) (T := F_K) (N := 12) hx hb hts (fun w h => kS1 w (i_K w h)) hown hK hP 0 gw_0 rfl 1 (by decide) (hts _ (kS1 _ m_K_15)) (fun _ h9 => h9) rfl d_K_root_6 ?_
  refine va_alen (v := 16) hx hb hK hP 2 0 gw_2 rfl rfl d_K_root_9 ?_
  refine lv_icmp_lt (tgt := 23) hx hb d_K_root_10 (by decide) (fun c_10 => ?_) (fun c_10 => absurd (nI_lt (b := 16) hr16 (by omega)) c_10)
  refine lv_aload_n hx hb d_K_root_23 rfl (lv_at hl 0 rfl) ?_
  refine lv_iload_n hx hb d_K_root_24 rfl (lv_at hl 2 rfl) ?_
  refine kc_R (va_runV (As := [.int x]) (rest := []) ⟨hx, hb, hml, hown, hts⟩ (c_K_needThingOrNone l D ty ad _ n f th rt qu b w T g a o x hx0) (cwV 1 hts (kGV kS1 m_K_62 m_im_K_needThingOrNone m_sel_K_needThingOrNone m_ini_K m_code_K_needThingOrNone) rfl rfl rfl (by decide +kernel) ⟨Nat.le_of_ble_eq_true rfl, Nat.le_of_ble_eq_true rfl⟩) ⟨kP_blind, va_recv hK hP (ci := 0) (q0 := 0) rfl gw_0, fun U hU hW => ⟨rfl, kP_at hK hP hD U hU hW⟩⟩ rfl rfl hl.1 rfl (lv_room (Nat.le_of_ble_eq_true rfl)) d_K_root_25 ⟨Nat.le_of_ble_eq_true rfl, Nat.le_of_ble_eq_true rfl⟩) ?_
  refine lv_aload_n hx hb d_K_root_28 rfl (lv_at hl 0 rfl) ?_
  refine va_get (D := D) (ci := 0) (v := .ref (ad 2)) (C := R_K) (T := F_K) (N := 12) hx hb hts (fun w h => kS1 w (i_K w h)) hown hK hP 0 gw_0 rfl 1 (by decide) (hts _ (kS1 _ m_K_15)) (fun _ h9 => h9) rfl d_K_root_29 ?_
  refine lv_iload_n hx hb d_K_root_32 rfl (lv_at hl 1 rfl) ?_
  refine va_iald (f := rt) hx hb hK hP 2 0 gw_2 rfl (vp_in_nI hr16 (by omega)) d_K_root_33 ?_
  rw [nI_clamp (n := r) (by omega)]
  refine lv_istore_n (lv' := [(3, .int (rt r)), (0, .ref (ad 0)), (1, .int (nI r)), (2, .int x)]) hx hb d_K_root_34 rfl hl (by decide) rfl (fun ls hl => ?_)
  refine lv_aload_n hx hb d_K_root_35 rfl (lv_at hl 1 rfl) ?_
  refine va_get (D := D) (ci := 0) (v := .ref (ad 2)) (C := R_K) (T := F_K) (N := 12) hx hb hts (fun w h => kS1 w (i_K w h)) hown hK hP 0 gw_0 rfl 1 (by decide) (hts _ (kS1 _ m_K_15)) (fun _ h9 => h9) rfl d_K_root_36 ?_
  refine lv_iload_n hx hb d_K_root_39 rfl (lv_at hl 2 rfl) ?_
  refine lv_iload_n hx hb d_K_root_40 rfl (lv_at hl 3 rfl) ?_
  refine va_iast (f := rt) hx hb hK hP hD hS 2 0 gw_2 rfl (vp_in_nI hr16 (by omega)) d_K_root_41 (fun H locs hP hD hS => ?_)
  rw [nI_clamp (n := r) (by omega)] at hP hD
  have hP := kw_P (gw_srt (r := upd rt r x)) hP
  have hD := kw_D (gw_srt (r := upd rt r x)) hD
  refine lv_iload_n hx hb d_K_root_42 rfl (lv_at hl 0 rfl) ?_
  have hu : (gW n ty ad f th (upd rt r x) qu b w T g a o : va_W) = gW n ty ad f th (upd rt r x) qu b w T g a o := by simp [c_1, c_10]
  have hv : (rt r : Int32) = rt r := by simp [c_1, c_10]
  exact W.iret (v := rt r) hx hb hr (fun t ht hW => ⟨⟨_, _, rfl, ⟨hv, hu⟩, by rw [ht]; exact hP, va_K.moved hW.alike hK, hD⟩, hS.F ht⟩) hS.2.2 d_K_root_43
set_option maxHeartbeats 4000000 in
set_option maxRecDepth 100000 in
/-- about(k, 0), k there -/
theorem c_K_about0 (l : Launch) (D : va_G) (ty : Nat → ClassId) (ad : Nat → Nat) (sz : Nat) (n : Nat) (f : Nat → Int32) (th : Nat → Bool) (rt qu : Nat → Int32) (b w : SR) (T : Nat → TH) (g : Nat → Int32) (a : Nat → Nat → Int32) (o : Nat → Int64) (hn : ∀ k, th k = true → k < n) (hn3 : n ≤ 300) (h12 : ∀ k, (T k).2.2.2.1 ≤ 12) (k : Nat) (hk : th k = true) : Met l y_K_about w_K_about ({ frames := 4, cells := 0, slots := 0, locals := 90 }) (va_Pc [.ref (ad 0), .int (nI k), .int 0] (kP D kCl (kTy ty) (gW n ty ad f th rt qu b w T g a o) sz)) (va_Qi (fun (r9 : Int32) (u9 : va_W) => r9 = ((T k).1) ∧ u9 = (gW n ty ad f th rt qu b w T g a o)) (kB D kCl (kTy ty) (va_A (gW n ty ad f th rt qu b w T g a o) sz)) (va_A (gW n ty ad f th rt qu b w T g a o) sz)) 0 0 (va_A (gW n ty ad f th rt qu b w T g a o) sz) := by
  refine Met.ofW (cc := b_K_about) (maxL := 4) (ret := (some .int)) (by decide) rfl ?_
  intro p e s m args below meth cd s₁ B hml hv
  obtain ⟨rfl, hsz, hP, hK, hD0⟩ := hv
  have hx := B.exec
  have hb := B.bytes
  have hr := B.returns
  have hts := atoms_spec (ws := w_K_about) B.pre
  have hown : s.vm.findClass R_K = some m.cls := findClass_of_methodNamed B.named
  have hlocks := B.notSynchronized
  subst hsz
  have hD := hD0.self (sz := s.heap.size)
  generalize hAe : va_A (gW n ty ad f th rt qu b w T g a o) s.heap.size = A at hD ⊢
  have hA : ∀ q : Nat, s.heap.size ≤ q → A q := fun q h => by rw [← hAe]; exact Or.inr h
  have hS : va_S A s.heap s.heap [] := va_S.rf
  have hl := lv_entry ([.ref (ad 0), .int (nI k), .int 0]) (n := 4) (Nat.le_of_ble_eq_true rfl)
  rw [lg_entry_eq]
  generalize (lg_sl ([.ref (ad 0), .int (nI k), .int 0]) ++ List.replicate (4 - (lg_sl ([.ref (ad 0), .int (nI k), .int 0])).length) Slot.unset).toArray = ls at hl ⊢
  have hl : lv_has ls 4 [(0, .ref (ad 0)), (1, .int (nI k)), (2, .int 0)] := hl
  refine lv_aload_n hx hb d_K_about_0 rfl (lv_at hl 0 rfl) ?_
  refine lv_iload_n hx hb d_K_about_1 rfl (lv_at hl 1 rfl) ?_
  refine kc_R (va_runV (As := [.int (nI k)]) (rest := []) ⟨hx, hb, hml, hown, hts⟩ (c_K_thingThere l D ty ad _ n f th rt qu b w T g a o hn hn3 k hk) (cwV 1 hts (kGV kS1 m_K_114 m_im_K_thingThere m_sel_K_thingThere m_ini_K m_code_K_thingThere) rfl rfl rfl (by decide +kernel) ⟨Nat.le_of_ble_eq_true rfl, Nat.le_of_ble_eq_true rfl⟩) ⟨kP_blind, va_recv hK hP (ci := 0) (q0 := 0) rfl gw_0, fun U hU hW => ⟨rfl, kP_at hK hP hD U hU hW⟩⟩ rfl rfl hl.1 rfl (lv_room (Nat.le_of_ble_eq_true rfl)) d_K_about_2 ⟨Nat.le_of_ble_eq_true rfl, Nat.le_of_ble_eq_true rfl⟩) ?_
  refine lv_astore_n (lv' := [(3, .ref (ad (22 + 2 * k))), (0, .ref (ad 0)), (1, .int (nI k)), (2, .int 0)]) hx hb d_K_about_5 rfl hl (by decide) rfl (fun ls hl => ?_)
  refine lv_iload_n hx hb d_K_about_6 rfl (lv_at hl 3 rfl) ?_
  refine lv_tableIn (off := 29) (tgt := 36) hx hb d_K_about_7 (by decide) (by decide) rfl (by decide) ?_
  refine lv_aload_n hx hb d_K_about_36 rfl (lv_at hl 0 rfl) ?_
  refine va_get (D := D) (ci := 2) (v := .int ((T k).1)) (C := R_T) (T := F_T) (N := 4) hx hb hts (fun w h => kS1 w (i_T w h)) hown hK hP (22 + 2 * k) (gw_T (k := k) (hn k hk)) rfl 1 (by decide) (hts _ (kS1 _ m_K_102)) (fun _ h9 => h9) rfl d_K_about_37 ?_
  have hu : (gW n ty ad f th rt qu b w T g a o : va_W) = gW n ty ad f th rt qu b w T g a o := by rfl
  have hv : ((T k).1 : Int32) = (T k).1 := by simp
  exact W.iret (v := (T k).1) hx hb hr (fun t ht hW => ⟨⟨_, _, rfl, ⟨hv, hu⟩, by rw [ht]; exact hP, va_K.moved hW.alike hK, hD⟩, hS.F ht⟩) hS.2.2 d_K_about_40
set_option maxHeartbeats 4000000 in
set_option maxRecDepth 100000 in
/-- about(k, 1), k there -/
theorem c_K_about1 (l : Launch) (D : va_G) (ty : Nat → ClassId) (ad : Nat → Nat) (sz : Nat) (n : Nat) (f : Nat → Int32) (th : Nat → Bool) (rt qu : Nat → Int32) (b w : SR) (T : Nat → TH) (g : Nat → Int32) (a : Nat → Nat → Int32) (o : Nat → Int64) (hn : ∀ k, th k = true → k < n) (hn3 : n ≤ 300) (h12 : ∀ k, (T k).2.2.2.1 ≤ 12) (k : Nat) (hk : th k = true) : Met l y_K_about w_K_about ({ frames := 4, cells := 0, slots := 0, locals := 90 }) (va_Pc [.ref (ad 0), .int (nI k), .int 1] (kP D kCl (kTy ty) (gW n ty ad f th rt qu b w T g a o) sz)) (va_Qi (fun (r9 : Int32) (u9 : va_W) => r9 = (nI (T k).2.2.2.1) ∧ u9 = (gW n ty ad f th rt qu b w T g a o)) (kB D kCl (kTy ty) (va_A (gW n ty ad f th rt qu b w T g a o) sz)) (va_A (gW n ty ad f th rt qu b w T g a o) sz)) 0 0 (va_A (gW n ty ad f th rt qu b w T g a o) sz) := by
  refine Met.ofW (cc := b_K_about) (maxL := 4) (ret := (some .int)) (by decide) rfl ?_
  intro p e s m args below meth cd s₁ B hml hv
  obtain ⟨rfl, hsz, hP, hK, hD0⟩ := hv
  have hx := B.exec
  have hb := B.bytes
  have hr := B.returns
  have hts := atoms_spec (ws := w_K_about) B.pre
  have hown : s.vm.findClass R_K = some m.cls := findClass_of_methodNamed B.named
  have hlocks := B.notSynchronized
  subst hsz
  have hD := hD0.self (sz := s.heap.size)
  generalize hAe : va_A (gW n ty ad f th rt qu b w T g a o) s.heap.size = A at hD ⊢
  have hA : ∀ q : Nat, s.heap.size ≤ q → A q := fun q h => by rw [← hAe]; exact Or.inr h
  have hS : va_S A s.heap s.heap [] := va_S.rf
  have hl := lv_entry ([.ref (ad 0), .int (nI k), .int 1]) (n := 4) (Nat.le_of_ble_eq_true rfl)
  rw [lg_entry_eq]
  generalize (lg_sl ([.ref (ad 0), .int (nI k), .int 1]) ++ List.replicate (4 - (lg_sl ([.ref (ad 0), .int (nI k), .int 1])).length) Slot.unset).toArray = ls at hl ⊢
  have hl : lv_has ls 4 [(0, .ref (ad 0)), (1, .int (nI k)), (2, .int 1)] := hl
  refine lv_aload_n hx hb d_K_about_0 rfl (lv_at hl 0 rfl) ?_
  refine lv_iload_n hx hb d_K_about_1 rfl (lv_at hl 1 rfl) ?_
  refine kc_R (va_runV (As := [.int (nI k)]) (rest := []) ⟨hx, hb, hml, hown, hts⟩ (c_K_thingThere l D ty ad _ n f th rt qu b w T g a o hn hn3 k hk) (cwV 1 hts (kGV kS1 m_K_114 m_im_K_thingThere m_sel_K_thingThere m_ini_K m_code_K_thingThere) rfl rfl rfl (by decide +kernel) ⟨Nat.le_of_ble_eq_true rfl, Nat.le_of_ble_eq_true rfl⟩) ⟨kP_blind, va_recv hK hP (ci := 0) (q0 := 0) rfl gw_0, fun U hU hW => ⟨rfl, kP_at hK hP hD U hU hW⟩⟩ rfl rfl hl.1 rfl (lv_room (Nat.le_of_ble_eq_true rfl)) d_K_about_2 ⟨Nat.le_of_ble_eq_true rfl, Nat.le_of_ble_eq_true rfl⟩) ?_
  refine lv_astore_n (lv' := [(3, .ref (ad (22 + 2 * k))), (0, .ref (ad 0)), (1, .int (nI k)), (2, .int 1)]) hx hb d_K_about_5 rfl hl (by decide) rfl (fun ls hl => ?_)
  refine lv_iload_n hx hb d_K_about_6 rfl (lv_at hl 3 rfl) ?_
  refine lv_tableIn (off := 34) (tgt := 41) hx hb d_K_about_7 (by decide) (by decide) rfl (by decide) ?_
  refine lv_aload_n hx hb d_K_about_41 rfl (lv_at hl 0 rfl) ?_
  refine va_get (D := D) (ci := 2) (v := .ref (ad (23 + 2 * k))) (C := R_T) (T := F_T) (N := 4) hx hb hts (fun w h => kS1 w (i_T w h)) hown hK hP (22 + 2 * k) (gw_T (k := k) (hn k hk)) rfl 0 (by decide) (hts _ (kS1 _ m_K_66)) (fun _ h9 => h9) rfl d_K_about_42 ?_
  refine va_alen (v := nI ((T k).2.2.2.1)) hx hb hK hP (23 + 2 * k) 0 (gw_F (k := k) (hn k hk)) rfl rfl d_K_about_45 ?_
  have hu : (gW n ty ad f th rt qu b w T g a o : va_W) = gW n ty ad f th rt qu b w T g a o := by rfl
  have hv : (nI ((T k).2.2.2.1) : Int32) = nI (T k).2.2.2.1 := by simp
  exact W.iret (v := nI ((T k).2.2.2.1)) hx hb hr (fun t ht hW => ⟨⟨_, _, rfl, ⟨hv, hu⟩, by rw [ht]; exact hP, va_K.moved hW.alike hK, hD⟩, hS.F ht⟩) hS.2.2 d_K_about_46
set_option maxHeartbeats 4000000 in
set_option maxRecDepth 100000 in
/-- about(k, 2), k there -/
theorem c_K_about2 (l : Launch) (D : va_G) (ty : Nat → ClassId) (ad : Nat → Nat) (sz : Nat) (n : Nat) (f : Nat → Int32) (th : Nat → Bool) (rt qu : Nat → Int32) (b w : SR) (T : Nat → TH) (g : Nat → Int32) (a : Nat → Nat → Int32) (o : Nat → Int64) (hn : ∀ k, th k = true → k < n) (hn3 : n ≤ 300) (h12 : ∀ k, (T k).2.2.2.1 ≤ 12) (k : Nat) (hk : th k = true) : Met l y_K_about w_K_about ({ frames := 4, cells := 0, slots := 0, locals := 90 }) (va_Pc [.ref (ad 0), .int (nI k), .int 2] (kP D kCl (kTy ty) (gW n ty ad f th rt qu b w T g a o) sz)) (va_Qi (fun (r9 : Int32) (u9 : va_W) => r9 = (sHas (sReach f th rt qu T w) (nI k)) ∧ u9 = (gW n ty ad f th rt qu b (sReach f th rt qu T w) T g a o)) (kB D kCl (kTy ty) (va_A (gW n ty ad f th rt qu b w T g a o) sz)) (va_A (gW n ty ad f th rt qu b w T g a o) sz)) 0 0 (va_A (gW n ty ad f th rt qu b w T g a o) sz) := by
  refine Met.ofW (cc := b_K_about) (maxL := 4) (ret := (some .int)) (by decide) rfl ?_
  intro p e s m args below meth cd s₁ B hml hv
  obtain ⟨rfl, hsz, hP, hK, hD0⟩ := hv
  have hx := B.exec
  have hb := B.bytes
  have hr := B.returns
  have hts := atoms_spec (ws := w_K_about) B.pre
  have hown : s.vm.findClass R_K = some m.cls := findClass_of_methodNamed B.named
  have hlocks := B.notSynchronized
  subst hsz
  have hD := hD0.self (sz := s.heap.size)
  generalize hAe : va_A (gW n ty ad f th rt qu b w T g a o) s.heap.size = A at hD ⊢
  have hA : ∀ q : Nat, s.heap.size ≤ q → A q := fun q h => by rw [← hAe]; exact Or.inr h
  have hS : va_S A s.heap s.heap [] := va_S.rf
  have hl := lv_entry ([.ref (ad 0), .int (nI k), .int 2]) (n := 4) (Nat.le_of_ble_eq_true rfl)
  rw [lg_entry_eq]
  generalize (lg_sl ([.ref (ad 0), .int (nI k), .int 2]) ++ List.replicate (4 - (lg_sl ([.ref (ad 0), .int (nI k), .int 2])).length) Slot.unset).toArray = ls at hl ⊢
  have hl : lv_has ls 4 [(0, .ref (ad 0)), (1, .int (nI k)), (2, .int 2)] := hl
  refine lv_aload_n hx hb d_K_about_0 rfl (lv_at hl 0 rfl) ?_
  refine lv_iload_n hx hb d_K_about_1 rfl (lv_at hl 1 rfl) ?_
  refine kc_R (va_runV (As := [.int (nI k)]) (rest := []) ⟨hx, hb, hml, hown, hts⟩ (c_K_thingThere l D ty ad _ n f th rt qu b w T g a o hn hn3 k hk) (cwV 1 hts (kGV kS1 m_K_114 m_im_K_thingThere m_sel_K_thingThere m_ini_K m_code_K_thingThere) rfl rfl rfl (by decide +kernel) ⟨Nat.le_of_ble_eq_true rfl, Nat.le_of_ble_eq_true rfl⟩) ⟨kP_blind, va_recv hK hP (ci := 0) (q0 := 0) rfl gw_0, fun U hU hW => ⟨rfl, kP_at hK hP hD U hU hW⟩⟩ rfl rfl hl.1 rfl (lv_room (Nat.le_of_ble_eq_true rfl)) d_K_about_2 ⟨Nat.le_of_ble_eq_true rfl, Nat.le_of_ble_eq_true rfl⟩) ?_
  refine lv_astore_n (lv' := [(3, .ref (ad (22 + 2 * k))), (0, .ref (ad 0)), (1, .int (nI k)), (2, .int 2)]) hx hb d_K_about_5 rfl hl (by decide) rfl (fun ls hl => ?_)
  refine lv_iload_n hx hb d_K_about_6 rfl (lv_at hl 3 rfl) ?_
  refine lv_tableIn (off := 40) (tgt := 47) hx hb d_K_about_7 (by decide) (by decide) rfl (by decide) ?_
  refine lv_aload_n hx hb d_K_about_47 rfl (lv_at hl 1 rfl) ?_
  refine lv_aload_n hx hb d_K_about_48 rfl (lv_at hl 1 rfl) ?_
  refine va_get (D := D) (ci := 0) (v := .ref (ad 7)) (C := R_K) (T := F_K) (N := 12) hx hb hts (fun w h => kS1 w (i_K w h)) hown hK hP 0 gw_0 rfl 6 (by decide) (hts _ (kS1 _ m_K_29)) (fun _ h9 => h9) rfl d_K_about_49 ?_
  have hP := kw_P (congrArg (wL (22 + 2 * n) ad) (gw_sw (w := w) (S := w)).symm) hP
  have hD := kw_D (congrArg (wL (22 + 2 * n) ad) (gw_sw (w := w) (S := w)).symm) hD
  refine kc_v (va_runV (As := [.ref (ad 7)]) (rest := []) ⟨hx, hb, hml, hown, hts⟩ (c_K_searchReached l D ty ad _ n f th rt qu b w T g a o 7 8 9 w (by omega) (by omega) (by omega) (by omega) (by omega) (by omega) hn h12) (cwV 1 hts (kGV kS1 m_K_74 m_im_K_searchReached m_sel_K_searchReached m_ini_K m_code_K_searchReached) rfl rfl rfl (by decide +kernel) ⟨Nat.le_of_ble_eq_true rfl, Nat.le_of_ble_eq_true rfl⟩) ⟨kP_blind, va_recv hK hP (ci := 0) (q0 := 0) rfl (gs_n (by omega) (by omega) (by omega) (gw_0)), fun U hU hW => ⟨rfl, kP_at hK hP hD U hU hW⟩⟩ rfl rfl hl.1 rfl (lv_room (Nat.le_of_ble_eq_true rfl)) d_K_about_52 ⟨Nat.le_of_ble_eq_true rfl, Nat.le_of_ble_eq_true rfl⟩) hD hS hA (fun u H locs hu hP hD hS hz => ?_)
  subst hu
  have hP := kw_P (congrArg (wL (22 + 2 * n) ad) (gw_sw (S := sReach f th rt qu T w))) hP
  have hD := kw_D (congrArg (wL (22 + 2 * n) ad) (gw_sw (S := sReach f th rt qu T w))) hD
  refine lv_aload_n hx hb d_K_about_55 rfl (lv_at hl 1 rfl) ?_
  refine va_get (D := D) (ci := 0) (v := .ref (ad 7)) (C := R_K) (T := F_K) (N := 12) hx hb hts (fun w h => kS1 w (i_K w h)) hown hK hP 0 gw_0 rfl 6 (by decide) (hts _ (kS1 _ m_K_29)) (fun _ h9 => h9) rfl d_K_about_56 ?_
  refine lv_iload_n hx hb d_K_about_59 rfl (lv_at hl 2 rfl) ?_
  have hP := kw_P (congrArg (wL (22 + 2 * n) ad) (gw_sw (w := sReach f th rt qu T w) (S := sReach f th rt qu T w)).symm) hP
  have hD := kw_D (congrArg (wL (22 + 2 * n) ad) (gw_sw (w := sReach f th rt qu T w) (S := sReach f th rt qu T w)).symm) hD
  refine kc_R (va_runV (As := [.int (nI k)]) (rest := []) ⟨hx, hb, hml, hown, hts⟩ (c_S_has l D ty ad _ (22 + 2 * n) (gc ty ad f th rt qu b (sReach f th rt qu T w) T g a o) 7 8 9 (sReach f th rt qu T w) (by omega) (by omega) (by omega) (by omega) (by omega) (by omega) (nI k)) (cwV 1 hts (kGV kS1 m_K_110 m_im_S_has m_sel_S_has m_ini_S m_code_S_has) rfl rfl rfl (by decide +kernel) ⟨Nat.le_of_ble_eq_true rfl, Nat.le_of_ble_eq_true rfl⟩) ⟨kP_blind, va_recv hK hP (ci := 1) (q0 := 7) rfl (sw_o (S := sReach f th rt qu T w) (by omega)), fun U hU hW => ⟨rfl, kP_at hK hP hD U hU hW⟩⟩ rfl rfl hl.1 rfl (lv_room (Nat.le_of_ble_eq_true rfl)) d_K_about_60 ⟨Nat.le_of_ble_eq_true rfl, Nat.le_of_ble_eq_true rfl⟩) ?_
  have hP := kw_P (congrArg (wL (22 + 2 * n) ad) (gw_sw (S := sReach f th rt qu T w))) hP
  have hD := kw_D (congrArg (wL (22 + 2 * n) ad) (gw_sw (S := sReach f th rt qu T w))) hD
  refine lv_if_eq (tgt := 70) hx hb d_K_about_63 (by decide) (fun c_63 => ?_) (fun c_63 => ?_)
  · refine lv_iconst (v := 0) hx hb d_K_about_70 (by decide) ?_
    have hu : (gW n ty ad f th rt qu b (sReach f th rt qu T w) T g a o : va_W) = gW n ty ad f th rt qu b (sReach f th rt qu T w) T g a o := by rfl
    have hv : (0 : Int32) = sHas (sReach f th rt qu T w) (nI k) := by rw [c_63]
    exact W.iret (v := 0) hx hb hr (fun t ht hW => ⟨⟨_, _, rfl, ⟨hv, hu⟩, by rw [ht]; exact hP, va_K.moved hW.alike hK, hD⟩, hS.F ht⟩) hS.2.2 d_K_about_71
  · refine lv_iconst (v := 1) hx hb d_K_about_66 (by decide) ?_
    refine lv_goto (tgt := 71) hx hb d_K_about_67 (by decide) ?_
    have hu : (gW n ty ad f th rt qu b (sReach f th rt qu T w) T g a o : va_W) = gW n ty ad f th rt qu b (sReach f th rt qu T w) T g a o := by rfl
    have hv : (1 : Int32) = sHas (sReach f th rt qu T w) (nI k) := by exact (sHas_1 c_63).symm
    exact W.iret (v := 1) hx hb hr (fun t ht hW => ⟨⟨_, _, rfl, ⟨hv, hu⟩, by rw [ht]; exact hP, va_K.moved hW.alike hK, hD⟩, hS.F ht⟩) hS.2.2 d_K_about_71
set_option maxHeartbeats 4000000 in
set_option maxRecDepth 100000 in
/-- about(k, 3), k there -/
theorem c_K_about3 (l : Launch) (D : va_G) (ty : Nat → ClassId) (ad : Nat → Nat) (sz : Nat) (n : Nat) (f : Nat → Int32) (th : Nat → Bool) (rt qu : Nat → Int32) (b w : SR) (T : Nat → TH) (g : Nat → Int32) (a : Nat → Nat → Int32) (o : Nat → Int64) (hn : ∀ k, th k = true → k < n) (hn3 : n ≤ 300) (h12 : ∀ k, (T k).2.2.2.1 ≤ 12) (k : Nat) (hk : th k = true) : Met l y_K_about w_K_about ({ frames := 4, cells := 0, slots := 0, locals := 90 }) (va_Pc [.ref (ad 0), .int (nI k), .int 3] (kP D kCl (kTy ty) (gW n ty ad f th rt qu b w T g a o) sz)) (va_Qi (fun (r9 : Int32) (u9 : va_W) => r9 = (sHas (sKept f th rt qu T w) (nI k)) ∧ u9 = (gW n ty ad f th rt qu b (sKept f th rt qu T w) T g a o)) (kB D kCl (kTy ty) (va_A (gW n ty ad f th rt qu b w T g a o) sz)) (va_A (gW n ty ad f th rt qu b w T g a o) sz)) 0 0 (va_A (gW n ty ad f th rt qu b w T g a o) sz) := by
  refine Met.ofW (cc := b_K_about) (maxL := 4) (ret := (some .int)) (by decide) rfl ?_
  intro p e s m args below meth cd s₁ B hml hv
  obtain ⟨rfl, hsz, hP, hK, hD0⟩ := hv
  have hx := B.exec
  have hb := B.bytes
  have hr := B.returns
  have hts := atoms_spec (ws := w_K_about) B.pre
  have hown : s.vm.findClass R_K = some m.cls := findClass_of_methodNamed B.named
  have hlocks := B.notSynchronized
  subst hsz
  have hD := hD0.self (sz := s.heap.size)
  generalize hAe : va_A (gW n ty ad f th rt qu b w T g a o) s.heap.size = A at hD ⊢
  have hA : ∀ q : Nat, s.heap.size ≤ q → A q := fun q h => by rw [← hAe]; exact Or.inr h
  have hS : va_S A s.heap s.heap [] := va_S.rf
  have hl := lv_entry ([.ref (ad 0), .int (nI k), .int 3]) (n := 4) (Nat.le_of_ble_eq_true rfl)
  rw [lg_entry_eq]
  generalize (lg_sl ([.ref (ad 0), .int (nI k), .int 3]) ++ List.replicate (4 - (lg_sl ([.ref (ad 0), .int (nI k), .int 3])).length) Slot.unset).toArray = ls at hl ⊢
  have hl : lv_has ls 4 [(0, .ref (ad 0)), (1, .int (nI k)), (2, .int 3)] := hl
  refine lv_aload_n hx hb d_K_about_0 rfl (lv_at hl 0 rfl) ?_
  refine lv_iload_n hx hb d_K_about_1 rfl (lv_at hl 1 rfl) ?_
  refine kc_R (va_runV (As := [.int (nI k)]) (rest := []) ⟨hx, hb, hml, hown, hts⟩ (c_K_thingThere l D ty ad _ n f th rt qu b w T g a o hn hn3 k hk) (cwV 1 hts (kGV kS1 m_K_114 m_im_K_thingThere m_sel_K_thingThere m_ini_K m_code_K_thingThere) rfl rfl rfl (by decide +kernel) ⟨Nat.le_of_ble_eq_true rfl, Nat.le_of_ble_eq_true rfl⟩) ⟨kP_blind, va_recv hK hP (ci := 0) (q0 := 0) rfl gw_0, fun U hU hW => ⟨rfl, kP_at hK hP hD U hU hW⟩⟩ rfl rfl hl.1 rfl (lv_room (Nat.le_of_ble_eq_true rfl)) d_K_about_2 ⟨Nat.le_of_ble_eq_true rfl, Nat.le_of_ble_eq_true rfl⟩) ?_
  refine lv_astore_n (lv' := [(3, .ref (ad (22 + 2 * k))), (0, .ref (ad 0)), (1, .int (nI k)), (2, .int 3)]) hx hb d_K_about_5 rfl hl (by decide) rfl (fun ls hl => ?_)
  refine lv_iload_n hx hb d_K_about_6 rfl (lv_at hl 3 rfl) ?_
  refine lv_tableIn (off := 65) (tgt := 72) hx hb d_K_about_7 (by decide) (by decide) rfl (by decide) ?_
  refine lv_aload_n hx hb d_K_about_72 rfl (lv_at hl 1 rfl) ?_
  refine lv_aload_n hx hb d_K_about_73 rfl (lv_at hl 1 rfl) ?_
  refine va_get (D := D) (ci := 0) (v := .ref (ad 7)) (C := R_K) (T := F_K) (N := 12) hx hb hts (fun w h => kS1 w (i_K w h)) hown hK hP 0 gw_0 rfl 6 (by decide) (hts _ (kS1 _ m_K_29)) (fun _ h9 => h9) rfl d_K_about_74 ?_
  have hP := kw_P (congrArg (wL (22 + 2 * n) ad) (gw_sw (w := w) (S := w)).symm) hP
  have hD := kw_D (congrArg (wL (22 + 2 * n) ad) (gw_sw (w := w) (S := w)).symm) hD
  refine kc_v (va_runV (As := [.ref (ad 7)]) (rest := []) ⟨hx, hb, hml, hown, hts⟩ (c_K_searchKept l D ty ad _ n f th rt qu b w T g a o 7 8 9 w (by omega) (by omega) (by omega) (by omega) (by omega) (by omega) hn h12) (cwV 1 hts (kGV kS1 m_K_107 m_im_K_searchKept m_sel_K_searchKept m_ini_K m_code_K_searchKept) rfl rfl rfl (by decide +kernel) ⟨Nat.le_of_ble_eq_true rfl, Nat.le_of_ble_eq_true rfl⟩) ⟨kP_blind, va_recv hK hP (ci := 0) (q0 := 0) rfl (gs_n (by omega) (by omega) (by omega) (gw_0)), fun U hU hW => ⟨rfl, kP_at hK hP hD U hU hW⟩⟩ rfl rfl hl.1 rfl (lv_room (Nat.le_of_ble_eq_true rfl)) d_K_about_77 ⟨Nat.le_of_ble_eq_true rfl, Nat.le_of_ble_eq_true rfl⟩) hD hS hA (fun u H locs hu hP hD hS hz => ?_)
  subst hu
  have hP := kw_P (congrArg (wL (22 + 2 * n) ad) (gw_sw (S := sKept f th rt qu T w))) hP
  have hD := kw_D (congrArg (wL (22 + 2 * n) ad) (gw_sw (S := sKept f th rt qu T w))) hD
  refine lv_aload_n hx hb d_K_about_80 rfl (lv_at hl 1 rfl) ?_
  refine va_get (D := D) (ci := 0) (v := .ref (ad 7)) (C := R_K) (T := F_K) (N := 12) hx hb hts (fun w h => kS1 w (i_K w h)) hown hK hP 0 gw_0 rfl 6 (by decide) (hts _ (kS1 _ m_K_29)) (fun _ h9 => h9) rfl d_K_about_81 ?_
  refine lv_iload_n hx hb d_K_about_84 rfl (lv_at hl 2 rfl) ?_
  have hP := kw_P (congrArg (wL (22 + 2 * n) ad) (gw_sw (w := sKept f th rt qu T w) (S := sKept f th rt qu T w)).symm) hP
  have hD := kw_D (congrArg (wL (22 + 2 * n) ad) (gw_sw (w := sKept f th rt qu T w) (S := sKept f th rt qu T w)).symm) hD
  refine kc_R (va_runV (As := [.int (nI k)]) (rest := []) ⟨hx, hb, hml, hown, hts⟩ (c_S_has l D ty ad _ (22 + 2 * n) (gc ty ad f th rt qu b (sKept f th rt qu T w) T g a o) 7 8 9 (sKept f th rt qu T w) (by omega) (by omega) (by omega) (by omega) (by omega) (by omega) (nI k)) (cwV 1 hts (kGV kS1 m_K_110 m_im_S_has m_sel_S_has m_ini_S m_code_S_has) rfl rfl rfl (by decide +kernel) ⟨Nat.le_of_ble_eq_true rfl, Nat.le_of_ble_eq_true rfl⟩) ⟨kP_blind, va_recv hK hP (ci := 1) (q0 := 7) rfl (sw_o (S := sKept f th rt qu T w) (by omega)), fun U hU hW => ⟨rfl, kP_at hK hP hD U hU hW⟩⟩ rfl rfl hl.1 rfl (lv_room (Nat.le_of_ble_eq_true rfl)) d_K_about_85 ⟨Nat.le_of_ble_eq_true rfl, Nat.le_of_ble_eq_true rfl⟩) ?_
  have hP := kw_P (congrArg (wL (22 + 2 * n) ad) (gw_sw (S := sKept f th rt qu T w))) hP
  have hD := kw_D (congrArg (wL (22 + 2 * n) ad) (gw_sw (S := sKept f th rt qu T w))) hD
  refine lv_if_eq (tgt := 95) hx hb d_K_about_88 (by decide) (fun c_88 => ?_) (fun c_88 => ?_)
  · refine lv_iconst (v := 0) hx hb d_K_about_95 (by decide) ?_
    have hu : (gW n ty ad f th rt qu b (sKept f th rt qu T w) T g a o : va_W) = gW n ty ad f th rt qu b (sKept f th rt qu T w) T g a o := by rfl
    have hv : (0 : Int32) = sHas (sKept f th rt qu T w) (nI k) := by rw [c_88]
    exact W.iret (v := 0) hx hb hr (fun t ht hW => ⟨⟨_, _, rfl, ⟨hv, hu⟩, by rw [ht]; exact hP, va_K.moved hW.alike hK, hD⟩, hS.F ht⟩) hS.2.2 d_K_about_96
  · refine lv_iconst (v := 1) hx hb d_K_about_91 (by decide) ?_
    refine lv_goto (tgt := 96) hx hb d_K_about_92 (by decide) ?_
    have hu : (gW n ty ad f th rt qu b (sKept f th rt qu T w) T g a o : va_W) = gW n ty ad f th rt qu b (sKept f th rt qu T w) T g a o := by rfl
    have hv : (1 : Int32) = sHas (sKept f th rt qu T w) (nI k) := by exact (sHas_1 c_88).symm
    exact W.iret (v := 1) hx hb hr (fun t ht hW => ⟨⟨_, _, rfl, ⟨hv, hu⟩, by rw [ht]; exact hP, va_K.moved hW.alike hK, hD⟩, hS.F ht⟩) hS.2.2 d_K_about_96
set_option maxHeartbeats 4000000 in
set_option maxRecDepth 100000 in
/-- count(0) -/
theorem c_K_count0 (l : Launch) (D : va_G) (ty : Nat → ClassId) (ad : Nat → Nat) (sz : Nat) (n : Nat) (f : Nat → Int32) (th : Nat → Bool) (rt qu : Nat → Int32) (b w : SR) (T : Nat → TH) (g : Nat → Int32) (a : Nat → Nat → Int32) (o : Nat → Int64) (hn : ∀ k, th k = true → k < n) (h12 : ∀ k, (T k).2.2.2.1 ≤ 12) : Met l y_K_count w_K_count ({ frames := 4, cells := 0, slots := 0, locals := 90 }) (va_Pc [.ref (ad 0), .int 0] (kP D kCl (kTy ty) (gW n ty ad f th rt qu b w T g a o) sz)) (va_Qi (fun (r9 : Int32) (u9 : va_W) => r9 = (f 8) ∧ u9 = (gW n ty ad f th rt qu b w T g a o)) (kB D kCl (kTy ty) (va_A (gW n ty ad f th rt qu b w T g a o) sz)) (va_A (gW n ty ad f th rt qu b w T g a o) sz)) 0 0 (va_A (gW n ty ad f th rt qu b w T g a o) sz) := by
  refine Met.ofW (cc := b_K_count) (maxL := 2) (ret := (some .int)) (by decide) rfl ?_
  intro p e s m args below meth cd s₁ B hml hv
  obtain ⟨rfl, hsz, hP, hK, hD0⟩ := hv
  have hx := B.exec
  have hb := B.bytes
  have hr := B.returns
  have hts := atoms_spec (ws := w_K_count) B.pre
  have hown : s.vm.findClass R_K = some m.cls := findClass_of_methodNamed B.named
  have hlocks := B.notSynchronized
  subst hsz
  have hD := hD0.self (sz := s.heap.size)
  generalize hAe : va_A (gW n ty ad f th rt qu b w T g a o) s.heap.size = A at hD ⊢
  have hA : ∀ q : Nat, s.heap.size ≤ q → A q := fun q h => by rw [← hAe]; exact Or.inr h
  have hS : va_S A s.heap s.heap [] := va_S.rf
  have hl := lv_entry ([.ref (ad 0), .int 0]) (n := 2) (Nat.le_of_ble_eq_true rfl)
  rw [lg_entry_eq]
  generalize (lg_sl ([.ref (ad 0), .int 0]) ++ List.replicate (2 - (lg_sl ([.ref (ad 0), .int 0])).length) Slot.unset).toArray = ls at hl ⊢
  have hl : lv_has ls 2 [(0, .ref (ad 0)), (1, .int 0)] := hl
  refine lv_iload_n hx hb d_K_count_0 rfl (lv_at hl 1 rfl) ?_
  refine lv_tableIn (off := 51) (tgt := 52) hx hb d_K_count_1 (by decide) (by decide) rfl (by decide) ?_
  refine lv_aload_n hx hb d_K_count_52 rfl (lv_at hl 0 rfl) ?_
  refine va_get (D := D) (ci := 0) (v := .int (f 8)) (C := R_K) (T := F_K) (N := 12) hx hb hts (fun w h => kS1 w (i_K w h)) hown hK hP 0 gw_0 rfl 8 (by decide) (hts _ (kS1 _ m_K_55)) (fun _ h9 => h9) rfl d_K_count_53 ?_
  have hu : (gW n ty ad f th rt qu b w T g a o : va_W) = gW n ty ad f th rt qu b w T g a o := by rfl
  have hv : (f 8 : Int32) = f 8 := by simp []
  exact W.iret (v := f 8) hx hb hr (fun t ht hW => ⟨⟨_, _, rfl, ⟨hv, hu⟩, by rw [ht]; exact hP, va_K.moved hW.alike hK, hD⟩, hS.F ht⟩) hS.2.2 d_K_count_56
set_option maxHeartbeats 4000000 in
set_option maxRecDepth 100000 in
/-- count(1) -/
theorem c_K_count1 (l : Launch) (D : va_G) (ty : Nat → ClassId) (ad : Nat → Nat) (sz : Nat) (n : Nat) (f : Nat → Int32) (th : Nat → Bool) (rt qu : Nat → Int32) (b w : SR) (T : Nat → TH) (g : Nat → Int32) (a : Nat → Nat → Int32) (o : Nat → Int64) (hn : ∀ k, th k = true → k < n) (h12 : ∀ k, (T k).2.2.2.1 ≤ 12) : Met l y_K_count w_K_count ({ frames := 4, cells := 0, slots := 0, locals := 90 }) (va_Pc [.ref (ad 0), .int 1] (kP D kCl (kTy ty) (gW n ty ad f th rt qu b w T g a o) sz)) (va_Qi (fun (r9 : Int32) (u9 : va_W) => r9 = ((sReach f th rt qu T w).2.2) ∧ u9 = (gW n ty ad f th rt qu b (sReach f th rt qu T w) T g a o)) (kB D kCl (kTy ty) (va_A (gW n ty ad f th rt qu b w T g a o) sz)) (va_A (gW n ty ad f th rt qu b w T g a o) sz)) 0 0 (va_A (gW n ty ad f th rt qu b w T g a o) sz) := by
  refine Met.ofW (cc := b_K_count) (maxL := 2) (ret := (some .int)) (by decide) rfl ?_
  intro p e s m args below meth cd s₁ B hml hv
  obtain ⟨rfl, hsz, hP, hK, hD0⟩ := hv
  have hx := B.exec
  have hb := B.bytes
  have hr := B.returns
  have hts := atoms_spec (ws := w_K_count) B.pre
  have hown : s.vm.findClass R_K = some m.cls := findClass_of_methodNamed B.named
  have hlocks := B.notSynchronized
  subst hsz
  have hD := hD0.self (sz := s.heap.size)
  generalize hAe : va_A (gW n ty ad f th rt qu b w T g a o) s.heap.size = A at hD ⊢
  have hA : ∀ q : Nat, s.heap.size ≤ q → A q := fun q h => by rw [← hAe]; exact Or.inr h
  have hS : va_S A s.heap s.heap [] := va_S.rf
  have hl := lv_entry ([.ref (ad 0), .int 1]) (n := 2) (Nat.le_of_ble_eq_true rfl)
  rw [lg_entry_eq]
  generalize (lg_sl ([.ref (ad 0), .int 1]) ++ List.replicate (2 - (lg_sl ([.ref (ad 0), .int 1])).length) Slot.unset).toArray = ls at hl ⊢
  have hl : lv_has ls 2 [(0, .ref (ad 0)), (1, .int 1)] := hl
  refine lv_iload_n hx hb d_K_count_0 rfl (lv_at hl 1 rfl) ?_
  refine lv_tableIn (off := 56) (tgt := 57) hx hb d_K_count_1 (by decide) (by decide) rfl (by decide) ?_
  refine lv_aload_n hx hb d_K_count_57 rfl (lv_at hl 0 rfl) ?_
  refine lv_aload_n hx hb d_K_count_58 rfl (lv_at hl 0 rfl) ?_
  refine va_get (D := D) (ci := 0) (v := .ref (ad 7)) (C := R_K) (T := F_K) (N := 12) hx hb hts (fun w h => kS1 w (i_K w h)) hown hK hP 0 gw_0 rfl 6 (by decide) (hts _ (kS1 _ m_K_29)) (fun _ h9 => h9) rfl d_K_count_59 ?_
  have hP := kw_P (congrArg (wL (22 + 2 * n) ad) (gw_sw (w := w) (S := w)).symm) hP
  have hD := kw_D (congrArg (wL (22 + 2 * n) ad) (gw_sw (w := w) (S := w)).symm) hD
  refine kc_v (va_runV (As := [.ref (ad 7)]) (rest := []) ⟨hx, hb, hml, hown, hts⟩ (c_K_searchReached l D ty ad _ n f th rt qu b w T g a o 7 8 9 w (by omega) (by omega) (by omega) (by omega) (by omega) (by omega) hn h12) (cwV 1 hts (kGV kS1 m_K_74 m_im_K_searchReached m_sel_K_searchReached m_ini_K m_code_K_searchReached) rfl rfl rfl (by decide +kernel) ⟨Nat.le_of_ble_eq_true rfl, Nat.le_of_ble_eq_true rfl⟩) ⟨kP_blind, va_recv hK hP (ci := 0) (q0 := 0) rfl (gs_n (by omega) (by omega) (by omega) (gw_0)), fun U hU hW => ⟨rfl, kP_at hK hP hD U hU hW⟩⟩ rfl rfl hl.1 rfl (lv_room (Nat.le_of_ble_eq_true rfl)) d_K_count_62 ⟨Nat.le_of_ble_eq_true rfl, Nat.le_of_ble_eq_true rfl⟩) hD hS hA (fun u H locs hu hP hD hS hz => ?_)
  subst hu
  have hP := kw_P (congrArg (wL (22 + 2 * n) ad) (gw_sw (S := sReach f th rt qu T w))) hP
  have hD := kw_D (congrArg (wL (22 + 2 * n) ad) (gw_sw (S := sReach f th rt qu T w))) hD
  refine lv_aload_n hx hb d_K_count_65 rfl (lv_at hl 0 rfl) ?_
  refine va_get (D := D) (ci := 0) (v := .ref (ad 7)) (C := R_K) (T := F_K) (N := 12) hx hb hts (fun w h => kS1 w (i_K w h)) hown hK hP 0 gw_0 rfl 6 (by decide) (hts _ (kS1 _ m_K_29)) (fun _ h9 => h9) rfl d_K_count_66 ?_
  refine va_get (D := D) (ci := 1) (v := .int ((sReach f th rt qu T w).2.2)) (C := R_S) (T := F_S) (N := 3) hx hb hts (fun w h => kS1 w (i_S w h)) hown hK hP 7 gw_7 rfl 2 (by decide) (hts _ (kS1 _ m_K_125)) (fun _ h9 => h9) rfl d_K_count_69 ?_
  have hu : (gW n ty ad f th rt qu b (sReach f th rt qu T w) T g a o : va_W) = gW n ty ad f th rt qu b (sReach f th rt qu T w) T g a o := by rfl
  have hv : ((sReach f th rt qu T w).2.2 : Int32) = (sReach f th rt qu T w).2.2 := by simp []
  exact W.iret (v := (sReach f th rt qu T w).2.2) hx hb hr (fun t ht hW => ⟨⟨_, _, rfl, ⟨hv, hu⟩, by rw [ht]; exact hP, va_K.moved hW.alike hK, hD⟩, hS.F ht⟩) hS.2.2 d_K_count_72
set_option maxHeartbeats 4000000 in
set_option maxRecDepth 100000 in
/-- count(2) -/
theorem c_K_count2 (l : Launch) (D : va_G) (ty : Nat → ClassId) (ad : Nat → Nat) (sz : Nat) (n : Nat) (f : Nat → Int32) (th : Nat → Bool) (rt qu : Nat → Int32) (b w : SR) (T : Nat → TH) (g : Nat → Int32) (a : Nat → Nat → Int32) (o : Nat → Int64) (hn : ∀ k, th k = true → k < n) (h12 : ∀ k, (T k).2.2.2.1 ≤ 12) : Met l y_K_count w_K_count ({ frames := 4, cells := 0, slots := 0, locals := 90 }) (va_Pc [.ref (ad 0), .int 2] (kP D kCl (kTy ty) (gW n ty ad f th rt qu b w T g a o) sz)) (va_Qi (fun (r9 : Int32) (u9 : va_W) => r9 = ((sKept f th rt qu T w).2.2) ∧ u9 = (gW n ty ad f th rt qu b (sKept f th rt qu T w) T g a o)) (kB D kCl (kTy ty) (va_A (gW n ty ad f th rt qu b w T g a o) sz)) (va_A (gW n ty ad f th rt qu b w T g a o) sz)) 0 0 (va_A (gW n ty ad f th rt qu b w T g a o) sz) := by
  refine Met.ofW (cc := b_K_count) (maxL := 2) (ret := (some .int)) (by decide) rfl ?_
  intro p e s m args below meth cd s₁ B hml hv
  obtain ⟨rfl, hsz, hP, hK, hD0⟩ := hv
  have hx := B.exec
  have hb := B.bytes
  have hr := B.returns
  have hts := atoms_spec (ws := w_K_count) B.pre
  have hown : s.vm.findClass R_K = some m.cls := findClass_of_methodNamed B.named
  have hlocks := B.notSynchronized
  subst hsz
  have hD := hD0.self (sz := s.heap.size)
  generalize hAe : va_A (gW n ty ad f th rt qu b w T g a o) s.heap.size = A at hD ⊢
  have hA : ∀ q : Nat, s.heap.size ≤ q → A q := fun q h => by rw [← hAe]; exact Or.inr h
  have hS : va_S A s.heap s.heap [] := va_S.rf
  have hl := lv_entry ([.ref (ad 0), .int 2]) (n := 2) (Nat.le_of_ble_eq_true rfl)
  rw [lg_entry_eq]
  generalize (lg_sl ([.ref (ad 0), .int 2]) ++ List.replicate (2 - (lg_sl ([.ref (ad 0), .int 2])).length) Slot.unset).toArray = ls at hl ⊢
  have hl : lv_has ls 2 [(0, .ref (ad 0)), (1, .int 2)] := hl
  refine lv_iload_n hx hb d_K_count_0 rfl (lv_at hl 1 rfl) ?_
  refine lv_tableIn (off := 72) (tgt := 73) hx hb d_K_count_1 (by decide) (by decide) rfl (by decide) ?_
  refine lv_aload_n hx hb d_K_count_73 rfl (lv_at hl 0 rfl) ?_
  refine lv_aload_n hx hb d_K_count_74 rfl (lv_at hl 0 rfl) ?_
  refine va_get (D := D) (ci := 0) (v := .ref (ad 7)) (C := R_K) (T := F_K) (N := 12) hx hb hts (fun w h => kS1 w (i_K w h)) hown hK hP 0 gw_0 rfl 6 (by decide) (hts _ (kS1 _ m_K_29)) (fun _ h9 => h9) rfl d_K_count_75 ?_
  have hP := kw_P (congrArg (wL (22 + 2 * n) ad) (gw_sw (w := w) (S := w)).symm) hP
  have hD := kw_D (congrArg (wL (22 + 2 * n) ad) (gw_sw (w := w) (S := w)).symm) hD
  refine kc_v (va_runV (As := [.ref (ad 7)]) (rest := []) ⟨hx, hb, hml, hown, hts⟩ (c_K_searchKept l D ty ad _ n f th rt qu b w T g a o 7 8 9 w (by omega) (by omega) (by omega) (by omega) (by omega) (by omega) hn h12) (cwV 1 hts (kGV kS1 m_K_107 m_im_K_searchKept m_sel_K_searchKept m_ini_K m_code_K_searchKept) rfl rfl rfl (by decide +kernel) ⟨Nat.le_of_ble_eq_true rfl, Nat.le_of_ble_eq_true rfl⟩) ⟨kP_blind, va_recv hK hP (ci := 0) (q0 := 0) rfl (gs_n (by omega) (by omega) (by omega) (gw_0)), fun U hU hW => ⟨rfl, kP_at hK hP hD U hU hW⟩⟩ rfl rfl hl.1 rfl (lv_room (Nat.le_of_ble_eq_true rfl)) d_K_count_78 ⟨Nat.le_of_ble_eq_true rfl, Nat.le_of_ble_eq_true rfl⟩) hD hS hA (fun u H locs hu hP hD hS hz => ?_)
  subst hu
  have hP := kw_P (congrArg (wL (22 + 2 * n) ad) (gw_sw (S := sKept f th rt qu T w))) hP
  have hD := kw_D (congrArg (wL (22 + 2 * n) ad) (gw_sw (S := sKept f th rt qu T w))) hD
  refine lv_aload_n hx hb d_K_count_81 rfl (lv_at hl 0 rfl) ?_
  refine va_get (D := D) (ci := 0) (v := .ref (ad 7)) (C := R_K) (T := F_K) (N := 12) hx hb hts (fun w h => kS1 w (i_K w h)) hown hK hP 0 gw_0 rfl 6 (by decide) (hts _ (kS1 _ m_K_29)) (fun _ h9 => h9) rfl d_K_count_82 ?_
  refine va_get (D := D) (ci := 1) (v := .int ((sKept f th rt qu T w).2.2)) (C := R_S) (T := F_S) (N := 3) hx hb hts (fun w h => kS1 w (i_S w h)) hown hK hP 7 gw_7 rfl 2 (by decide) (hts _ (kS1 _ m_K_125)) (fun _ h9 => h9) rfl d_K_count_85 ?_
  have hu : (gW n ty ad f th rt qu b (sKept f th rt qu T w) T g a o : va_W) = gW n ty ad f th rt qu b (sKept f th rt qu T w) T g a o := by rfl
  have hv : ((sKept f th rt qu T w).2.2 : Int32) = (sKept f th rt qu T w).2.2 := by simp []
  exact W.iret (v := (sKept f th rt qu T w).2.2) hx hb hr (fun t ht hW => ⟨⟨_, _, rfl, ⟨hv, hu⟩, by rw [ht]; exact hP, va_K.moved hW.alike hK, hD⟩, hS.F ht⟩) hS.2.2 d_K_count_88
set_option maxHeartbeats 4000000 in
set_option maxRecDepth 100000 in
/-- count(3) -/
theorem c_K_count3 (l : Launch) (D : va_G) (ty : Nat → ClassId) (ad : Nat → Nat) (sz : Nat) (n : Nat) (f : Nat → Int32) (th : Nat → Bool) (rt qu : Nat → Int32) (b w : SR) (T : Nat → TH) (g : Nat → Int32) (a : Nat → Nat → Int32) (o : Nat → Int64) (hn : ∀ k, th k = true → k < n) (h12 : ∀ k, (T k).2.2.2.1 ≤ 12) : Met l y_K_count w_K_count ({ frames := 4, cells := 0, slots := 0, locals := 90 }) (va_Pc [.ref (ad 0), .int 3] (kP D kCl (kTy ty) (gW n ty ad f th rt qu b w T g a o) sz)) (va_Qi (fun (r9 : Int32) (u9 : va_W) => r9 = (f 4 - f 3) ∧ u9 = (gW n ty ad f th rt qu b w T g a o)) (kB D kCl (kTy ty) (va_A (gW n ty ad f th rt qu b w T g a o) sz)) (va_A (gW n ty ad f th rt qu b w T g a o) sz)) 0 0 (va_A (gW n ty ad f th rt qu b w T g a o) sz) := by
  refine Met.ofW (cc := b_K_count) (maxL := 2) (ret := (some .int)) (by decide) rfl ?_
  intro p e s m args below meth cd s₁ B hml hv
  obtain ⟨rfl, hsz, hP, hK, hD0⟩ := hv
  have hx := B.exec
  have hb := B.bytes
  have hr := B.returns
  have hts := atoms_spec (ws := w_K_count) B.pre
  have hown : s.vm.findClass R_K = some m.cls := findClass_of_methodNamed B.named
  have hlocks := B.notSynchronized
  subst hsz
  have hD := hD0.self (sz := s.heap.size)
  generalize hAe : va_A (gW n ty ad f th rt qu b w T g a o) s.heap.size = A at hD ⊢
  have hA : ∀ q : Nat, s.heap.size ≤ q → A q := fun q h => by rw [← hAe]; exact Or.inr h
  have hS : va_S A s.heap s.heap [] := va_S.rf
  have hl := lv_entry ([.ref (ad 0), .int 3]) (n := 2) (Nat.le_of_ble_eq_true rfl)
  rw [lg_entry_eq]
  generalize (lg_sl ([.ref (ad 0), .int 3]) ++ List.replicate (2 - (lg_sl ([.ref (ad 0), .int 3])).length) Slot.unset).toArray = ls at hl ⊢
  have hl : lv_has ls 2 [(0, .ref (ad 0)), (1, .int 3)] := hl
  refine lv_iload_n hx hb d_K_count_0 rfl (lv_at hl 1 rfl) ?_
  refine lv_tableIn (off := 88) (tgt := 89) hx hb d_K_count_1 (by decide) (by decide) rfl (by decide) ?_
  refine lv_aload_n hx hb d_K_count_89 rfl (lv_at hl 0 rfl) ?_
  refine kc_R (va_runV (As := []) (rest := []) ⟨hx, hb, hml, hown, hts⟩ (c_K_queueSize l D ty ad _ (22 + 2 * n) (gc ty ad f th rt qu b w T g a o) f (by omega) rfl) (cwV 0 hts (kGV kS1 m_K_88 m_im_K_queueSize m_sel_K_queueSize m_ini_K m_code_K_queueSize) rfl rfl rfl (by decide +kernel) ⟨Nat.le_of_ble_eq_true rfl, Nat.le_of_ble_eq_true rfl⟩) ⟨kP_blind, va_recv hK hP (ci := 0) (q0 := 0) rfl gw_0, fun U hU hW => ⟨rfl, kP_at hK hP hD U hU hW⟩⟩ rfl rfl hl.1 rfl (lv_room (Nat.le_of_ble_eq_true rfl)) d_K_count_90 ⟨Nat.le_of_ble_eq_true rfl, Nat.le_of_ble_eq_true rfl⟩) ?_
  have hu : (gW n ty ad f th rt qu b w T g a o : va_W) = gW n ty ad f th rt qu b w T g a o := by rfl
  have hv : (f 4 - f 3 : Int32) = f 4 - f 3 := by simp []
  exact W.iret (v := f 4 - f 3) hx hb hr (fun t ht hW => ⟨⟨_, _, rfl, ⟨hv, hu⟩, by rw [ht]; exact hP, va_K.moved hW.alike hK, hD⟩, hS.F ht⟩) hS.2.2 d_K_count_93
set_option maxHeartbeats 4000000 in
set_option maxRecDepth 100000 in
/-- count(4) -/
theorem c_K_count4 (l : Launch) (D : va_G) (ty : Nat → ClassId) (ad : Nat → Nat) (sz : Nat) (n : Nat) (f : Nat → Int32) (th : Nat → Bool) (rt qu : Nat → Int32) (b w : SR) (T : Nat → TH) (g : Nat → Int32) (a : Nat → Nat → Int32) (o : Nat → Int64) (hn : ∀ k, th k = true → k < n) (h12 : ∀ k, (T k).2.2.2.1 ≤ 12) : Met l y_K_count w_K_count ({ frames := 4, cells := 0, slots := 0, locals := 90 }) (va_Pc [.ref (ad 0), .int 4] (kP D kCl (kTy ty) (gW n ty ad f th rt qu b w T g a o) sz)) (va_Qi (fun (r9 : Int32) (u9 : va_W) => r9 = (it (kWt th T) 300 0) ∧ u9 = (gW n ty ad f th rt qu b w T g a o)) (kB D kCl (kTy ty) (va_A (gW n ty ad f th rt qu b w T g a o) sz)) (va_A (gW n ty ad f th rt qu b w T g a o) sz)) 0 0 (va_A (gW n ty ad f th rt qu b w T g a o) sz) := by
  refine Met.ofW (cc := b_K_count) (maxL := 2) (ret := (some .int)) (by decide) rfl ?_
  intro p e s m args below meth cd s₁ B hml hv
  obtain ⟨rfl, hsz, hP, hK, hD0⟩ := hv
  have hx := B.exec
  have hb := B.bytes
  have hr := B.returns
  have hts := atoms_spec (ws := w_K_count) B.pre
  have hown : s.vm.findClass R_K = some m.cls := findClass_of_methodNamed B.named
  have hlocks := B.notSynchronized
  subst hsz
  have hD := hD0.self (sz := s.heap.size)
  generalize hAe : va_A (gW n ty ad f th rt qu b w T g a o) s.heap.size = A at hD ⊢
  have hA : ∀ q : Nat, s.heap.size ≤ q → A q := fun q h => by rw [← hAe]; exact Or.inr h
  have hS : va_S A s.heap s.heap [] := va_S.rf
  have hl := lv_entry ([.ref (ad 0), .int 4]) (n := 2) (Nat.le_of_ble_eq_true rfl)
  rw [lg_entry_eq]
  generalize (lg_sl ([.ref (ad 0), .int 4]) ++ List.replicate (2 - (lg_sl ([.ref (ad 0), .int 4])).length) Slot.unset).toArray = ls at hl ⊢
  have hl : lv_has ls 2 [(0, .ref (ad 0)), (1, .int 4)] := hl
  refine lv_iload_n hx hb d_K_count_0 rfl (lv_at hl 1 rfl) ?_
  refine lv_tableIn (off := 93) (tgt := 94) hx hb d_K_count_1 (by decide) (by decide) rfl (by decide) ?_
  refine lv_aload_n hx hb d_K_count_94 rfl (lv_at hl 0 rfl) ?_
  refine kc_R (va_runV (As := []) (rest := []) ⟨hx, hb, hml, hown, hts⟩ (c_K_waitingFinals l D ty ad _ n f th rt qu b w T g a o hn) (cwV 0 hts (kGV kS1 m_K_128 m_im_K_waitingFinals m_sel_K_waitingFinals m_ini_K m_code_K_waitingFinals) rfl rfl rfl (by decide +kernel) ⟨Nat.le_of_ble_eq_true rfl, Nat.le_of_ble_eq_true rfl⟩) ⟨kP_blind, va_recv hK hP (ci := 0) (q0 := 0) rfl gw_0, fun U hU hW => ⟨rfl, kP_at hK hP hD U hU hW⟩⟩ rfl rfl hl.1 rfl (lv_room (Nat.le_of_ble_eq_true rfl)) d_K_count_95 ⟨Nat.le_of_ble_eq_true rfl, Nat.le_of_ble_eq_true rfl⟩) ?_
  have hu : (gW n ty ad f th rt qu b w T g a o : va_W) = gW n ty ad f th rt qu b w T g a o := by rfl
  have hv : (it (kWt th T) 300 0 : Int32) = it (kWt th T) 300 0 := by simp []
  exact W.iret (v := it (kWt th T) 300 0) hx hb hr (fun t ht hW => ⟨⟨_, _, rfl, ⟨hv, hu⟩, by rw [ht]; exact hP, va_K.moved hW.alike hK, hD⟩, hS.F ht⟩) hS.2.2 d_K_count_98
set_option maxHeartbeats 4000000 in
set_option maxRecDepth 100000 in
/-- count(5) -/
theorem c_K_count5 (l : Launch) (D : va_G) (ty : Nat → ClassId) (ad : Nat → Nat) (sz : Nat) (n : Nat) (f : Nat → Int32) (th : Nat → Bool) (rt qu : Nat → Int32) (b w : SR) (T : Nat → TH) (g : Nat → Int32) (a : Nat → Nat → Int32) (o : Nat → Int64) (hn : ∀ k, th k = true → k < n) (h12 : ∀ k, (T k).2.2.2.1 ≤ 12) : Met l y_K_count w_K_count ({ frames := 4, cells := 0, slots := 0, locals := 90 }) (va_Pc [.ref (ad 0), .int 5] (kP D kCl (kTy ty) (gW n ty ad f th rt qu b w T g a o) sz)) (va_Qi (fun (r9 : Int32) (u9 : va_W) => r9 = (f 9) ∧ u9 = (gW n ty ad f th rt qu b w T g a o)) (kB D kCl (kTy ty) (va_A (gW n ty ad f th rt qu b w T g a o) sz)) (va_A (gW n ty ad f th rt qu b w T g a o) sz)) 0 0 (va_A (gW n ty ad f th rt qu b w T g a o) sz) := by
  refine Met.ofW (cc := b_K_count) (maxL := 2) (ret := (some .int)) (by decide) rfl ?_
  intro p e s m args below meth cd s₁ B hml hv
  obtain ⟨rfl, hsz, hP, hK, hD0⟩ := hv
  have hx := B.exec
  have hb := B.bytes
  have hr := B.returns
  have hts := atoms_spec (ws := w_K_count) B.pre
  have hown : s.vm.findClass R_K = some m.cls := findClass_of_methodNamed B.named
  have hlocks := B.notSynchronized
  subst hsz
  have hD := hD0.self (sz := s.heap.size)
  generalize hAe : va_A (gW n ty ad f th rt qu b w T g a o) s.heap.size = A at hD ⊢
  have hA : ∀ q : Nat, s.heap.size ≤ q → A q := fun q h => by rw [← hAe]; exact Or.inr h
  have hS : va_S A s.heap s.heap [] := va_S.rf
  have hl := lv_entry ([.ref (ad 0), .int 5]) (n := 2) (Nat.le_of_ble_eq_true rfl)
  rw [lg_entry_eq]
  generalize (lg_sl ([.ref (ad 0), .int 5]) ++ List.replicate (2 - (lg_sl ([.ref (ad 0), .int 5])).length) Slot.unset).toArray = ls at hl ⊢
  have hl : lv_has ls 2 [(0, .ref (ad 0)), (1, .int 5)] := hl
  refine lv_iload_n hx hb d_K_count_0 rfl (lv_at hl 1 rfl) ?_
  refine lv_tableIn (off := 98) (tgt := 99) hx hb d_K_count_1 (by decide) (by decide) rfl (by decide) ?_
  refine lv_aload_n hx hb d_K_count_99 rfl (lv_at hl 0 rfl) ?_
  refine va_get (D := D) (ci := 0) (v := .int (f 9)) (C := R_K) (T := F_K) (N := 12) hx hb hts (fun w h => kS1 w (i_K w h)) hown hK hP 0 gw_0 rfl 9 (by decide) (hts _ (kS1 _ m_K_131)) (fun _ h9 => h9) rfl d_K_count_100 ?_
  have hu : (gW n ty ad f th rt qu b w T g a o : va_W) = gW n ty ad f th rt qu b w T g a o := by rfl
  have hv : (f 9 : Int32) = f 9 := by simp []
  exact W.iret (v := f 9) hx hb hr (fun t ht hW => ⟨⟨_, _, rfl, ⟨hv, hu⟩, by rw [ht]; exact hP, va_K.moved hW.alike hK, hD⟩, hS.F ht⟩) hS.2.2 d_K_count_103
set_option maxHeartbeats 4000000 in
set_option maxRecDepth 100000 in
/-- count(6) -/
theorem c_K_count6 (l : Launch) (D : va_G) (ty : Nat → ClassId) (ad : Nat → Nat) (sz : Nat) (n : Nat) (f : Nat → Int32) (th : Nat → Bool) (rt qu : Nat → Int32) (b w : SR) (T : Nat → TH) (g : Nat → Int32) (a : Nat → Nat → Int32) (o : Nat → Int64) (hn : ∀ k, th k = true → k < n) (h12 : ∀ k, (T k).2.2.2.1 ≤ 12) : Met l y_K_count w_K_count ({ frames := 4, cells := 0, slots := 0, locals := 90 }) (va_Pc [.ref (ad 0), .int 6] (kP D kCl (kTy ty) (gW n ty ad f th rt qu b w T g a o) sz)) (va_Qi (fun (r9 : Int32) (u9 : va_W) => r9 = (f 10) ∧ u9 = (gW n ty ad f th rt qu b w T g a o)) (kB D kCl (kTy ty) (va_A (gW n ty ad f th rt qu b w T g a o) sz)) (va_A (gW n ty ad f th rt qu b w T g a o) sz)) 0 0 (va_A (gW n ty ad f th rt qu b w T g a o) sz) := by
  refine Met.ofW (cc := b_K_count) (maxL := 2) (ret := (some .int)) (by decide) rfl ?_
  intro p e s m args below meth cd s₁ B hml hv
  obtain ⟨rfl, hsz, hP, hK, hD0⟩ := hv
  have hx := B.exec
  have hb := B.bytes
  have hr := B.returns
  have hts := atoms_spec (ws := w_K_count) B.pre
  have hown : s.vm.findClass R_K = some m.cls := findClass_of_methodNamed B.named
  have hlocks := B.notSynchronized
  subst hsz
  have hD := hD0.self (sz := s.heap.size)
  generalize hAe : va_A (gW n ty ad f th rt qu b w T g a o) s.heap.size = A at hD ⊢
  have hA : ∀ q : Nat, s.heap.size ≤ q → A q := fun q h => by rw [← hAe]; exact Or.inr h
  have hS : va_S A s.heap s.heap [] := va_S.rf
  have hl := lv_entry ([.ref (ad 0), .int 6]) (n := 2) (Nat.le_of_ble_eq_true rfl)
  rw [lg_entry_eq]
  generalize (lg_sl ([.ref (ad 0), .int 6]) ++ List.replicate (2 - (lg_sl ([.ref (ad 0), .int 6])).length) Slot.unset).toArray = ls at hl ⊢
  have hl : lv_has ls 2 [(0, .ref (ad 0)), (1, .int 6)] := hl
  refine lv_iload_n hx hb d_K_count_0 rfl (lv_at hl 1 rfl) ?_
  refine lv_tableIn (off := 103) (tgt := 104) hx hb d_K_count_1 (by decide) (by decide) rfl (by decide) ?_
  refine lv_aload_n hx hb d_K_count_104 rfl (lv_at hl 0 rfl) ?_
  refine va_get (D := D) (ci := 0) (v := .int (f 10)) (C := R_K) (T := F_K) (N := 12) hx hb hts (fun w h => kS1 w (i_K w h)) hown hK hP 0 gw_0 rfl 10 (by decide) (hts _ (kS1 _ m_K_85)) (fun _ h9 => h9) rfl d_K_count_105 ?_
  have hu : (gW n ty ad f th rt qu b w T g a o : va_W) = gW n ty ad f th rt qu b w T g a o := by rfl
  have hv : (f 10 : Int32) = f 10 := by simp []
  exact W.iret (v := f 10) hx hb hr (fun t ht hW => ⟨⟨_, _, rfl, ⟨hv, hu⟩, by rw [ht]; exact hP, va_K.moved hW.alike hK, hD⟩, hS.F ht⟩) hS.2.2 d_K_count_108
set_option maxHeartbeats 4000000 in
set_option maxRecDepth 100000 in
/-- count(7) -/
theorem c_K_count7 (l : Launch) (D : va_G) (ty : Nat → ClassId) (ad : Nat → Nat) (sz : Nat) (n : Nat) (f : Nat → Int32) (th : Nat → Bool) (rt qu : Nat → Int32) (b w : SR) (T : Nat → TH) (g : Nat → Int32) (a : Nat → Nat → Int32) (o : Nat → Int64) (hn : ∀ k, th k = true → k < n) (h12 : ∀ k, (T k).2.2.2.1 ≤ 12) : Met l y_K_count w_K_count ({ frames := 4, cells := 0, slots := 0, locals := 90 }) (va_Pc [.ref (ad 0), .int 7] (kP D kCl (kTy ty) (gW n ty ad f th rt qu b w T g a o) sz)) (va_Qi (fun (r9 : Int32) (u9 : va_W) => r9 = (f 11) ∧ u9 = (gW n ty ad f th rt qu b w T g a o)) (kB D kCl (kTy ty) (va_A (gW n ty ad f th rt qu b w T g a o) sz)) (va_A (gW n ty ad f th rt qu b w T g a o) sz)) 0 0 (va_A (gW n ty ad f th rt qu b w T g a o) sz) := by
  refine Met.ofW (cc := b_K_count) (maxL := 2) (ret := (some .int)) (by decide) rfl ?_
  intro p e s m args below meth cd s₁ B hml hv
  obtain ⟨rfl, hsz, hP, hK, hD0⟩ := hv
  have hx := B.exec
  have hb := B.bytes
  have hr := B.returns
  have hts := atoms_spec (ws := w_K_count) B.pre
  have hown : s.vm.findClass R_K = some m.cls := findClass_of_methodNamed B.named
  have hlocks := B.notSynchronized
  subst hsz
  have hD := hD0.self (sz := s.heap.size)
  generalize hAe : va_A (gW n ty ad f th rt qu b w T g a o) s.heap.size = A at hD ⊢
  have hA : ∀ q : Nat, s.heap.size ≤ q → A q := fun q h => by rw [← hAe]; exact Or.inr h
  have hS : va_S A s.heap s.heap [] := va_S.rf
  have hl := lv_entry ([.ref (ad 0), .int 7]) (n := 2) (Nat.le_of_ble_eq_true rfl)
  rw [lg_entry_eq]
  generalize (lg_sl ([.ref (ad 0), .int 7]) ++ List.replicate (2 - (lg_sl ([.ref (ad 0), .int 7])).length) Slot.unset).toArray = ls at hl ⊢
  have hl : lv_has ls 2 [(0, .ref (ad 0)), (1, .int 7)] := hl
  refine lv_iload_n hx hb d_K_count_0 rfl (lv_at hl 1 rfl) ?_
  refine lv_tableIn (off := 108) (tgt := 109) hx hb d_K_count_1 (by decide) (by decide) rfl (by decide) ?_
  refine lv_aload_n hx hb d_K_count_109 rfl (lv_at hl 0 rfl) ?_
  refine va_get (D := D) (ci := 0) (v := .int (f 11)) (C := R_K) (T := F_K) (N := 12) hx hb hts (fun w h => kS1 w (i_K w h)) hown hK hP 0 gw_0 rfl 11 (by decide) (hts _ (kS1 _ m_K_120)) (fun _ h9 => h9) rfl d_K_count_110 ?_
  have hu : (gW n ty ad f th rt qu b w T g a o : va_W) = gW n ty ad f th rt qu b w T g a o := by rfl
  have hv : (f 11 : Int32) = f 11 := by simp []
  exact W.iret (v := f 11) hx hb hr (fun t ht hW => ⟨⟨_, _, rfl, ⟨hv, hu⟩, by rw [ht]; exact hP, va_K.moved hW.alike hK, hD⟩, hS.F ht⟩) hS.2.2 d_K_count_113
set_option maxHeartbeats 4000000 in
set_option maxRecDepth 100000 in
/-- count(8) -/
theorem c_K_count8 (l : Launch) (D : va_G) (ty : Nat → ClassId) (ad : Nat → Nat) (sz : Nat) (n : Nat) (f : Nat → Int32) (th : Nat → Bool) (rt qu : Nat → Int32) (b w : SR) (T : Nat → TH) (g : Nat → Int32) (a : Nat → Nat → Int32) (o : Nat → Int64) (hn : ∀ k, th k = true → k < n) (h12 : ∀ k, (T k).2.2.2.1 ≤ 12) : Met l y_K_count w_K_count ({ frames := 4, cells := 0, slots := 0, locals := 90 }) (va_Pc [.ref (ad 0), .int 8] (kP D kCl (kTy ty) (gW n ty ad f th rt qu b w T g a o) sz)) (va_Qi (fun (r9 : Int32) (u9 : va_W) => r9 = (f 7) ∧ u9 = (gW n ty ad f th rt qu b w T g a o)) (kB D kCl (kTy ty) (va_A (gW n ty ad f th rt qu b w T g a o) sz)) (va_A (gW n ty ad f th rt qu b w T g a o) sz)) 0 0 (va_A (gW n ty ad f th rt qu b w T g a o) sz) := by
  refine Met.ofW (cc := b_K_count) (maxL := 2) (ret := (some .int)) (by decide) rfl ?_
  intro p e s m args below meth cd s₁ B hml hv
  obtain ⟨rfl, hsz, hP, hK, hD0⟩ := hv
  have hx := B.exec
  have hb := B.bytes
  have hr := B.returns
  have hts := atoms_spec (ws := w_K_count) B.pre
  have hown : s.vm.findClass R_K = some m.cls := findClass_of_methodNamed B.named
  have hlocks := B.notSynchronized
  subst hsz
  have hD := hD0.self (sz := s.heap.size)
  generalize hAe : va_A (gW n ty ad f th rt qu b w T g a o) s.heap.size = A at hD ⊢
  have hA : ∀ q : Nat, s.heap.size ≤ q → A q := fun q h => by rw [← hAe]; exact Or.inr h
  have hS : va_S A s.heap s.heap [] := va_S.rf
  have hl := lv_entry ([.ref (ad 0), .int 8]) (n := 2) (Nat.le_of_ble_eq_true rfl)
  rw [lg_entry_eq]
  generalize (lg_sl ([.ref (ad 0), .int 8]) ++ List.replicate (2 - (lg_sl ([.ref (ad 0), .int 8])).length) Slot.unset).toArray = ls at hl ⊢
  have hl : lv_has ls 2 [(0, .ref (ad 0)), (1, .int 8)] := hl
  refine lv_iload_n hx hb d_K_count_0 rfl (lv_at hl 1 rfl) ?_
  refine lv_tableIn (off := 113) (tgt := 114) hx hb d_K_count_1 (by decide) (by decide) rfl (by decide) ?_
  refine lv_aload_n hx hb d_K_count_114 rfl (lv_at hl 0 rfl) ?_
  refine va_get (D := D) (ci := 0) (v := .int (f 7)) (C := R_K) (T := F_K) (N := 12) hx hb hts (fun w h => kS1 w (i_K w h)) hown hK hP 0 gw_0 rfl 7 (by decide) (hts _ (kS1 _ m_K_43)) (fun _ h9 => h9) rfl d_K_count_115 ?_
  have hu : (gW n ty ad f th rt qu b w T g a o : va_W) = gW n ty ad f th rt qu b w T g a o := by rfl
  have hv : (f 7 : Int32) = f 7 := by simp []
  exact W.iret (v := f 7) hx hb hr (fun t ht hW => ⟨⟨_, _, rfl, ⟨hv, hu⟩, by rw [ht]; exact hP, va_K.moved hW.alike hK, hD⟩, hS.F ht⟩) hS.2.2 d_K_count_118
