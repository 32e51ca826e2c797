/-! Part 07: the searches. -/
set_option maxHeartbeats 4000000 in
set_option maxRecDepth 100000 in
/-- addRootsAndQueue(search) -/
theorem c_K_addRootsAndQueue (l : Launch) (D : va_G) (ty : Nat → ClassId) (ad : Nat → Nat) (sz : Nat) (n : Nat) (f : Nat → Int32) (th : Nat → Bool) (rt qu : Nat → Int32) (b w : SR) (T : Nat → TH) (g : Nat → Int32) (a : Nat → Nat → Int32) (o : Nat → Int64) (si sj sk : Nat) (S : SR) (hi : 4 ≤ si ∧ si < 10) (hj : 4 ≤ sj ∧ sj < 10) (hk : 4 ≤ sk ∧ sk < 10) (hji : sj ≠ si) (hki : sk ≠ si) (hkj : sk ≠ sj) : Met l y_K_addRootsAndQueue w_K_addRootsAndQueue ({ frames := 2, cells := 0, slots := 0, locals := 42 }) (va_Pc [.ref (ad 0), .ref (ad si)] (kP D kCl (kTy ty) (wL (22 + 2 * n) ad (sUp ty ad (gc ty ad f th rt qu b w T g a o) si sj sk S)) sz)) (va_Qv (fun u9 : va_W => u9 = (wL (22 + 2 * n) ad (sUp ty ad (gc ty ad f th rt qu b w T g a o) si sj sk (addRQ f rt qu S)))) (kB D kCl (kTy ty) (va_A (wL (22 + 2 * n) ad (sUp ty ad (gc ty ad f th rt qu b w T g a o) si sj sk S)) sz)) (va_A (wL (22 + 2 * n) ad (sUp ty ad (gc ty ad f th rt qu b w T g a o) si sj sk S)) sz)) 0 0 (va_A (wL (22 + 2 * n) ad (sUp ty ad (gc ty ad f th rt qu b w T g a o) si sj sk S)) sz) := by
  refine Met.ofW (cc := b_K_addRootsAndQueue) (maxL := 4) (ret := none) (by decide) rfl ?_
  intro p e s m args below meth cd s₁ B hml hv
  obtain ⟨rfl, hsz, hP, hK, hD0⟩ := hv
  have hx := B.exec
  have hb := B.bytes
  have hr := B.returns
  have hts := atoms_spec (ws := w_K_addRootsAndQueue) B.pre
  have hown : s.vm.findClass R_K = some m.cls := findClass_of_methodNamed B.named
  have hlocks := B.notSynchronized
  subst hsz
  have hD := hD0.self (sz := s.heap.size)
  generalize hAe : va_A (wL (22 + 2 * n) ad (sUp ty ad (gc ty ad f th rt qu b w T g a o) si sj sk S)) s.heap.size = A at hD ⊢
  have hA : ∀ q : Nat, s.heap.size ≤ q → A q := fun q h => by rw [← hAe]; exact Or.inr h
  have hS : va_S A s.heap s.heap [] := va_S.rf
  have hl := lv_entry ([.ref (ad 0), .ref (ad si)]) (n := 4) (Nat.le_of_ble_eq_true rfl)
  rw [lg_entry_eq]
  generalize (lg_sl ([.ref (ad 0), .ref (ad si)]) ++ List.replicate (4 - (lg_sl ([.ref (ad 0), .ref (ad si)])).length) Slot.unset).toArray = ls at hl ⊢
  have hl : lv_has ls 4 [(0, .ref (ad 0)), (1, .ref (ad si))] := hl
  refine lv_iconst (v := 0) hx hb d_K_addRootsAndQueue_0 (by decide) ?_
  refine lv_istore_n (lv' := [(2, .int 0), (0, .ref (ad 0)), (1, .ref (ad si))]) hx hb d_K_addRootsAndQueue_1 rfl hl (by decide) rfl (fun ls hl => ?_)
  have L1 : ∀ (Q : State → Prop) (rem i : Nat) (H : Heap) (locs : List Loc) (ls : Array Slot), i + rem = 16 → va_P D kCl (wL (22 + 2 * n) ad (sUp ty ad (gc ty ad f th rt qu b w T g a o) si sj sk (it (fun i S => sAdd S (rt i)) i S))) H → va_D A (wL (22 + 2 * n) ad (sUp ty ad (gc ty ad f th rt qu b w T g a o) si sj sk (it (fun i S => sAdd S (rt i)) i S))) → va_S A s.heap H locs → lv_has ls 4 [(0, .ref (ad 0)), (1, .ref (ad si)), (2, .int (nI i))] → (∀ (H : Heap) (locs : List Loc) (ls : Array Slot), va_P D kCl (wL (22 + 2 * n) ad (sUp ty ad (gc ty ad f th rt qu b w T g a o) si sj sk (it (fun i S => sAdd S (rt i)) 16 S))) H → va_D A (wL (22 + 2 * n) ad (sUp ty ad (gc ty ad f th rt qu b w T g a o) si sj sk (it (fun i S => sAdd S (rt i)) 16 S))) → va_S A s.heap H locs → lv_has ls 4 [(0, .ref (ad 0)), (1, .ref (ad si)), (2, .int (nI 16))] → W p l e (headSpec w_K_addRootsAndQueue ({ frames := 2, cells := 0, slots := 0, locals := 42 })).room s m ([.ref (ad 0), .ref (ad si)] : List Value).toArray below meth cd H locs 0 0 Q (F0 m 27 ls [])) → W p l e (headSpec w_K_addRootsAndQueue ({ frames := 2, cells := 0, slots := 0, locals := 42 })).room s m ([.ref (ad 0), .ref (ad si)] : List Value).toArray below meth cd H locs 0 0 Q (F0 m 2 ls []) := by
    intro Q rem
    induction rem with
    | zero =>
      intro i H locs ls hir_i hP hD hS hl kx
      obtain rfl : 16 = i := by omega
      refine lv_iload_n hx hb d_K_addRootsAndQueue_2 rfl (lv_at hl 2 rfl) ?_
      refine lv_aload_n hx hb d_K_addRootsAndQueue_3 rfl (lv_at hl 0 rfl) ?_
      refine va_get (D := D) (ci := 0) (v := .ref (ad 2)) (C := R_K) (T := F_K) (N := 12) hx hb hts (fun w h => kS1 w (i_K w h)) hown hK hP 0 (gs_n (by omega) (by omega) (by omega) (gw_0)) rfl 1 (by decide) (hts _ (kS1 _ m_K_15)) (fun _ h9 => h9) rfl d_K_addRootsAndQueue_4 ?_
      refine va_alen (v := 16) hx hb hK hP 2 0 (gs_n (by omega) (by omega) (by omega) (gw_2)) rfl rfl d_K_addRootsAndQueue_7 ?_
      refine lv_icmp_ge (tgt := 27) hx hb d_K_addRootsAndQueue_8 (by decide) (fun c_8' => ?_) (fun c_8' => absurd (nI_le (a := 16) (b := 16) (Nat.le_refl _) (by omega)) c_8')
      exact kx _ _ ls hP hD hS hl
    | succ rem ih =>
      intro i H locs ls hir_i hP hD hS hl kx
      have hlt_i : i < 16 := by omega
      refine lv_iload_n hx hb d_K_addRootsAndQueue_2 rfl (lv_at hl 2 rfl) ?_
      refine lv_aload_n hx hb d_K_addRootsAndQueue_3 rfl (lv_at hl 0 rfl) ?_
      refine va_get (D := D) (ci := 0) (v := .ref (ad 2)) (C := R_K) (T := F_K) (N := 12) hx hb hts (fun w h => kS1 w (i_K w h)) hown hK hP 0 (gs_n (by omega) (by omega) (by omega) (gw_0)) rfl 1 (by decide) (hts _ (kS1 _ m_K_15)) (fun _ h9 => h9) rfl d_K_addRootsAndQueue_4 ?_
      refine va_alen (v := 16) hx hb hK hP 2 0 (gs_n (by omega) (by omega) (by omega) (gw_2)) rfl rfl d_K_addRootsAndQueue_7 ?_
      refine lv_icmp_ge (tgt := 27) hx hb d_K_addRootsAndQueue_8 (by decide) (fun c_8' => absurd c_8' (nI_ge (b := 16) hlt_i (by omega))) (fun c_8' => ?_)
      refine lv_aload_n hx hb d_K_addRootsAndQueue_11 rfl (lv_at hl 1 rfl) ?_
      refine lv_aload_n hx hb d_K_addRootsAndQueue_12 rfl (lv_at hl 0 rfl) ?_
      refine va_get (D := D) (ci := 0) (v := .ref (ad 2)) (C := R_K) (T := F_K) (N := 12) hx hb hts (fun w h => kS1 w (i_K w h)) hown hK hP 0 (gs_n (by omega) (by omega) (by omega) (gw_0)) rfl 1 (by decide) (hts _ (kS1 _ m_K_15)) (fun _ h9 => h9) rfl d_K_addRootsAndQueue_13 ?_
      refine lv_iload_n hx hb d_K_addRootsAndQueue_16 rfl (lv_at hl 2 rfl) ?_
      refine va_iald (f := rt) hx hb hK hP 2 0 (gs_n (by omega) (by omega) (by omega) (gw_2)) rfl (vp_in_nI hlt_i (by omega)) d_K_addRootsAndQueue_17 ?_
      rw [nI_clamp (n := i) (by omega)]
      refine kc_v (va_runV (As := [.int (rt i)]) (rest := []) ⟨hx, hb, hml, hown, hts⟩ (c_S_add l D ty ad _ (22 + 2 * n) (gc ty ad f th rt qu b w T g a o) si sj sk (it (fun i S => sAdd S (rt i)) i S) (by omega) (by omega) (by omega) hji hki hkj (rt i)) (cwV 1 hts (kGV kS1 m_K_164 m_im_S_add m_sel_S_add m_ini_S m_code_S_add) rfl rfl rfl (by decide +kernel) ⟨Nat.le_of_ble_eq_true rfl, Nat.le_of_ble_eq_true rfl⟩) ⟨kP_blind, va_recv hK hP (ci := 1) (q0 := si) rfl (sw_o (S := it (fun i S => sAdd S (rt i)) i S) (by omega)), fun U hU hW => ⟨rfl, kP_at hK hP hD U hU hW⟩⟩ rfl rfl hl.1 rfl (lv_room (Nat.le_of_ble_eq_true rfl)) d_K_addRootsAndQueue_18 ⟨Nat.le_of_ble_eq_true rfl, Nat.le_of_ble_eq_true rfl⟩) hD hS hA (fun u H locs hu hP hD hS hz => ?_)
      subst hu
      refine lv_iinc (v := nI i + 1) (lv' := [(2, .int (nI i + 1)), (0, .ref (ad 0)), (1, .ref (ad si))]) hx hb d_K_addRootsAndQueue_21 hl (k := 2) rfl rfl (by decide) rfl (fun ls hl => ?_)
      refine lv_goto (tgt := 2) hx hb d_K_addRootsAndQueue_24 (by decide) ?_
      have hl := lv_sub (l' := [(0, .ref (ad 0)), (1, .ref (ad si)), (2, .int (nI i + 1))]) hl [1, 2, 0] rfl
      have hqq9 : (.int (nI i + 1) : Value) = .int (nI (i + 1)) := by rw [nI_1]
      rw [hqq9] at hl
      have hE : (wL (22 + 2 * n) ad (sUp ty ad (gc ty ad f th rt qu b w T g a o) si sj sk (sAdd (it (fun i S => sAdd S (rt i)) i S) (rt i))) : va_W) = wL (22 + 2 * n) ad (sUp ty ad (gc ty ad f th rt qu b w T g a o) si sj sk (it (fun i S => sAdd S (rt i)) (i + 1) S)) := by rfl
      have hP := kw_P hE hP
      have hD := kw_D hE hD
      exact ih (i + 1) _ _ ls (by omega) hP hD hS hl kx
  have hl := lv_sub (l' := [(0, .ref (ad 0)), (1, .ref (ad si)), (2, .int 0)]) hl [1, 2, 0] rfl
  have hqq9 : (.int 0 : Value) = .int (nI 0) := by rw [nI_0]
  rw [hqq9] at hl
  refine L1 _ (16 - 0) 0 _ _ ls (by omega) hP hD hS hl (fun H locs ls hP hD hS hl => ?_)
  refine lv_aload_n hx hb d_K_addRootsAndQueue_27 rfl (lv_at hl 0 rfl) ?_
  refine kc_R (va_runV (As := []) (rest := []) ⟨hx, hb, hml, hown, hts⟩ (c_K_queueSize l D ty ad _ (22 + 2 * n) (sUp ty ad (gc ty ad f th rt qu b w T g a o) si sj sk (it (fun i S => sAdd S (rt i)) 16 S)) f (by omega) (sUp_n (by omega) (by omega) (by omega))) (cwV 0 hts (kGV kS1 m_K_88 m_im_K_queueSize m_sel_K_queueSize m_ini_K m_code_K_queueSize) rfl rfl rfl (by decide +kernel) ⟨Nat.le_of_ble_eq_true rfl, Nat.le_of_ble_eq_true rfl⟩) ⟨kP_blind, va_recv hK hP (ci := 0) (q0 := 0) rfl (gs_n (by omega) (by omega) (by omega) (gw_0)), fun U hU hW => ⟨rfl, kP_at hK hP hD U hU hW⟩⟩ rfl rfl hl.1 rfl (lv_room (Nat.le_of_ble_eq_true rfl)) d_K_addRootsAndQueue_28 ⟨Nat.le_of_ble_eq_true rfl, Nat.le_of_ble_eq_true rfl⟩) ?_
  refine lv_istore_n (lv' := [(2, .int (f 4 - f 3)), (0, .ref (ad 0)), (1, .ref (ad si))]) hx hb d_K_addRootsAndQueue_31 rfl hl (by decide) rfl (fun ls hl => ?_)
  refine lv_iconst (v := 0) hx hb d_K_addRootsAndQueue_32 (by decide) ?_
  refine lv_istore_n (lv' := [(3, .int 0), (2, .int (f 4 - f 3)), (0, .ref (ad 0)), (1, .ref (ad si))]) hx hb d_K_addRootsAndQueue_33 rfl hl (by decide) rfl (fun ls hl => ?_)
  have L2 : ∀ (Q : State → Prop) (rem i : Nat) (H : Heap) (locs : List Loc) (ls : Array Slot), i + rem = (f 4 - f 3).toNatClampNeg → va_P D kCl (wL (22 + 2 * n) ad (sUp ty ad (gc ty ad f th rt qu b w T g a o) si sj sk (it (fun i S => sAdd S (kQp f qu (nI i))) i (it (fun i S => sAdd S (rt i)) 16 S)))) H → va_D A (wL (22 + 2 * n) ad (sUp ty ad (gc ty ad f th rt qu b w T g a o) si sj sk (it (fun i S => sAdd S (kQp f qu (nI i))) i (it (fun i S => sAdd S (rt i)) 16 S)))) → va_S A s.heap H locs → lv_has ls 4 [(0, .ref (ad 0)), (1, .ref (ad si)), (2, .int (f 4 - f 3)), (3, .int (nI i))] → (∀ (H : Heap) (locs : List Loc) (ls : Array Slot), va_P D kCl (wL (22 + 2 * n) ad (sUp ty ad (gc ty ad f th rt qu b w T g a o) si sj sk (it (fun i S => sAdd S (kQp f qu (nI i))) ((f 4 - f 3).toNatClampNeg) (it (fun i S => sAdd S (rt i)) 16 S)))) H → va_D A (wL (22 + 2 * n) ad (sUp ty ad (gc ty ad f th rt qu b w T g a o) si sj sk (it (fun i S => sAdd S (kQp f qu (nI i))) ((f 4 - f 3).toNatClampNeg) (it (fun i S => sAdd S (rt i)) 16 S)))) → va_S A s.heap H locs → lv_has ls 4 [(0, .ref (ad 0)), (1, .ref (ad si)), (2, .int (f 4 - f 3)), (3, .int (nI (f 4 - f 3).toNatClampNeg))] → W p l e (headSpec w_K_addRootsAndQueue ({ frames := 2, cells := 0, slots := 0, locals := 42 })).room s m ([.ref (ad 0), .ref (ad si)] : List Value).toArray below meth cd H locs 0 0 Q (F0 m 54 ls [])) → W p l e (headSpec w_K_addRootsAndQueue ({ frames := 2, cells := 0, slots := 0, locals := 42 })).room s m ([.ref (ad 0), .ref (ad si)] : List Value).toArray below meth cd H locs 0 0 Q (F0 m 34 ls []) := by
    intro Q rem
    induction rem with
    | zero =>
      intro i H locs ls hir_i hP hD hS hl kx
      obtain rfl : (f 4 - f 3).toNatClampNeg = i := by omega
      refine lv_iload_n hx hb d_K_addRootsAndQueue_34 rfl (lv_at hl 3 rfl) ?_
      refine lv_iload_n hx hb d_K_addRootsAndQueue_35 rfl (lv_at hl 2 rfl) ?_
      refine lv_icmp_ge (tgt := 54) hx hb d_K_addRootsAndQueue_36 (by decide) (fun c_36' => ?_) (fun c_36' => absurd kcl_le c_36')
      exact kx _ _ ls hP hD hS hl
    | succ rem ih =>
      intro i H locs ls hir_i hP hD hS hl kx
      have hlt_i : i < (f 4 - f 3).toNatClampNeg := by omega
      refine lv_iload_n hx hb d_K_addRootsAndQueue_34 rfl (lv_at hl 3 rfl) ?_
      refine lv_iload_n hx hb d_K_addRootsAndQueue_35 rfl (lv_at hl 2 rfl) ?_
      refine lv_icmp_ge (tgt := 54) hx hb d_K_addRootsAndQueue_36 (by decide) (fun c_36' => absurd c_36' (kcl_lt hlt_i)) (fun c_36' => ?_)
      refine lv_aload_n hx hb d_K_addRootsAndQueue_39 rfl (lv_at hl 1 rfl) ?_
      refine lv_aload_n hx hb d_K_addRootsAndQueue_40 rfl (lv_at hl 0 rfl) ?_
      refine lv_iload_n hx hb d_K_addRootsAndQueue_41 rfl (lv_at hl 3 rfl) ?_
      refine kc_R (va_runV (As := [.int (nI i)]) (rest := [.ref (ad si)]) ⟨hx, hb, hml, hown, hts⟩ (c_K_queuePlace l D ty ad _ (22 + 2 * n) (sUp ty ad (gc ty ad f th rt qu b w T g a o) si sj sk (it (fun i S => sAdd S (kQp f qu (nI i))) i (it (fun i S => sAdd S (rt i)) 16 S))) f (by omega) (sUp_n (by omega) (by omega) (by omega)) qu (sUp_n (by omega) (by omega) (by omega)) (nI i)) (cwV 1 hts (kGV kS1 m_K_91 m_im_K_queuePlace m_sel_K_queuePlace m_ini_K m_code_K_queuePlace) rfl rfl rfl (by decide +kernel) ⟨Nat.le_of_ble_eq_true rfl, Nat.le_of_ble_eq_true rfl⟩) ⟨kP_blind, va_recv hK hP (ci := 0) (q0 := 0) rfl (gs_n (by omega) (by omega) (by omega) (gw_0)), fun U hU hW => ⟨rfl, kP_at hK hP hD U hU hW⟩⟩ rfl rfl hl.1 rfl (lv_room (Nat.le_of_ble_eq_true rfl)) d_K_addRootsAndQueue_42 ⟨Nat.le_of_ble_eq_true rfl, Nat.le_of_ble_eq_true rfl⟩) ?_
      refine kc_v (va_runV (As := [.int (kQp f qu (nI i))]) (rest := []) ⟨hx, hb, hml, hown, hts⟩ (c_S_add l D ty ad _ (22 + 2 * n) (gc ty ad f th rt qu b w T g a o) si sj sk (it (fun i S => sAdd S (kQp f qu (nI i))) i (it (fun i S => sAdd S (rt i)) 16 S)) (by omega) (by omega) (by omega) hji hki hkj (kQp f qu (nI i))) (cwV 1 hts (kGV kS1 m_K_164 m_im_S_add m_sel_S_add m_ini_S m_code_S_add) rfl rfl rfl (by decide +kernel) ⟨Nat.le_of_ble_eq_true rfl, Nat.le_of_ble_eq_true rfl⟩) ⟨kP_blind, va_recv hK hP (ci := 1) (q0 := si) rfl (sw_o (S := it (fun i S => sAdd S (kQp f qu (nI i))) i (it (fun i S => sAdd S (rt i)) 16 S)) (by omega)), fun U hU hW => ⟨rfl, kP_at hK hP hD U hU hW⟩⟩ rfl rfl hl.1 rfl (lv_room (Nat.le_of_ble_eq_true rfl)) d_K_addRootsAndQueue_45 ⟨Nat.le_of_ble_eq_true rfl, Nat.le_of_ble_eq_true rfl⟩) hD hS hA (fun u H locs hu hP hD hS hz => ?_)
      subst hu
      refine lv_iinc (v := nI i + 1) (lv' := [(3, .int (nI i + 1)), (0, .ref (ad 0)), (1, .ref (ad si)), (2, .int (f 4 - f 3))]) hx hb d_K_addRootsAndQueue_48 hl (k := 3) rfl rfl (by decide) rfl (fun ls hl => ?_)
      refine lv_goto (tgt := 34) hx hb d_K_addRootsAndQueue_51 (by decide) ?_
      have hl := lv_sub (l' := [(0, .ref (ad 0)), (1, .ref (ad si)), (2, .int (f 4 - f 3)), (3, .int (nI i + 1))]) hl [1, 2, 3, 0] rfl
      have hqq9 : (.int (nI i + 1) : Value) = .int (nI (i + 1)) := by rw [nI_1]
      rw [hqq9] at hl
      have hE : (wL (22 + 2 * n) ad (sUp ty ad (gc ty ad f th rt qu b w T g a o) si sj sk (sAdd (it (fun i S => sAdd S (kQp f qu (nI i))) i (it (fun i S => sAdd S (rt i)) 16 S)) (kQp f qu (nI i)))) : va_W) = wL (22 + 2 * n) ad (sUp ty ad (gc ty ad f th rt qu b w T g a o) si sj sk (it (fun i S => sAdd S (kQp f qu (nI i))) (i + 1) (it (fun i S => sAdd S (rt i)) 16 S))) := by rfl
      have hP := kw_P hE hP
      have hD := kw_D hE hD
      exact ih (i + 1) _ _ ls (by omega) hP hD hS hl kx
  have hl := lv_sub (l' := [(0, .ref (ad 0)), (1, .ref (ad si)), (2, .int (f 4 - f 3)), (3, .int 0)]) hl [2, 3, 1, 0] rfl
  have hqq9 : (.int 0 : Value) = .int (nI 0) := by rw [nI_0]
  rw [hqq9] at hl
  refine L2 _ ((f 4 - f 3).toNatClampNeg - 0) 0 _ _ ls (by omega) hP hD hS hl (fun H locs ls hP hD hS hl => ?_)
  have hu : (wL (22 + 2 * n) ad (sUp ty ad (gc ty ad f th rt qu b w T g a o) si sj sk (it (fun i S => sAdd S (kQp f qu (nI i))) ((f 4 - f 3).toNatClampNeg) (it (fun i S => sAdd S (rt i)) 16 S))) : va_W) = wL (22 + 2 * n) ad (sUp ty ad (gc ty ad f th rt qu b w T g a o) si sj sk (addRQ f rt qu S)) := by rfl
  exact W.vret hx hb hr (fun t ht hW => ⟨⟨_, rfl, hu, by rw [ht]; exact hP, va_K.moved hW.alike hK, hD⟩, hS.F ht⟩) hS.2.2 d_K_addRootsAndQueue_54
set_option maxHeartbeats 4000000 in
set_option maxRecDepth 100000 in
/-- followFields(search, weakToo) -/
theorem c_K_followFields (l : Launch) (D : va_G) (ty : Nat → ClassId) (ad : Nat → Nat) (sz : Nat) (n : Nat) (f : Nat → Int32) (th : Nat → Bool) (rt qu : Nat → Int32) (b w : SR) (T : Nat → TH) (g : Nat → Int32) (a : Nat → Nat → Int32) (o : Nat → Int64) (si sj sk : Nat) (S : SR) (hi : 4 ≤ si ∧ si < 10) (hj : 4 ≤ sj ∧ sj < 10) (hk : 4 ≤ sk ∧ sk < 10) (hji : sj ≠ si) (hki : sk ≠ si) (hkj : sk ≠ sj) (wk : Int32) (hn : ∀ k, th k = true → k < n) (h12 : ∀ k, (T k).2.2.2.1 ≤ 12) : Met l y_K_followFields w_K_followFields ({ frames := 2, cells := 0, slots := 0, locals := 41 }) (va_Pc [.ref (ad 0), .ref (ad si), .int wk] (kP D kCl (kTy ty) (wL (22 + 2 * n) ad (sUp ty ad (gc ty ad f th rt qu b w T g a o) si sj sk S)) sz)) (va_Qv (fun u9 : va_W => u9 = (wL (22 + 2 * n) ad (sUp ty ad (gc ty ad f th rt qu b w T g a o) si sj sk (fF th T wk S)))) (kB D kCl (kTy ty) (va_A (wL (22 + 2 * n) ad (sUp ty ad (gc ty ad f th rt qu b w T g a o) si sj sk S)) sz)) (va_A (wL (22 + 2 * n) ad (sUp ty ad (gc ty ad f th rt qu b w T g a o) si sj sk S)) sz)) 0 0 (va_A (wL (22 + 2 * n) ad (sUp ty ad (gc ty ad f th rt qu b w T g a o) si sj sk S)) sz) := by
  refine Met.ofW (cc := b_K_followFields) (maxL := 7) (ret := none) (by decide) rfl ?_
  intro p e s m args below meth cd s₁ B hml hv
  obtain ⟨rfl, hsz, hP, hK, hD0⟩ := hv
  have hx := B.exec
  have hb := B.bytes
  have hr := B.returns
  have hts := atoms_spec (ws := w_K_followFields) B.pre
  have hown : s.vm.findClass R_K = some m.cls := findClass_of_methodNamed B.named
  have hlocks := B.notSynchronized
  subst hsz
  have hD := hD0.self (sz := s.heap.size)
  generalize hAe : va_A (wL (22 + 2 * n) ad (sUp ty ad (gc ty ad f th rt qu b w T g a o) si sj sk S)) s.heap.size = A at hD ⊢
  have hA : ∀ q : Nat, s.heap.size ≤ q → A q := fun q h => by rw [← hAe]; exact Or.inr h
  have hS : va_S A s.heap s.heap [] := va_S.rf
  have hl := lv_entry ([.ref (ad 0), .ref (ad si), .int wk]) (n := 7) (Nat.le_of_ble_eq_true rfl)
  rw [lg_entry_eq]
  generalize (lg_sl ([.ref (ad 0), .ref (ad si), .int wk]) ++ List.replicate (7 - (lg_sl ([.ref (ad 0), .ref (ad si), .int wk])).length) Slot.unset).toArray = ls at hl ⊢
  have hl : lv_has ls 7 [(0, .ref (ad 0)), (1, .ref (ad si)), (2, .int wk)] := hl
  refine lv_iconst (v := 0) hx hb d_K_followFields_0 (by decide) ?_
  refine lv_istore_n (lv' := [(3, .int 0), (0, .ref (ad 0)), (1, .ref (ad si)), (2, .int wk)]) hx hb d_K_followFields_1 rfl hl (by decide) rfl (fun ls hl => ?_)
  have L1 : ∀ (Q : State → Prop) (rem i : Nat) (H : Heap) (locs : List Loc) (ls : Array Slot), i + rem = 300 → va_P D kCl (wL (22 + 2 * n) ad (sUp ty ad (gc ty ad f th rt qu b w T g a o) si sj sk (it (fO th T wk) i S))) H → va_D A (wL (22 + 2 * n) ad (sUp ty ad (gc ty ad f th rt qu b w T g a o) si sj sk (it (fO th T wk) i S))) → va_S A s.heap H locs → lv_has ls 7 [(0, .ref (ad 0)), (1, .ref (ad si)), (2, .int wk), (3, .int (nI i))] → (∀ (H : Heap) (locs : List Loc) (ls : Array Slot), va_P D kCl (wL (22 + 2 * n) ad (sUp ty ad (gc ty ad f th rt qu b w T g a o) si sj sk (it (fO th T wk) 300 S))) H → va_D A (wL (22 + 2 * n) ad (sUp ty ad (gc ty ad f th rt qu b w T g a o) si sj sk (it (fO th T wk) 300 S))) → va_S A s.heap H locs → lv_has ls 7 [(0, .ref (ad 0)), (1, .ref (ad si)), (2, .int wk)] → W p l e (headSpec w_K_followFields ({ frames := 2, cells := 0, slots := 0, locals := 41 })).room s m ([.ref (ad 0), .ref (ad si), .int wk] : List Value).toArray below meth cd H locs 0 0 Q (F0 m 94 ls [])) → W p l e (headSpec w_K_followFields ({ frames := 2, cells := 0, slots := 0, locals := 41 })).room s m ([.ref (ad 0), .ref (ad si), .int wk] : List Value).toArray below meth cd H locs 0 0 Q (F0 m 2 ls []) := by
    intro Q rem
    induction rem with
    | zero =>
      intro i H locs ls hir_i hP hD hS hl kx
      obtain rfl : 300 = i := by omega
      refine lv_iload_n hx hb d_K_followFields_2 rfl (lv_at hl 3 rfl) ?_
      refine lv_sipush (v := 300) hx hb d_K_followFields_3 (by decide) ?_
      refine lv_icmp_ge (tgt := 94) hx hb d_K_followFields_6 (by decide) (fun c_6' => ?_) (fun c_6' => absurd (nI_le (a := 300) (b := 300) (Nat.le_refl _) (by omega)) c_6')
      have hl := lv_sub (l' := [(0, .ref (ad 0)), (1, .ref (ad si)), (2, .int wk)]) hl [0, 1, 2] rfl
      exact kx _ _ ls hP hD hS hl
    | succ rem ih =>
      intro i H locs ls hir_i hP hD hS hl kx
      have hlt_i : i < 300 := by omega
      refine lv_iload_n hx hb d_K_followFields_2 rfl (lv_at hl 3 rfl) ?_
      refine lv_sipush (v := 300) hx hb d_K_followFields_3 (by decide) ?_
      refine lv_icmp_ge (tgt := 94) hx hb d_K_followFields_6 (by decide) (fun c_6' => absurd c_6' (nI_ge (b := 300) hlt_i (by omega))) (fun c_6' => ?_)
      refine lv_iload_n hx hb d_K_followFields_9 rfl (lv_at hl 3 rfl) ?_
      refine lv_aload_n hx hb d_K_followFields_10 rfl (lv_at hl 1 rfl) ?_
      refine va_get (D := D) (ci := 1) (v := .int ((it (fO th T wk) i S).2.2)) (C := R_S) (T := F_S) (N := 3) hx hb hts (fun w h => kS1 w (i_S w h)) hown hK hP si (sw_o (S := it (fO th T wk) i S) (by omega)) rfl 2 (by decide) (hts _ (kS1 _ m_K_125)) (fun _ h9 => h9) rfl d_K_followFields_11 ?_
      refine lv_icmp_ge (tgt := 94) hx hb d_K_followFields_14 (by decide) (fun c_14' => ?_) (fun c_14' => ?_)
      · have hl := lv_sub (l' := [(0, .ref (ad 0)), (1, .ref (ad si)), (2, .int wk)]) hl [0, 1, 2] rfl
        have hE : (wL (22 + 2 * n) ad (sUp ty ad (gc ty ad f th rt qu b w T g a o) si sj sk (it (fO th T wk) i S)) : va_W) = wL (22 + 2 * n) ad (sUp ty ad (gc ty ad f th rt qu b w T g a o) si sj sk (it (fO th T wk) 300 S)) := by rw [fO_stay c_14' (by omega)]
        have hP := kw_P hE hP
        have hD := kw_D hE hD
        exact kx _ _ ls hP hD hS hl
      · have c14 := c_14'
        refine lv_aload_n hx hb d_K_followFields_17 rfl (lv_at hl 0 rfl) ?_
        refine lv_aload_n hx hb d_K_followFields_18 rfl (lv_at hl 1 rfl) ?_
        refine lv_iload_n hx hb d_K_followFields_19 rfl (lv_at hl 3 rfl) ?_
        refine kc_R (va_runV (As := [.int (nI i)]) (rest := [.ref (ad 0)]) ⟨hx, hb, hml, hown, hts⟩ (c_S_at l D ty ad _ (22 + 2 * n) (gc ty ad f th rt qu b w T g a o) si sj sk (it (fO th T wk) i S) (by omega) (by omega) (by omega) hji hki hkj (nI i)) (cwV 1 hts (kGV kS1 m_K_167 m_im_S_at m_sel_S_at m_ini_S m_code_S_at) rfl rfl rfl (by decide +kernel) ⟨Nat.le_of_ble_eq_true rfl, Nat.le_of_ble_eq_true rfl⟩) ⟨kP_blind, va_recv hK hP (ci := 1) (q0 := si) rfl (sw_o (S := it (fO th T wk) i S) (by omega)), fun U hU hW => ⟨rfl, kP_at hK hP hD U hU hW⟩⟩ rfl rfl hl.1 rfl (lv_room (Nat.le_of_ble_eq_true rfl)) d_K_followFields_20 ⟨Nat.le_of_ble_eq_true rfl, Nat.le_of_ble_eq_true rfl⟩) ?_
        refine kc_R (va_runV (As := [.int (sAt (it (fO th T wk) i S) (nI i))]) (rest := []) ⟨hx, hb, hml, hown, hts⟩ (c_K_thingOrNull l D ty ad _ (22 + 2 * n) (sUp ty ad (gc ty ad f th rt qu b w T g a o) si sj sk (it (fO th T wk) i S)) f (by omega) (sUp_n (by omega) (by omega) (by omega)) th (sUp_n (by omega) (by omega) (by omega)) (sAt (it (fO th T wk) i S) (nI i))) (cwV 1 hts (kGV kS1 m_K_98 m_im_K_thingOrNull m_sel_K_thingOrNull m_ini_K m_code_K_thingOrNull) rfl rfl rfl (by decide +kernel) ⟨Nat.le_of_ble_eq_true rfl, Nat.le_of_ble_eq_true rfl⟩) ⟨kP_blind, va_recv hK hP (ci := 0) (q0 := 0) rfl (gs_n (by omega) (by omega) (by omega) (gw_0)), fun U hU hW => ⟨rfl, kP_at hK hP hD U hU hW⟩⟩ rfl rfl hl.1 rfl (lv_room (Nat.le_of_ble_eq_true rfl)) d_K_followFields_23 ⟨Nat.le_of_ble_eq_true rfl, Nat.le_of_ble_eq_true rfl⟩) ?_
        by_cases hto_23 : tOk th (sAt (it (fO th T wk) i S) (nI i)) = true
        · obtain ⟨k23, hk3_k23, he_k23, ht_k23⟩ := tOk_k hto_23
          rw [tOr_tt he_k23 hk3_k23 ht_k23]
          refine lv_astore (lv' := [(4, .ref (ad (22 + 2 * k23))), (0, .ref (ad 0)), (1, .ref (ad si)), (2, .int wk), (3, .int (nI i))]) hx hb d_K_followFields_26 hl (by decide) rfl (fun ls hl => ?_)
          refine lv_aload hx hb d_K_followFields_28 (lv_at hl 0 rfl) ?_
          refine lv_ifnonnull (tgt := 36) hx hb d_K_followFields_30 (by decide) ?_
          refine lv_iload_n hx hb d_K_followFields_36 rfl (lv_at hl 3 rfl) ?_
          refine lv_if_ne (tgt := 52) hx hb d_K_followFields_37 (by decide) (fun c_37' => ?_) (fun c_37' => ?_)
          · refine lv_iconst (v := 0) hx hb d_K_followFields_52 (by decide) ?_
            refine lv_istore (lv' := [(5, .int 0), (4, .ref (ad (22 + 2 * k23))), (0, .ref (ad 0)), (1, .ref (ad si)), (2, .int wk), (3, .int (nI i))]) hx hb d_K_followFields_53 hl (by decide) rfl (fun ls hl => ?_)
            refine lv_iload hx hb d_K_followFields_55 (lv_at hl 0 rfl) ?_
            refine lv_istore (lv' := [(6, .int 0), (5, .int 0), (4, .ref (ad (22 + 2 * k23))), (0, .ref (ad 0)), (1, .ref (ad si)), (2, .int wk), (3, .int (nI i))]) hx hb d_K_followFields_57 hl (by decide) rfl (fun ls hl => ?_)
            have L2 : ∀ (Q : State → Prop) (rem j : Nat) (H : Heap) (locs : List Loc) (ls : Array Slot), j + rem = (T k23).2.2.2.1 → fst (T k23) wk ≤ j → va_P D kCl (wL (22 + 2 * n) ad (sUp ty ad (gc ty ad f th rt qu b w T g a o) si sj sk (it (fJ (T k23) wk) j (it (fO th T wk) i S)))) H → va_D A (wL (22 + 2 * n) ad (sUp ty ad (gc ty ad f th rt qu b w T g a o) si sj sk (it (fJ (T k23) wk) j (it (fO th T wk) i S)))) → va_S A s.heap H locs → lv_has ls 7 [(0, .ref (ad 0)), (1, .ref (ad si)), (2, .int wk), (3, .int (nI i)), (4, .ref (ad (22 + 2 * k23))), (6, .int (nI j))] → (∀ (H : Heap) (locs : List Loc) (ls : Array Slot), va_P D kCl (wL (22 + 2 * n) ad (sUp ty ad (gc ty ad f th rt qu b w T g a o) si sj sk (it (fJ (T k23) wk) ((T k23).2.2.2.1) (it (fO th T wk) i S)))) H → va_D A (wL (22 + 2 * n) ad (sUp ty ad (gc ty ad f th rt qu b w T g a o) si sj sk (it (fJ (T k23) wk) ((T k23).2.2.2.1) (it (fO th T wk) i S)))) → va_S A s.heap H locs → lv_has ls 7 [(0, .ref (ad 0)), (1, .ref (ad si)), (2, .int wk), (3, .int (nI i)), (4, .ref (ad (22 + 2 * k23))), (6, .int (nI (T k23).2.2.2.1))] → W p l e (headSpec w_K_followFields ({ frames := 2, cells := 0, slots := 0, locals := 41 })).room s m ([.ref (ad 0), .ref (ad si), .int wk] : List Value).toArray below meth cd H locs 0 0 Q (F0 m 88 ls [])) → W p l e (headSpec w_K_followFields ({ frames := 2, cells := 0, slots := 0, locals := 41 })).room s m ([.ref (ad 0), .ref (ad si), .int wk] : List Value).toArray below meth cd H locs 0 0 Q (F0 m 59 ls []) := by
              intro Q rem
              induction rem with
              | zero =>
                intro j H locs ls hir_j hinv_j hP hD hS hl kx
                obtain rfl : (T k23).2.2.2.1 = j := by omega
                refine lv_iload hx hb d_K_followFields_59 (lv_at hl 5 rfl) ?_
                refine lv_aload hx hb d_K_followFields_61 (lv_at hl 4 rfl) ?_
                refine va_get (D := D) (ci := 2) (v := .ref (ad (23 + 2 * k23))) (C := R_T) (T := F_T) (N := 4) hx hb hts (fun w h => kS1 w (i_T w h)) hown hK hP (22 + 2 * k23) (gs_n (by omega) (by omega) (by omega) (gw_T (k := k23) (hn _ ht_k23))) rfl 0 (by decide) (hts _ (kS1 _ m_K_66)) (fun _ h9 => h9) rfl d_K_followFields_63 ?_
                refine va_alen (v := nI ((T k23).2.2.2.1)) hx hb hK hP (23 + 2 * k23) 0 (gs_n (by omega) (by omega) (by omega) (gw_F (k := k23) (hn _ ht_k23))) rfl rfl d_K_followFields_66 ?_
                refine lv_icmp_ge (tgt := 88) hx hb d_K_followFields_67 (by decide) (fun c_67'' => ?_) (fun c_67'' => absurd (nI_le (a := (T k23).2.2.2.1) (b := (T k23).2.2.2.1) (Nat.le_refl _) (by have := h12 k23; omega)) c_67'')
                exact kx _ _ ls hP hD hS hl
              | succ rem ih =>
                intro j H locs ls hir_j hinv_j hP hD hS hl kx
                have hlt_j : j < (T k23).2.2.2.1 := by omega
                refine lv_iload hx hb d_K_followFields_59 (lv_at hl 5 rfl) ?_
                refine lv_aload hx hb d_K_followFields_61 (lv_at hl 4 rfl) ?_
                refine va_get (D := D) (ci := 2) (v := .ref (ad (23 + 2 * k23))) (C := R_T) (T := F_T) (N := 4) hx hb hts (fun w h => kS1 w (i_T w h)) hown hK hP (22 + 2 * k23) (gs_n (by omega) (by omega) (by omega) (gw_T (k := k23) (hn _ ht_k23))) rfl 0 (by decide) (hts _ (kS1 _ m_K_66)) (fun _ h9 => h9) rfl d_K_followFields_63 ?_
                refine va_alen (v := nI ((T k23).2.2.2.1)) hx hb hK hP (23 + 2 * k23) 0 (gs_n (by omega) (by omega) (by omega) (gw_F (k := k23) (hn _ ht_k23))) rfl rfl d_K_followFields_66 ?_
                refine lv_icmp_ge (tgt := 88) hx hb d_K_followFields_67 (by decide) (fun c_67'' => absurd c_67'' (nI_ge (b := (T k23).2.2.2.1) hlt_j (by have := h12 k23; omega))) (fun c_67'' => ?_)
                refine lv_aload_n hx hb d_K_followFields_70 rfl (lv_at hl 1 rfl) ?_
                refine lv_aload hx hb d_K_followFields_71 (lv_at hl 4 rfl) ?_
                refine va_get (D := D) (ci := 2) (v := .ref (ad (23 + 2 * k23))) (C := R_T) (T := F_T) (N := 4) hx hb hts (fun w h => kS1 w (i_T w h)) hown hK hP (22 + 2 * k23) (gs_n (by omega) (by omega) (by omega) (gw_T (k := k23) (hn _ ht_k23))) rfl 0 (by decide) (hts _ (kS1 _ m_K_66)) (fun _ h9 => h9) rfl d_K_followFields_73 ?_
                refine lv_iload hx hb d_K_followFields_76 (lv_at hl 5 rfl) ?_
                refine va_iald (f := (T k23).2.2.2.2) hx hb hK hP (23 + 2 * k23) 0 (gs_n (by omega) (by omega) (by omega) (gw_F (k := k23) (hn _ ht_k23))) rfl (vp_in_nI hlt_j (by have := h12 k23; omega)) d_K_followFields_78 ?_
                rw [nI_clamp (n := j) (by have := h12 k23; omega)]
                refine kc_v (va_runV (As := [.int (((T k23).2.2.2.2) j)]) (rest := []) ⟨hx, hb, hml, hown, hts⟩ (c_S_add l D ty ad _ (22 + 2 * n) (gc ty ad f th rt qu b w T g a o) si sj sk (it (fJ (T k23) wk) j (it (fO th T wk) i S)) (by omega) (by omega) (by omega) hji hki hkj (((T k23).2.2.2.2) j)) (cwV 1 hts (kGV kS1 m_K_164 m_im_S_add m_sel_S_add m_ini_S m_code_S_add) rfl rfl rfl (by decide +kernel) ⟨Nat.le_of_ble_eq_true rfl, Nat.le_of_ble_eq_true rfl⟩) ⟨kP_blind, va_recv hK hP (ci := 1) (q0 := si) rfl (sw_o (S := it (fJ (T k23) wk) j (it (fO th T wk) i S)) (by omega)), fun U hU hW => ⟨rfl, kP_at hK hP hD U hU hW⟩⟩ rfl rfl hl.1 rfl (lv_room (Nat.le_of_ble_eq_true rfl)) d_K_followFields_79 ⟨Nat.le_of_ble_eq_true rfl, Nat.le_of_ble_eq_true rfl⟩) hD hS hA (fun u H locs hu hP hD hS hz => ?_)
                subst hu
                refine lv_iinc (v := nI j + 1) (lv' := [(6, .int (nI j + 1)), (0, .ref (ad 0)), (1, .ref (ad si)), (2, .int wk), (3, .int (nI i)), (4, .ref (ad (22 + 2 * k23)))]) hx hb d_K_followFields_82 hl (k := 5) rfl rfl (by decide) rfl (fun ls hl => ?_)
                refine lv_goto (tgt := 59) hx hb d_K_followFields_85 (by decide) ?_
                have hl := lv_sub (l' := [(0, .ref (ad 0)), (1, .ref (ad si)), (2, .int wk), (3, .int (nI i)), (4, .ref (ad (22 + 2 * k23))), (6, .int (nI j + 1))]) hl [1, 2, 3, 4, 5, 0] rfl
                have hqq9 : (.int (nI j + 1) : Value) = .int (nI (j + 1)) := by rw [nI_1]
                rw [hqq9] at hl
                have hE : (wL (22 + 2 * n) ad (sUp ty ad (gc ty ad f th rt qu b w T g a o) si sj sk (sAdd (it (fJ (T k23) wk) j (it (fO th T wk) i S)) (((T k23).2.2.2.2) j))) : va_W) = wL (22 + 2 * n) ad (sUp ty ad (gc ty ad f th rt qu b w T g a o) si sj sk (it (fJ (T k23) wk) (j + 1) (it (fO th T wk) i S))) := by rw [it_s, fJ, if_neg (by omega)]
                have hP := kw_P hE hP
                have hD := kw_D hE hD
                exact ih (j + 1) _ _ ls (by omega) (by omega) hP hD hS hl kx
            have hl := lv_sub (l' := [(0, .ref (ad 0)), (1, .ref (ad si)), (2, .int wk), (3, .int (nI i)), (4, .ref (ad (22 + 2 * k23))), (6, .int 0)]) hl [3, 4, 5, 6, 2, 0] rfl
            have hqq9 : (.int 0 : Value) = .int (nI 0) := by rw [nI_0]
            rw [hqq9] at hl
            have hE : (wL (22 + 2 * n) ad (sUp ty ad (gc ty ad f th rt qu b w T g a o) si sj sk (it (fO th T wk) i S)) : va_W) = wL (22 + 2 * n) ad (sUp ty ad (gc ty ad f th rt qu b w T g a o) si sj sk (it (fJ (T k23) wk) 0 (it (fO th T wk) i S))) := by simp [it, fJ, fst, c_6', c_14', hto_23, c_37']
            have hP := kw_P hE hP
            have hD := kw_D hE hD
            refine L2 _ ((T k23).2.2.2.1 - 0) 0 _ _ ls (by omega) (by simp [fst, c_6', c_14', hto_23, c_37']) hP hD hS hl (fun H locs ls hP hD hS hl => ?_)
            refine lv_iinc (v := nI i + 1) (lv' := [(3, .int (nI i + 1)), (0, .ref (ad 0)), (1, .ref (ad si)), (2, .int wk), (4, .ref (ad (22 + 2 * k23))), (6, .int (nI (T k23).2.2.2.1))]) hx hb d_K_followFields_88 hl (k := 3) rfl rfl (by decide) rfl (fun ls hl => ?_)
            refine lv_goto (tgt := 2) hx hb d_K_followFields_91 (by decide) ?_
            have hl := lv_sub (l' := [(0, .ref (ad 0)), (1, .ref (ad si)), (2, .int wk), (3, .int (nI i + 1))]) hl [1, 2, 3, 0] rfl
            have hqq9 : (.int (nI i + 1) : Value) = .int (nI (i + 1)) := by rw [nI_1]
            rw [hqq9] at hl
            have hE : (wL (22 + 2 * n) ad (sUp ty ad (gc ty ad f th rt qu b w T g a o) si sj sk (it (fJ (T k23) wk) ((T k23).2.2.2.1) (it (fO th T wk) i S))) : va_W) = wL (22 + 2 * n) ad (sUp ty ad (gc ty ad f th rt qu b w T g a o) si sj sk (it (fO th T wk) (i + 1) S)) := by rw [it_s, fO, if_neg c14, fB, if_pos hto_23, he_k23, nI_clamp (by omega)]
            have hP := kw_P hE hP
            have hD := kw_D hE hD
            exact ih (i + 1) _ _ ls (by omega) hP hD hS hl kx
          · refine lv_aload hx hb d_K_followFields_40 (lv_at hl 0 rfl) ?_
            refine kc_R (va_runV (As := []) (rest := []) ⟨hx, hb, hml, hown, hts⟩ (c_T_hasWeakField l D ty ad _ (22 + 2 * n) (sUp ty ad (gc ty ad f th rt qu b w T g a o) si sj sk (it (fO th T wk) i S)) (22 + 2 * k23) (23 + 2 * k23) ((T k23).1) ((T k23).2.1) ((T k23).2.2.1) ((T k23).2.2.2.1) ((T k23).2.2.2.2) (gi_T (hn _ ht_k23)) (gi_F (hn _ ht_k23)) (sUp_n (by omega) (by omega) (by omega) gc_T) (sUp_n (by omega) (by omega) (by omega) gc_F)) (cwV 0 hts (kGV kS1 m_K_170 m_im_T_hasWeakField m_sel_T_hasWeakField m_ini_T m_code_T_hasWeakField) rfl rfl rfl (by decide +kernel) ⟨Nat.le_of_ble_eq_true rfl, Nat.le_of_ble_eq_true rfl⟩) ⟨kP_blind, va_recv hK hP (ci := 2) (q0 := (22 + 2 * k23)) rfl (gs_n (by omega) (by omega) (by omega) (gw_T (k := k23) (hn _ ht_k23))), fun U hU hW => ⟨rfl, kP_at hK hP hD U hU hW⟩⟩ rfl rfl hl.1 rfl (lv_room (Nat.le_of_ble_eq_true rfl)) d_K_followFields_42 ⟨Nat.le_of_ble_eq_true rfl, Nat.le_of_ble_eq_true rfl⟩) ?_
            refine lv_if_eq (tgt := 52) hx hb d_K_followFields_45 (by decide) (fun c_45' => ?_) (fun c_45' => ?_)
            · refine lv_iconst (v := 0) hx hb d_K_followFields_52 (by decide) ?_
              refine lv_istore (lv' := [(5, .int 0), (4, .ref (ad (22 + 2 * k23))), (0, .ref (ad 0)), (1, .ref (ad si)), (2, .int wk), (3, .int (nI i))]) hx hb d_K_followFields_53 hl (by decide) rfl (fun ls hl => ?_)
              refine lv_iload hx hb d_K_followFields_55 (lv_at hl 0 rfl) ?_
              refine lv_istore (lv' := [(6, .int 0), (5, .int 0), (4, .ref (ad (22 + 2 * k23))), (0, .ref (ad 0)), (1, .ref (ad si)), (2, .int wk), (3, .int (nI i))]) hx hb d_K_followFields_57 hl (by decide) rfl (fun ls hl => ?_)
              have L2 : ∀ (Q : State → Prop) (rem j : Nat) (H : Heap) (locs : List Loc) (ls : Array Slot), j + rem = (T k23).2.2.2.1 → fst (T k23) wk ≤ j → va_P D kCl (wL (22 + 2 * n) ad (sUp ty ad (gc ty ad f th rt qu b w T g a o) si sj sk (it (fJ (T k23) wk) j (it (fO th T wk) i S)))) H → va_D A (wL (22 + 2 * n) ad (sUp ty ad (gc ty ad f th rt qu b w T g a o) si sj sk (it (fJ (T k23) wk) j (it (fO th T wk) i S)))) → va_S A s.heap H locs → lv_has ls 7 [(0, .ref (ad 0)), (1, .ref (ad si)), (2, .int wk), (3, .int (nI i)), (4, .ref (ad (22 + 2 * k23))), (6, .int (nI j))] → (∀ (H : Heap) (locs : List Loc) (ls : Array Slot), va_P D kCl (wL (22 + 2 * n) ad (sUp ty ad (gc ty ad f th rt qu b w T g a o) si sj sk (it (fJ (T k23) wk) ((T k23).2.2.2.1) (it (fO th T wk) i S)))) H → va_D A (wL (22 + 2 * n) ad (sUp ty ad (gc ty ad f th rt qu b w T g a o) si sj sk (it (fJ (T k23) wk) ((T k23).2.2.2.1) (it (fO th T wk) i S)))) → va_S A s.heap H locs → lv_has ls 7 [(0, .ref (ad 0)), (1, .ref (ad si)), (2, .int wk), (3, .int (nI i)), (4, .ref (ad (22 + 2 * k23))), (6, .int (nI (T k23).2.2.2.1))] → W p l e (headSpec w_K_followFields ({ frames := 2, cells := 0, slots := 0, locals := 41 })).room s m ([.ref (ad 0), .ref (ad si), .int wk] : List Value).toArray below meth cd H locs 0 0 Q (F0 m 88 ls [])) → W p l e (headSpec w_K_followFields ({ frames := 2, cells := 0, slots := 0, locals := 41 })).room s m ([.ref (ad 0), .ref (ad si), .int wk] : List Value).toArray below meth cd H locs 0 0 Q (F0 m 59 ls []) := by
                intro Q rem
                induction rem with
                | zero =>
                  intro j H locs ls hir_j hinv_j hP hD hS hl kx
                  obtain rfl : (T k23).2.2.2.1 = j := by omega
                  refine lv_iload hx hb d_K_followFields_59 (lv_at hl 5 rfl) ?_
                  refine lv_aload hx hb d_K_followFields_61 (lv_at hl 4 rfl) ?_
                  refine va_get (D := D) (ci := 2) (v := .ref (ad (23 + 2 * k23))) (C := R_T) (T := F_T) (N := 4) hx hb hts (fun w h => kS1 w (i_T w h)) hown hK hP (22 + 2 * k23) (gs_n (by omega) (by omega) (by omega) (gw_T (k := k23) (hn _ ht_k23))) rfl 0 (by decide) (hts _ (kS1 _ m_K_66)) (fun _ h9 => h9) rfl d_K_followFields_63 ?_
                  refine va_alen (v := nI ((T k23).2.2.2.1)) hx hb hK hP (23 + 2 * k23) 0 (gs_n (by omega) (by omega) (by omega) (gw_F (k := k23) (hn _ ht_k23))) rfl rfl d_K_followFields_66 ?_
                  refine lv_icmp_ge (tgt := 88) hx hb d_K_followFields_67 (by decide) (fun c_67'' => ?_) (fun c_67'' => absurd (nI_le (a := (T k23).2.2.2.1) (b := (T k23).2.2.2.1) (Nat.le_refl _) (by have := h12 k23; omega)) c_67'')
                  exact kx _ _ ls hP hD hS hl
                | succ rem ih =>
                  intro j H locs ls hir_j hinv_j hP hD hS hl kx
                  have hlt_j : j < (T k23).2.2.2.1 := by omega
                  refine lv_iload hx hb d_K_followFields_59 (lv_at hl 5 rfl) ?_
                  refine lv_aload hx hb d_K_followFields_61 (lv_at hl 4 rfl) ?_
                  refine va_get (D := D) (ci := 2) (v := .ref (ad (23 + 2 * k23))) (C := R_T) (T := F_T) (N := 4) hx hb hts (fun w h => kS1 w (i_T w h)) hown hK hP (22 + 2 * k23) (gs_n (by omega) (by omega) (by omega) (gw_T (k := k23) (hn _ ht_k23))) rfl 0 (by decide) (hts _ (kS1 _ m_K_66)) (fun _ h9 => h9) rfl d_K_followFields_63 ?_
                  refine va_alen (v := nI ((T k23).2.2.2.1)) hx hb hK hP (23 + 2 * k23) 0 (gs_n (by omega) (by omega) (by omega) (gw_F (k := k23) (hn _ ht_k23))) rfl rfl d_K_followFields_66 ?_
                  refine lv_icmp_ge (tgt := 88) hx hb d_K_followFields_67 (by decide) (fun c_67'' => absurd c_67'' (nI_ge (b := (T k23).2.2.2.1) hlt_j (by have := h12 k23; omega))) (fun c_67'' => ?_)
                  refine lv_aload_n hx hb d_K_followFields_70 rfl (lv_at hl 1 rfl) ?_
                  refine lv_aload hx hb d_K_followFields_71 (lv_at hl 4 rfl) ?_
                  refine va_get (D := D) (ci := 2) (v := .ref (ad (23 + 2 * k23))) (C := R_T) (T := F_T) (N := 4) hx hb hts (fun w h => kS1 w (i_T w h)) hown hK hP (22 + 2 * k23) (gs_n (by omega) (by omega) (by omega) (gw_T (k := k23) (hn _ ht_k23))) rfl 0 (by decide) (hts _ (kS1 _ m_K_66)) (fun _ h9 => h9) rfl d_K_followFields_73 ?_
                  refine lv_iload hx hb d_K_followFields_76 (lv_at hl 5 rfl) ?_
                  refine va_iald (f := (T k23).2.2.2.2) hx hb hK hP (23 + 2 * k23) 0 (gs_n (by omega) (by omega) (by omega) (gw_F (k := k23) (hn _ ht_k23))) rfl (vp_in_nI hlt_j (by have := h12 k23; omega)) d_K_followFields_78 ?_
                  rw [nI_clamp (n := j) (by have := h12 k23; omega)]
                  refine kc_v (va_runV (As := [.int (((T k23).2.2.2.2) j)]) (rest := []) ⟨hx, hb, hml, hown, hts⟩ (c_S_add l D ty ad _ (22 + 2 * n) (gc ty ad f th rt qu b w T g a o) si sj sk (it (fJ (T k23) wk) j (it (fO th T wk) i S)) (by omega) (by omega) (by omega) hji hki hkj (((T k23).2.2.2.2) j)) (cwV 1 hts (kGV kS1 m_K_164 m_im_S_add m_sel_S_add m_ini_S m_code_S_add) rfl rfl rfl (by decide +kernel) ⟨Nat.le_of_ble_eq_true rfl, Nat.le_of_ble_eq_true rfl⟩) ⟨kP_blind, va_recv hK hP (ci := 1) (q0 := si) rfl (sw_o (S := it (fJ (T k23) wk) j (it (fO th T wk) i S)) (by omega)), fun U hU hW => ⟨rfl, kP_at hK hP hD U hU hW⟩⟩ rfl rfl hl.1 rfl (lv_room (Nat.le_of_ble_eq_true rfl)) d_K_followFields_79 ⟨Nat.le_of_ble_eq_true rfl, Nat.le_of_ble_eq_true rfl⟩) hD hS hA (fun u H locs hu hP hD hS hz => ?_)
                  subst hu
                  refine lv_iinc (v := nI j + 1) (lv' := [(6, .int (nI j + 1)), (0, .ref (ad 0)), (1, .ref (ad si)), (2, .int wk), (3, .int (nI i)), (4, .ref (ad (22 + 2 * k23)))]) hx hb d_K_followFields_82 hl (k := 5) rfl rfl (by decide) rfl (fun ls hl => ?_)
                  refine lv_goto (tgt := 59) hx hb d_K_followFields_85 (by decide) ?_
                  have hl := lv_sub (l' := [(0, .ref (ad 0)), (1, .ref (ad si)), (2, .int wk), (3, .int (nI i)), (4, .ref (ad (22 + 2 * k23))), (6, .int (nI j + 1))]) hl [1, 2, 3, 4, 5, 0] rfl
                  have hqq9 : (.int (nI j + 1) : Value) = .int (nI (j + 1)) := by rw [nI_1]
                  rw [hqq9] at hl
                  have hE : (wL (22 + 2 * n) ad (sUp ty ad (gc ty ad f th rt qu b w T g a o) si sj sk (sAdd (it (fJ (T k23) wk) j (it (fO th T wk) i S)) (((T k23).2.2.2.2) j))) : va_W) = wL (22 + 2 * n) ad (sUp ty ad (gc ty ad f th rt qu b w T g a o) si sj sk (it (fJ (T k23) wk) (j + 1) (it (fO th T wk) i S))) := by rw [it_s, fJ, if_neg (by omega)]
                  have hP := kw_P hE hP
                  have hD := kw_D hE hD
                  exact ih (j + 1) _ _ ls (by omega) (by omega) hP hD hS hl kx
              have hl := lv_sub (l' := [(0, .ref (ad 0)), (1, .ref (ad si)), (2, .int wk), (3, .int (nI i)), (4, .ref (ad (22 + 2 * k23))), (6, .int 0)]) hl [3, 4, 5, 6, 2, 0] rfl
              have hqq9 : (.int 0 : Value) = .int (nI 0) := by rw [nI_0]
              rw [hqq9] at hl
              have hE : (wL (22 + 2 * n) ad (sUp ty ad (gc ty ad f th rt qu b w T g a o) si sj sk (it (fO th T wk) i S)) : va_W) = wL (22 + 2 * n) ad (sUp ty ad (gc ty ad f th rt qu b w T g a o) si sj sk (it (fJ (T k23) wk) 0 (it (fO th T wk) i S))) := by simp [it, fJ, fst, c_6', c_14', hto_23, c_37', c_45']
              have hP := kw_P hE hP
              have hD := kw_D hE hD
              refine L2 _ ((T k23).2.2.2.1 - 0) 0 _ _ ls (by omega) (by simp [fst, c_6', c_14', hto_23, c_37', c_45']) hP hD hS hl (fun H locs ls hP hD hS hl => ?_)
              refine lv_iinc (v := nI i + 1) (lv' := [(3, .int (nI i + 1)), (0, .ref (ad 0)), (1, .ref (ad si)), (2, .int wk), (4, .ref (ad (22 + 2 * k23))), (6, .int (nI (T k23).2.2.2.1))]) hx hb d_K_followFields_88 hl (k := 3) rfl rfl (by decide) rfl (fun ls hl => ?_)
              refine lv_goto (tgt := 2) hx hb d_K_followFields_91 (by decide) ?_
              have hl := lv_sub (l' := [(0, .ref (ad 0)), (1, .ref (ad si)), (2, .int wk), (3, .int (nI i + 1))]) hl [1, 2, 3, 0] rfl
              have hqq9 : (.int (nI i + 1) : Value) = .int (nI (i + 1)) := by rw [nI_1]
              rw [hqq9] at hl
              have hE : (wL (22 + 2 * n) ad (sUp ty ad (gc ty ad f th rt qu b w T g a o) si sj sk (it (fJ (T k23) wk) ((T k23).2.2.2.1) (it (fO th T wk) i S))) : va_W) = wL (22 + 2 * n) ad (sUp ty ad (gc ty ad f th rt qu b w T g a o) si sj sk (it (fO th T wk) (i + 1) S)) := by rw [it_s, fO, if_neg c14, fB, if_pos hto_23, he_k23, nI_clamp (by omega)]
              have hP := kw_P hE hP
              have hD := kw_D hE hD
              exact ih (i + 1) _ _ ls (by omega) hP hD hS hl kx
            · refine lv_iconst (v := 1) hx hb d_K_followFields_48 (by decide) ?_
              refine lv_goto (tgt := 53) hx hb d_K_followFields_49 (by decide) ?_
              refine lv_istore (lv' := [(5, .int 1), (4, .ref (ad (22 + 2 * k23))), (0, .ref (ad 0)), (1, .ref (ad si)), (2, .int wk), (3, .int (nI i))]) hx hb d_K_followFields_53 hl (by decide) rfl (fun ls hl => ?_)
              refine lv_iload hx hb d_K_followFields_55 (lv_at hl 0 rfl) ?_
              refine lv_istore (lv' := [(6, .int 1), (5, .int 1), (4, .ref (ad (22 + 2 * k23))), (0, .ref (ad 0)), (1, .ref (ad si)), (2, .int wk), (3, .int (nI i))]) hx hb d_K_followFields_57 hl (by decide) rfl (fun ls hl => ?_)
              have L2 : ∀ (Q : State → Prop) (rem j : Nat) (H : Heap) (locs : List Loc) (ls : Array Slot), j + rem = (T k23).2.2.2.1 → fst (T k23) wk ≤ j → va_P D kCl (wL (22 + 2 * n) ad (sUp ty ad (gc ty ad f th rt qu b w T g a o) si sj sk (it (fJ (T k23) wk) j (it (fO th T wk) i S)))) H → va_D A (wL (22 + 2 * n) ad (sUp ty ad (gc ty ad f th rt qu b w T g a o) si sj sk (it (fJ (T k23) wk) j (it (fO th T wk) i S)))) → va_S A s.heap H locs → lv_has ls 7 [(0, .ref (ad 0)), (1, .ref (ad si)), (2, .int wk), (3, .int (nI i)), (4, .ref (ad (22 + 2 * k23))), (6, .int (nI j))] → (∀ (H : Heap) (locs : List Loc) (ls : Array Slot), va_P D kCl (wL (22 + 2 * n) ad (sUp ty ad (gc ty ad f th rt qu b w T g a o) si sj sk (it (fJ (T k23) wk) ((T k23).2.2.2.1) (it (fO th T wk) i S)))) H → va_D A (wL (22 + 2 * n) ad (sUp ty ad (gc ty ad f th rt qu b w T g a o) si sj sk (it (fJ (T k23) wk) ((T k23).2.2.2.1) (it (fO th T wk) i S)))) → va_S A s.heap H locs → lv_has ls 7 [(0, .ref (ad 0)), (1, .ref (ad si)), (2, .int wk), (3, .int (nI i)), (4, .ref (ad (22 + 2 * k23))), (6, .int (nI (T k23).2.2.2.1))] → W p l e (headSpec w_K_followFields ({ frames := 2, cells := 0, slots := 0, locals := 41 })).room s m ([.ref (ad 0), .ref (ad si), .int wk] : List Value).toArray below meth cd H locs 0 0 Q (F0 m 88 ls [])) → W p l e (headSpec w_K_followFields ({ frames := 2, cells := 0, slots := 0, locals := 41 })).room s m ([.ref (ad 0), .ref (ad si), .int wk] : List Value).toArray below meth cd H locs 0 0 Q (F0 m 59 ls []) := by
                intro Q rem
                induction rem with
                | zero =>
                  intro j H locs ls hir_j hinv_j hP hD hS hl kx
                  obtain rfl : (T k23).2.2.2.1 = j := by omega
                  refine lv_iload hx hb d_K_followFields_59 (lv_at hl 5 rfl) ?_
                  refine lv_aload hx hb d_K_followFields_61 (lv_at hl 4 rfl) ?_
                  refine va_get (D := D) (ci := 2) (v := .ref (ad (23 + 2 * k23))) (C := R_T) (T := F_T) (N := 4) hx hb hts (fun w h => kS1 w (i_T w h)) hown hK hP (22 + 2 * k23) (gs_n (by omega) (by omega) (by omega) (gw_T (k := k23) (hn _ ht_k23))) rfl 0 (by decide) (hts _ (kS1 _ m_K_66)) (fun _ h9 => h9) rfl d_K_followFields_63 ?_
                  refine va_alen (v := nI ((T k23).2.2.2.1)) hx hb hK hP (23 + 2 * k23) 0 (gs_n (by omega) (by omega) (by omega) (gw_F (k := k23) (hn _ ht_k23))) rfl rfl d_K_followFields_66 ?_
                  refine lv_icmp_ge (tgt := 88) hx hb d_K_followFields_67 (by decide) (fun c_67'' => ?_) (fun c_67'' => absurd (nI_le (a := (T k23).2.2.2.1) (b := (T k23).2.2.2.1) (Nat.le_refl _) (by have := h12 k23; omega)) c_67'')
                  exact kx _ _ ls hP hD hS hl
                | succ rem ih =>
                  intro j H locs ls hir_j hinv_j hP hD hS hl kx
                  have hlt_j : j < (T k23).2.2.2.1 := by omega
                  refine lv_iload hx hb d_K_followFields_59 (lv_at hl 5 rfl) ?_
                  refine lv_aload hx hb d_K_followFields_61 (lv_at hl 4 rfl) ?_
                  refine va_get (D := D) (ci := 2) (v := .ref (ad (23 + 2 * k23))) (C := R_T) (T := F_T) (N := 4) hx hb hts (fun w h => kS1 w (i_T w h)) hown hK hP (22 + 2 * k23) (gs_n (by omega) (by omega) (by omega) (gw_T (k := k23) (hn _ ht_k23))) rfl 0 (by decide) (hts _ (kS1 _ m_K_66)) (fun _ h9 => h9) rfl d_K_followFields_63 ?_
                  refine va_alen (v := nI ((T k23).2.2.2.1)) hx hb hK hP (23 + 2 * k23) 0 (gs_n (by omega) (by omega) (by omega) (gw_F (k := k23) (hn _ ht_k23))) rfl rfl d_K_followFields_66 ?_
                  refine lv_icmp_ge (tgt := 88) hx hb d_K_followFields_67 (by decide) (fun c_67'' => absurd c_67'' (nI_ge (b := (T k23).2.2.2.1) hlt_j (by have := h12 k23; omega))) (fun c_67'' => ?_)
                  refine lv_aload_n hx hb d_K_followFields_70 rfl (lv_at hl 1 rfl) ?_
                  refine lv_aload hx hb d_K_followFields_71 (lv_at hl 4 rfl) ?_
                  refine va_get (D := D) (ci := 2) (v := .ref (ad (23 + 2 * k23))) (C := R_T) (T := F_T) (N := 4) hx hb hts (fun w h => kS1 w (i_T w h)) hown hK hP (22 + 2 * k23) (gs_n (by omega) (by omega) (by omega) (gw_T (k := k23) (hn _ ht_k23))) rfl 0 (by decide) (hts _ (kS1 _ m_K_66)) (fun _ h9 => h9) rfl d_K_followFields_73 ?_
                  refine lv_iload hx hb d_K_followFields_76 (lv_at hl 5 rfl) ?_
                  refine va_iald (f := (T k23).2.2.2.2) hx hb hK hP (23 + 2 * k23) 0 (gs_n (by omega) (by omega) (by omega) (gw_F (k := k23) (hn _ ht_k23))) rfl (vp_in_nI hlt_j (by have := h12 k23; omega)) d_K_followFields_78 ?_
                  rw [nI_clamp (n := j) (by have := h12 k23; omega)]
                  refine kc_v (va_runV (As := [.int (((T k23).2.2.2.2) j)]) (rest := []) ⟨hx, hb, hml, hown, hts⟩ (c_S_add l D ty ad _ (22 + 2 * n) (gc ty ad f th rt qu b w T g a o) si sj sk (it (fJ (T k23) wk) j (it (fO th T wk) i S)) (by omega) (by omega) (by omega) hji hki hkj (((T k23).2.2.2.2) j)) (cwV 1 hts (kGV kS1 m_K_164 m_im_S_add m_sel_S_add m_ini_S m_code_S_add) rfl rfl rfl (by decide +kernel) ⟨Nat.le_of_ble_eq_true rfl, Nat.le_of_ble_eq_true rfl⟩) ⟨kP_blind, va_recv hK hP (ci := 1) (q0 := si) rfl (sw_o (S := it (fJ (T k23) wk) j (it (fO th T wk) i S)) (by omega)), fun U hU hW => ⟨rfl, kP_at hK hP hD U hU hW⟩⟩ rfl rfl hl.1 rfl (lv_room (Nat.le_of_ble_eq_true rfl)) d_K_followFields_79 ⟨Nat.le_of_ble_eq_true rfl, Nat.le_of_ble_eq_true rfl⟩) hD hS hA (fun u H locs hu hP hD hS hz => ?_)
                  subst hu
                  refine lv_iinc (v := nI j + 1) (lv' := [(6, .int (nI j + 1)), (0, .ref (ad 0)), (1, .ref (ad si)), (2, .int wk), (3, .int (nI i)), (4, .ref (ad (22 + 2 * k23)))]) hx hb d_K_followFields_82 hl (k := 5) rfl rfl (by decide) rfl (fun ls hl => ?_)
                  refine lv_goto (tgt := 59) hx hb d_K_followFields_85 (by decide) ?_
                  have hl := lv_sub (l' := [(0, .ref (ad 0)), (1, .ref (ad si)), (2, .int wk), (3, .int (nI i)), (4, .ref (ad (22 + 2 * k23))), (6, .int (nI j + 1))]) hl [1, 2, 3, 4, 5, 0] rfl
                  have hqq9 : (.int (nI j + 1) : Value) = .int (nI (j + 1)) := by rw [nI_1]
                  rw [hqq9] at hl
                  have hE : (wL (22 + 2 * n) ad (sUp ty ad (gc ty ad f th rt qu b w T g a o) si sj sk (sAdd (it (fJ (T k23) wk) j (it (fO th T wk) i S)) (((T k23).2.2.2.2) j))) : va_W) = wL (22 + 2 * n) ad (sUp ty ad (gc ty ad f th rt qu b w T g a o) si sj sk (it (fJ (T k23) wk) (j + 1) (it (fO th T wk) i S))) := by rw [it_s, fJ, if_neg (by omega)]
                  have hP := kw_P hE hP
                  have hD := kw_D hE hD
                  exact ih (j + 1) _ _ ls (by omega) (by omega) hP hD hS hl kx
              have hl := lv_sub (l' := [(0, .ref (ad 0)), (1, .ref (ad si)), (2, .int wk), (3, .int (nI i)), (4, .ref (ad (22 + 2 * k23))), (6, .int 1)]) hl [3, 4, 5, 6, 2, 0] rfl
              have hqq9 : (.int 1 : Value) = .int (nI 1) := by rfl
              rw [hqq9] at hl
              have hE : (wL (22 + 2 * n) ad (sUp ty ad (gc ty ad f th rt qu b w T g a o) si sj sk (it (fO th T wk) i S)) : va_W) = wL (22 + 2 * n) ad (sUp ty ad (gc ty ad f th rt qu b w T g a o) si sj sk (it (fJ (T k23) wk) 1 (it (fO th T wk) i S))) := by simp [it, fJ, fst, c_6', c_14', hto_23, c_37', c_45']
              have hP := kw_P hE hP
              have hD := kw_D hE hD
              refine L2 _ ((T k23).2.2.2.1 - 1) 1 _ _ ls (by have := tHasW_pos c_45'; omega) (by simp [fst, c_6', c_14', hto_23, c_37', c_45']) hP hD hS hl (fun H locs ls hP hD hS hl => ?_)
              refine lv_iinc (v := nI i + 1) (lv' := [(3, .int (nI i + 1)), (0, .ref (ad 0)), (1, .ref (ad si)), (2, .int wk), (4, .ref (ad (22 + 2 * k23))), (6, .int (nI (T k23).2.2.2.1))]) hx hb d_K_followFields_88 hl (k := 3) rfl rfl (by decide) rfl (fun ls hl => ?_)
              refine lv_goto (tgt := 2) hx hb d_K_followFields_91 (by decide) ?_
              have hl := lv_sub (l' := [(0, .ref (ad 0)), (1, .ref (ad si)), (2, .int wk), (3, .int (nI i + 1))]) hl [1, 2, 3, 0] rfl
              have hqq9 : (.int (nI i + 1) : Value) = .int (nI (i + 1)) := by rw [nI_1]
              rw [hqq9] at hl
              have hE : (wL (22 + 2 * n) ad (sUp ty ad (gc ty ad f th rt qu b w T g a o) si sj sk (it (fJ (T k23) wk) ((T k23).2.2.2.1) (it (fO th T wk) i S))) : va_W) = wL (22 + 2 * n) ad (sUp ty ad (gc ty ad f th rt qu b w T g a o) si sj sk (it (fO th T wk) (i + 1) S)) := by rw [it_s, fO, if_neg c14, fB, if_pos hto_23, he_k23, nI_clamp (by omega)]
              have hP := kw_P hE hP
              have hD := kw_D hE hD
              exact ih (i + 1) _ _ ls (by omega) hP hD hS hl kx
        · rw [tOr_f hto_23]
          refine lv_astoreN (lv' := [(4, .null), (0, .ref (ad 0)), (1, .ref (ad si)), (2, .int wk), (3, .int (nI i))]) hx hb d_K_followFields_26 hl (by decide) rfl (fun ls hl => ?_)
          refine lv_aloadN hx hb d_K_followFields_28 (lv_at hl 0 rfl) ?_
          refine lv_ifnonnullN hx hb d_K_followFields_30 ?_
          refine lv_goto (tgt := 88) hx hb d_K_followFields_33 (by decide) ?_
          refine lv_iinc (v := nI i + 1) (lv' := [(3, .int (nI i + 1)), (4, .null), (0, .ref (ad 0)), (1, .ref (ad si)), (2, .int wk)]) hx hb d_K_followFields_88 hl (k := 4) rfl rfl (by decide) rfl (fun ls hl => ?_)
          refine lv_goto (tgt := 2) hx hb d_K_followFields_91 (by decide) ?_
          have hl := lv_sub (l' := [(0, .ref (ad 0)), (1, .ref (ad si)), (2, .int wk), (3, .int (nI i + 1))]) hl [2, 3, 4, 0] rfl
          have hqq9 : (.int (nI i + 1) : Value) = .int (nI (i + 1)) := by rw [nI_1]
          rw [hqq9] at hl
          have hE : (wL (22 + 2 * n) ad (sUp ty ad (gc ty ad f th rt qu b w T g a o) si sj sk (it (fO th T wk) i S)) : va_W) = wL (22 + 2 * n) ad (sUp ty ad (gc ty ad f th rt qu b w T g a o) si sj sk (it (fO th T wk) (i + 1) S)) := by rw [it_s, fO, if_neg c14, fB, if_neg hto_23]
          have hP := kw_P hE hP
          have hD := kw_D hE hD
          exact ih (i + 1) _ _ ls (by omega) hP hD hS hl kx
  have hl := lv_sub (l' := [(0, .ref (ad 0)), (1, .ref (ad si)), (2, .int wk), (3, .int 0)]) hl [1, 2, 3, 0] rfl
  have hqq9 : (.int 0 : Value) = .int (nI 0) := by rw [nI_0]
  rw [hqq9] at hl
  refine L1 _ (300 - 0) 0 _ _ ls (by omega) hP hD hS hl (fun H locs ls hP hD hS hl => ?_)
  have hu : (wL (22 + 2 * n) ad (sUp ty ad (gc ty ad f th rt qu b w T g a o) si sj sk (it (fO th T wk) 300 S)) : va_W) = wL (22 + 2 * n) ad (sUp ty ad (gc ty ad f th rt qu b w T g a o) si sj sk (fF th T wk S)) := by rfl
  exact W.vret hx hb hr (fun t ht hW => ⟨⟨_, rfl, hu, by rw [ht]; exact hP, va_K.moved hW.alike hK, hD⟩, hS.F ht⟩) hS.2.2 d_K_followFields_94
set_option maxHeartbeats 4000000 in
set_option maxRecDepth 100000 in
/-- searchReached(search) -/
theorem c_K_searchReached (l : Launch) (D : va_G) (ty : Nat → ClassId) (ad : Nat → Nat) (sz : Nat) (n : Nat) (f : Nat → Int32) (th : Nat → Bool) (rt qu : Nat → Int32) (b w : SR) (T : Nat → TH) (g : Nat → Int32) (a : Nat → Nat → Int32) (o : Nat → Int64) (si sj sk : Nat) (S : SR) (hi : 4 ≤ si ∧ si < 10) (hj : 4 ≤ sj ∧ sj < 10) (hk : 4 ≤ sk ∧ sk < 10) (hji : sj ≠ si) (hki : sk ≠ si) (hkj : sk ≠ sj) (hn : ∀ k, th k = true → k < n) (h12 : ∀ k, (T k).2.2.2.1 ≤ 12) : Met l y_K_searchReached w_K_searchReached ({ frames := 3, cells := 0, slots := 0, locals := 67 }) (va_Pc [.ref (ad 0), .ref (ad si)] (kP D kCl (kTy ty) (wL (22 + 2 * n) ad (sUp ty ad (gc ty ad f th rt qu b w T g a o) si sj sk S)) sz)) (va_Qv (fun u9 : va_W => u9 = (wL (22 + 2 * n) ad (sUp ty ad (gc ty ad f th rt qu b w T g a o) si sj sk (sReach f th rt qu T S)))) (kB D kCl (kTy ty) (va_A (wL (22 + 2 * n) ad (sUp ty ad (gc ty ad f th rt qu b w T g a o) si sj sk S)) sz)) (va_A (wL (22 + 2 * n) ad (sUp ty ad (gc ty ad f th rt qu b w T g a o) si sj sk S)) sz)) 0 0 (va_A (wL (22 + 2 * n) ad (sUp ty ad (gc ty ad f th rt qu b w T g a o) si sj sk S)) sz) := by
  refine Met.ofW (cc := b_K_searchReached) (maxL := 2) (ret := none) (by decide) rfl ?_
  intro p e s m args below meth cd s₁ B hml hv
  obtain ⟨rfl, hsz, hP, hK, hD0⟩ := hv
  have hx := B.exec
  have hb := B.bytes
  have hr := B.returns
  have hts := atoms_spec (ws := w_K_searchReached) B.pre
  have hown : s.vm.findClass R_K = some m.cls := findClass_of_methodNamed B.named
  have hlocks := B.notSynchronized
  subst hsz
  have hD := hD0.self (sz := s.heap.size)
  generalize hAe : va_A (wL (22 + 2 * n) ad (sUp ty ad (gc ty ad f th rt qu b w T g a o) si sj sk S)) s.heap.size = A at hD ⊢
  have hA : ∀ q : Nat, s.heap.size ≤ q → A q := fun q h => by rw [← hAe]; exact Or.inr h
  have hS : va_S A s.heap s.heap [] := va_S.rf
  have hl := lv_entry ([.ref (ad 0), .ref (ad si)]) (n := 2) (Nat.le_of_ble_eq_true rfl)
  rw [lg_entry_eq]
  generalize (lg_sl ([.ref (ad 0), .ref (ad si)]) ++ List.replicate (2 - (lg_sl ([.ref (ad 0), .ref (ad si)])).length) Slot.unset).toArray = ls at hl ⊢
  have hl : lv_has ls 2 [(0, .ref (ad 0)), (1, .ref (ad si))] := hl
  refine lv_aload_n hx hb d_K_searchReached_0 rfl (lv_at hl 1 rfl) ?_
  refine kc_v (va_runV (As := []) (rest := []) ⟨hx, hb, hml, hown, hts⟩ (c_S_forgetAll l D ty ad _ (22 + 2 * n) (gc ty ad f th rt qu b w T g a o) si sj sk S (by omega) (by omega) (by omega) hji hki hkj) (cwV 0 hts (kGV kS1 m_K_154 m_im_S_forgetAll m_sel_S_forgetAll m_ini_S m_code_S_forgetAll) rfl rfl rfl (by decide +kernel) ⟨Nat.le_of_ble_eq_true rfl, Nat.le_of_ble_eq_true rfl⟩) ⟨kP_blind, va_recv hK hP (ci := 1) (q0 := si) rfl (sw_o (S := S) (by omega)), fun U hU hW => ⟨rfl, kP_at hK hP hD U hU hW⟩⟩ rfl rfl hl.1 rfl (lv_room (Nat.le_of_ble_eq_true rfl)) d_K_searchReached_1 ⟨Nat.le_of_ble_eq_true rfl, Nat.le_of_ble_eq_true rfl⟩) hD hS hA (fun u H locs hu hP hD hS hz => ?_)
  subst hu
  refine lv_aload_n hx hb d_K_searchReached_4 rfl (lv_at hl 0 rfl) ?_
  refine lv_aload_n hx hb d_K_searchReached_5 rfl (lv_at hl 1 rfl) ?_
  refine kc_v (va_runV (As := [.ref (ad si)]) (rest := []) ⟨hx, hb, hml, hown, hts⟩ (c_K_addRootsAndQueue l D ty ad _ n f th rt qu b w T g a o si sj sk (sFg S) hi hj hk hji hki hkj) (cwV 1 hts (kGV kS1 m_K_157 m_im_K_addRootsAndQueue m_sel_K_addRootsAndQueue m_ini_K m_code_K_addRootsAndQueue) rfl rfl rfl (by decide +kernel) ⟨Nat.le_of_ble_eq_true rfl, Nat.le_of_ble_eq_true rfl⟩) ⟨kP_blind, va_recv hK hP (ci := 0) (q0 := 0) rfl (gs_n (by omega) (by omega) (by omega) (gw_0)), fun U hU hW => ⟨rfl, kP_at hK hP hD U hU hW⟩⟩ rfl rfl hl.1 rfl (lv_room (Nat.le_of_ble_eq_true rfl)) d_K_searchReached_6 ⟨Nat.le_of_ble_eq_true rfl, Nat.le_of_ble_eq_true rfl⟩) hD hS hA (fun u H locs hu hP hD hS hz => ?_)
  subst hu
  refine lv_aload_n hx hb d_K_searchReached_9 rfl (lv_at hl 0 rfl) ?_
  refine lv_aload_n hx hb d_K_searchReached_10 rfl (lv_at hl 1 rfl) ?_
  refine lv_iconst (v := 0) hx hb d_K_searchReached_11 (by decide) ?_
  refine kc_v (va_runV (As := [.ref (ad si), .int 0]) (rest := []) ⟨hx, hb, hml, hown, hts⟩ (c_K_followFields l D ty ad _ n f th rt qu b w T g a o si sj sk (addRQ f rt qu (sFg S)) hi hj hk hji hki hkj 0 hn h12) (cwV 2 hts (kGV kS1 m_K_160 m_im_K_followFields m_sel_K_followFields m_ini_K m_code_K_followFields) rfl rfl rfl (by decide +kernel) ⟨Nat.le_of_ble_eq_true rfl, Nat.le_of_ble_eq_true rfl⟩) ⟨kP_blind, va_recv hK hP (ci := 0) (q0 := 0) rfl (gs_n (by omega) (by omega) (by omega) (gw_0)), fun U hU hW => ⟨rfl, kP_at hK hP hD U hU hW⟩⟩ rfl rfl hl.1 rfl (lv_room (Nat.le_of_ble_eq_true rfl)) d_K_searchReached_12 ⟨Nat.le_of_ble_eq_true rfl, Nat.le_of_ble_eq_true rfl⟩) hD hS hA (fun u H locs hu hP hD hS hz => ?_)
  subst hu
  have hu : (wL (22 + 2 * n) ad (sUp ty ad (gc ty ad f th rt qu b w T g a o) si sj sk (fF th T 0 (addRQ f rt qu (sFg S)))) : va_W) = wL (22 + 2 * n) ad (sUp ty ad (gc ty ad f th rt qu b w T g a o) si sj sk (sReach f th rt qu T S)) := by rfl
  exact W.vret hx hb hr (fun t ht hW => ⟨⟨_, rfl, hu, by rw [ht]; exact hP, va_K.moved hW.alike hK, hD⟩, hS.F ht⟩) hS.2.2 d_K_searchReached_15
set_option maxHeartbeats 4000000 in
set_option maxRecDepth 100000 in
/-- searchKept(search) -/
theorem c_K_searchKept (l : Launch) (D : va_G) (ty : Nat → ClassId) (ad : Nat → Nat) (sz : Nat) (n : Nat) (f : Nat → Int32) (th : Nat → Bool) (rt qu : Nat → Int32) (b w : SR) (T : Nat → TH) (g : Nat → Int32) (a : Nat → Nat → Int32) (o : Nat → Int64) (si sj sk : Nat) (S : SR) (hi : 4 ≤ si ∧ si < 10) (hj : 4 ≤ sj ∧ sj < 10) (hk : 4 ≤ sk ∧ sk < 10) (hji : sj ≠ si) (hki : sk ≠ si) (hkj : sk ≠ sj) (hn : ∀ k, th k = true → k < n) (h12 : ∀ k, (T k).2.2.2.1 ≤ 12) : Met l y_K_searchKept w_K_searchKept ({ frames := 3, cells := 0, slots := 0, locals := 67 }) (va_Pc [.ref (ad 0), .ref (ad si)] (kP D kCl (kTy ty) (wL (22 + 2 * n) ad (sUp ty ad (gc ty ad f th rt qu b w T g a o) si sj sk S)) sz)) (va_Qv (fun u9 : va_W => u9 = (wL (22 + 2 * n) ad (sUp ty ad (gc ty ad f th rt qu b w T g a o) si sj sk (sKept f th rt qu T S)))) (kB D kCl (kTy ty) (va_A (wL (22 + 2 * n) ad (sUp ty ad (gc ty ad f th rt qu b w T g a o) si sj sk S)) sz)) (va_A (wL (22 + 2 * n) ad (sUp ty ad (gc ty ad f th rt qu b w T g a o) si sj sk S)) sz)) 0 0 (va_A (wL (22 + 2 * n) ad (sUp ty ad (gc ty ad f th rt qu b w T g a o) si sj sk S)) sz) := by
  refine Met.ofW (cc := b_K_searchKept) (maxL := 4) (ret := none) (by decide) rfl ?_
  intro p e s m args below meth cd s₁ B hml hv
  obtain ⟨rfl, hsz, hP, hK, hD0⟩ := hv
  have hx := B.exec
  have hb := B.bytes
  have hr := B.returns
  have hts := atoms_spec (ws := w_K_searchKept) B.pre
  have hown : s.vm.findClass R_K = some m.cls := findClass_of_methodNamed B.named
  have hlocks := B.notSynchronized
  subst hsz
  have hD := hD0.self (sz := s.heap.size)
  generalize hAe : va_A (wL (22 + 2 * n) ad (sUp ty ad (gc ty ad f th rt qu b w T g a o) si sj sk S)) s.heap.size = A at hD ⊢
  have hA : ∀ q : Nat, s.heap.size ≤ q → A q := fun q h => by rw [← hAe]; exact Or.inr h
  have hS : va_S A s.heap s.heap [] := va_S.rf
  have hl := lv_entry ([.ref (ad 0), .ref (ad si)]) (n := 4) (Nat.le_of_ble_eq_true rfl)
  rw [lg_entry_eq]
  generalize (lg_sl ([.ref (ad 0), .ref (ad si)]) ++ List.replicate (4 - (lg_sl ([.ref (ad 0), .ref (ad si)])).length) Slot.unset).toArray = ls at hl ⊢
  have hl : lv_has ls 4 [(0, .ref (ad 0)), (1, .ref (ad si))] := hl
  refine lv_aload_n hx hb d_K_searchKept_0 rfl (lv_at hl 1 rfl) ?_
  refine kc_v (va_runV (As := []) (rest := []) ⟨hx, hb, hml, hown, hts⟩ (c_S_forgetAll l D ty ad _ (22 + 2 * n) (gc ty ad f th rt qu b w T g a o) si sj sk S (by omega) (by omega) (by omega) hji hki hkj) (cwV 0 hts (kGV kS1 m_K_154 m_im_S_forgetAll m_sel_S_forgetAll m_ini_S m_code_S_forgetAll) rfl rfl rfl (by decide +kernel) ⟨Nat.le_of_ble_eq_true rfl, Nat.le_of_ble_eq_true rfl⟩) ⟨kP_blind, va_recv hK hP (ci := 1) (q0 := si) rfl (sw_o (S := S) (by omega)), fun U hU hW => ⟨rfl, kP_at hK hP hD U hU hW⟩⟩ rfl rfl hl.1 rfl (lv_room (Nat.le_of_ble_eq_true rfl)) d_K_searchKept_1 ⟨Nat.le_of_ble_eq_true rfl, Nat.le_of_ble_eq_true rfl⟩) hD hS hA (fun u H locs hu hP hD hS hz => ?_)
  subst hu
  refine lv_aload_n hx hb d_K_searchKept_4 rfl (lv_at hl 0 rfl) ?_
  refine lv_aload_n hx hb d_K_searchKept_5 rfl (lv_at hl 1 rfl) ?_
  refine kc_v (va_runV (As := [.ref (ad si)]) (rest := []) ⟨hx, hb, hml, hown, hts⟩ (c_K_addRootsAndQueue l D ty ad _ n f th rt qu b w T g a o si sj sk (sFg S) hi hj hk hji hki hkj) (cwV 1 hts (kGV kS1 m_K_157 m_im_K_addRootsAndQueue m_sel_K_addRootsAndQueue m_ini_K m_code_K_addRootsAndQueue) rfl rfl rfl (by decide +kernel) ⟨Nat.le_of_ble_eq_true rfl, Nat.le_of_ble_eq_true rfl⟩) ⟨kP_blind, va_recv hK hP (ci := 0) (q0 := 0) rfl (gs_n (by omega) (by omega) (by omega) (gw_0)), fun U hU hW => ⟨rfl, kP_at hK hP hD U hU hW⟩⟩ rfl rfl hl.1 rfl (lv_room (Nat.le_of_ble_eq_true rfl)) d_K_searchKept_6 ⟨Nat.le_of_ble_eq_true rfl, Nat.le_of_ble_eq_true rfl⟩) hD hS hA (fun u H locs hu hP hD hS hz => ?_)
  subst hu
  refine lv_iconst (v := 0) hx hb d_K_searchKept_9 (by decide) ?_
  refine lv_istore_n (lv' := [(2, .int 0), (0, .ref (ad 0)), (1, .ref (ad si))]) hx hb d_K_searchKept_10 rfl hl (by decide) rfl (fun ls hl => ?_)
  have L1 : ∀ (Q : State → Prop) (rem i : Nat) (H : Heap) (locs : List Loc) (ls : Array Slot), i + rem = 300 → va_P D kCl (wL (22 + 2 * n) ad (sUp ty ad (gc ty ad f th rt qu b w T g a o) si sj sk (it (kA th T) i (addRQ f rt qu (sFg S))))) H → va_D A (wL (22 + 2 * n) ad (sUp ty ad (gc ty ad f th rt qu b w T g a o) si sj sk (it (kA th T) i (addRQ f rt qu (sFg S))))) → va_S A s.heap H locs → lv_has ls 4 [(0, .ref (ad 0)), (1, .ref (ad si)), (2, .int (nI i))] → (∀ (H : Heap) (locs : List Loc) (ls : Array Slot), va_P D kCl (wL (22 + 2 * n) ad (sUp ty ad (gc ty ad f th rt qu b w T g a o) si sj sk (it (kA th T) 300 (addRQ f rt qu (sFg S))))) H → va_D A (wL (22 + 2 * n) ad (sUp ty ad (gc ty ad f th rt qu b w T g a o) si sj sk (it (kA th T) 300 (addRQ f rt qu (sFg S))))) → va_S A s.heap H locs → lv_has ls 4 [(0, .ref (ad 0)), (1, .ref (ad si))] → W p l e (headSpec w_K_searchKept ({ frames := 3, cells := 0, slots := 0, locals := 67 })).room s m ([.ref (ad 0), .ref (ad si)] : List Value).toArray below meth cd H locs 0 0 Q (F0 m 49 ls [])) → W p l e (headSpec w_K_searchKept ({ frames := 3, cells := 0, slots := 0, locals := 67 })).room s m ([.ref (ad 0), .ref (ad si)] : List Value).toArray below meth cd H locs 0 0 Q (F0 m 11 ls []) := by
    intro Q rem
    induction rem with
    | zero =>
      intro i H locs ls hir_i hP hD hS hl kx
      obtain rfl : 300 = i := by omega
      refine lv_iload_n hx hb d_K_searchKept_11 rfl (lv_at hl 2 rfl) ?_
      refine lv_aload_n hx hb d_K_searchKept_12 rfl (lv_at hl 0 rfl) ?_
      refine va_get (D := D) (ci := 0) (v := .ref (ad 1)) (C := R_K) (T := F_K) (N := 12) hx hb hts (fun w h => kS1 w (i_K w h)) hown hK hP 0 (gs_n (by omega) (by omega) (by omega) (gw_0)) rfl 0 (by decide) (hts _ (kS1 _ m_K_11)) (fun _ h9 => h9) rfl d_K_searchKept_13 ?_
      refine va_alen (v := 300) hx hb hK hP 1 2 (gs_n (by omega) (by omega) (by omega) (gw_1)) rfl rfl d_K_searchKept_16 ?_
      refine lv_icmp_ge (tgt := 49) hx hb d_K_searchKept_17 (by decide) (fun c_17' => ?_) (fun c_17' => absurd (nI_le (a := 300) (b := 300) (Nat.le_refl _) (by omega)) c_17')
      have hl := lv_sub (l' := [(0, .ref (ad 0)), (1, .ref (ad si))]) hl [0, 1] rfl
      exact kx _ _ ls hP hD hS hl
    | succ rem ih =>
      intro i H locs ls hir_i hP hD hS hl kx
      have hlt_i : i < 300 := by omega
      refine lv_iload_n hx hb d_K_searchKept_11 rfl (lv_at hl 2 rfl) ?_
      refine lv_aload_n hx hb d_K_searchKept_12 rfl (lv_at hl 0 rfl) ?_
      refine va_get (D := D) (ci := 0) (v := .ref (ad 1)) (C := R_K) (T := F_K) (N := 12) hx hb hts (fun w h => kS1 w (i_K w h)) hown hK hP 0 (gs_n (by omega) (by omega) (by omega) (gw_0)) rfl 0 (by decide) (hts _ (kS1 _ m_K_11)) (fun _ h9 => h9) rfl d_K_searchKept_13 ?_
      refine va_alen (v := 300) hx hb hK hP 1 2 (gs_n (by omega) (by omega) (by omega) (gw_1)) rfl rfl d_K_searchKept_16 ?_
      refine lv_icmp_ge (tgt := 49) hx hb d_K_searchKept_17 (by decide) (fun c_17' => absurd c_17' (nI_ge (b := 300) hlt_i (by omega))) (fun c_17' => ?_)
      refine lv_aload_n hx hb d_K_searchKept_20 rfl (lv_at hl 0 rfl) ?_
      refine va_get (D := D) (ci := 0) (v := .ref (ad 1)) (C := R_K) (T := F_K) (N := 12) hx hb hts (fun w h => kS1 w (i_K w h)) hown hK hP 0 (gs_n (by omega) (by omega) (by omega) (gw_0)) rfl 0 (by decide) (hts _ (kS1 _ m_K_11)) (fun _ h9 => h9) rfl d_K_searchKept_21 ?_
      refine lv_iload_n hx hb d_K_searchKept_24 rfl (lv_at hl 2 rfl) ?_
      refine va_aldq (f := thf ad th) hx hb hK hP 1 2 (gs_n (by omega) (by omega) (by omega) (gw_1)) rfl (vp_in_nI hlt_i (by omega)) d_K_searchKept_25 ?_
      rw [nI_clamp (n := i) (by omega)]
      by_cases hth_25 : th i = true
      · rw [kth_t hth_25]
        refine lv_astore_n (lv' := [(3, .ref (ad (22 + 2 * i))), (0, .ref (ad 0)), (1, .ref (ad si)), (2, .int (nI i))]) hx hb d_K_searchKept_26 rfl hl (by decide) rfl (fun ls hl => ?_)
        refine lv_aload_n hx hb d_K_searchKept_27 rfl (lv_at hl 0 rfl) ?_
        refine lv_ifnull hx hb d_K_searchKept_28 ?_
        refine lv_aload_n hx hb d_K_searchKept_31 rfl (lv_at hl 0 rfl) ?_
        refine kc_R (va_runV (As := []) (rest := []) ⟨hx, hb, hml, hown, hts⟩ (c_T_waitsForQueue l D ty ad _ (22 + 2 * n) (sUp ty ad (gc ty ad f th rt qu b w T g a o) si sj sk (it (kA th T) i (addRQ f rt qu (sFg S)))) (22 + 2 * i) (23 + 2 * i) ((T i).1) ((T i).2.1) ((T i).2.2.1) ((T i).2.2.2.1) ((T i).2.2.2.2) (gi_T (hn _ hth_25)) (gi_F (hn _ hth_25)) (sUp_n (by omega) (by omega) (by omega) gc_T) (sUp_n (by omega) (by omega) (by omega) gc_F)) (cwV 0 hts (kGV kS1 m_K_150 m_im_T_waitsForQueue m_sel_T_waitsForQueue m_ini_T m_code_T_waitsForQueue) rfl rfl rfl (by decide +kernel) ⟨Nat.le_of_ble_eq_true rfl, Nat.le_of_ble_eq_true rfl⟩) ⟨kP_blind, va_recv hK hP (ci := 2) (q0 := (22 + 2 * i)) rfl (gs_n (by omega) (by omega) (by omega) (gw_T (k := i) (hn _ hth_25))), fun U hU hW => ⟨rfl, kP_at hK hP hD U hU hW⟩⟩ rfl rfl hl.1 rfl (lv_room (Nat.le_of_ble_eq_true rfl)) d_K_searchKept_32 ⟨Nat.le_of_ble_eq_true rfl, Nat.le_of_ble_eq_true rfl⟩) ?_
        refine lv_if_eq (tgt := 43) hx hb d_K_searchKept_35 (by decide) (fun c_35' => ?_) (fun c_35' => ?_)
        · refine lv_iinc (v := nI i + 1) (lv' := [(2, .int (nI i + 1)), (3, .ref (ad (22 + 2 * i))), (0, .ref (ad 0)), (1, .ref (ad si))]) hx hb d_K_searchKept_43 hl (k := 3) rfl rfl (by decide) rfl (fun ls hl => ?_)
          refine lv_goto (tgt := 11) hx hb d_K_searchKept_46 (by decide) ?_
          have hl := lv_sub (l' := [(0, .ref (ad 0)), (1, .ref (ad si)), (2, .int (nI i + 1))]) hl [2, 3, 0] rfl
          have hqq9 : (.int (nI i + 1) : Value) = .int (nI (i + 1)) := by rw [nI_1]
          rw [hqq9] at hl
          have hE : (wL (22 + 2 * n) ad (sUp ty ad (gc ty ad f th rt qu b w T g a o) si sj sk (it (kA th T) i (addRQ f rt qu (sFg S)))) : va_W) = wL (22 + 2 * n) ad (sUp ty ad (gc ty ad f th rt qu b w T g a o) si sj sk (it (kA th T) (i + 1) (addRQ f rt qu (sFg S)))) := by rw [it_s, kA]; simp [c_17', hth_25, c_35']
          have hP := kw_P hE hP
          have hD := kw_D hE hD
          exact ih (i + 1) _ _ ls (by omega) hP hD hS hl kx
        · refine lv_aload_n hx hb d_K_searchKept_38 rfl (lv_at hl 2 rfl) ?_
          refine lv_iload_n hx hb d_K_searchKept_39 rfl (lv_at hl 3 rfl) ?_
          refine kc_v (va_runV (As := [.int (nI i)]) (rest := []) ⟨hx, hb, hml, hown, hts⟩ (c_S_add l D ty ad _ (22 + 2 * n) (gc ty ad f th rt qu b w T g a o) si sj sk (it (kA th T) i (addRQ f rt qu (sFg S))) (by omega) (by omega) (by omega) hji hki hkj (nI i)) (cwV 1 hts (kGV kS1 m_K_164 m_im_S_add m_sel_S_add m_ini_S m_code_S_add) rfl rfl rfl (by decide +kernel) ⟨Nat.le_of_ble_eq_true rfl, Nat.le_of_ble_eq_true rfl⟩) ⟨kP_blind, va_recv hK hP (ci := 1) (q0 := si) rfl (sw_o (S := it (kA th T) i (addRQ f rt qu (sFg S))) (by omega)), fun U hU hW => ⟨rfl, kP_at hK hP hD U hU hW⟩⟩ rfl rfl hl.1 rfl (lv_room (Nat.le_of_ble_eq_true rfl)) d_K_searchKept_40 ⟨Nat.le_of_ble_eq_true rfl, Nat.le_of_ble_eq_true rfl⟩) hD hS hA (fun u H locs hu hP hD hS hz => ?_)
          subst hu
          refine lv_iinc (v := nI i + 1) (lv' := [(2, .int (nI i + 1)), (3, .ref (ad (22 + 2 * i))), (0, .ref (ad 0)), (1, .ref (ad si))]) hx hb d_K_searchKept_43 hl (k := 3) rfl rfl (by decide) rfl (fun ls hl => ?_)
          refine lv_goto (tgt := 11) hx hb d_K_searchKept_46 (by decide) ?_
          have hl := lv_sub (l' := [(0, .ref (ad 0)), (1, .ref (ad si)), (2, .int (nI i + 1))]) hl [2, 3, 0] rfl
          have hqq9 : (.int (nI i + 1) : Value) = .int (nI (i + 1)) := by rw [nI_1]
          rw [hqq9] at hl
          have hE : (wL (22 + 2 * n) ad (sUp ty ad (gc ty ad f th rt qu b w T g a o) si sj sk (sAdd (it (kA th T) i (addRQ f rt qu (sFg S))) (nI i))) : va_W) = wL (22 + 2 * n) ad (sUp ty ad (gc ty ad f th rt qu b w T g a o) si sj sk (it (kA th T) (i + 1) (addRQ f rt qu (sFg S)))) := by rw [it_s, kA]; simp [c_17', hth_25, c_35']
          have hP := kw_P hE hP
          have hD := kw_D hE hD
          exact ih (i + 1) _ _ ls (by omega) hP hD hS hl kx
      · rw [kth_f hth_25]
        refine lv_astore_nN (lv' := [(3, .null), (0, .ref (ad 0)), (1, .ref (ad si)), (2, .int (nI i))]) hx hb d_K_searchKept_26 rfl hl (by decide) rfl (fun ls hl => ?_)
        refine lv_aload_nN hx hb d_K_searchKept_27 rfl (lv_at hl 0 rfl) ?_
        refine lv_ifnullN (tgt := 43) hx hb d_K_searchKept_28 (by decide) ?_
        refine lv_iinc (v := nI i + 1) (lv' := [(2, .int (nI i + 1)), (3, .null), (0, .ref (ad 0)), (1, .ref (ad si))]) hx hb d_K_searchKept_43 hl (k := 3) rfl rfl (by decide) rfl (fun ls hl => ?_)
        refine lv_goto (tgt := 11) hx hb d_K_searchKept_46 (by decide) ?_
        have hl := lv_sub (l' := [(0, .ref (ad 0)), (1, .ref (ad si)), (2, .int (nI i + 1))]) hl [2, 3, 0] rfl
        have hqq9 : (.int (nI i + 1) : Value) = .int (nI (i + 1)) := by rw [nI_1]
        rw [hqq9] at hl
        have hE : (wL (22 + 2 * n) ad (sUp ty ad (gc ty ad f th rt qu b w T g a o) si sj sk (it (kA th T) i (addRQ f rt qu (sFg S)))) : va_W) = wL (22 + 2 * n) ad (sUp ty ad (gc ty ad f th rt qu b w T g a o) si sj sk (it (kA th T) (i + 1) (addRQ f rt qu (sFg S)))) := by rw [it_s, kA]; simp [c_17', hth_25]
        have hP := kw_P hE hP
        have hD := kw_D hE hD
        exact ih (i + 1) _ _ ls (by omega) hP hD hS hl kx
  have hl := lv_sub (l' := [(0, .ref (ad 0)), (1, .ref (ad si)), (2, .int 0)]) hl [1, 2, 0] rfl
  have hqq9 : (.int 0 : Value) = .int (nI 0) := by rw [nI_0]
  rw [hqq9] at hl
  refine L1 _ (300 - 0) 0 _ _ ls (by omega) hP hD hS hl (fun H locs ls hP hD hS hl => ?_)
  refine lv_aload_n hx hb d_K_searchKept_49 rfl (lv_at hl 0 rfl) ?_
  refine lv_aload_n hx hb d_K_searchKept_50 rfl (lv_at hl 1 rfl) ?_
  refine lv_iconst (v := 1) hx hb d_K_searchKept_51 (by decide) ?_
  refine kc_v (va_runV (As := [.ref (ad si), .int 1]) (rest := []) ⟨hx, hb, hml, hown, hts⟩ (c_K_followFields l D ty ad _ n f th rt qu b w T g a o si sj sk (it (kA th T) 300 (addRQ f rt qu (sFg S))) hi hj hk hji hki hkj 1 hn h12) (cwV 2 hts (kGV kS1 m_K_160 m_im_K_followFields m_sel_K_followFields m_ini_K m_code_K_followFields) rfl rfl rfl (by decide +kernel) ⟨Nat.le_of_ble_eq_true rfl, Nat.le_of_ble_eq_true rfl⟩) ⟨kP_blind, va_recv hK hP (ci := 0) (q0 := 0) rfl (gs_n (by omega) (by omega) (by omega) (gw_0)), fun U hU hW => ⟨rfl, kP_at hK hP hD U hU hW⟩⟩ rfl rfl hl.1 rfl (lv_room (Nat.le_of_ble_eq_true rfl)) d_K_searchKept_52 ⟨Nat.le_of_ble_eq_true rfl, Nat.le_of_ble_eq_true rfl⟩) hD hS hA (fun u H locs hu hP hD hS hz => ?_)
  subst hu
  have hu : (wL (22 + 2 * n) ad (sUp ty ad (gc ty ad f th rt qu b w T g a o) si sj sk (fF th T 1 (it (kA th T) 300 (addRQ f rt qu (sFg S))))) : va_W) = wL (22 + 2 * n) ad (sUp ty ad (gc ty ad f th rt qu b w T g a o) si sj sk (sKept f th rt qu T S)) := by rfl
  exact W.vret hx hb hr (fun t ht hW => ⟨⟨_, rfl, hu, by rw [ht]; exact hP, va_K.moved hW.alike hK, hD⟩, hS.F ht⟩) hS.2.2 d_K_searchKept_55
