/-! Part 34: the model's clear. -/
set_option maxHeartbeats 4000000 in
set_option maxRecDepth 100000 in
/-- clear() -/
theorem c_M_clear (l : Launch) (D : va_G) (ty : Nat → ClassId) (ad : Nat → Nat) (sz : Nat) (n : Nat) (f : Nat → Int32) (th : Nat → Bool) (rt qu : Nat → Int32) (b w : SR) (T : Nat → TH) (g : Nat → Int32) (a : Nat → Nat → Int32) (o : Nat → Int64) (hg1 : g 1 = nI n) (hn3 : n ≤ 300) (q : Nat) (hq : g 9 = nI q) (hq3 : q ≤ 300) (hL : ∀ k, k < n → ∃ v, v ≤ 12 ∧ a 4 k = nI v) (hR : ∀ r, r < 16 → ∃ v, v ≤ 300 ∧ a 8 r = nI v) (hQ : ∀ i, i < q → ∃ v, v < 300 ∧ a 10 i = nI v) (hF : ∀ i, i < 3600 → ∃ v, v ≤ 300 ∧ a 5 i = nI v) (hW1 : ∀ k, k < n → a 3 k = 1 → 0 < (a 4 k).toNatClampNeg) (hqc : q ≤ cn (fun k => a 7 k != 0) n) : Met l y_M_clear w_M_clear ({ frames := 1, cells := 0, slots := 0, locals := 25 }) (va_Pc [.ref (ad 10)] (kP D kCl (kTy ty) (gW n ty ad f th rt qu b w T g a o) sz)) (va_Qi (fun (r9 : Int32) (u9 : va_W) => r9 = ((it mV n (va_up (it mU n (va_up a 14 (mD 0 a n q (a 14)), upd (upd g 0 0) 11 (g 11 + 1))).1 14 (mD 0 (it mU n (va_up a 14 (mD 0 a n q (a 14)), upd (upd g 0 0) 11 (g 11 + 1))).1 n ((it mU n (va_up a 14 (mD 0 a n q (a 14)), upd (upd g 0 0) 11 (g 11 + 1))).2 9).toNatClampNeg ((it mU n (va_up a 14 (mD 0 a n q (a 14)), upd (upd g 0 0) 11 (g 11 + 1))).1 14)), (it mU n (va_up a 14 (mD 0 a n q (a 14)), upd (upd g 0 0) 11 (g 11 + 1))).2)).2 9 - g 9) ∧ u9 = (gW n ty ad f th rt qu b w T ((it mV n (va_up (it mU n (va_up a 14 (mD 0 a n q (a 14)), upd (upd g 0 0) 11 (g 11 + 1))).1 14 (mD 0 (it mU n (va_up a 14 (mD 0 a n q (a 14)), upd (upd g 0 0) 11 (g 11 + 1))).1 n ((it mU n (va_up a 14 (mD 0 a n q (a 14)), upd (upd g 0 0) 11 (g 11 + 1))).2 9).toNatClampNeg ((it mU n (va_up a 14 (mD 0 a n q (a 14)), upd (upd g 0 0) 11 (g 11 + 1))).1 14)), (it mU n (va_up a 14 (mD 0 a n q (a 14)), upd (upd g 0 0) 11 (g 11 + 1))).2)).2) ((it mV n (va_up (it mU n (va_up a 14 (mD 0 a n q (a 14)), upd (upd g 0 0) 11 (g 11 + 1))).1 14 (mD 0 (it mU n (va_up a 14 (mD 0 a n q (a 14)), upd (upd g 0 0) 11 (g 11 + 1))).1 n ((it mU n (va_up a 14 (mD 0 a n q (a 14)), upd (upd g 0 0) 11 (g 11 + 1))).2 9).toNatClampNeg ((it mU n (va_up a 14 (mD 0 a n q (a 14)), upd (upd g 0 0) 11 (g 11 + 1))).1 14)), (it mU n (va_up a 14 (mD 0 a n q (a 14)), upd (upd g 0 0) 11 (g 11 + 1))).2)).1) o)) (kB D kCl (kTy ty) (va_A (gW n ty ad f th rt qu b w T g a o) sz)) (va_A (gW n ty ad f th rt qu b w T g a o) sz)) 0 0 (va_A (gW n ty ad f th rt qu b w T g a o) sz) := by
  refine Met.ofW (cc := b_M_clear) (maxL := 6) (ret := (some .int)) (by decide) rfl ?_
  intro p e s m args below meth cd s₁ B hml hv
  obtain ⟨rfl, hsz, hP, hK, hD0⟩ := hv
  have hx := B.exec
  have hb := B.bytes
  have hr := B.returns
  have hts := atoms_spec (ws := w_M_clear) B.pre
  have hown : s.vm.findClass R_M = some m.cls := findClass_of_methodNamed B.named
  have hlocks := B.notSynchronized
  subst hsz
  have hD := hD0.self (sz := s.heap.size)
  generalize hAe : va_A (gW n ty ad f th rt qu b w T g a o) s.heap.size = A at hD ⊢
  have hA : ∀ q : Nat, s.heap.size ≤ q → A q := fun q h => by rw [← hAe]; exact Or.inr h
  have hS : va_S A s.heap s.heap [] := va_S.rf
  have hl := lv_entry ([.ref (ad 10)]) (n := 6) (Nat.le_of_ble_eq_true rfl)
  rw [lg_entry_eq]
  generalize (lg_sl ([.ref (ad 10)]) ++ List.replicate (6 - (lg_sl ([.ref (ad 10)])).length) Slot.unset).toArray = ls at hl ⊢
  have hl : lv_has ls 6 [(0, .ref (ad 10))] := hl
  refine lv_aload_n hx hb d_M_clear_0 rfl (lv_at hl 0 rfl) ?_
  refine lv_iconst (v := 0) hx hb d_M_clear_1 (by decide) ?_
  refine va_put (D := D) (ci := 3) (v := .int 0) (ty := .int) (C := R_M) (T := F_M) (N := 16) hx hb hts (fun w h => kS1 w (i_M w h)) tt_M tt_M_ok n_M hown hK hP hD hS 10 gw_10 rfl 0 (by decide) (hts _ (kS1 _ m_M_41)) (fun _ h9 => h9) rfl (by decide +kernel) rfl rfl (Nat.le_of_ble_eq_true rfl) d_M_clear_2 (fun H locs hP hD hS => ?_)
  have hP := kw_P (gw_sM0 (v := 0)) hP
  have hD := kw_D (gw_sM0 (v := 0)) hD
  refine lv_aload_n hx hb d_M_clear_5 rfl (lv_at hl 0 rfl) ?_
  refine lv_dup hx hb d_M_clear_6 rfl ?_
  refine va_get (D := D) (ci := 3) (v := .int (g 11)) (C := R_M) (T := F_M) (N := 16) hx hb hts (fun w h => kS1 w (i_M w h)) hown hK hP 10 gw_10 rfl 11 (by decide) (hts _ (kS1 _ m_M_66)) (fun _ h9 => h9) rfl d_M_clear_7 ?_
  refine lv_iconst (v := 1) hx hb d_M_clear_10 (by decide) ?_
  refine lv_iadd hx hb d_M_clear_11 ?_
  refine va_put (D := D) (ci := 3) (v := .int ((g 11) + 1)) (ty := .int) (C := R_M) (T := F_M) (N := 16) hx hb hts (fun w h => kS1 w (i_M w h)) tt_M tt_M_ok n_M hown hK hP hD hS 10 gw_10 rfl 11 (by decide) (hts _ (kS1 _ m_M_66)) (fun _ h9 => h9) rfl (by decide +kernel) rfl rfl (Nat.le_of_ble_eq_true rfl) d_M_clear_12 (fun H locs hP hD hS => ?_)
  have hP := kw_P (gw_sM11 (v := (g 11) + 1)) hP
  have hD := kw_D (gw_sM11 (v := (g 11) + 1)) hD
  refine lv_aload_n hx hb d_M_clear_15 rfl (lv_at hl 0 rfl) ?_
  refine lv_iconst (v := 0) hx hb d_M_clear_16 (by decide) ?_
  refine kc_i (va_runV (As := [.int 0]) (rest := []) ⟨hx, hb, hml, hown, hts⟩ (c_M_find l D ty ad _ n f th rt qu b w T (upd (upd g 0 0) 11 ((g 11) + 1)) a o hg1 hn3 0 q hq hq3 hL hR hQ hF hW1) (cwV 1 hts (kGV kS1 m_M_69 m_im_M_find m_sel_M_find m_ini_M m_code_M_find) rfl rfl rfl (by decide +kernel) ⟨Nat.le_of_ble_eq_true rfl, Nat.le_of_ble_eq_true rfl⟩) ⟨kP_blind, va_recv hK hP (ci := 3) (q0 := 10) rfl gw_10, fun U hU hW => ⟨rfl, kP_at hK hP hD U hU hW⟩⟩ rfl rfl hl.1 rfl (lv_room (Nat.le_of_ble_eq_true rfl)) d_M_clear_17 ⟨Nat.le_of_ble_eq_true rfl, Nat.le_of_ble_eq_true rfl⟩) hD hS hA (fun r u H locs hu hP hD hS hz => ?_)
  obtain ⟨rfl, rfl⟩ := hu
  obtain ⟨A9, hA9⟩ : ∃ z, z = va_up a 14 (mD 0 a n q (a 14)) := ⟨_, rfl⟩
  rw [← hA9] at hP hD
  obtain ⟨G9, hG9⟩ : ∃ z, z = upd (upd g 0 0) 11 (g 11 + 1) := ⟨_, rfl⟩
  rw [← hG9] at hP hD
  have hUI : mUI n a (A9, G9) := by rw [hA9, hG9]; exact ⟨hg1, ⟨q, hqc, hq, hQ⟩, rfl, rfl, rfl, rfl⟩
  refine lv_istore_n (lv' := [(1, .int (it (mC (mD 0 a n q (a 14))) n 0)), (0, .ref (ad 10))]) hx hb d_M_clear_20 rfl hl (by decide) rfl (fun ls hl => ?_)
  refine lv_aload_n hx hb d_M_clear_21 rfl (lv_at hl 1 rfl) ?_
  refine va_get (D := D) (ci := 3) (v := .int (G9 9)) (C := R_M) (T := F_M) (N := 16) hx hb hts (fun w h => kS1 w (i_M w h)) hown hK hP 10 gw_10 rfl 9 (by decide) (hts _ (kS1 _ m_M_63)) (fun _ h9 => h9) rfl d_M_clear_22 ?_
  refine lv_istore_n (lv' := [(2, .int (G9 9)), (1, .int (it (mC (mD 0 a n q (a 14))) n 0)), (0, .ref (ad 10))]) hx hb d_M_clear_25 rfl hl (by decide) rfl (fun ls hl => ?_)
  refine lv_iconst (v := 0) hx hb d_M_clear_26 (by decide) ?_
  refine lv_istore_n (lv' := [(3, .int 0), (2, .int (G9 9)), (1, .int (it (mC (mD 0 a n q (a 14))) n 0)), (0, .ref (ad 10))]) hx hb d_M_clear_27 rfl hl (by decide) rfl (fun ls hl => ?_)
  have L1 : ∀ (Q : State → Prop) (rem i : Nat) (H : Heap) (locs : List Loc) (ls : Array Slot), i + rem = n → va_P D kCl (gW n ty ad f th rt qu b w T ((it mU i (A9, G9)).2) ((it mU i (A9, G9)).1) o) H → va_D A (gW n ty ad f th rt qu b w T ((it mU i (A9, G9)).2) ((it mU i (A9, G9)).1) o) → va_S A s.heap H locs → lv_has ls 6 [(0, .ref (ad 10)), (2, .int (G9 9)), (3, .int (nI i))] → (∀ (H : Heap) (locs : List Loc) (ls : Array Slot), va_P D kCl (gW n ty ad f th rt qu b w T ((it mU n (A9, G9)).2) ((it mU n (A9, G9)).1) o) H → va_D A (gW n ty ad f th rt qu b w T ((it mU n (A9, G9)).2) ((it mU n (A9, G9)).1) o) → va_S A s.heap H locs → lv_has ls 6 [(0, .ref (ad 10)), (2, .int (G9 9))] → W p l e (headSpec w_M_clear ({ frames := 1, cells := 0, slots := 0, locals := 25 })).room s m ([.ref (ad 10)] : List Value).toArray below meth cd H locs 0 0 Q (F0 m 118 ls [])) → W p l e (headSpec w_M_clear ({ frames := 1, cells := 0, slots := 0, locals := 25 })).room s m ([.ref (ad 10)] : List Value).toArray below meth cd H locs 0 0 Q (F0 m 28 ls []) := by
    intro Q rem
    induction rem with
    | zero =>
      intro i H locs ls hir_i hP hD hS hl kx
      obtain rfl : n = i := by omega
      refine lv_iload_n hx hb d_M_clear_28 rfl (lv_at hl 2 rfl) ?_
      refine lv_aload_n hx hb d_M_clear_29 rfl (lv_at hl 0 rfl) ?_
      refine va_get (D := D) (ci := 3) (v := .int (((it mU n (A9, G9)).2) 1)) (C := R_M) (T := F_M) (N := 16) hx hb hts (fun w h => kS1 w (i_M w h)) hown hK hP 10 gw_10 rfl 1 (by decide) (hts _ (kS1 _ m_M_45)) (fun _ h9 => h9) rfl d_M_clear_30 ?_
      refine lv_icmp_ge (tgt := 118) hx hb d_M_clear_33 (by decide) (fun c_33' => ?_) (fun c_33' => absurd (by rw [(mUI_it hn3 hUI n (Nat.le_refl _)).1]; exact nI_le (Nat.le_refl _) (by omega)) c_33')
      have hl := lv_sub (l' := [(0, .ref (ad 10)), (2, .int (G9 9))]) hl [0, 1] rfl
      exact kx _ _ ls hP hD hS hl
    | succ rem ih =>
      intro i H locs ls hir_i hP hD hS hl kx
      have hlt_i : i < n := by omega
      refine lv_iload_n hx hb d_M_clear_28 rfl (lv_at hl 2 rfl) ?_
      refine lv_aload_n hx hb d_M_clear_29 rfl (lv_at hl 0 rfl) ?_
      refine va_get (D := D) (ci := 3) (v := .int (((it mU i (A9, G9)).2) 1)) (C := R_M) (T := F_M) (N := 16) hx hb hts (fun w h => kS1 w (i_M w h)) hown hK hP 10 gw_10 rfl 1 (by decide) (hts _ (kS1 _ m_M_45)) (fun _ h9 => h9) rfl d_M_clear_30 ?_
      refine lv_icmp_ge (tgt := 118) hx hb d_M_clear_33 (by decide) (fun c_33' => absurd c_33' (by rw [(mUI_it hn3 hUI i (by omega)).1]; exact nI_ge hlt_i (by omega))) (fun c_33' => ?_)
      refine lv_aload_n hx hb d_M_clear_36 rfl (lv_at hl 0 rfl) ?_
      refine va_get (D := D) (ci := 3) (v := .ref (ad 20)) (C := R_M) (T := F_M) (N := 16) hx hb hts (fun w h => kS1 w (i_M w h)) hown hK hP 10 gw_10 rfl 15 (by decide) (hts _ (kS1 _ m_M_38)) (fun _ h9 => h9) rfl d_M_clear_37 ?_
      refine lv_iload_n hx hb d_M_clear_40 rfl (lv_at hl 2 rfl) ?_
      refine lv_aload_n hx hb d_M_clear_41 rfl (lv_at hl 0 rfl) ?_
      refine va_get (D := D) (ci := 3) (v := .ref (ad 19)) (C := R_M) (T := F_M) (N := 16) hx hb hts (fun w h => kS1 w (i_M w h)) hown hK hP 10 gw_10 rfl 14 (by decide) (hts _ (kS1 _ m_M_35)) (fun _ h9 => h9) rfl d_M_clear_42 ?_
      refine lv_iload_n hx hb d_M_clear_45 rfl (lv_at hl 2 rfl) ?_
      refine va_zald (f := ((it mU i (A9, G9)).1) 14) hx hb hK hP 19 1 gw_19 rfl (vp_in_nI (N := 300) (by omega) (by omega)) d_M_clear_46 ?_
      rw [nI_clamp (n := i) (by omega)]
      refine va_zast (f := ((it mU i (A9, G9)).1) 15) hx hb hK hP hD hS 20 1 gw_20 rfl (vp_in_nI (N := 300) (by omega) (by omega)) d_M_clear_47 (fun H locs hP hD hS => ?_)
      rw [nI_clamp (n := i) (by omega)] at hP hD
      have hP := kw_P (gw_sa15 (r := upd (((it mU i (A9, G9)).1) 15) i (vp_nar .boolean ((((it mU i (A9, G9)).1) 14) i)))) hP
      have hD := kw_D (gw_sa15 (r := upd (((it mU i (A9, G9)).1) 15) i (vp_nar .boolean ((((it mU i (A9, G9)).1) 14) i)))) hD
      refine lv_aload_n hx hb d_M_clear_48 rfl (lv_at hl 0 rfl) ?_
      refine va_get (D := D) (ci := 3) (v := .ref (ad 11)) (C := R_M) (T := F_M) (N := 16) hx hb hts (fun w h => kS1 w (i_M w h)) hown hK hP 10 gw_10 rfl 2 (by decide) (hts _ (kS1 _ m_M_7)) (fun _ h9 => h9) rfl d_M_clear_49 ?_
      refine lv_iload_n hx hb d_M_clear_52 rfl (lv_at hl 2 rfl) ?_
      refine va_zald (f := ((it mU i (A9, G9)).1) 2) hx hb hK hP 11 1 gw_11 rfl (vp_in_nI (N := 300) (by omega) (by omega)) d_M_clear_53 ?_
      rw [nI_clamp (n := i) (by omega)]
      refine lv_if_eq (tgt := 112) hx hb d_M_clear_54 (by decide) (fun c_54' => ?_) (fun c_54' => ?_)
      · refine lv_iinc (v := nI i + 1) (lv' := [(3, .int (nI i + 1)), (0, .ref (ad 10)), (2, .int (G9 9))]) hx hb d_M_clear_112 hl (k := 2) rfl rfl (by decide) rfl (fun ls hl => ?_)
        refine lv_goto (tgt := 28) hx hb d_M_clear_115 (by decide) ?_
        have hl := lv_sub (l' := [(0, .ref (ad 10)), (2, .int (G9 9)), (3, .int (nI i + 1))]) hl [1, 2, 0] rfl
        have hqq9 : (.int (nI i + 1) : Value) = .int (nI (i + 1)) := by rw [nI_1]
        rw [hqq9] at hl
        have hE : (gW n ty ad f th rt qu b w T ((it mU i (A9, G9)).2) (va_up ((it mU i (A9, G9)).1) 15 (upd (((it mU i (A9, G9)).1) 15) i (vp_nar .boolean ((((it mU i (A9, G9)).1) 14) i)))) o : va_W) = gW n ty ad f th rt qu b w T ((it mU (i + 1) (A9, G9)).2) ((it mU (i + 1) (A9, G9)).1) o := by rw [it_s, mU]; simp [kb1, c_33', c_54']
        have hP := kw_P hE hP
        have hD := kw_D hE hD
        exact ih (i + 1) _ _ ls (by omega) hP hD hS hl kx
      · refine lv_aload_n hx hb d_M_clear_57 rfl (lv_at hl 0 rfl) ?_
        refine va_get (D := D) (ci := 3) (v := .ref (ad 12)) (C := R_M) (T := F_M) (N := 16) hx hb hts (fun w h => kS1 w (i_M w h)) hown hK hP 10 gw_10 rfl 3 (by decide) (hts _ (kS1 _ m_M_13)) (fun _ h9 => h9) rfl d_M_clear_58 ?_
        refine lv_iload_n hx hb d_M_clear_61 rfl (lv_at hl 2 rfl) ?_
        refine va_iald (f := ((it mU i (A9, G9)).1) 3) hx hb hK hP 12 0 gw_12 rfl (vp_in_nI (N := 300) (by omega) (by omega)) d_M_clear_62 ?_
        rw [nI_clamp (n := i) (by omega)]
        refine lv_iconst (v := 2) hx hb d_M_clear_63 (by decide) ?_
        refine lv_icmp_ne (tgt := 112) hx hb d_M_clear_64 (by decide) (fun c_64' => ?_) (fun c_64' => ?_)
        · refine lv_iinc (v := nI i + 1) (lv' := [(3, .int (nI i + 1)), (0, .ref (ad 10)), (2, .int (G9 9))]) hx hb d_M_clear_112 hl (k := 2) rfl rfl (by decide) rfl (fun ls hl => ?_)
          refine lv_goto (tgt := 28) hx hb d_M_clear_115 (by decide) ?_
          have hl := lv_sub (l' := [(0, .ref (ad 10)), (2, .int (G9 9)), (3, .int (nI i + 1))]) hl [1, 2, 0] rfl
          have hqq9 : (.int (nI i + 1) : Value) = .int (nI (i + 1)) := by rw [nI_1]
          rw [hqq9] at hl
          have hE : (gW n ty ad f th rt qu b w T ((it mU i (A9, G9)).2) (va_up ((it mU i (A9, G9)).1) 15 (upd (((it mU i (A9, G9)).1) 15) i (vp_nar .boolean ((((it mU i (A9, G9)).1) 14) i)))) o : va_W) = gW n ty ad f th rt qu b w T ((it mU (i + 1) (A9, G9)).2) ((it mU (i + 1) (A9, G9)).1) o := by rw [it_s, mU]; simp [kb1, c_33', c_54', c_64']
          have hP := kw_P hE hP
          have hD := kw_D hE hD
          exact ih (i + 1) _ _ ls (by omega) hP hD hS hl kx
        · refine lv_aload_n hx hb d_M_clear_67 rfl (lv_at hl 0 rfl) ?_
          refine va_get (D := D) (ci := 3) (v := .ref (ad 16)) (C := R_M) (T := F_M) (N := 16) hx hb hts (fun w h => kS1 w (i_M w h)) hown hK hP 10 gw_10 rfl 7 (by decide) (hts _ (kS1 _ m_M_26)) (fun _ h9 => h9) rfl d_M_clear_68 ?_
          refine lv_iload_n hx hb d_M_clear_71 rfl (lv_at hl 2 rfl) ?_
          refine va_zald (f := ((it mU i (A9, G9)).1) 7) hx hb hK hP 16 1 gw_16 rfl (vp_in_nI (N := 300) (by omega) (by omega)) d_M_clear_72 ?_
          rw [nI_clamp (n := i) (by omega)]
          refine lv_if_ne (tgt := 112) hx hb d_M_clear_73 (by decide) (fun c_73' => ?_) (fun c_73' => ?_)
          · refine lv_iinc (v := nI i + 1) (lv' := [(3, .int (nI i + 1)), (0, .ref (ad 10)), (2, .int (G9 9))]) hx hb d_M_clear_112 hl (k := 2) rfl rfl (by decide) rfl (fun ls hl => ?_)
            refine lv_goto (tgt := 28) hx hb d_M_clear_115 (by decide) ?_
            have hl := lv_sub (l' := [(0, .ref (ad 10)), (2, .int (G9 9)), (3, .int (nI i + 1))]) hl [1, 2, 0] rfl
            have hqq9 : (.int (nI i + 1) : Value) = .int (nI (i + 1)) := by rw [nI_1]
            rw [hqq9] at hl
            have hE : (gW n ty ad f th rt qu b w T ((it mU i (A9, G9)).2) (va_up ((it mU i (A9, G9)).1) 15 (upd (((it mU i (A9, G9)).1) 15) i (vp_nar .boolean ((((it mU i (A9, G9)).1) 14) i)))) o : va_W) = gW n ty ad f th rt qu b w T ((it mU (i + 1) (A9, G9)).2) ((it mU (i + 1) (A9, G9)).1) o := by rw [it_s, mU]; simp [kb1, c_33', c_54', c_64', c_73']
            have hP := kw_P hE hP
            have hD := kw_D hE hD
            exact ih (i + 1) _ _ ls (by omega) hP hD hS hl kx
          · refine lv_aload_n hx hb d_M_clear_76 rfl (lv_at hl 0 rfl) ?_
            refine va_get (D := D) (ci := 3) (v := .ref (ad 19)) (C := R_M) (T := F_M) (N := 16) hx hb hts (fun w h => kS1 w (i_M w h)) hown hK hP 10 gw_10 rfl 14 (by decide) (hts _ (kS1 _ m_M_35)) (fun _ h9 => h9) rfl d_M_clear_77 ?_
            refine lv_iload_n hx hb d_M_clear_80 rfl (lv_at hl 2 rfl) ?_
            refine va_zald (f := ((it mU i (A9, G9)).1) 14) hx hb hK hP 19 1 gw_19 rfl (vp_in_nI (N := 300) (by omega) (by omega)) d_M_clear_81 ?_
            rw [nI_clamp (n := i) (by omega)]
            refine lv_if_ne (tgt := 112) hx hb d_M_clear_82 (by decide) (fun c_82' => ?_) (fun c_82' => ?_)
            · refine lv_iinc (v := nI i + 1) (lv' := [(3, .int (nI i + 1)), (0, .ref (ad 10)), (2, .int (G9 9))]) hx hb d_M_clear_112 hl (k := 2) rfl rfl (by decide) rfl (fun ls hl => ?_)
              refine lv_goto (tgt := 28) hx hb d_M_clear_115 (by decide) ?_
              have hl := lv_sub (l' := [(0, .ref (ad 10)), (2, .int (G9 9)), (3, .int (nI i + 1))]) hl [1, 2, 0] rfl
              have hqq9 : (.int (nI i + 1) : Value) = .int (nI (i + 1)) := by rw [nI_1]
              rw [hqq9] at hl
              have hE : (gW n ty ad f th rt qu b w T ((it mU i (A9, G9)).2) (va_up ((it mU i (A9, G9)).1) 15 (upd (((it mU i (A9, G9)).1) 15) i (vp_nar .boolean ((((it mU i (A9, G9)).1) 14) i)))) o : va_W) = gW n ty ad f th rt qu b w T ((it mU (i + 1) (A9, G9)).2) ((it mU (i + 1) (A9, G9)).1) o := by rw [it_s, mU]; simp [kb1, c_33', c_54', c_64', c_73', c_82']
              have hP := kw_P hE hP
              have hD := kw_D hE hD
              exact ih (i + 1) _ _ ls (by omega) hP hD hS hl kx
            · refine lv_aload_n hx hb d_M_clear_85 rfl (lv_at hl 0 rfl) ?_
              refine va_get (D := D) (ci := 3) (v := .ref (ad 16)) (C := R_M) (T := F_M) (N := 16) hx hb hts (fun w h => kS1 w (i_M w h)) hown hK hP 10 gw_10 rfl 7 (by decide) (hts _ (kS1 _ m_M_26)) (fun _ h9 => h9) rfl d_M_clear_86 ?_
              refine lv_iload_n hx hb d_M_clear_89 rfl (lv_at hl 2 rfl) ?_
              refine lv_iconst (v := 1) hx hb d_M_clear_90 (by decide) ?_
              refine va_zast (f := ((it mU i (A9, G9)).1) 7) hx hb hK hP hD hS 16 1 gw_16 rfl (vp_in_nI (N := 300) (by omega) (by omega)) d_M_clear_91 (fun H locs hP hD hS => ?_)
              rw [nI_clamp (n := i) (by omega)] at hP hD
              have hP := kw_P (gw_sa7 (r := upd (((it mU i (A9, G9)).1) 7) i (vp_nar .boolean 1))) hP
              have hD := kw_D (gw_sa7 (r := upd (((it mU i (A9, G9)).1) 7) i (vp_nar .boolean 1))) hD
              refine lv_aload_n hx hb d_M_clear_92 rfl (lv_at hl 0 rfl) ?_
              refine va_get (D := D) (ci := 3) (v := .ref (ad 18)) (C := R_M) (T := F_M) (N := 16) hx hb hts (fun w h => kS1 w (i_M w h)) hown hK hP 10 gw_10 rfl 10 (by decide) (hts _ (kS1 _ m_M_32)) (fun _ h9 => h9) rfl d_M_clear_93 ?_
              refine lv_aload_n hx hb d_M_clear_96 rfl (lv_at hl 0 rfl) ?_
              refine va_get (D := D) (ci := 3) (v := .int (((it mU i (A9, G9)).2) 9)) (C := R_M) (T := F_M) (N := 16) hx hb hts (fun w h => kS1 w (i_M w h)) hown hK hP 10 gw_10 rfl 9 (by decide) (hts _ (kS1 _ m_M_63)) (fun _ h9 => h9) rfl d_M_clear_97 ?_
              refine lv_iload_n hx hb d_M_clear_100 rfl (lv_at hl 2 rfl) ?_
              refine va_iast (f := ((it mU i (A9, G9)).1) 10) hx hb hK hP hD hS 18 0 gw_18 rfl (mUI_in hn3 hlt_i (mUI_it hn3 hUI i (by omega)) c_73') d_M_clear_101 (fun H locs hP hD hS => ?_)
              have hP := kw_P (gw_sa10 (r := upd (((it mU i (A9, G9)).1) 10) ((((it mU i (A9, G9)).2) 9).toNatClampNeg) (nI i))) hP
              have hD := kw_D (gw_sa10 (r := upd (((it mU i (A9, G9)).1) 10) ((((it mU i (A9, G9)).2) 9).toNatClampNeg) (nI i))) hD
              refine lv_aload_n hx hb d_M_clear_102 rfl (lv_at hl 0 rfl) ?_
              refine lv_dup hx hb d_M_clear_103 rfl ?_
              refine va_get (D := D) (ci := 3) (v := .int (((it mU i (A9, G9)).2) 9)) (C := R_M) (T := F_M) (N := 16) hx hb hts (fun w h => kS1 w (i_M w h)) hown hK hP 10 gw_10 rfl 9 (by decide) (hts _ (kS1 _ m_M_63)) (fun _ h9 => h9) rfl d_M_clear_104 ?_
              refine lv_iconst (v := 1) hx hb d_M_clear_107 (by decide) ?_
              refine lv_iadd hx hb d_M_clear_108 ?_
              refine va_put (D := D) (ci := 3) (v := .int ((((it mU i (A9, G9)).2) 9) + 1)) (ty := .int) (C := R_M) (T := F_M) (N := 16) hx hb hts (fun w h => kS1 w (i_M w h)) tt_M tt_M_ok n_M hown hK hP hD hS 10 gw_10 rfl 9 (by decide) (hts _ (kS1 _ m_M_63)) (fun _ h9 => h9) rfl (by decide +kernel) rfl rfl (Nat.le_of_ble_eq_true rfl) d_M_clear_109 (fun H locs hP hD hS => ?_)
              have hP := kw_P (gw_sM9 (v := (((it mU i (A9, G9)).2) 9) + 1)) hP
              have hD := kw_D (gw_sM9 (v := (((it mU i (A9, G9)).2) 9) + 1)) hD
              refine lv_iinc (v := nI i + 1) (lv' := [(3, .int (nI i + 1)), (0, .ref (ad 10)), (2, .int (G9 9))]) hx hb d_M_clear_112 hl (k := 2) rfl rfl (by decide) rfl (fun ls hl => ?_)
              refine lv_goto (tgt := 28) hx hb d_M_clear_115 (by decide) ?_
              have hl := lv_sub (l' := [(0, .ref (ad 10)), (2, .int (G9 9)), (3, .int (nI i + 1))]) hl [1, 2, 0] rfl
              have hqq9 : (.int (nI i + 1) : Value) = .int (nI (i + 1)) := by rw [nI_1]
              rw [hqq9] at hl
              have hE : (gW n ty ad f th rt qu b w T (upd ((it mU i (A9, G9)).2) 9 ((((it mU i (A9, G9)).2) 9) + 1)) (va_up (va_up (va_up ((it mU i (A9, G9)).1) 15 (upd (((it mU i (A9, G9)).1) 15) i (vp_nar .boolean ((((it mU i (A9, G9)).1) 14) i)))) 7 (upd (((it mU i (A9, G9)).1) 7) i (vp_nar .boolean 1))) 10 (upd (((it mU i (A9, G9)).1) 10) ((((it mU i (A9, G9)).2) 9).toNatClampNeg) (nI i))) o : va_W) = gW n ty ad f th rt qu b w T ((it mU (i + 1) (A9, G9)).2) ((it mU (i + 1) (A9, G9)).1) o := by rw [it_s, mU]; simp [kb1, c_33', c_54', c_64', c_73', c_82']
              have hP := kw_P hE hP
              have hD := kw_D hE hD
              exact ih (i + 1) _ _ ls (by omega) hP hD hS hl kx
  have hl := lv_sub (l' := [(0, .ref (ad 10)), (2, .int (G9 9)), (3, .int 0)]) hl [3, 1, 0] rfl
  have hqq9 : (.int 0 : Value) = .int (nI 0) := by rw [nI_0]
  rw [hqq9] at hl
  refine L1 _ (n - 0) 0 _ _ ls (by omega) hP hD hS hl (fun H locs ls hP hD hS hl => ?_)
  refine lv_aload_n hx hb d_M_clear_118 rfl (lv_at hl 0 rfl) ?_
  refine lv_iconst (v := 0) hx hb d_M_clear_119 (by decide) ?_
  obtain ⟨X9, hX9⟩ : ∃ z, z = it mU n (A9, G9) := ⟨_, rfl⟩
  rw [← hX9] at hP hD
  obtain ⟨u1, ⟨q2, uq, ue, uQ⟩, u4, u8, u5, u3⟩ := mUI_it hn3 hUI n (Nat.le_refl _)
  rw [← hX9] at u1 uq ue uQ u4 u8 u5 u3
  have hq2 : q2 = (X9.2 9).toNatClampNeg := by rw [ue, nI_clamp (by have := cn_le (fun k => X9.1 7 k != 0) n; omega)]
  have hq23 : q2 ≤ 300 := by have := cn_le (fun k => X9.1 7 k != 0) n; omega
  refine kc_i (va_runV (As := [.int 0]) (rest := []) ⟨hx, hb, hml, hown, hts⟩ (c_M_find l D ty ad _ n f th rt qu b w T X9.2 X9.1 o u1 hn3 0 q2 ue hq23 (by rw [u4]; exact hL) (by rw [u8]; exact hR) uQ (by rw [u5]; exact hF) (by rw [u3, u4]; exact hW1)) (cwV 1 hts (kGV kS1 m_M_69 m_im_M_find m_sel_M_find m_ini_M m_code_M_find) rfl rfl rfl (by decide +kernel) ⟨Nat.le_of_ble_eq_true rfl, Nat.le_of_ble_eq_true rfl⟩) ⟨kP_blind, va_recv hK hP (ci := 3) (q0 := 10) rfl gw_10, fun U hU hW => ⟨rfl, kP_at hK hP hD U hU hW⟩⟩ rfl rfl hl.1 rfl (lv_room (Nat.le_of_ble_eq_true rfl)) d_M_clear_120 ⟨Nat.le_of_ble_eq_true rfl, Nat.le_of_ble_eq_true rfl⟩) hD hS hA (fun r u H locs hu hP hD hS hz => ?_)
  obtain ⟨rfl, rfl⟩ := hu
  obtain ⟨A8, hA8⟩ : ∃ z, z = va_up X9.1 14 (mD 0 X9.1 n q2 (X9.1 14)) := ⟨_, rfl⟩
  rw [← hA8] at hP hD
  obtain ⟨G8, hG8⟩ : ∃ z, z = X9.2 := ⟨_, rfl⟩
  rw [← hG8] at hP hD
  have hVI : mVI n (A8, G8) := by rw [hA8, hG8]; exact ⟨u1, fun i hi => by show ∃ v, v ≤ 300 ∧ X9.1 5 i = nI v; rw [u5]; exact hF i hi⟩
  refine lv_istore_n (lv' := [(3, .int (it (mC (mD 0 X9.1 n q2 (X9.1 14))) n 0)), (0, .ref (ad 10)), (2, .int (G9 9))]) hx hb d_M_clear_123 rfl hl (by decide) rfl (fun ls hl => ?_)
  refine lv_iconst (v := 0) hx hb d_M_clear_124 (by decide) ?_
  refine lv_istore (lv' := [(4, .int 0), (3, .int (it (mC (mD 0 X9.1 n q2 (X9.1 14))) n 0)), (0, .ref (ad 10)), (2, .int (G9 9))]) hx hb d_M_clear_125 hl (by decide) rfl (fun ls hl => ?_)
  have L2 : ∀ (Q : State → Prop) (rem i : Nat) (H : Heap) (locs : List Loc) (ls : Array Slot), i + rem = n → va_P D kCl (gW n ty ad f th rt qu b w T ((it mV i (A8, G8)).2) ((it mV i (A8, G8)).1) o) H → va_D A (gW n ty ad f th rt qu b w T ((it mV i (A8, G8)).2) ((it mV i (A8, G8)).1) o) → va_S A s.heap H locs → lv_has ls 6 [(0, .ref (ad 10)), (2, .int (G9 9)), (4, .int (nI i))] → (∀ (H : Heap) (locs : List Loc) (ls : Array Slot), va_P D kCl (gW n ty ad f th rt qu b w T ((it mV n (A8, G8)).2) ((it mV n (A8, G8)).1) o) H → va_D A (gW n ty ad f th rt qu b w T ((it mV n (A8, G8)).2) ((it mV n (A8, G8)).1) o) → va_S A s.heap H locs → lv_has ls 6 [(0, .ref (ad 10)), (2, .int (G9 9))] → W p l e (headSpec w_M_clear ({ frames := 1, cells := 0, slots := 0, locals := 25 })).room s m ([.ref (ad 10)] : List Value).toArray below meth cd H locs 0 0 Q (F0 m 229 ls [])) → W p l e (headSpec w_M_clear ({ frames := 1, cells := 0, slots := 0, locals := 25 })).room s m ([.ref (ad 10)] : List Value).toArray below meth cd H locs 0 0 Q (F0 m 127 ls []) := by
    intro Q rem
    induction rem with
    | zero =>
      intro i H locs ls hir_i hP hD hS hl kx
      obtain rfl : n = i := by omega
      refine lv_iload hx hb d_M_clear_127 (lv_at hl 2 rfl) ?_
      refine lv_aload_n hx hb d_M_clear_129 rfl (lv_at hl 0 rfl) ?_
      refine va_get (D := D) (ci := 3) (v := .int (((it mV n (A8, G8)).2) 1)) (C := R_M) (T := F_M) (N := 16) hx hb hts (fun w h => kS1 w (i_M w h)) hown hK hP 10 gw_10 rfl 1 (by decide) (hts _ (kS1 _ m_M_45)) (fun _ h9 => h9) rfl d_M_clear_130 ?_
      refine lv_icmp_ge (tgt := 229) hx hb d_M_clear_133 (by decide) (fun c_133' => ?_) (fun c_133' => absurd (by rw [(mVI_it hVI n).1]; exact nI_le (Nat.le_refl _) (by omega)) c_133')
      have hl := lv_sub (l' := [(0, .ref (ad 10)), (2, .int (G9 9))]) hl [0, 1] rfl
      exact kx _ _ ls hP hD hS hl
    | succ rem ih =>
      intro i H locs ls hir_i hP hD hS hl kx
      have hlt_i : i < n := by omega
      refine lv_iload hx hb d_M_clear_127 (lv_at hl 2 rfl) ?_
      refine lv_aload_n hx hb d_M_clear_129 rfl (lv_at hl 0 rfl) ?_
      refine va_get (D := D) (ci := 3) (v := .int (((it mV i (A8, G8)).2) 1)) (C := R_M) (T := F_M) (N := 16) hx hb hts (fun w h => kS1 w (i_M w h)) hown hK hP 10 gw_10 rfl 1 (by decide) (hts _ (kS1 _ m_M_45)) (fun _ h9 => h9) rfl d_M_clear_130 ?_
      refine lv_icmp_ge (tgt := 229) hx hb d_M_clear_133 (by decide) (fun c_133' => absurd c_133' (by rw [(mVI_it hVI i).1]; exact nI_ge hlt_i (by omega))) (fun c_133' => ?_)
      refine lv_aload_n hx hb d_M_clear_136 rfl (lv_at hl 0 rfl) ?_
      refine va_get (D := D) (ci := 3) (v := .ref (ad 19)) (C := R_M) (T := F_M) (N := 16) hx hb hts (fun w h => kS1 w (i_M w h)) hown hK hP 10 gw_10 rfl 14 (by decide) (hts _ (kS1 _ m_M_35)) (fun _ h9 => h9) rfl d_M_clear_137 ?_
      refine lv_iload hx hb d_M_clear_140 (lv_at hl 2 rfl) ?_
      refine va_zald (f := ((it mV i (A8, G8)).1) 14) hx hb hK hP 19 1 gw_19 rfl (vp_in_nI (N := 300) (by omega) (by omega)) d_M_clear_142 ?_
      rw [nI_clamp (n := i) (by omega)]
      refine lv_if_eq (tgt := 174) hx hb d_M_clear_143 (by decide) (fun c_143' => ?_) (fun c_143' => ?_)
      · refine lv_iconst (v := 0) hx hb d_M_clear_174 (by decide) ?_
        refine lv_istore (lv' := [(5, .int 0), (0, .ref (ad 10)), (2, .int (G9 9)), (4, .int (nI i))]) hx hb d_M_clear_175 hl (by decide) rfl (fun ls hl => ?_)
        refine lv_iload hx hb d_M_clear_177 (lv_at hl 0 rfl) ?_
        refine lv_if_eq (tgt := 223) hx hb d_M_clear_179 (by decide) (fun c_179' => ?_) (fun c_179' => absurd rfl c_179')
        refine lv_iinc (v := nI i + 1) (lv' := [(4, .int (nI i + 1)), (5, .int 0), (0, .ref (ad 10)), (2, .int (G9 9))]) hx hb d_M_clear_223 hl (k := 3) rfl rfl (by decide) rfl (fun ls hl => ?_)
        refine lv_goto (tgt := 127) hx hb d_M_clear_226 (by decide) ?_
        have hl := lv_sub (l' := [(0, .ref (ad 10)), (2, .int (G9 9)), (4, .int (nI i + 1))]) hl [2, 3, 0] rfl
        have hqq9 : (.int (nI i + 1) : Value) = .int (nI (i + 1)) := by rw [nI_1]
        rw [hqq9] at hl
        have hE : (gW n ty ad f th rt qu b w T ((it mV i (A8, G8)).2) ((it mV i (A8, G8)).1) o : va_W) = gW n ty ad f th rt qu b w T ((it mV (i + 1) (A8, G8)).2) ((it mV (i + 1) (A8, G8)).1) o := by rw [it_s, mV]; simp [c_133', c_143', c_179']
        have hP := kw_P hE hP
        have hD := kw_D hE hD
        exact ih (i + 1) _ _ ls (by omega) hP hD hS hl kx
      · refine lv_aload_n hx hb d_M_clear_146 rfl (lv_at hl 0 rfl) ?_
        refine va_get (D := D) (ci := 3) (v := .ref (ad 12)) (C := R_M) (T := F_M) (N := 16) hx hb hts (fun w h => kS1 w (i_M w h)) hown hK hP 10 gw_10 rfl 3 (by decide) (hts _ (kS1 _ m_M_13)) (fun _ h9 => h9) rfl d_M_clear_147 ?_
        refine lv_iload hx hb d_M_clear_150 (lv_at hl 2 rfl) ?_
        refine va_iald (f := ((it mV i (A8, G8)).1) 3) hx hb hK hP 12 0 gw_12 rfl (vp_in_nI (N := 300) (by omega) (by omega)) d_M_clear_152 ?_
        rw [nI_clamp (n := i) (by omega)]
        refine lv_iconst (v := 1) hx hb d_M_clear_153 (by decide) ?_
        refine lv_icmp_ne (tgt := 174) hx hb d_M_clear_154 (by decide) (fun c_154' => ?_) (fun c_154' => ?_)
        · refine lv_iconst (v := 0) hx hb d_M_clear_174 (by decide) ?_
          refine lv_istore (lv' := [(5, .int 0), (0, .ref (ad 10)), (2, .int (G9 9)), (4, .int (nI i))]) hx hb d_M_clear_175 hl (by decide) rfl (fun ls hl => ?_)
          refine lv_iload hx hb d_M_clear_177 (lv_at hl 0 rfl) ?_
          refine lv_if_eq (tgt := 223) hx hb d_M_clear_179 (by decide) (fun c_179' => ?_) (fun c_179' => absurd rfl c_179')
          refine lv_iinc (v := nI i + 1) (lv' := [(4, .int (nI i + 1)), (5, .int 0), (0, .ref (ad 10)), (2, .int (G9 9))]) hx hb d_M_clear_223 hl (k := 3) rfl rfl (by decide) rfl (fun ls hl => ?_)
          refine lv_goto (tgt := 127) hx hb d_M_clear_226 (by decide) ?_
          have hl := lv_sub (l' := [(0, .ref (ad 10)), (2, .int (G9 9)), (4, .int (nI i + 1))]) hl [2, 3, 0] rfl
          have hqq9 : (.int (nI i + 1) : Value) = .int (nI (i + 1)) := by rw [nI_1]
          rw [hqq9] at hl
          have hE : (gW n ty ad f th rt qu b w T ((it mV i (A8, G8)).2) ((it mV i (A8, G8)).1) o : va_W) = gW n ty ad f th rt qu b w T ((it mV (i + 1) (A8, G8)).2) ((it mV (i + 1) (A8, G8)).1) o := by rw [it_s, mV]; simp [c_133', c_143', c_154', c_179']
          have hP := kw_P hE hP
          have hD := kw_D hE hD
          exact ih (i + 1) _ _ ls (by omega) hP hD hS hl kx
        · refine lv_aload_n hx hb d_M_clear_157 rfl (lv_at hl 0 rfl) ?_
          refine va_get (D := D) (ci := 3) (v := .ref (ad 14)) (C := R_M) (T := F_M) (N := 16) hx hb hts (fun w h => kS1 w (i_M w h)) hown hK hP 10 gw_10 rfl 5 (by decide) (hts _ (kS1 _ m_M_20)) (fun _ h9 => h9) rfl d_M_clear_158 ?_
          refine lv_bipush (v := 12) hx hb d_M_clear_161 (by decide) ?_
          refine lv_iload hx hb d_M_clear_163 (lv_at hl 2 rfl) ?_
          refine lv_imul hx hb d_M_clear_165 ?_
          refine va_iald (f := ((it mV i (A8, G8)).1) 5) hx hb hK hP 14 0 gw_14 rfl (k12j (by omega)) d_M_clear_166 ?_
          rw [k12a (k := i) (by omega)]
          refine lv_if_le (tgt := 174) hx hb d_M_clear_167 (by decide) (fun c_167' => ?_) (fun c_167' => ?_)
          · refine lv_iconst (v := 0) hx hb d_M_clear_174 (by decide) ?_
            refine lv_istore (lv' := [(5, .int 0), (0, .ref (ad 10)), (2, .int (G9 9)), (4, .int (nI i))]) hx hb d_M_clear_175 hl (by decide) rfl (fun ls hl => ?_)
            refine lv_iload hx hb d_M_clear_177 (lv_at hl 0 rfl) ?_
            refine lv_if_eq (tgt := 223) hx hb d_M_clear_179 (by decide) (fun c_179' => ?_) (fun c_179' => absurd rfl c_179')
            refine lv_iinc (v := nI i + 1) (lv' := [(4, .int (nI i + 1)), (5, .int 0), (0, .ref (ad 10)), (2, .int (G9 9))]) hx hb d_M_clear_223 hl (k := 3) rfl rfl (by decide) rfl (fun ls hl => ?_)
            refine lv_goto (tgt := 127) hx hb d_M_clear_226 (by decide) ?_
            have hl := lv_sub (l' := [(0, .ref (ad 10)), (2, .int (G9 9)), (4, .int (nI i + 1))]) hl [2, 3, 0] rfl
            have hqq9 : (.int (nI i + 1) : Value) = .int (nI (i + 1)) := by rw [nI_1]
            rw [hqq9] at hl
            have hE : (gW n ty ad f th rt qu b w T ((it mV i (A8, G8)).2) ((it mV i (A8, G8)).1) o : va_W) = gW n ty ad f th rt qu b w T ((it mV (i + 1) (A8, G8)).2) ((it mV (i + 1) (A8, G8)).1) o := by rw [it_s, mV]; simp [c_133', c_143', c_154', c_167', c_179']
            have hP := kw_P hE hP
            have hD := kw_D hE hD
            exact ih (i + 1) _ _ ls (by omega) hP hD hS hl kx
          · refine lv_iconst (v := 1) hx hb d_M_clear_170 (by decide) ?_
            refine lv_goto (tgt := 175) hx hb d_M_clear_171 (by decide) ?_
            refine lv_istore (lv' := [(5, .int 1), (0, .ref (ad 10)), (2, .int (G9 9)), (4, .int (nI i))]) hx hb d_M_clear_175 hl (by decide) rfl (fun ls hl => ?_)
            refine lv_iload hx hb d_M_clear_177 (lv_at hl 0 rfl) ?_
            refine lv_if_eq (tgt := 223) hx hb d_M_clear_179 (by decide) (fun c_179' => absurd c_179' (by decide)) (fun c_179' => ?_)
            refine lv_aload_n hx hb d_M_clear_182 rfl (lv_at hl 1 rfl) ?_
            refine va_get (D := D) (ci := 3) (v := .ref (ad 20)) (C := R_M) (T := F_M) (N := 16) hx hb hts (fun w h => kS1 w (i_M w h)) hown hK hP 10 gw_10 rfl 15 (by decide) (hts _ (kS1 _ m_M_38)) (fun _ h9 => h9) rfl d_M_clear_183 ?_
            refine lv_aload_n hx hb d_M_clear_186 rfl (lv_at hl 1 rfl) ?_
            refine va_get (D := D) (ci := 3) (v := .ref (ad 14)) (C := R_M) (T := F_M) (N := 16) hx hb hts (fun w h => kS1 w (i_M w h)) hown hK hP 10 gw_10 rfl 5 (by decide) (hts _ (kS1 _ m_M_20)) (fun _ h9 => h9) rfl d_M_clear_187 ?_
            refine lv_bipush (v := 12) hx hb d_M_clear_190 (by decide) ?_
            refine lv_iload hx hb d_M_clear_192 (lv_at hl 3 rfl) ?_
            refine lv_imul hx hb d_M_clear_194 ?_
            refine va_iald (f := ((it mV i (A8, G8)).1) 5) hx hb hK hP 14 0 gw_14 rfl (k12j (by omega)) d_M_clear_195 ?_
            rw [k12a (k := i) (by omega)]
            refine lv_iconst (v := 1) hx hb d_M_clear_196 (by decide) ?_
            refine lv_isub hx hb d_M_clear_197 ?_
            refine va_zald (f := ((it mV i (A8, G8)).1) 15) hx hb hK hP 20 1 gw_20 rfl (kin8 ((mVI_it hVI i).2 (12 * i) (by omega)) c_167') d_M_clear_198 ?_
            refine lv_if_ne (tgt := 223) hx hb d_M_clear_199 (by decide) (fun c_199' => ?_) (fun c_199' => ?_)
            · refine lv_iinc (v := nI i + 1) (lv' := [(4, .int (nI i + 1)), (5, .int 1), (0, .ref (ad 10)), (2, .int (G9 9))]) hx hb d_M_clear_223 hl (k := 3) rfl rfl (by decide) rfl (fun ls hl => ?_)
              refine lv_goto (tgt := 127) hx hb d_M_clear_226 (by decide) ?_
              have hl := lv_sub (l' := [(0, .ref (ad 10)), (2, .int (G9 9)), (4, .int (nI i + 1))]) hl [2, 3, 0] rfl
              have hqq9 : (.int (nI i + 1) : Value) = .int (nI (i + 1)) := by rw [nI_1]
              rw [hqq9] at hl
              have hE : (gW n ty ad f th rt qu b w T ((it mV i (A8, G8)).2) ((it mV i (A8, G8)).1) o : va_W) = gW n ty ad f th rt qu b w T ((it mV (i + 1) (A8, G8)).2) ((it mV (i + 1) (A8, G8)).1) o := by rw [it_s, mV]; simp [c_133', c_143', c_154', c_167', c_179', c_199']
              have hP := kw_P hE hP
              have hD := kw_D hE hD
              exact ih (i + 1) _ _ ls (by omega) hP hD hS hl kx
            · refine lv_aload_n hx hb d_M_clear_202 rfl (lv_at hl 1 rfl) ?_
              refine va_get (D := D) (ci := 3) (v := .ref (ad 14)) (C := R_M) (T := F_M) (N := 16) hx hb hts (fun w h => kS1 w (i_M w h)) hown hK hP 10 gw_10 rfl 5 (by decide) (hts _ (kS1 _ m_M_20)) (fun _ h9 => h9) rfl d_M_clear_203 ?_
              refine lv_bipush (v := 12) hx hb d_M_clear_206 (by decide) ?_
              refine lv_iload hx hb d_M_clear_208 (lv_at hl 3 rfl) ?_
              refine lv_imul hx hb d_M_clear_210 ?_
              refine lv_iconst (v := 0) hx hb d_M_clear_211 (by decide) ?_
              refine va_iast (f := ((it mV i (A8, G8)).1) 5) hx hb hK hP hD hS 14 0 gw_14 rfl (k12j (by omega)) d_M_clear_212 (fun H locs hP hD hS => ?_)
              rw [k12a (k := i) (by omega)] at hP hD
              have hP := kw_P (gw_sa5 (r := upd (((it mV i (A8, G8)).1) 5) (12 * i) 0)) hP
              have hD := kw_D (gw_sa5 (r := upd (((it mV i (A8, G8)).1) 5) (12 * i) 0)) hD
              refine lv_aload_n hx hb d_M_clear_213 rfl (lv_at hl 1 rfl) ?_
              refine lv_dup hx hb d_M_clear_214 rfl ?_
              refine va_get (D := D) (ci := 3) (v := .int (((it mV i (A8, G8)).2) 12)) (C := R_M) (T := F_M) (N := 16) hx hb hts (fun w h => kS1 w (i_M w h)) hown hK hP 10 gw_10 rfl 12 (by decide) (hts _ (kS1 _ m_M_73)) (fun _ h9 => h9) rfl d_M_clear_215 ?_
              refine lv_iconst (v := 1) hx hb d_M_clear_218 (by decide) ?_
              refine lv_iadd hx hb d_M_clear_219 ?_
              refine va_put (D := D) (ci := 3) (v := .int ((((it mV i (A8, G8)).2) 12) + 1)) (ty := .int) (C := R_M) (T := F_M) (N := 16) hx hb hts (fun w h => kS1 w (i_M w h)) tt_M tt_M_ok n_M hown hK hP hD hS 10 gw_10 rfl 12 (by decide) (hts _ (kS1 _ m_M_73)) (fun _ h9 => h9) rfl (by decide +kernel) rfl rfl (Nat.le_of_ble_eq_true rfl) d_M_clear_220 (fun H locs hP hD hS => ?_)
              have hP := kw_P (gw_sM12 (v := (((it mV i (A8, G8)).2) 12) + 1)) hP
              have hD := kw_D (gw_sM12 (v := (((it mV i (A8, G8)).2) 12) + 1)) hD
              refine lv_iinc (v := nI i + 1) (lv' := [(4, .int (nI i + 1)), (5, .int 1), (0, .ref (ad 10)), (2, .int (G9 9))]) hx hb d_M_clear_223 hl (k := 3) rfl rfl (by decide) rfl (fun ls hl => ?_)
              refine lv_goto (tgt := 127) hx hb d_M_clear_226 (by decide) ?_
              have hl := lv_sub (l' := [(0, .ref (ad 10)), (2, .int (G9 9)), (4, .int (nI i + 1))]) hl [2, 3, 0] rfl
              have hqq9 : (.int (nI i + 1) : Value) = .int (nI (i + 1)) := by rw [nI_1]
              rw [hqq9] at hl
              have hE : (gW n ty ad f th rt qu b w T (upd ((it mV i (A8, G8)).2) 12 ((((it mV i (A8, G8)).2) 12) + 1)) (va_up ((it mV i (A8, G8)).1) 5 (upd (((it mV i (A8, G8)).1) 5) (12 * i) 0)) o : va_W) = gW n ty ad f th rt qu b w T ((it mV (i + 1) (A8, G8)).2) ((it mV (i + 1) (A8, G8)).1) o := by rw [it_s, mV]; simp [c_133', c_143', c_154', c_167', c_179', c_199']
              have hP := kw_P hE hP
              have hD := kw_D hE hD
              exact ih (i + 1) _ _ ls (by omega) hP hD hS hl kx
  have hl := lv_sub (l' := [(0, .ref (ad 10)), (2, .int (G9 9)), (4, .int 0)]) hl [2, 3, 0] rfl
  have hqq9 : (.int 0 : Value) = .int (nI 0) := by rw [nI_0]
  rw [hqq9] at hl
  refine L2 _ (n - 0) 0 _ _ ls (by omega) hP hD hS hl (fun H locs ls hP hD hS hl => ?_)
  refine lv_aload_n hx hb d_M_clear_229 rfl (lv_at hl 0 rfl) ?_
  refine va_get (D := D) (ci := 3) (v := .int (((it mV n (A8, G8)).2) 9)) (C := R_M) (T := F_M) (N := 16) hx hb hts (fun w h => kS1 w (i_M w h)) hown hK hP 10 gw_10 rfl 9 (by decide) (hts _ (kS1 _ m_M_63)) (fun _ h9 => h9) rfl d_M_clear_230 ?_
  refine lv_iload_n hx hb d_M_clear_233 rfl (lv_at hl 1 rfl) ?_
  refine lv_isub hx hb d_M_clear_234 ?_
  have hu : (gW n ty ad f th rt qu b w T ((it mV n (A8, G8)).2) ((it mV n (A8, G8)).1) o : va_W) = gW n ty ad f th rt qu b w T ((it mV n (va_up (it mU n (va_up a 14 (mD 0 a n q (a 14)), upd (upd g 0 0) 11 (g 11 + 1))).1 14 (mD 0 (it mU n (va_up a 14 (mD 0 a n q (a 14)), upd (upd g 0 0) 11 (g 11 + 1))).1 n ((it mU n (va_up a 14 (mD 0 a n q (a 14)), upd (upd g 0 0) 11 (g 11 + 1))).2 9).toNatClampNeg ((it mU n (va_up a 14 (mD 0 a n q (a 14)), upd (upd g 0 0) 11 (g 11 + 1))).1 14)), (it mU n (va_up a 14 (mD 0 a n q (a 14)), upd (upd g 0 0) 11 (g 11 + 1))).2)).2) ((it mV n (va_up (it mU n (va_up a 14 (mD 0 a n q (a 14)), upd (upd g 0 0) 11 (g 11 + 1))).1 14 (mD 0 (it mU n (va_up a 14 (mD 0 a n q (a 14)), upd (upd g 0 0) 11 (g 11 + 1))).1 n ((it mU n (va_up a 14 (mD 0 a n q (a 14)), upd (upd g 0 0) 11 (g 11 + 1))).2 9).toNatClampNeg ((it mU n (va_up a 14 (mD 0 a n q (a 14)), upd (upd g 0 0) 11 (g 11 + 1))).1 14)), (it mU n (va_up a 14 (mD 0 a n q (a 14)), upd (upd g 0 0) 11 (g 11 + 1))).2)).1) o := by rw [hA8, hG8, hq2, hX9, hA9, hG9]
  have hv : ((((it mV n (A8, G8)).2) 9) - (G9 9) : Int32) = (it mV n (va_up (it mU n (va_up a 14 (mD 0 a n q (a 14)), upd (upd g 0 0) 11 (g 11 + 1))).1 14 (mD 0 (it mU n (va_up a 14 (mD 0 a n q (a 14)), upd (upd g 0 0) 11 (g 11 + 1))).1 n ((it mU n (va_up a 14 (mD 0 a n q (a 14)), upd (upd g 0 0) 11 (g 11 + 1))).2 9).toNatClampNeg ((it mU n (va_up a 14 (mD 0 a n q (a 14)), upd (upd g 0 0) 11 (g 11 + 1))).1 14)), (it mU n (va_up a 14 (mD 0 a n q (a 14)), upd (upd g 0 0) 11 (g 11 + 1))).2)).2 9 - g 9 := by rw [hA8, hG8, hq2, hX9, hA9, hG9]; rfl
  exact W.iret (v := (((it mV n (A8, G8)).2) 9) - (G9 9)) hx hb hr (fun t ht hW => ⟨⟨_, _, rfl, ⟨hv, hu⟩, by rw [ht]; exact hP, va_K.moved hW.alike hK, hD⟩, hS.F ht⟩) hS.2.2 d_M_clear_235
