/-! Part 44.z: the model's make, the world's count of things apart. -/
set_option maxHeartbeats 4000000 in
set_option maxRecDepth 100000 in
/-- make(kd, z): it goes -/
theorem c_M_make_yN (l : Launch) (D : va_G) (ty : Nat → ClassId) (ad : Nat → Nat) (sz : Nat) (N n : Nat) (f : Nat → Int32) (th : Nat → Bool) (rt qu : Nat → Int32) (b w : SR) (T : Nat → TH) (g : Nat → Int32) (a : Nat → Nat → Int32) (o : Nat → Int64) (hg1 : g 1 = nI n) (hn3 : n ≤ 300) (kd z : Int32) (hc : ¬ mG (mkP kd z) (mkQ g) = 0) : Met l y_M_make w_M_make ({ frames := 1, cells := 0, slots := 0, locals := 22 }) (va_Pc [.ref (ad 10), .int kd, .int z] (kP D kCl (kTy ty) (gW N ty ad f th rt qu b w T g a o) sz)) (va_Qi (fun (r9 : Int32) (u9 : va_W) => r9 = (g 1 + 1 - 1) ∧ u9 = (gW N ty ad f th rt qu b w T (upd (upd g 0 (mT (mkP kd z) (mkQ g))) 1 (g 1 + 1)) (va_up (va_up (va_up a 2 (upd (a 2) n 1)) 3 (upd (a 3) n kd)) 4 (upd (a 4) n z)) o)) (kB D kCl (kTy ty) (va_A (gW N ty ad f th rt qu b w T g a o) sz)) (va_A (gW N ty ad f th rt qu b w T g a o) sz)) 0 0 (va_A (gW N ty ad f th rt qu b w T g a o) sz) := by
  refine Met.ofW (cc := b_M_make) (maxL := 3) (ret := (some .int)) (by decide) rfl ?_
  intro p e s m args below meth cd s₁ B hml hv
  obtain ⟨rfl, hsz, hP, hK, hD0⟩ := hv
  have hx := B.exec
  have hb := B.bytes
  have hr := B.returns
  have hts := atoms_spec (ws := w_M_make) B.pre
  have hown : s.vm.findClass R_M = some m.cls := findClass_of_methodNamed B.named
  have hlocks := B.notSynchronized
  subst hsz
  have hD := hD0.self (sz := s.heap.size)
  generalize hAe : va_A (gW N ty ad f th rt qu b w T g a o) s.heap.size = A at hD ⊢
  have hA : ∀ q : Nat, s.heap.size ≤ q → A q := fun q h => by rw [← hAe]; exact Or.inr h
  have hS : va_S A s.heap s.heap [] := va_S.rf
  have hl := lv_entry ([.ref (ad 10), .int kd, .int z]) (n := 3) (Nat.le_of_ble_eq_true rfl)
  rw [lg_entry_eq]
  generalize (lg_sl ([.ref (ad 10), .int kd, .int z]) ++ List.replicate (3 - (lg_sl ([.ref (ad 10), .int kd, .int z])).length) Slot.unset).toArray = ls at hl ⊢
  have hl : lv_has ls 3 [(0, .ref (ad 10)), (1, .int kd), (2, .int z)] := hl
  refine lv_aload_n hx hb d_M_make_0 rfl (lv_at hl 0 rfl) ?_
  have J1 : ∀ (Q : State → Prop), W p l e (headSpec w_M_make ({ frames := 1, cells := 0, slots := 0, locals := 22 })).room s m ([.ref (ad 10), .int kd, .int z] : List Value).toArray below meth cd s.heap [] 0 0 Q (F0 m 34 ls [.int (mkP kd z), .ref (ad 10)]) → W p l e (headSpec w_M_make ({ frames := 1, cells := 0, slots := 0, locals := 22 })).room s m ([.ref (ad 10), .int kd, .int z] : List Value).toArray below meth cd s.heap [] 0 0 Q (F0 m 1 ls [.ref (ad 10)]) := by
    intro Q kx
    refine lv_iload_n hx hb d_M_make_1 rfl (lv_at hl 1 rfl) ?_
    refine lv_if_lt (tgt := 33) hx hb d_M_make_2 (by decide) (fun c_2 => ?_) (fun c_2 => ?_)
    · refine lv_iconst (v := 0) hx hb d_M_make_33 (by decide) ?_
      have hj : mkP kd z = 0 := by simp [mkP, c_2]
      rw [hj] at kx
      exact kx
    · refine lv_iload_n hx hb d_M_make_5 rfl (lv_at hl 1 rfl) ?_
      refine lv_iconst (v := 2) hx hb d_M_make_6 (by decide) ?_
      refine lv_icmp_gt (tgt := 33) hx hb d_M_make_7 (by decide) (fun c_7 => ?_) (fun c_7 => ?_)
      · refine lv_iconst (v := 0) hx hb d_M_make_33 (by decide) ?_
        have hj : mkP kd z = 0 := by simp [mkP, c_2, c_7]
        rw [hj] at kx
        exact kx
      · refine lv_iload_n hx hb d_M_make_10 rfl (lv_at hl 2 rfl) ?_
        refine lv_if_lt (tgt := 33) hx hb d_M_make_11 (by decide) (fun c_11 => ?_) (fun c_11 => ?_)
        · refine lv_iconst (v := 0) hx hb d_M_make_33 (by decide) ?_
          have hj : mkP kd z = 0 := by simp [mkP, c_2, c_7, c_11]
          rw [hj] at kx
          exact kx
        · refine lv_iload_n hx hb d_M_make_14 rfl (lv_at hl 2 rfl) ?_
          refine lv_bipush (v := 12) hx hb d_M_make_15 (by decide) ?_
          refine lv_icmp_gt (tgt := 33) hx hb d_M_make_17 (by decide) (fun c_17 => ?_) (fun c_17 => ?_)
          · refine lv_iconst (v := 0) hx hb d_M_make_33 (by decide) ?_
            have hj : mkP kd z = 0 := by simp [mkP, c_2, c_7, c_11, c_17]
            rw [hj] at kx
            exact kx
          · refine lv_iload_n hx hb d_M_make_20 rfl (lv_at hl 1 rfl) ?_
            refine lv_iconst (v := 1) hx hb d_M_make_21 (by decide) ?_
            refine lv_icmp_ne (tgt := 29) hx hb d_M_make_22 (by decide) (fun c_22 => ?_) (fun c_22 => ?_)
            · refine lv_iconst (v := 1) hx hb d_M_make_29 (by decide) ?_
              refine lv_goto (tgt := 34) hx hb d_M_make_30 (by decide) ?_
              have hj : mkP kd z = 1 := by simp [mkP, c_2, c_7, c_11, c_17, c_22]
              rw [hj] at kx
              exact kx
            · refine lv_iload_n hx hb d_M_make_25 rfl (lv_at hl 2 rfl) ?_
              refine lv_if_le (tgt := 33) hx hb d_M_make_26 (by decide) (fun c_26 => ?_) (fun c_26 => ?_)
              · refine lv_iconst (v := 0) hx hb d_M_make_33 (by decide) ?_
                have hj : mkP kd z = 0 := by simp [mkP, c_2, c_7, c_11, c_17, c_22, c_26]
                rw [hj] at kx
                exact kx
              · refine lv_iconst (v := 1) hx hb d_M_make_29 (by decide) ?_
                refine lv_goto (tgt := 34) hx hb d_M_make_30 (by decide) ?_
                have hj : mkP kd z = 1 := by simp [mkP, c_2, c_7, c_11, c_17, c_22, c_26]
                rw [hj] at kx
                exact kx
  refine J1 _ ?_
  have J2 : ∀ (Q : State → Prop), W p l e (headSpec w_M_make ({ frames := 1, cells := 0, slots := 0, locals := 22 })).room s m ([.ref (ad 10), .int kd, .int z] : List Value).toArray below meth cd s.heap [] 0 0 Q (F0 m 49 ls [.int (mkQ g), .int (mkP kd z), .ref (ad 10)]) → W p l e (headSpec w_M_make ({ frames := 1, cells := 0, slots := 0, locals := 22 })).room s m ([.ref (ad 10), .int kd, .int z] : List Value).toArray below meth cd s.heap [] 0 0 Q (F0 m 34 ls [.int (mkP kd z), .ref (ad 10)]) := by
    intro Q kx
    refine lv_aload_n hx hb d_M_make_34 rfl (lv_at hl 0 rfl) ?_
    refine va_get (D := D) (ci := 3) (v := .int (g 1)) (C := R_M) (T := F_M) (N := 16) hx hb hts (fun w h => kS1 w (i_M w h)) hown hK hP 10 gw_10 rfl 1 (by decide) (hts _ (kS1 _ m_M_45)) (fun _ h9 => h9) rfl d_M_make_35 ?_
    refine lv_sipush (v := 300) hx hb d_M_make_38 (by decide) ?_
    refine lv_icmp_ge (tgt := 48) hx hb d_M_make_41 (by decide) (fun c_41 => ?_) (fun c_41 => ?_)
    · refine lv_iconst (v := 0) hx hb d_M_make_48 (by decide) ?_
      have hj : mkQ g = 0 := by simp [mkQ, c_41]
      rw [hj] at kx
      exact kx
    · refine lv_iconst (v := 1) hx hb d_M_make_44 (by decide) ?_
      refine lv_goto (tgt := 49) hx hb d_M_make_45 (by decide) ?_
      have hj : mkQ g = 1 := by simp [mkQ, c_41]
      rw [hj] at kx
      exact kx
  refine J2 _ ?_
  refine kc_i (va_runV (As := [.int (mkP kd z), .int (mkQ g)]) (rest := []) ⟨hx, hb, hml, hown, hts⟩ (c_M_goes l D ty ad _ N f th rt qu b w T g a o (mkP kd z) (mkQ g)) (cwV 2 hts (kGV kS1 m_M_52 m_im_M_goes m_sel_M_goes m_ini_M m_code_M_goes) rfl rfl rfl (by decide +kernel) ⟨Nat.le_of_ble_eq_true rfl, Nat.le_of_ble_eq_true rfl⟩) ⟨kP_blind, va_recv hK hP (ci := 3) (q0 := 10) rfl gw_10, fun U hU hW => ⟨rfl, kP_at hK hP hD U hU hW⟩⟩ rfl rfl hl.1 rfl (lv_room (Nat.le_of_ble_eq_true rfl)) d_M_make_49 ⟨Nat.le_of_ble_eq_true rfl, Nat.le_of_ble_eq_true rfl⟩) hD hS hA (fun r u H locs hu hP hD hS hz => ?_)
  obtain ⟨rfl, rfl⟩ := hu
  refine lv_if_ne (tgt := 57) hx hb d_M_make_52 (by decide) (fun c_52 => ?_) (fun c_52 => absurd c_52 hc)
  refine lv_aload_n hx hb d_M_make_57 rfl (lv_at hl 0 rfl) ?_
  refine va_get (D := D) (ci := 3) (v := .ref (ad 11)) (C := R_M) (T := F_M) (N := 16) hx hb hts (fun w h => kS1 w (i_M w h)) hown hK hP 10 gw_10 rfl 2 (by decide) (hts _ (kS1 _ m_M_7)) (fun _ h9 => h9) rfl d_M_make_58 ?_
  refine lv_aload_n hx hb d_M_make_61 rfl (lv_at hl 0 rfl) ?_
  refine va_get (D := D) (ci := 3) (v := .int (g 1)) (C := R_M) (T := F_M) (N := 16) hx hb hts (fun w h => kS1 w (i_M w h)) hown hK hP 10 gw_10 rfl 1 (by decide) (hts _ (kS1 _ m_M_45)) (fun _ h9 => h9) rfl d_M_make_62 ?_
  refine lv_iconst (v := 1) hx hb d_M_make_65 (by decide) ?_
  refine va_zast (f := a 2) hx hb hK hP hD hS 11 1 gw_11 rfl (by rw [hg1]; exact vp_in_nI (mkQ_lt hg1 hn3 hc) (by omega)) d_M_make_66 (fun H locs hP hD hS => ?_)
  have hP := kw_P (gw_sa2 (r := upd (a 2) ((g 1).toNatClampNeg) (vp_nar .boolean 1))) hP
  have hD := kw_D (gw_sa2 (r := upd (a 2) ((g 1).toNatClampNeg) (vp_nar .boolean 1))) hD
  refine lv_aload_n hx hb d_M_make_67 rfl (lv_at hl 0 rfl) ?_
  refine va_get (D := D) (ci := 3) (v := .ref (ad 12)) (C := R_M) (T := F_M) (N := 16) hx hb hts (fun w h => kS1 w (i_M w h)) hown hK hP 10 gw_10 rfl 3 (by decide) (hts _ (kS1 _ m_M_13)) (fun _ h9 => h9) rfl d_M_make_68 ?_
  refine lv_aload_n hx hb d_M_make_71 rfl (lv_at hl 0 rfl) ?_
  refine va_get (D := D) (ci := 3) (v := .int (g 1)) (C := R_M) (T := F_M) (N := 16) hx hb hts (fun w h => kS1 w (i_M w h)) hown hK hP 10 gw_10 rfl 1 (by decide) (hts _ (kS1 _ m_M_45)) (fun _ h9 => h9) rfl d_M_make_72 ?_
  refine lv_iload_n hx hb d_M_make_75 rfl (lv_at hl 1 rfl) ?_
  refine va_iast (f := a 3) hx hb hK hP hD hS 12 0 gw_12 rfl (by rw [hg1]; exact vp_in_nI (mkQ_lt hg1 hn3 hc) (by omega)) d_M_make_76 (fun H locs hP hD hS => ?_)
  have hP := kw_P (gw_sa3 (r := upd (a 3) ((g 1).toNatClampNeg) kd)) hP
  have hD := kw_D (gw_sa3 (r := upd (a 3) ((g 1).toNatClampNeg) kd)) hD
  refine lv_aload_n hx hb d_M_make_77 rfl (lv_at hl 0 rfl) ?_
  refine va_get (D := D) (ci := 3) (v := .ref (ad 13)) (C := R_M) (T := F_M) (N := 16) hx hb hts (fun w h => kS1 w (i_M w h)) hown hK hP 10 gw_10 rfl 4 (by decide) (hts _ (kS1 _ m_M_17)) (fun _ h9 => h9) rfl d_M_make_78 ?_
  refine lv_aload_n hx hb d_M_make_81 rfl (lv_at hl 0 rfl) ?_
  refine va_get (D := D) (ci := 3) (v := .int (g 1)) (C := R_M) (T := F_M) (N := 16) hx hb hts (fun w h => kS1 w (i_M w h)) hown hK hP 10 gw_10 rfl 1 (by decide) (hts _ (kS1 _ m_M_45)) (fun _ h9 => h9) rfl d_M_make_82 ?_
  refine lv_iload_n hx hb d_M_make_85 rfl (lv_at hl 2 rfl) ?_
  refine va_iast (f := a 4) hx hb hK hP hD hS 13 0 gw_13 rfl (by rw [hg1]; exact vp_in_nI (mkQ_lt hg1 hn3 hc) (by omega)) d_M_make_86 (fun H locs hP hD hS => ?_)
  have hP := kw_P (gw_sa4 (r := upd (a 4) ((g 1).toNatClampNeg) z)) hP
  have hD := kw_D (gw_sa4 (r := upd (a 4) ((g 1).toNatClampNeg) z)) hD
  refine lv_aload_n hx hb d_M_make_87 rfl (lv_at hl 0 rfl) ?_
  refine lv_dup hx hb d_M_make_88 rfl ?_
  refine va_get (D := D) (ci := 3) (v := .int (g 1)) (C := R_M) (T := F_M) (N := 16) hx hb hts (fun w h => kS1 w (i_M w h)) hown hK hP 10 gw_10 rfl 1 (by decide) (hts _ (kS1 _ m_M_45)) (fun _ h9 => h9) rfl d_M_make_89 ?_
  refine lv_iconst (v := 1) hx hb d_M_make_92 (by decide) ?_
  refine lv_iadd hx hb d_M_make_93 ?_
  refine va_put (D := D) (ci := 3) (v := .int ((g 1) + 1)) (ty := .int) (C := R_M) (T := F_M) (N := 16) hx hb hts (fun w h => kS1 w (i_M w h)) tt_M tt_M_ok n_M hown hK hP hD hS 10 gw_10 rfl 1 (by decide) (hts _ (kS1 _ m_M_45)) (fun _ h9 => h9) rfl (by decide +kernel) rfl rfl (Nat.le_of_ble_eq_true rfl) d_M_make_94 (fun H locs hP hD hS => ?_)
  have hP := kw_P (gw_sM1 (v := (g 1) + 1)) hP
  have hD := kw_D (gw_sM1 (v := (g 1) + 1)) hD
  refine lv_aload_n hx hb d_M_make_97 rfl (lv_at hl 0 rfl) ?_
  refine va_get (D := D) (ci := 3) (v := .int ((g 1) + 1)) (C := R_M) (T := F_M) (N := 16) hx hb hts (fun w h => kS1 w (i_M w h)) hown hK hP 10 gw_10 rfl 1 (by decide) (hts _ (kS1 _ m_M_45)) (fun _ h9 => h9) rfl d_M_make_98 ?_
  refine lv_iconst (v := 1) hx hb d_M_make_101 (by decide) ?_
  refine lv_isub hx hb d_M_make_102 ?_
  have hu : (gW N ty ad f th rt qu b w T (upd (upd g 0 (mT (mkP kd z) (mkQ g))) 1 ((g 1) + 1)) (va_up (va_up (va_up a 2 (upd (a 2) ((g 1).toNatClampNeg) (vp_nar .boolean 1))) 3 (upd (a 3) ((g 1).toNatClampNeg) kd)) 4 (upd (a 4) ((g 1).toNatClampNeg) z)) o : va_W) = gW N ty ad f th rt qu b w T (upd (upd g 0 (mT (mkP kd z) (mkQ g))) 1 (g 1 + 1)) (va_up (va_up (va_up a 2 (upd (a 2) n 1)) 3 (upd (a 3) n kd)) 4 (upd (a 4) n z)) o := by simp [hg1, nI_clamp (show n < 2 ^ 31 by omega), kb1, c_52]
  have hv : (((g 1) + 1) - 1 : Int32) = g 1 + 1 - 1 := by simp [hg1, nI_clamp (show n < 2 ^ 31 by omega), kb1, c_52]
  exact W.iret (v := ((g 1) + 1) - 1) hx hb hr (fun t ht hW => ⟨⟨_, _, rfl, ⟨hv, hu⟩, by rw [ht]; exact hP, va_K.moved hW.alike hK, hD⟩, hS.F ht⟩) hS.2.2 d_M_make_103
