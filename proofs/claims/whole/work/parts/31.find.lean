/-! Part 31: the model's find. -/
set_option maxHeartbeats 4000000 in
set_option maxRecDepth 100000 in
/-- find(kp) -/
theorem c_M_find (l : Launch) (D : va_G) (ty : Nat → ClassId) (ad : Nat → Nat) (sz : Nat) (n : Nat) (f : Nat → Int32) (th : Nat → Bool) (rt qu : Nat → Int32) (b w : SR) (T : Nat → TH) (g : Nat → Int32) (a : Nat → Nat → Int32) (o : Nat → Int64) (hg1 : g 1 = nI n) (hn3 : n ≤ 300) (kp : Int32) (q : Nat) (hq : g 9 = nI q) (hq3 : q ≤ 300) (hL : ∀ k, k < n → ∃ v, v ≤ 12 ∧ a 4 k = nI v) (hR : ∀ r, r < 16 → ∃ v, v ≤ 300 ∧ a 8 r = nI v) (hQ : ∀ i, i < q → ∃ v, v < 300 ∧ a 10 i = nI v) (hF : ∀ i, i < 3600 → ∃ v, v ≤ 300 ∧ a 5 i = nI v) (hW1 : ∀ k, k < n → a 3 k = 1 → 0 < (a 4 k).toNatClampNeg) : Met l y_M_find w_M_find ({ frames := 0, cells := 0, slots := 0, locals := 0 }) (va_Pc [.ref (ad 10), .int kp] (kP D kCl (kTy ty) (gW n ty ad f th rt qu b w T g a o) sz)) (va_Qi (fun (r9 : Int32) (u9 : va_W) => r9 = (it (mC (mD kp a n q (a 14))) n 0) ∧ u9 = (gW n ty ad f th rt qu b w T g (va_up a 14 (mD kp a n q (a 14))) o)) (kB D kCl (kTy ty) (va_A (gW n ty ad f th rt qu b w T g a o) sz)) (va_A (gW n ty ad f th rt qu b w T g a o) sz)) 0 0 (va_A (gW n ty ad f th rt qu b w T g a o) sz) := by
  refine Met.ofW (cc := b_M_find) (maxL := 6) (ret := (some .int)) (by decide) rfl ?_
  intro p e s m args below meth cd s₁ B hml hv
  obtain ⟨rfl, hsz, hP, hK, hD0⟩ := hv
  have hx := B.exec
  have hb := B.bytes
  have hr := B.returns
  have hts := atoms_spec (ws := w_M_find) B.pre
  have hown : s.vm.findClass R_M = some m.cls := findClass_of_methodNamed B.named
  have hlocks := B.notSynchronized
  subst hsz
  have hD := hD0.self (sz := s.heap.size)
  generalize hAe : va_A (gW n ty ad f th rt qu b w T g a o) s.heap.size = A at hD ⊢
  have hA : ∀ q : Nat, s.heap.size ≤ q → A q := fun q h => by rw [← hAe]; exact Or.inr h
  have hS : va_S A s.heap s.heap [] := va_S.rf
  have hl := lv_entry ([.ref (ad 10), .int kp]) (n := 6) (Nat.le_of_ble_eq_true rfl)
  rw [lg_entry_eq]
  generalize (lg_sl ([.ref (ad 10), .int kp]) ++ List.replicate (6 - (lg_sl ([.ref (ad 10), .int kp])).length) Slot.unset).toArray = ls at hl ⊢
  have hl : lv_has ls 6 [(0, .ref (ad 10)), (1, .int kp)] := hl
  have hLe : ∀ k, k < n → a 4 k ≤ nI (a 4 k).toNatClampNeg := fun k _ => kcl_le
  have hLt : ∀ k, k < n → ∀ {j : Nat}, j < (a 4 k).toNatClampNeg → ¬ a 4 k ≤ nI j := fun k _ j h => kcl_lt h
  have hL12 : ∀ k, k < n → ∀ {j : Nat}, j < (a 4 k).toNatClampNeg → j < 12 := fun k hk j h => by obtain ⟨v, hv, e⟩ := hL k hk; rw [e, nI_clamp (by omega)] at h; omega
  refine lv_iconst (v := 0) hx hb d_M_find_0 (by decide) ?_
  refine lv_istore_n (lv' := [(2, .int 0), (0, .ref (ad 10)), (1, .int kp)]) hx hb d_M_find_1 rfl hl (by decide) rfl (fun ls hl => ?_)
  have L1 : ∀ (Q : State → Prop) (rem i : Nat) (H : Heap) (locs : List Loc) (ls : Array Slot), i + rem = n → va_P D kCl (gW n ty ad f th rt qu b w T g (va_up a 14 (it (mD1 kp a) i (a 14))) o) H → va_D A (gW n ty ad f th rt qu b w T g (va_up a 14 (it (mD1 kp a) i (a 14))) o) → va_S A s.heap H locs → lv_has ls 6 [(0, .ref (ad 10)), (1, .int kp), (2, .int (nI i))] → (∀ (H : Heap) (locs : List Loc) (ls : Array Slot), va_P D kCl (gW n ty ad f th rt qu b w T g (va_up a 14 (it (mD1 kp a) n (a 14))) o) H → va_D A (gW n ty ad f th rt qu b w T g (va_up a 14 (it (mD1 kp a) n (a 14))) o) → va_S A s.heap H locs → lv_has ls 6 [(0, .ref (ad 10)), (1, .int kp)] → W p l e (headSpec w_M_find ({ frames := 0, cells := 0, slots := 0, locals := 0 })).room s m ([.ref (ad 10), .int kp] : List Value).toArray below meth cd H locs 0 0 Q (F0 m 59 ls [])) → W p l e (headSpec w_M_find ({ frames := 0, cells := 0, slots := 0, locals := 0 })).room s m ([.ref (ad 10), .int kp] : List Value).toArray below meth cd H locs 0 0 Q (F0 m 2 ls []) := by
    intro Q rem
    induction rem with
    | zero =>
      intro i H locs ls hir_i hP hD hS hl kx
      obtain rfl : n = i := by omega
      refine lv_iload_n hx hb d_M_find_2 rfl (lv_at hl 2 rfl) ?_
      refine lv_aload_n hx hb d_M_find_3 rfl (lv_at hl 0 rfl) ?_
      refine va_get (D := D) (ci := 3) (v := .int (g 1)) (C := R_M) (T := F_M) (N := 16) hx hb hts (fun w h => kS1 w (i_M w h)) hown hK hP 10 gw_10 rfl 1 (by decide) (hts _ (kS1 _ m_M_45)) (fun _ h9 => h9) rfl d_M_find_4 ?_
      refine lv_icmp_ge (tgt := 59) hx hb d_M_find_7 (by decide) (fun c_7' => ?_) (fun c_7' => absurd (by rw [hg1]; exact nI_le (Nat.le_refl _) (by omega)) c_7')
      have hl := lv_sub (l' := [(0, .ref (ad 10)), (1, .int kp)]) hl [0, 1] rfl
      exact kx _ _ ls hP hD hS hl
    | succ rem ih =>
      intro i H locs ls hir_i hP hD hS hl kx
      have hlt_i : i < n := by omega
      refine lv_iload_n hx hb d_M_find_2 rfl (lv_at hl 2 rfl) ?_
      refine lv_aload_n hx hb d_M_find_3 rfl (lv_at hl 0 rfl) ?_
      refine va_get (D := D) (ci := 3) (v := .int (g 1)) (C := R_M) (T := F_M) (N := 16) hx hb hts (fun w h => kS1 w (i_M w h)) hown hK hP 10 gw_10 rfl 1 (by decide) (hts _ (kS1 _ m_M_45)) (fun _ h9 => h9) rfl d_M_find_4 ?_
      refine lv_icmp_ge (tgt := 59) hx hb d_M_find_7 (by decide) (fun c_7' => absurd c_7' (by rw [hg1]; exact nI_ge hlt_i (by omega))) (fun c_7' => ?_)
      refine lv_aload_n hx hb d_M_find_10 rfl (lv_at hl 0 rfl) ?_
      refine va_get (D := D) (ci := 3) (v := .ref (ad 19)) (C := R_M) (T := F_M) (N := 16) hx hb hts (fun w h => kS1 w (i_M w h)) hown hK hP 10 gw_10 rfl 14 (by decide) (hts _ (kS1 _ m_M_35)) (fun _ h9 => h9) rfl d_M_find_11 ?_
      refine lv_iload_n hx hb d_M_find_14 rfl (lv_at hl 2 rfl) ?_
      refine lv_iload_n hx hb d_M_find_15 rfl (lv_at hl 1 rfl) ?_
      refine lv_if_eq (tgt := 51) hx hb d_M_find_16 (by decide) (fun c_16' => ?_) (fun c_16' => ?_)
      · refine lv_iconst (v := 0) hx hb d_M_find_51 (by decide) ?_
        refine va_zast (f := it (mD1 kp a) i (a 14)) hx hb hK hP hD hS 19 1 gw_19 rfl (vp_in_nI (N := 300) (by omega) (by omega)) d_M_find_52 (fun H locs hP hD hS => ?_)
        rw [nI_clamp (n := i) (by omega)] at hP hD
        have hP := kw_P ((gw_sa14 (r := upd (it (mD1 kp a) i (a 14)) i (vp_nar .boolean 0))).trans (by rw [bx_uu])) hP
        have hD := kw_D ((gw_sa14 (r := upd (it (mD1 kp a) i (a 14)) i (vp_nar .boolean 0))).trans (by rw [bx_uu])) hD
        refine lv_iinc (v := nI i + 1) (lv' := [(2, .int (nI i + 1)), (0, .ref (ad 10)), (1, .int kp)]) hx hb d_M_find_53 hl (k := 2) rfl rfl (by decide) rfl (fun ls hl => ?_)
        refine lv_goto (tgt := 2) hx hb d_M_find_56 (by decide) ?_
        have hl := lv_sub (l' := [(0, .ref (ad 10)), (1, .int kp), (2, .int (nI i + 1))]) hl [1, 2, 0] rfl
        have hqq9 : (.int (nI i + 1) : Value) = .int (nI (i + 1)) := by rw [nI_1]
        rw [hqq9] at hl
        have hE : (gW n ty ad f th rt qu b w T g (va_up a 14 (upd (it (mD1 kp a) i (a 14)) i (vp_nar .boolean 0))) o : va_W) = gW n ty ad f th rt qu b w T g (va_up a 14 (it (mD1 kp a) (i + 1) (a 14))) o := by rw [it_s, mD1, m1v]; simp [kb0, kb1, c_7', c_16']
        have hP := kw_P hE hP
        have hD := kw_D hE hD
        exact ih (i + 1) _ _ ls (by omega) hP hD hS hl kx
      · refine lv_aload_n hx hb d_M_find_19 rfl (lv_at hl 0 rfl) ?_
        refine va_get (D := D) (ci := 3) (v := .ref (ad 11)) (C := R_M) (T := F_M) (N := 16) hx hb hts (fun w h => kS1 w (i_M w h)) hown hK hP 10 gw_10 rfl 2 (by decide) (hts _ (kS1 _ m_M_7)) (fun _ h9 => h9) rfl d_M_find_20 ?_
        refine lv_iload_n hx hb d_M_find_23 rfl (lv_at hl 2 rfl) ?_
        refine va_zald (f := a 2) hx hb hK hP 11 1 gw_11 rfl (vp_in_nI (N := 300) (by omega) (by omega)) d_M_find_24 ?_
        rw [nI_clamp (n := i) (by omega)]
        refine lv_if_eq (tgt := 51) hx hb d_M_find_25 (by decide) (fun c_25' => ?_) (fun c_25' => ?_)
        · refine lv_iconst (v := 0) hx hb d_M_find_51 (by decide) ?_
          refine va_zast (f := it (mD1 kp a) i (a 14)) hx hb hK hP hD hS 19 1 gw_19 rfl (vp_in_nI (N := 300) (by omega) (by omega)) d_M_find_52 (fun H locs hP hD hS => ?_)
          rw [nI_clamp (n := i) (by omega)] at hP hD
          have hP := kw_P ((gw_sa14 (r := upd (it (mD1 kp a) i (a 14)) i (vp_nar .boolean 0))).trans (by rw [bx_uu])) hP
          have hD := kw_D ((gw_sa14 (r := upd (it (mD1 kp a) i (a 14)) i (vp_nar .boolean 0))).trans (by rw [bx_uu])) hD
          refine lv_iinc (v := nI i + 1) (lv' := [(2, .int (nI i + 1)), (0, .ref (ad 10)), (1, .int kp)]) hx hb d_M_find_53 hl (k := 2) rfl rfl (by decide) rfl (fun ls hl => ?_)
          refine lv_goto (tgt := 2) hx hb d_M_find_56 (by decide) ?_
          have hl := lv_sub (l' := [(0, .ref (ad 10)), (1, .int kp), (2, .int (nI i + 1))]) hl [1, 2, 0] rfl
          have hqq9 : (.int (nI i + 1) : Value) = .int (nI (i + 1)) := by rw [nI_1]
          rw [hqq9] at hl
          have hE : (gW n ty ad f th rt qu b w T g (va_up a 14 (upd (it (mD1 kp a) i (a 14)) i (vp_nar .boolean 0))) o : va_W) = gW n ty ad f th rt qu b w T g (va_up a 14 (it (mD1 kp a) (i + 1) (a 14))) o := by rw [it_s, mD1, m1v]; simp [kb0, kb1, c_7', c_16', c_25']
          have hP := kw_P hE hP
          have hD := kw_D hE hD
          exact ih (i + 1) _ _ ls (by omega) hP hD hS hl kx
        · refine lv_aload_n hx hb d_M_find_28 rfl (lv_at hl 0 rfl) ?_
          refine va_get (D := D) (ci := 3) (v := .ref (ad 12)) (C := R_M) (T := F_M) (N := 16) hx hb hts (fun w h => kS1 w (i_M w h)) hown hK hP 10 gw_10 rfl 3 (by decide) (hts _ (kS1 _ m_M_13)) (fun _ h9 => h9) rfl d_M_find_29 ?_
          refine lv_iload_n hx hb d_M_find_32 rfl (lv_at hl 2 rfl) ?_
          refine va_iald (f := a 3) hx hb hK hP 12 0 gw_12 rfl (vp_in_nI (N := 300) (by omega) (by omega)) d_M_find_33 ?_
          rw [nI_clamp (n := i) (by omega)]
          refine lv_iconst (v := 2) hx hb d_M_find_34 (by decide) ?_
          refine lv_icmp_ne (tgt := 51) hx hb d_M_find_35 (by decide) (fun c_35' => ?_) (fun c_35' => ?_)
          · refine lv_iconst (v := 0) hx hb d_M_find_51 (by decide) ?_
            refine va_zast (f := it (mD1 kp a) i (a 14)) hx hb hK hP hD hS 19 1 gw_19 rfl (vp_in_nI (N := 300) (by omega) (by omega)) d_M_find_52 (fun H locs hP hD hS => ?_)
            rw [nI_clamp (n := i) (by omega)] at hP hD
            have hP := kw_P ((gw_sa14 (r := upd (it (mD1 kp a) i (a 14)) i (vp_nar .boolean 0))).trans (by rw [bx_uu])) hP
            have hD := kw_D ((gw_sa14 (r := upd (it (mD1 kp a) i (a 14)) i (vp_nar .boolean 0))).trans (by rw [bx_uu])) hD
            refine lv_iinc (v := nI i + 1) (lv' := [(2, .int (nI i + 1)), (0, .ref (ad 10)), (1, .int kp)]) hx hb d_M_find_53 hl (k := 2) rfl rfl (by decide) rfl (fun ls hl => ?_)
            refine lv_goto (tgt := 2) hx hb d_M_find_56 (by decide) ?_
            have hl := lv_sub (l' := [(0, .ref (ad 10)), (1, .int kp), (2, .int (nI i + 1))]) hl [1, 2, 0] rfl
            have hqq9 : (.int (nI i + 1) : Value) = .int (nI (i + 1)) := by rw [nI_1]
            rw [hqq9] at hl
            have hE : (gW n ty ad f th rt qu b w T g (va_up a 14 (upd (it (mD1 kp a) i (a 14)) i (vp_nar .boolean 0))) o : va_W) = gW n ty ad f th rt qu b w T g (va_up a 14 (it (mD1 kp a) (i + 1) (a 14))) o := by rw [it_s, mD1, m1v]; simp [kb0, kb1, c_7', c_16', c_25', c_35']
            have hP := kw_P hE hP
            have hD := kw_D hE hD
            exact ih (i + 1) _ _ ls (by omega) hP hD hS hl kx
          · refine lv_aload_n hx hb d_M_find_38 rfl (lv_at hl 0 rfl) ?_
            refine va_get (D := D) (ci := 3) (v := .ref (ad 16)) (C := R_M) (T := F_M) (N := 16) hx hb hts (fun w h => kS1 w (i_M w h)) hown hK hP 10 gw_10 rfl 7 (by decide) (hts _ (kS1 _ m_M_26)) (fun _ h9 => h9) rfl d_M_find_39 ?_
            refine lv_iload_n hx hb d_M_find_42 rfl (lv_at hl 2 rfl) ?_
            refine va_zald (f := a 7) hx hb hK hP 16 1 gw_16 rfl (vp_in_nI (N := 300) (by omega) (by omega)) d_M_find_43 ?_
            rw [nI_clamp (n := i) (by omega)]
            refine lv_if_ne (tgt := 51) hx hb d_M_find_44 (by decide) (fun c_44' => ?_) (fun c_44' => ?_)
            · refine lv_iconst (v := 0) hx hb d_M_find_51 (by decide) ?_
              refine va_zast (f := it (mD1 kp a) i (a 14)) hx hb hK hP hD hS 19 1 gw_19 rfl (vp_in_nI (N := 300) (by omega) (by omega)) d_M_find_52 (fun H locs hP hD hS => ?_)
              rw [nI_clamp (n := i) (by omega)] at hP hD
              have hP := kw_P ((gw_sa14 (r := upd (it (mD1 kp a) i (a 14)) i (vp_nar .boolean 0))).trans (by rw [bx_uu])) hP
              have hD := kw_D ((gw_sa14 (r := upd (it (mD1 kp a) i (a 14)) i (vp_nar .boolean 0))).trans (by rw [bx_uu])) hD
              refine lv_iinc (v := nI i + 1) (lv' := [(2, .int (nI i + 1)), (0, .ref (ad 10)), (1, .int kp)]) hx hb d_M_find_53 hl (k := 2) rfl rfl (by decide) rfl (fun ls hl => ?_)
              refine lv_goto (tgt := 2) hx hb d_M_find_56 (by decide) ?_
              have hl := lv_sub (l' := [(0, .ref (ad 10)), (1, .int kp), (2, .int (nI i + 1))]) hl [1, 2, 0] rfl
              have hqq9 : (.int (nI i + 1) : Value) = .int (nI (i + 1)) := by rw [nI_1]
              rw [hqq9] at hl
              have hE : (gW n ty ad f th rt qu b w T g (va_up a 14 (upd (it (mD1 kp a) i (a 14)) i (vp_nar .boolean 0))) o : va_W) = gW n ty ad f th rt qu b w T g (va_up a 14 (it (mD1 kp a) (i + 1) (a 14))) o := by rw [it_s, mD1, m1v]; simp [kb0, kb1, c_7', c_16', c_25', c_35', c_44']
              have hP := kw_P hE hP
              have hD := kw_D hE hD
              exact ih (i + 1) _ _ ls (by omega) hP hD hS hl kx
            · refine lv_iconst (v := 1) hx hb d_M_find_47 (by decide) ?_
              refine lv_goto (tgt := 52) hx hb d_M_find_48 (by decide) ?_
              refine va_zast (f := it (mD1 kp a) i (a 14)) hx hb hK hP hD hS 19 1 gw_19 rfl (vp_in_nI (N := 300) (by omega) (by omega)) d_M_find_52 (fun H locs hP hD hS => ?_)
              rw [nI_clamp (n := i) (by omega)] at hP hD
              have hP := kw_P ((gw_sa14 (r := upd (it (mD1 kp a) i (a 14)) i (vp_nar .boolean 1))).trans (by rw [bx_uu])) hP
              have hD := kw_D ((gw_sa14 (r := upd (it (mD1 kp a) i (a 14)) i (vp_nar .boolean 1))).trans (by rw [bx_uu])) hD
              refine lv_iinc (v := nI i + 1) (lv' := [(2, .int (nI i + 1)), (0, .ref (ad 10)), (1, .int kp)]) hx hb d_M_find_53 hl (k := 2) rfl rfl (by decide) rfl (fun ls hl => ?_)
              refine lv_goto (tgt := 2) hx hb d_M_find_56 (by decide) ?_
              have hl := lv_sub (l' := [(0, .ref (ad 10)), (1, .int kp), (2, .int (nI i + 1))]) hl [1, 2, 0] rfl
              have hqq9 : (.int (nI i + 1) : Value) = .int (nI (i + 1)) := by rw [nI_1]
              rw [hqq9] at hl
              have hE : (gW n ty ad f th rt qu b w T g (va_up a 14 (upd (it (mD1 kp a) i (a 14)) i (vp_nar .boolean 1))) o : va_W) = gW n ty ad f th rt qu b w T g (va_up a 14 (it (mD1 kp a) (i + 1) (a 14))) o := by rw [it_s, mD1, m1v]; simp [kb0, kb1, c_7', c_16', c_25', c_35', c_44']
              have hP := kw_P hE hP
              have hD := kw_D hE hD
              exact ih (i + 1) _ _ ls (by omega) hP hD hS hl kx
  have hl := lv_sub (l' := [(0, .ref (ad 10)), (1, .int kp), (2, .int 0)]) hl [1, 2, 0] rfl
  have hqq9 : (.int 0 : Value) = .int (nI 0) := by rw [nI_0]
  rw [hqq9] at hl
  refine L1 _ (n - 0) 0 _ _ ls (by omega) hP hD hS hl (fun H locs ls hP hD hS hl => ?_)
  refine lv_iconst (v := 0) hx hb d_M_find_59 (by decide) ?_
  refine lv_istore_n (lv' := [(2, .int 0), (0, .ref (ad 10)), (1, .int kp)]) hx hb d_M_find_60 rfl hl (by decide) rfl (fun ls hl => ?_)
  have L2 : ∀ (Q : State → Prop) (rem i : Nat) (H : Heap) (locs : List Loc) (ls : Array Slot), i + rem = 16 → va_P D kCl (gW n ty ad f th rt qu b w T g (va_up a 14 (it (mD2 a) i (it (mD1 kp a) n (a 14)))) o) H → va_D A (gW n ty ad f th rt qu b w T g (va_up a 14 (it (mD2 a) i (it (mD1 kp a) n (a 14)))) o) → va_S A s.heap H locs → lv_has ls 6 [(0, .ref (ad 10)), (1, .int kp), (2, .int (nI i))] → (∀ (H : Heap) (locs : List Loc) (ls : Array Slot), va_P D kCl (gW n ty ad f th rt qu b w T g (va_up a 14 (it (mD2 a) 16 (it (mD1 kp a) n (a 14)))) o) H → va_D A (gW n ty ad f th rt qu b w T g (va_up a 14 (it (mD2 a) 16 (it (mD1 kp a) n (a 14)))) o) → va_S A s.heap H locs → lv_has ls 6 [(0, .ref (ad 10)), (1, .int kp)] → W p l e (headSpec w_M_find ({ frames := 0, cells := 0, slots := 0, locals := 0 })).room s m ([.ref (ad 10), .int kp] : List Value).toArray below meth cd H locs 0 0 Q (F0 m 96 ls [])) → W p l e (headSpec w_M_find ({ frames := 0, cells := 0, slots := 0, locals := 0 })).room s m ([.ref (ad 10), .int kp] : List Value).toArray below meth cd H locs 0 0 Q (F0 m 61 ls []) := by
    intro Q rem
    induction rem with
    | zero =>
      intro i H locs ls hir_i hP hD hS hl kx
      obtain rfl : 16 = i := by omega
      refine lv_iload_n hx hb d_M_find_61 rfl (lv_at hl 2 rfl) ?_
      refine lv_bipush (v := 16) hx hb d_M_find_62 (by decide) ?_
      refine lv_icmp_ge (tgt := 96) hx hb d_M_find_64 (by decide) (fun c_64' => ?_) (fun c_64' => absurd (nI_le (a := 16) (b := 16) (Nat.le_refl _) (by omega)) c_64')
      have hl := lv_sub (l' := [(0, .ref (ad 10)), (1, .int kp)]) hl [0, 1] rfl
      exact kx _ _ ls hP hD hS hl
    | succ rem ih =>
      intro i H locs ls hir_i hP hD hS hl kx
      have hlt_i : i < 16 := by omega
      refine lv_iload_n hx hb d_M_find_61 rfl (lv_at hl 2 rfl) ?_
      refine lv_bipush (v := 16) hx hb d_M_find_62 (by decide) ?_
      refine lv_icmp_ge (tgt := 96) hx hb d_M_find_64 (by decide) (fun c_64' => absurd c_64' (nI_ge (b := 16) hlt_i (by omega))) (fun c_64' => ?_)
      refine lv_aload_n hx hb d_M_find_67 rfl (lv_at hl 0 rfl) ?_
      refine va_get (D := D) (ci := 3) (v := .ref (ad 17)) (C := R_M) (T := F_M) (N := 16) hx hb hts (fun w h => kS1 w (i_M w h)) hown hK hP 10 gw_10 rfl 8 (by decide) (hts _ (kS1 _ m_M_29)) (fun _ h9 => h9) rfl d_M_find_68 ?_
      refine lv_iload_n hx hb d_M_find_71 rfl (lv_at hl 2 rfl) ?_
      refine va_iald (f := a 8) hx hb hK hP 17 0 gw_17 rfl (vp_in_nI hlt_i (by omega)) d_M_find_72 ?_
      rw [nI_clamp (n := i) (by omega)]
      refine lv_if_le (tgt := 90) hx hb d_M_find_73 (by decide) (fun c_73' => ?_) (fun c_73' => ?_)
      · refine lv_iinc (v := nI i + 1) (lv' := [(2, .int (nI i + 1)), (0, .ref (ad 10)), (1, .int kp)]) hx hb d_M_find_90 hl (k := 2) rfl rfl (by decide) rfl (fun ls hl => ?_)
        refine lv_goto (tgt := 61) hx hb d_M_find_93 (by decide) ?_
        have hl := lv_sub (l' := [(0, .ref (ad 10)), (1, .int kp), (2, .int (nI i + 1))]) hl [1, 2, 0] rfl
        have hqq9 : (.int (nI i + 1) : Value) = .int (nI (i + 1)) := by rw [nI_1]
        rw [hqq9] at hl
        have hE : (gW n ty ad f th rt qu b w T g (va_up a 14 (it (mD2 a) i (it (mD1 kp a) n (a 14)))) o : va_W) = gW n ty ad f th rt qu b w T g (va_up a 14 (it (mD2 a) (i + 1) (it (mD1 kp a) n (a 14)))) o := by rw [it_s, mD2]; simp [kb1, c_64', c_73']
        have hP := kw_P hE hP
        have hD := kw_D hE hD
        exact ih (i + 1) _ _ ls (by omega) hP hD hS hl kx
      · refine lv_aload_n hx hb d_M_find_76 rfl (lv_at hl 0 rfl) ?_
        refine va_get (D := D) (ci := 3) (v := .ref (ad 19)) (C := R_M) (T := F_M) (N := 16) hx hb hts (fun w h => kS1 w (i_M w h)) hown hK hP 10 gw_10 rfl 14 (by decide) (hts _ (kS1 _ m_M_35)) (fun _ h9 => h9) rfl d_M_find_77 ?_
        refine lv_aload_n hx hb d_M_find_80 rfl (lv_at hl 0 rfl) ?_
        refine va_get (D := D) (ci := 3) (v := .ref (ad 17)) (C := R_M) (T := F_M) (N := 16) hx hb hts (fun w h => kS1 w (i_M w h)) hown hK hP 10 gw_10 rfl 8 (by decide) (hts _ (kS1 _ m_M_29)) (fun _ h9 => h9) rfl d_M_find_81 ?_
        refine lv_iload_n hx hb d_M_find_84 rfl (lv_at hl 2 rfl) ?_
        refine va_iald (f := a 8) hx hb hK hP 17 0 gw_17 rfl (vp_in_nI hlt_i (by omega)) d_M_find_85 ?_
        rw [nI_clamp (n := i) (by omega)]
        refine lv_iconst (v := 1) hx hb d_M_find_86 (by decide) ?_
        refine lv_isub hx hb d_M_find_87 ?_
        refine lv_iconst (v := 1) hx hb d_M_find_88 (by decide) ?_
        refine va_zast (f := it (mD2 a) i (it (mD1 kp a) n (a 14))) hx hb hK hP hD hS 19 1 gw_19 rfl (kin8 (hR i hlt_i) c_73') d_M_find_89 (fun H locs hP hD hS => ?_)
        have hP := kw_P ((gw_sa14 (r := upd (it (mD2 a) i (it (mD1 kp a) n (a 14))) ((((a 8) i) - 1).toNatClampNeg) (vp_nar .boolean 1))).trans (by rw [bx_uu])) hP
        have hD := kw_D ((gw_sa14 (r := upd (it (mD2 a) i (it (mD1 kp a) n (a 14))) ((((a 8) i) - 1).toNatClampNeg) (vp_nar .boolean 1))).trans (by rw [bx_uu])) hD
        refine lv_iinc (v := nI i + 1) (lv' := [(2, .int (nI i + 1)), (0, .ref (ad 10)), (1, .int kp)]) hx hb d_M_find_90 hl (k := 2) rfl rfl (by decide) rfl (fun ls hl => ?_)
        refine lv_goto (tgt := 61) hx hb d_M_find_93 (by decide) ?_
        have hl := lv_sub (l' := [(0, .ref (ad 10)), (1, .int kp), (2, .int (nI i + 1))]) hl [1, 2, 0] rfl
        have hqq9 : (.int (nI i + 1) : Value) = .int (nI (i + 1)) := by rw [nI_1]
        rw [hqq9] at hl
        have hE : (gW n ty ad f th rt qu b w T g (va_up a 14 (upd (it (mD2 a) i (it (mD1 kp a) n (a 14))) ((((a 8) i) - 1).toNatClampNeg) (vp_nar .boolean 1))) o : va_W) = gW n ty ad f th rt qu b w T g (va_up a 14 (it (mD2 a) (i + 1) (it (mD1 kp a) n (a 14)))) o := by rw [it_s, mD2]; simp [kb1, c_64', c_73']
        have hP := kw_P hE hP
        have hD := kw_D hE hD
        exact ih (i + 1) _ _ ls (by omega) hP hD hS hl kx
  have hl := lv_sub (l' := [(0, .ref (ad 10)), (1, .int kp), (2, .int 0)]) hl [1, 2, 0] rfl
  have hqq9 : (.int 0 : Value) = .int (nI 0) := by rw [nI_0]
  rw [hqq9] at hl
  refine L2 _ (16 - 0) 0 _ _ ls (by omega) hP hD hS hl (fun H locs ls hP hD hS hl => ?_)
  refine lv_iconst (v := 0) hx hb d_M_find_96 (by decide) ?_
  refine lv_istore_n (lv' := [(2, .int 0), (0, .ref (ad 10)), (1, .int kp)]) hx hb d_M_find_97 rfl hl (by decide) rfl (fun ls hl => ?_)
  have L3 : ∀ (Q : State → Prop) (rem i : Nat) (H : Heap) (locs : List Loc) (ls : Array Slot), i + rem = q → va_P D kCl (gW n ty ad f th rt qu b w T g (va_up a 14 (it (mD3 a) i (it (mD2 a) 16 (it (mD1 kp a) n (a 14))))) o) H → va_D A (gW n ty ad f th rt qu b w T g (va_up a 14 (it (mD3 a) i (it (mD2 a) 16 (it (mD1 kp a) n (a 14))))) o) → va_S A s.heap H locs → lv_has ls 6 [(0, .ref (ad 10)), (1, .int kp), (2, .int (nI i))] → (∀ (H : Heap) (locs : List Loc) (ls : Array Slot), va_P D kCl (gW n ty ad f th rt qu b w T g (va_up a 14 (it (mD3 a) q (it (mD2 a) 16 (it (mD1 kp a) n (a 14))))) o) H → va_D A (gW n ty ad f th rt qu b w T g (va_up a 14 (it (mD3 a) q (it (mD2 a) 16 (it (mD1 kp a) n (a 14))))) o) → va_S A s.heap H locs → lv_has ls 6 [(0, .ref (ad 10)), (1, .int kp)] → W p l e (headSpec w_M_find ({ frames := 0, cells := 0, slots := 0, locals := 0 })).room s m ([.ref (ad 10), .int kp] : List Value).toArray below meth cd H locs 0 0 Q (F0 m 124 ls [])) → W p l e (headSpec w_M_find ({ frames := 0, cells := 0, slots := 0, locals := 0 })).room s m ([.ref (ad 10), .int kp] : List Value).toArray below meth cd H locs 0 0 Q (F0 m 98 ls []) := by
    intro Q rem
    induction rem with
    | zero =>
      intro i H locs ls hir_i hP hD hS hl kx
      obtain rfl : q = i := by omega
      refine lv_iload_n hx hb d_M_find_98 rfl (lv_at hl 2 rfl) ?_
      refine lv_aload_n hx hb d_M_find_99 rfl (lv_at hl 0 rfl) ?_
      refine va_get (D := D) (ci := 3) (v := .int (g 9)) (C := R_M) (T := F_M) (N := 16) hx hb hts (fun w h => kS1 w (i_M w h)) hown hK hP 10 gw_10 rfl 9 (by decide) (hts _ (kS1 _ m_M_63)) (fun _ h9 => h9) rfl d_M_find_100 ?_
      refine lv_icmp_ge (tgt := 124) hx hb d_M_find_103 (by decide) (fun c_103' => ?_) (fun c_103' => absurd (by rw [hq]; exact nI_le (Nat.le_refl _) (by omega)) c_103')
      have hl := lv_sub (l' := [(0, .ref (ad 10)), (1, .int kp)]) hl [0, 1] rfl
      exact kx _ _ ls hP hD hS hl
    | succ rem ih =>
      intro i H locs ls hir_i hP hD hS hl kx
      have hlt_i : i < q := by omega
      refine lv_iload_n hx hb d_M_find_98 rfl (lv_at hl 2 rfl) ?_
      refine lv_aload_n hx hb d_M_find_99 rfl (lv_at hl 0 rfl) ?_
      refine va_get (D := D) (ci := 3) (v := .int (g 9)) (C := R_M) (T := F_M) (N := 16) hx hb hts (fun w h => kS1 w (i_M w h)) hown hK hP 10 gw_10 rfl 9 (by decide) (hts _ (kS1 _ m_M_63)) (fun _ h9 => h9) rfl d_M_find_100 ?_
      refine lv_icmp_ge (tgt := 124) hx hb d_M_find_103 (by decide) (fun c_103' => absurd c_103' (by rw [hq]; exact nI_ge hlt_i (by omega))) (fun c_103' => ?_)
      refine lv_aload_n hx hb d_M_find_106 rfl (lv_at hl 0 rfl) ?_
      refine va_get (D := D) (ci := 3) (v := .ref (ad 19)) (C := R_M) (T := F_M) (N := 16) hx hb hts (fun w h => kS1 w (i_M w h)) hown hK hP 10 gw_10 rfl 14 (by decide) (hts _ (kS1 _ m_M_35)) (fun _ h9 => h9) rfl d_M_find_107 ?_
      refine lv_aload_n hx hb d_M_find_110 rfl (lv_at hl 0 rfl) ?_
      refine va_get (D := D) (ci := 3) (v := .ref (ad 18)) (C := R_M) (T := F_M) (N := 16) hx hb hts (fun w h => kS1 w (i_M w h)) hown hK hP 10 gw_10 rfl 10 (by decide) (hts _ (kS1 _ m_M_32)) (fun _ h9 => h9) rfl d_M_find_111 ?_
      refine lv_iload_n hx hb d_M_find_114 rfl (lv_at hl 2 rfl) ?_
      refine va_iald (f := a 10) hx hb hK hP 18 0 gw_18 rfl (vp_in_nI (N := 300) (by omega) (by omega)) d_M_find_115 ?_
      rw [nI_clamp (n := i) (by omega)]
      refine lv_iconst (v := 1) hx hb d_M_find_116 (by decide) ?_
      refine va_zast (f := it (mD3 a) i (it (mD2 a) 16 (it (mD1 kp a) n (a 14)))) hx hb hK hP hD hS 19 1 gw_19 rfl (kin9 (hQ i hlt_i)) d_M_find_117 (fun H locs hP hD hS => ?_)
      have hP := kw_P ((gw_sa14 (r := upd (it (mD3 a) i (it (mD2 a) 16 (it (mD1 kp a) n (a 14)))) (((a 10) i).toNatClampNeg) (vp_nar .boolean 1))).trans (by rw [bx_uu])) hP
      have hD := kw_D ((gw_sa14 (r := upd (it (mD3 a) i (it (mD2 a) 16 (it (mD1 kp a) n (a 14)))) (((a 10) i).toNatClampNeg) (vp_nar .boolean 1))).trans (by rw [bx_uu])) hD
      refine lv_iinc (v := nI i + 1) (lv' := [(2, .int (nI i + 1)), (0, .ref (ad 10)), (1, .int kp)]) hx hb d_M_find_118 hl (k := 2) rfl rfl (by decide) rfl (fun ls hl => ?_)
      refine lv_goto (tgt := 98) hx hb d_M_find_121 (by decide) ?_
      have hl := lv_sub (l' := [(0, .ref (ad 10)), (1, .int kp), (2, .int (nI i + 1))]) hl [1, 2, 0] rfl
      have hqq9 : (.int (nI i + 1) : Value) = .int (nI (i + 1)) := by rw [nI_1]
      rw [hqq9] at hl
      have hE : (gW n ty ad f th rt qu b w T g (va_up a 14 (upd (it (mD3 a) i (it (mD2 a) 16 (it (mD1 kp a) n (a 14)))) (((a 10) i).toNatClampNeg) (vp_nar .boolean 1))) o : va_W) = gW n ty ad f th rt qu b w T g (va_up a 14 (it (mD3 a) (i + 1) (it (mD2 a) 16 (it (mD1 kp a) n (a 14))))) o := by rw [kb1]; rfl
      have hP := kw_P hE hP
      have hD := kw_D hE hD
      exact ih (i + 1) _ _ ls (by omega) hP hD hS hl kx
  have hl := lv_sub (l' := [(0, .ref (ad 10)), (1, .int kp), (2, .int 0)]) hl [1, 2, 0] rfl
  have hqq9 : (.int 0 : Value) = .int (nI 0) := by rw [nI_0]
  rw [hqq9] at hl
  refine L3 _ (q - 0) 0 _ _ ls (by omega) hP hD hS hl (fun H locs ls hP hD hS hl => ?_)
  refine lv_iconst (v := 1) hx hb d_M_find_124 (by decide) ?_
  refine lv_istore_n (lv' := [(2, .int 1), (0, .ref (ad 10)), (1, .int kp)]) hx hb d_M_find_125 rfl hl (by decide) rfl (fun ls hl => ?_)
  refine lv_iload_n hx hb d_M_find_126 rfl (lv_at hl 0 rfl) ?_
  refine lv_if_eq (tgt := 239) hx hb d_M_find_127 (by decide) (fun c_127 => absurd c_127 (by decide)) (fun c_127 => ?_)
  have L6 : ∀ (Q : State → Prop) (fu : Nat) (fd : Nat → Int32) (H : Heap) (locs : List Loc) (ls : Array Slot), 300 < cn (fun k => fd k != 0) 300 + fu → va_P D kCl (gW n ty ad f th rt qu b w T g (va_up a 14 fd) o) H → va_D A (gW n ty ad f th rt qu b w T g (va_up a 14 fd) o) → va_S A s.heap H locs → lv_has ls 6 [(0, .ref (ad 10)), (1, .int kp)] → (∀ (H : Heap) (locs : List Loc) (ls : Array Slot), va_P D kCl (gW n ty ad f th rt qu b w T g (va_up a 14 (mW kp a n fu fd)) o) H → va_D A (gW n ty ad f th rt qu b w T g (va_up a 14 (mW kp a n fu fd)) o) → va_S A s.heap H locs → lv_has ls 6 [(0, .ref (ad 10)), (1, .int kp)] → W p l e (headSpec w_M_find ({ frames := 0, cells := 0, slots := 0, locals := 0 })).room s m ([.ref (ad 10), .int kp] : List Value).toArray below meth cd H locs 0 0 Q (F0 m 239 ls [])) → W p l e (headSpec w_M_find ({ frames := 0, cells := 0, slots := 0, locals := 0 })).room s m ([.ref (ad 10), .int kp] : List Value).toArray below meth cd H locs 0 0 Q (F0 m 130 ls []) := by
    intro Q fu
    induction fu with
    | zero =>
      intro fd H locs ls hm
      exact absurd (cn_le (fun k => fd k != 0) 300) (by omega)
    | succ fu ih =>
      intro fd H locs ls hm hP hD hS hl kx
      refine lv_iconst (v := 0) hx hb d_M_find_130 (by decide) ?_
      refine lv_istore_n (lv' := [(2, .int 0), (0, .ref (ad 10)), (1, .int kp)]) hx hb d_M_find_131 rfl hl (by decide) rfl (fun ls hl => ?_)
      refine lv_iconst (v := 0) hx hb d_M_find_132 (by decide) ?_
      refine lv_istore_n (lv' := [(3, .int 0), (2, .int 0), (0, .ref (ad 10)), (1, .int kp)]) hx hb d_M_find_133 rfl hl (by decide) rfl (fun ls hl => ?_)
      have L4 : ∀ (Q : State → Prop) (rem k : Nat) (H : Heap) (locs : List Loc) (ls : Array Slot), k + rem = n → va_P D kCl (gW n ty ad f th rt qu b w T g (va_up a 14 ((it (mK kp a) k (fd, 0)).1)) o) H → va_D A (gW n ty ad f th rt qu b w T g (va_up a 14 ((it (mK kp a) k (fd, 0)).1)) o) → va_S A s.heap H locs → lv_has ls 6 [(0, .ref (ad 10)), (1, .int kp), (2, .int ((it (mK kp a) k (fd, 0)).2)), (3, .int (nI k))] → (∀ (H : Heap) (locs : List Loc) (ls : Array Slot), va_P D kCl (gW n ty ad f th rt qu b w T g (va_up a 14 ((it (mK kp a) n (fd, 0)).1)) o) H → va_D A (gW n ty ad f th rt qu b w T g (va_up a 14 ((it (mK kp a) n (fd, 0)).1)) o) → va_S A s.heap H locs → lv_has ls 6 [(0, .ref (ad 10)), (1, .int kp), (2, .int ((it (mK kp a) n (fd, 0)).2))] → W p l e (headSpec w_M_find ({ frames := 0, cells := 0, slots := 0, locals := 0 })).room s m ([.ref (ad 10), .int kp] : List Value).toArray below meth cd H locs 0 0 Q (F0 m 236 ls [])) → W p l e (headSpec w_M_find ({ frames := 0, cells := 0, slots := 0, locals := 0 })).room s m ([.ref (ad 10), .int kp] : List Value).toArray below meth cd H locs 0 0 Q (F0 m 134 ls []) := by
        intro Q rem
        induction rem with
        | zero =>
          intro k H locs ls hir_k hP hD hS hl kx
          obtain rfl : n = k := by omega
          refine lv_iload_n hx hb d_M_find_134 rfl (lv_at hl 3 rfl) ?_
          refine lv_aload_n hx hb d_M_find_135 rfl (lv_at hl 0 rfl) ?_
          refine va_get (D := D) (ci := 3) (v := .int (g 1)) (C := R_M) (T := F_M) (N := 16) hx hb hts (fun w h => kS1 w (i_M w h)) hown hK hP 10 gw_10 rfl 1 (by decide) (hts _ (kS1 _ m_M_45)) (fun _ h9 => h9) rfl d_M_find_136 ?_
          refine lv_icmp_ge (tgt := 236) hx hb d_M_find_139 (by decide) (fun c_139'' => ?_) (fun c_139'' => absurd (by rw [hg1]; exact nI_le (Nat.le_refl _) (by omega)) c_139'')
          have hl := lv_sub (l' := [(0, .ref (ad 10)), (1, .int kp), (2, .int ((it (mK kp a) n (fd, 0)).2))]) hl [0, 1, 2] rfl
          exact kx _ _ ls hP hD hS hl
        | succ rem ih =>
          intro k H locs ls hir_k hP hD hS hl kx
          have hlt_k : k < n := by omega
          refine lv_iload_n hx hb d_M_find_134 rfl (lv_at hl 3 rfl) ?_
          refine lv_aload_n hx hb d_M_find_135 rfl (lv_at hl 0 rfl) ?_
          refine va_get (D := D) (ci := 3) (v := .int (g 1)) (C := R_M) (T := F_M) (N := 16) hx hb hts (fun w h => kS1 w (i_M w h)) hown hK hP 10 gw_10 rfl 1 (by decide) (hts _ (kS1 _ m_M_45)) (fun _ h9 => h9) rfl d_M_find_136 ?_
          refine lv_icmp_ge (tgt := 236) hx hb d_M_find_139 (by decide) (fun c_139'' => absurd c_139'' (by rw [hg1]; exact nI_ge hlt_k (by omega))) (fun c_139'' => ?_)
          refine lv_aload_n hx hb d_M_find_142 rfl (lv_at hl 0 rfl) ?_
          refine va_get (D := D) (ci := 3) (v := .ref (ad 12)) (C := R_M) (T := F_M) (N := 16) hx hb hts (fun w h => kS1 w (i_M w h)) hown hK hP 10 gw_10 rfl 3 (by decide) (hts _ (kS1 _ m_M_13)) (fun _ h9 => h9) rfl d_M_find_143 ?_
          refine lv_iload_n hx hb d_M_find_146 rfl (lv_at hl 3 rfl) ?_
          refine va_iald (f := a 3) hx hb hK hP 12 0 gw_12 rfl (vp_in_nI (N := 300) (by omega) (by omega)) d_M_find_147 ?_
          rw [nI_clamp (n := k) (by omega)]
          refine lv_iconst (v := 1) hx hb d_M_find_148 (by decide) ?_
          refine lv_icmp_ne (tgt := 160) hx hb d_M_find_149 (by decide) (fun c_149'' => ?_) (fun c_149'' => ?_)
          · refine lv_iconst (v := 0) hx hb d_M_find_160 (by decide) ?_
            refine lv_istore (lv' := [(4, .int 0), (0, .ref (ad 10)), (1, .int kp), (2, .int ((it (mK kp a) k (fd, 0)).2)), (3, .int (nI k))]) hx hb d_M_find_161 hl (by decide) rfl (fun ls hl => ?_)
            by_cases hfk : (it (mK kp a) k (fd, 0)).1 k = 0
            · refine lv_iload hx hb d_M_find_163 (lv_at hl 0 rfl) ?_
              refine lv_aload_n hx hb d_M_find_165 rfl (lv_at hl 1 rfl) ?_
              refine va_get (D := D) (ci := 3) (v := .ref (ad 13)) (C := R_M) (T := F_M) (N := 16) hx hb hts (fun w h => kS1 w (i_M w h)) hown hK hP 10 gw_10 rfl 4 (by decide) (hts _ (kS1 _ m_M_17)) (fun _ h9 => h9) rfl d_M_find_166 ?_
              refine lv_iload_n hx hb d_M_find_169 rfl (lv_at hl 4 rfl) ?_
              refine va_iald (f := a 4) hx hb hK hP 13 0 gw_13 rfl (vp_in_nI (N := 300) (by omega) (by omega)) d_M_find_170 ?_
              rw [nI_clamp (n := k) (by omega)]
              refine lv_icmp_ge (tgt := 230) hx hb d_M_find_171 (by decide) (fun c_171'' => ?_) (fun c_171'' => ?_)
              · refine lv_iinc (v := nI k + 1) (lv' := [(3, .int (nI k + 1)), (4, .int 0), (0, .ref (ad 10)), (1, .int kp), (2, .int ((it (mK kp a) k (fd, 0)).2))]) hx hb d_M_find_230 hl (k := 4) rfl rfl (by decide) rfl (fun ls hl => ?_)
                refine lv_goto (tgt := 134) hx hb d_M_find_233 (by decide) ?_
                have hl := lv_sub (l' := [(0, .ref (ad 10)), (1, .int kp), (2, .int ((it (mK kp a) k (fd, 0)).2)), (3, .int (nI k + 1))]) hl [2, 3, 4, 0] rfl
                have hqq9 : (.int ((it (mK kp a) k (fd, 0)).2) : Value) = .int ((it (mK kp a) (k + 1) (fd, 0)).2) := by rw [it_s, mK, if_pos hfk]
                rw [hqq9] at hl
                have hqq9 : (.int (nI k + 1) : Value) = .int (nI (k + 1)) := by rw [nI_1]
                rw [hqq9] at hl
                have hE : (gW n ty ad f th rt qu b w T g (va_up a 14 ((it (mK kp a) k (fd, 0)).1)) o : va_W) = gW n ty ad f th rt qu b w T g (va_up a 14 ((it (mK kp a) (k + 1) (fd, 0)).1)) o := by rw [it_s, mK, if_pos hfk]
                have hP := kw_P hE hP
                have hD := kw_D hE hD
                exact ih (k + 1) _ _ ls (by omega) hP hD hS hl kx
              · refine lv_aload_n hx hb d_M_find_174 rfl (lv_at hl 1 rfl) ?_
                refine va_get (D := D) (ci := 3) (v := .ref (ad 19)) (C := R_M) (T := F_M) (N := 16) hx hb hts (fun w h => kS1 w (i_M w h)) hown hK hP 10 gw_10 rfl 14 (by decide) (hts _ (kS1 _ m_M_35)) (fun _ h9 => h9) rfl d_M_find_175 ?_
                refine lv_iload_n hx hb d_M_find_178 rfl (lv_at hl 4 rfl) ?_
                refine va_zald (f := (it (mK kp a) k (fd, 0)).1) hx hb hK hP 19 1 gw_19 rfl (vp_in_nI (N := 300) (by omega) (by omega)) d_M_find_179 ?_
                rw [nI_clamp (n := k) (by omega)]
                refine lv_if_eq (tgt := 230) hx hb d_M_find_180 (by decide) (fun c_180'' => ?_) (fun c_180'' => absurd hfk c_180'')
                refine lv_iinc (v := nI k + 1) (lv' := [(3, .int (nI k + 1)), (4, .int 0), (0, .ref (ad 10)), (1, .int kp), (2, .int ((it (mK kp a) k (fd, 0)).2))]) hx hb d_M_find_230 hl (k := 4) rfl rfl (by decide) rfl (fun ls hl => ?_)
                refine lv_goto (tgt := 134) hx hb d_M_find_233 (by decide) ?_
                have hl := lv_sub (l' := [(0, .ref (ad 10)), (1, .int kp), (2, .int ((it (mK kp a) k (fd, 0)).2)), (3, .int (nI k + 1))]) hl [2, 3, 4, 0] rfl
                have hqq9 : (.int ((it (mK kp a) k (fd, 0)).2) : Value) = .int ((it (mK kp a) (k + 1) (fd, 0)).2) := by rw [it_s, mK, if_pos hfk]
                rw [hqq9] at hl
                have hqq9 : (.int (nI k + 1) : Value) = .int (nI (k + 1)) := by rw [nI_1]
                rw [hqq9] at hl
                have hE : (gW n ty ad f th rt qu b w T g (va_up a 14 ((it (mK kp a) k (fd, 0)).1)) o : va_W) = gW n ty ad f th rt qu b w T g (va_up a 14 ((it (mK kp a) (k + 1) (fd, 0)).1)) o := by rw [it_s, mK, if_pos hfk]
                have hP := kw_P hE hP
                have hD := kw_D hE hD
                exact ih (k + 1) _ _ ls (by omega) hP hD hS hl kx
            · have L5 : ∀ (Q : State → Prop) (rem j : Nat) (H : Heap) (locs : List Loc) (ls : Array Slot), j + rem = (a 4 k).toNatClampNeg → mS kp a k ≤ j → va_P D kCl (gW n ty ad f th rt qu b w T g (va_up a 14 ((it (mJs kp a k) j (it (mK kp a) k (fd, 0))).1)) o) H → va_D A (gW n ty ad f th rt qu b w T g (va_up a 14 ((it (mJs kp a k) j (it (mK kp a) k (fd, 0))).1)) o) → va_S A s.heap H locs → lv_has ls 6 [(0, .ref (ad 10)), (1, .int kp), (2, .int ((it (mJs kp a k) j (it (mK kp a) k (fd, 0))).2)), (3, .int (nI k)), (4, .int (nI j))] → (∀ (H : Heap) (locs : List Loc) (ls : Array Slot), va_P D kCl (gW n ty ad f th rt qu b w T g (va_up a 14 ((it (mJs kp a k) ((a 4 k).toNatClampNeg) (it (mK kp a) k (fd, 0))).1)) o) H → va_D A (gW n ty ad f th rt qu b w T g (va_up a 14 ((it (mJs kp a k) ((a 4 k).toNatClampNeg) (it (mK kp a) k (fd, 0))).1)) o) → va_S A s.heap H locs → lv_has ls 6 [(0, .ref (ad 10)), (1, .int kp), (2, .int ((it (mJs kp a k) ((a 4 k).toNatClampNeg) (it (mK kp a) k (fd, 0))).2)), (3, .int (nI k))] → W p l e (headSpec w_M_find ({ frames := 0, cells := 0, slots := 0, locals := 0 })).room s m ([.ref (ad 10), .int kp] : List Value).toArray below meth cd H locs 0 0 Q (F0 m 230 ls [])) → W p l e (headSpec w_M_find ({ frames := 0, cells := 0, slots := 0, locals := 0 })).room s m ([.ref (ad 10), .int kp] : List Value).toArray below meth cd H locs 0 0 Q (F0 m 163 ls []) := by
                intro Q rem
                induction rem with
                | zero =>
                  intro j H locs ls hir_j hinv_j hP hD hS hl kx
                  obtain rfl : (a 4 k).toNatClampNeg = j := by omega
                  refine lv_iload hx hb d_M_find_163 (lv_at hl 4 rfl) ?_
                  refine lv_aload_n hx hb d_M_find_165 rfl (lv_at hl 0 rfl) ?_
                  refine va_get (D := D) (ci := 3) (v := .ref (ad 13)) (C := R_M) (T := F_M) (N := 16) hx hb hts (fun w h => kS1 w (i_M w h)) hown hK hP 10 gw_10 rfl 4 (by decide) (hts _ (kS1 _ m_M_17)) (fun _ h9 => h9) rfl d_M_find_166 ?_
                  refine lv_iload_n hx hb d_M_find_169 rfl (lv_at hl 3 rfl) ?_
                  refine va_iald (f := a 4) hx hb hK hP 13 0 gw_13 rfl (vp_in_nI (N := 300) (by omega) (by omega)) d_M_find_170 ?_
                  rw [nI_clamp (n := k) (by omega)]
                  refine lv_icmp_ge (tgt := 230) hx hb d_M_find_171 (by decide) (fun c_171''' => ?_) (fun c_171''' => absurd (hLe k hlt_k) c_171''')
                  have hl := lv_sub (l' := [(0, .ref (ad 10)), (1, .int kp), (2, .int ((it (mJs kp a k) ((a 4 k).toNatClampNeg) (it (mK kp a) k (fd, 0))).2)), (3, .int (nI k))]) hl [0, 1, 2, 3] rfl
                  exact kx _ _ ls hP hD hS hl
                | succ rem ih =>
                  intro j H locs ls hir_j hinv_j hP hD hS hl kx
                  have hlt_j : j < (a 4 k).toNatClampNeg := by omega
                  refine lv_iload hx hb d_M_find_163 (lv_at hl 4 rfl) ?_
                  refine lv_aload_n hx hb d_M_find_165 rfl (lv_at hl 0 rfl) ?_
                  refine va_get (D := D) (ci := 3) (v := .ref (ad 13)) (C := R_M) (T := F_M) (N := 16) hx hb hts (fun w h => kS1 w (i_M w h)) hown hK hP 10 gw_10 rfl 4 (by decide) (hts _ (kS1 _ m_M_17)) (fun _ h9 => h9) rfl d_M_find_166 ?_
                  refine lv_iload_n hx hb d_M_find_169 rfl (lv_at hl 3 rfl) ?_
                  refine va_iald (f := a 4) hx hb hK hP 13 0 gw_13 rfl (vp_in_nI (N := 300) (by omega) (by omega)) d_M_find_170 ?_
                  rw [nI_clamp (n := k) (by omega)]
                  refine lv_icmp_ge (tgt := 230) hx hb d_M_find_171 (by decide) (fun c_171''' => absurd c_171''' (hLt k hlt_k hlt_j)) (fun c_171''' => ?_)
                  refine lv_aload_n hx hb d_M_find_174 rfl (lv_at hl 0 rfl) ?_
                  refine va_get (D := D) (ci := 3) (v := .ref (ad 19)) (C := R_M) (T := F_M) (N := 16) hx hb hts (fun w h => kS1 w (i_M w h)) hown hK hP 10 gw_10 rfl 14 (by decide) (hts _ (kS1 _ m_M_35)) (fun _ h9 => h9) rfl d_M_find_175 ?_
                  refine lv_iload_n hx hb d_M_find_178 rfl (lv_at hl 3 rfl) ?_
                  refine va_zald (f := (it (mJs kp a k) j (it (mK kp a) k (fd, 0))).1) hx hb hK hP 19 1 gw_19 rfl (vp_in_nI (N := 300) (by omega) (by omega)) d_M_find_179 ?_
                  rw [nI_clamp (n := k) (by omega)]
                  refine lv_if_eq (tgt := 230) hx hb d_M_find_180 (by decide) (fun c_180''' => absurd c_180''' (mJs_keep hfk)) (fun c_180''' => ?_)
                  have hj12 := hL12 k hlt_k hlt_j
                  refine lv_aload_n hx hb d_M_find_183 rfl (lv_at hl 0 rfl) ?_
                  refine va_get (D := D) (ci := 3) (v := .ref (ad 14)) (C := R_M) (T := F_M) (N := 16) hx hb hts (fun w h => kS1 w (i_M w h)) hown hK hP 10 gw_10 rfl 5 (by decide) (hts _ (kS1 _ m_M_20)) (fun _ h9 => h9) rfl d_M_find_184 ?_
                  refine lv_bipush (v := 12) hx hb d_M_find_187 (by decide) ?_
                  refine lv_iload_n hx hb d_M_find_189 rfl (lv_at hl 3 rfl) ?_
                  refine lv_imul hx hb d_M_find_190 ?_
                  refine lv_iload hx hb d_M_find_191 (lv_at hl 4 rfl) ?_
                  refine lv_iadd hx hb d_M_find_193 ?_
                  refine va_iald (f := a 5) hx hb hK hP 14 0 gw_14 rfl (k12i (by omega) (hL12 k hlt_k hlt_j)) d_M_find_194 ?_
                  rw [k12c (k := k) (j := j) (by omega) (by omega)]
                  refine lv_iconst (v := 1) hx hb d_M_find_195 (by decide) ?_
                  refine lv_isub hx hb d_M_find_196 ?_
                  refine lv_istore (lv' := [(5, .int (((a 5) (12 * k + j)) - 1)), (0, .ref (ad 10)), (1, .int kp), (2, .int ((it (mJs kp a k) j (it (mK kp a) k (fd, 0))).2)), (3, .int (nI k)), (4, .int (nI j))]) hx hb d_M_find_197 hl (by decide) rfl (fun ls hl => ?_)
                  refine lv_iload hx hb d_M_find_199 (lv_at hl 0 rfl) ?_
                  refine lv_if_lt (tgt := 224) hx hb d_M_find_201 (by decide) (fun c_201''' => ?_) (fun c_201''' => ?_)
                  · refine lv_iinc (v := nI j + 1) (lv' := [(4, .int (nI j + 1)), (5, .int (((a 5) (12 * k + j)) - 1)), (0, .ref (ad 10)), (1, .int kp), (2, .int ((it (mJs kp a k) j (it (mK kp a) k (fd, 0))).2)), (3, .int (nI k))]) hx hb d_M_find_224 hl (k := 5) rfl rfl (by decide) rfl (fun ls hl => ?_)
                    refine lv_goto (tgt := 163) hx hb d_M_find_227 (by decide) ?_
                    have hl := lv_sub (l' := [(0, .ref (ad 10)), (1, .int kp), (2, .int ((it (mJs kp a k) j (it (mK kp a) k (fd, 0))).2)), (3, .int (nI k)), (4, .int (nI j + 1))]) hl [2, 3, 4, 5, 0] rfl
                    have hqq9 : (.int ((it (mJs kp a k) j (it (mK kp a) k (fd, 0))).2) : Value) = .int ((it (mJs kp a k) (j + 1) (it (mK kp a) k (fd, 0))).2) := by rw [it_s, mJs, if_neg (by omega), mJ]; simp [kb1, c_171''', c_180''', c_201''']
                    rw [hqq9] at hl
                    have hqq9 : (.int (nI j + 1) : Value) = .int (nI (j + 1)) := by rw [nI_1]
                    rw [hqq9] at hl
                    have hE : (gW n ty ad f th rt qu b w T g (va_up a 14 ((it (mJs kp a k) j (it (mK kp a) k (fd, 0))).1)) o : va_W) = gW n ty ad f th rt qu b w T g (va_up a 14 ((it (mJs kp a k) (j + 1) (it (mK kp a) k (fd, 0))).1)) o := by rw [it_s, mJs, if_neg (by omega), mJ]; simp [kb1, c_171''', c_180''', c_201''']
                    have hP := kw_P hE hP
                    have hD := kw_D hE hD
                    exact ih (j + 1) _ _ ls (by omega) (by omega) hP hD hS hl kx
                  · refine lv_aload_n hx hb d_M_find_204 rfl (lv_at hl 1 rfl) ?_
                    refine va_get (D := D) (ci := 3) (v := .ref (ad 19)) (C := R_M) (T := F_M) (N := 16) hx hb hts (fun w h => kS1 w (i_M w h)) hown hK hP 10 gw_10 rfl 14 (by decide) (hts _ (kS1 _ m_M_35)) (fun _ h9 => h9) rfl d_M_find_205 ?_
                    refine lv_iload hx hb d_M_find_208 (lv_at hl 0 rfl) ?_
                    refine va_zald (f := (it (mJs kp a k) j (it (mK kp a) k (fd, 0))).1) hx hb hK hP 19 1 gw_19 rfl (kin5 (hF (12 * k + j) (by have := hL12 k hlt_k hlt_j; omega)) c_201''') d_M_find_210 ?_
                    refine lv_if_ne (tgt := 224) hx hb d_M_find_211 (by decide) (fun c_211''' => ?_) (fun c_211''' => ?_)
                    · refine lv_iinc (v := nI j + 1) (lv' := [(4, .int (nI j + 1)), (5, .int (((a 5) (12 * k + j)) - 1)), (0, .ref (ad 10)), (1, .int kp), (2, .int ((it (mJs kp a k) j (it (mK kp a) k (fd, 0))).2)), (3, .int (nI k))]) hx hb d_M_find_224 hl (k := 5) rfl rfl (by decide) rfl (fun ls hl => ?_)
                      refine lv_goto (tgt := 163) hx hb d_M_find_227 (by decide) ?_
                      have hl := lv_sub (l' := [(0, .ref (ad 10)), (1, .int kp), (2, .int ((it (mJs kp a k) j (it (mK kp a) k (fd, 0))).2)), (3, .int (nI k)), (4, .int (nI j + 1))]) hl [2, 3, 4, 5, 0] rfl
                      have hqq9 : (.int ((it (mJs kp a k) j (it (mK kp a) k (fd, 0))).2) : Value) = .int ((it (mJs kp a k) (j + 1) (it (mK kp a) k (fd, 0))).2) := by rw [it_s, mJs, if_neg (by omega), mJ]; simp [kb1, c_171''', c_180''', c_201''', c_211''']
                      rw [hqq9] at hl
                      have hqq9 : (.int (nI j + 1) : Value) = .int (nI (j + 1)) := by rw [nI_1]
                      rw [hqq9] at hl
                      have hE : (gW n ty ad f th rt qu b w T g (va_up a 14 ((it (mJs kp a k) j (it (mK kp a) k (fd, 0))).1)) o : va_W) = gW n ty ad f th rt qu b w T g (va_up a 14 ((it (mJs kp a k) (j + 1) (it (mK kp a) k (fd, 0))).1)) o := by rw [it_s, mJs, if_neg (by omega), mJ]; simp [kb1, c_171''', c_180''', c_201''', c_211''']
                      have hP := kw_P hE hP
                      have hD := kw_D hE hD
                      exact ih (j + 1) _ _ ls (by omega) (by omega) hP hD hS hl kx
                    · refine lv_aload_n hx hb d_M_find_214 rfl (lv_at hl 1 rfl) ?_
                      refine va_get (D := D) (ci := 3) (v := .ref (ad 19)) (C := R_M) (T := F_M) (N := 16) hx hb hts (fun w h => kS1 w (i_M w h)) hown hK hP 10 gw_10 rfl 14 (by decide) (hts _ (kS1 _ m_M_35)) (fun _ h9 => h9) rfl d_M_find_215 ?_
                      refine lv_iload hx hb d_M_find_218 (lv_at hl 0 rfl) ?_
                      refine lv_iconst (v := 1) hx hb d_M_find_220 (by decide) ?_
                      refine va_zast (f := (it (mJs kp a k) j (it (mK kp a) k (fd, 0))).1) hx hb hK hP hD hS 19 1 gw_19 rfl (kin5 (hF (12 * k + j) (by have := hL12 k hlt_k hlt_j; omega)) c_201''') d_M_find_221 (fun H locs hP hD hS => ?_)
                      have hP := kw_P ((gw_sa14 (r := upd ((it (mJs kp a k) j (it (mK kp a) k (fd, 0))).1) ((((a 5) (12 * k + j)) - 1).toNatClampNeg) (vp_nar .boolean 1))).trans (by rw [bx_uu])) hP
                      have hD := kw_D ((gw_sa14 (r := upd ((it (mJs kp a k) j (it (mK kp a) k (fd, 0))).1) ((((a 5) (12 * k + j)) - 1).toNatClampNeg) (vp_nar .boolean 1))).trans (by rw [bx_uu])) hD
                      refine lv_iconst (v := 1) hx hb d_M_find_222 (by decide) ?_
                      refine lv_istore_n (lv' := [(2, .int 1), (5, .int (((a 5) (12 * k + j)) - 1)), (0, .ref (ad 10)), (1, .int kp), (3, .int (nI k)), (4, .int (nI j))]) hx hb d_M_find_223 rfl hl (by decide) rfl (fun ls hl => ?_)
                      refine lv_iinc (v := nI j + 1) (lv' := [(4, .int (nI j + 1)), (2, .int 1), (5, .int (((a 5) (12 * k + j)) - 1)), (0, .ref (ad 10)), (1, .int kp), (3, .int (nI k))]) hx hb d_M_find_224 hl (k := 5) rfl rfl (by decide) rfl (fun ls hl => ?_)
                      refine lv_goto (tgt := 163) hx hb d_M_find_227 (by decide) ?_
                      have hl := lv_sub (l' := [(0, .ref (ad 10)), (1, .int kp), (2, .int 1), (3, .int (nI k)), (4, .int (nI j + 1))]) hl [3, 4, 1, 5, 0] rfl
                      have hqq9 : (.int 1 : Value) = .int ((it (mJs kp a k) (j + 1) (it (mK kp a) k (fd, 0))).2) := by rw [it_s, mJs, if_neg (by omega), mJ]; simp [kb1, c_171''', c_180''', c_201''', c_211''']
                      rw [hqq9] at hl
                      have hqq9 : (.int (nI j + 1) : Value) = .int (nI (j + 1)) := by rw [nI_1]
                      rw [hqq9] at hl
                      have hE : (gW n ty ad f th rt qu b w T g (va_up a 14 (upd ((it (mJs kp a k) j (it (mK kp a) k (fd, 0))).1) ((((a 5) (12 * k + j)) - 1).toNatClampNeg) (vp_nar .boolean 1))) o : va_W) = gW n ty ad f th rt qu b w T g (va_up a 14 ((it (mJs kp a k) (j + 1) (it (mK kp a) k (fd, 0))).1)) o := by rw [it_s, mJs, if_neg (by omega), mJ]; simp [kb1, c_171''', c_180''', c_201''', c_211''']
                      have hP := kw_P hE hP
                      have hD := kw_D hE hD
                      exact ih (j + 1) _ _ ls (by omega) (by omega) hP hD hS hl kx
              have hl := lv_sub (l' := [(0, .ref (ad 10)), (1, .int kp), (2, .int ((it (mK kp a) k (fd, 0)).2)), (3, .int (nI k)), (4, .int 0)]) hl [1, 2, 3, 4, 0] rfl
              have hqq9 : (.int ((it (mK kp a) k (fd, 0)).2) : Value) = .int ((it (mJs kp a k) 0 (it (mK kp a) k (fd, 0))).2) := by simp [it, mJs, mS, c_139'', c_149'']
              rw [hqq9] at hl
              have hqq9 : (.int 0 : Value) = .int (nI 0) := by rw [nI_0]
              rw [hqq9] at hl
              have hE : (gW n ty ad f th rt qu b w T g (va_up a 14 ((it (mK kp a) k (fd, 0)).1)) o : va_W) = gW n ty ad f th rt qu b w T g (va_up a 14 ((it (mJs kp a k) 0 (it (mK kp a) k (fd, 0))).1)) o := by simp [it, mJs, mS, c_139'', c_149'']
              have hP := kw_P hE hP
              have hD := kw_D hE hD
              refine L5 _ ((a 4 k).toNatClampNeg - 0) 0 _ _ ls (by omega) (by simp [mS, c_139'', c_149'']) hP hD hS hl (fun H locs ls hP hD hS hl => ?_)
              refine lv_iinc (v := nI k + 1) (lv' := [(3, .int (nI k + 1)), (0, .ref (ad 10)), (1, .int kp), (2, .int ((it (mJs kp a k) ((a 4 k).toNatClampNeg) (it (mK kp a) k (fd, 0))).2))]) hx hb d_M_find_230 hl (k := 3) rfl rfl (by decide) rfl (fun ls hl => ?_)
              refine lv_goto (tgt := 134) hx hb d_M_find_233 (by decide) ?_
              have hl := lv_sub (l' := [(0, .ref (ad 10)), (1, .int kp), (2, .int ((it (mJs kp a k) ((a 4 k).toNatClampNeg) (it (mK kp a) k (fd, 0))).2)), (3, .int (nI k + 1))]) hl [1, 2, 3, 0] rfl
              have hqq9 : (.int ((it (mJs kp a k) ((a 4 k).toNatClampNeg) (it (mK kp a) k (fd, 0))).2) : Value) = .int ((it (mK kp a) (k + 1) (fd, 0)).2) := by rw [it_s, mK, if_neg hfk]
              rw [hqq9] at hl
              have hqq9 : (.int (nI k + 1) : Value) = .int (nI (k + 1)) := by rw [nI_1]
              rw [hqq9] at hl
              have hE : (gW n ty ad f th rt qu b w T g (va_up a 14 ((it (mJs kp a k) ((a 4 k).toNatClampNeg) (it (mK kp a) k (fd, 0))).1)) o : va_W) = gW n ty ad f th rt qu b w T g (va_up a 14 ((it (mK kp a) (k + 1) (fd, 0)).1)) o := by rw [it_s, mK, if_neg hfk]
              have hP := kw_P hE hP
              have hD := kw_D hE hD
              exact ih (k + 1) _ _ ls (by omega) hP hD hS hl kx
          · refine lv_iload_n hx hb d_M_find_152 rfl (lv_at hl 1 rfl) ?_
            refine lv_if_ne (tgt := 160) hx hb d_M_find_153 (by decide) (fun c_153'' => ?_) (fun c_153'' => ?_)
            · refine lv_iconst (v := 0) hx hb d_M_find_160 (by decide) ?_
              refine lv_istore (lv' := [(4, .int 0), (0, .ref (ad 10)), (1, .int kp), (2, .int ((it (mK kp a) k (fd, 0)).2)), (3, .int (nI k))]) hx hb d_M_find_161 hl (by decide) rfl (fun ls hl => ?_)
              by_cases hfk : (it (mK kp a) k (fd, 0)).1 k = 0
              · refine lv_iload hx hb d_M_find_163 (lv_at hl 0 rfl) ?_
                refine lv_aload_n hx hb d_M_find_165 rfl (lv_at hl 1 rfl) ?_
                refine va_get (D := D) (ci := 3) (v := .ref (ad 13)) (C := R_M) (T := F_M) (N := 16) hx hb hts (fun w h => kS1 w (i_M w h)) hown hK hP 10 gw_10 rfl 4 (by decide) (hts _ (kS1 _ m_M_17)) (fun _ h9 => h9) rfl d_M_find_166 ?_
                refine lv_iload_n hx hb d_M_find_169 rfl (lv_at hl 4 rfl) ?_
                refine va_iald (f := a 4) hx hb hK hP 13 0 gw_13 rfl (vp_in_nI (N := 300) (by omega) (by omega)) d_M_find_170 ?_
                rw [nI_clamp (n := k) (by omega)]
                refine lv_icmp_ge (tgt := 230) hx hb d_M_find_171 (by decide) (fun c_171'' => ?_) (fun c_171'' => ?_)
                · refine lv_iinc (v := nI k + 1) (lv' := [(3, .int (nI k + 1)), (4, .int 0), (0, .ref (ad 10)), (1, .int kp), (2, .int ((it (mK kp a) k (fd, 0)).2))]) hx hb d_M_find_230 hl (k := 4) rfl rfl (by decide) rfl (fun ls hl => ?_)
                  refine lv_goto (tgt := 134) hx hb d_M_find_233 (by decide) ?_
                  have hl := lv_sub (l' := [(0, .ref (ad 10)), (1, .int kp), (2, .int ((it (mK kp a) k (fd, 0)).2)), (3, .int (nI k + 1))]) hl [2, 3, 4, 0] rfl
                  have hqq9 : (.int ((it (mK kp a) k (fd, 0)).2) : Value) = .int ((it (mK kp a) (k + 1) (fd, 0)).2) := by rw [it_s, mK, if_pos hfk]
                  rw [hqq9] at hl
                  have hqq9 : (.int (nI k + 1) : Value) = .int (nI (k + 1)) := by rw [nI_1]
                  rw [hqq9] at hl
                  have hE : (gW n ty ad f th rt qu b w T g (va_up a 14 ((it (mK kp a) k (fd, 0)).1)) o : va_W) = gW n ty ad f th rt qu b w T g (va_up a 14 ((it (mK kp a) (k + 1) (fd, 0)).1)) o := by rw [it_s, mK, if_pos hfk]
                  have hP := kw_P hE hP
                  have hD := kw_D hE hD
                  exact ih (k + 1) _ _ ls (by omega) hP hD hS hl kx
                · refine lv_aload_n hx hb d_M_find_174 rfl (lv_at hl 1 rfl) ?_
                  refine va_get (D := D) (ci := 3) (v := .ref (ad 19)) (C := R_M) (T := F_M) (N := 16) hx hb hts (fun w h => kS1 w (i_M w h)) hown hK hP 10 gw_10 rfl 14 (by decide) (hts _ (kS1 _ m_M_35)) (fun _ h9 => h9) rfl d_M_find_175 ?_
                  refine lv_iload_n hx hb d_M_find_178 rfl (lv_at hl 4 rfl) ?_
                  refine va_zald (f := (it (mK kp a) k (fd, 0)).1) hx hb hK hP 19 1 gw_19 rfl (vp_in_nI (N := 300) (by omega) (by omega)) d_M_find_179 ?_
                  rw [nI_clamp (n := k) (by omega)]
                  refine lv_if_eq (tgt := 230) hx hb d_M_find_180 (by decide) (fun c_180'' => ?_) (fun c_180'' => absurd hfk c_180'')
                  refine lv_iinc (v := nI k + 1) (lv' := [(3, .int (nI k + 1)), (4, .int 0), (0, .ref (ad 10)), (1, .int kp), (2, .int ((it (mK kp a) k (fd, 0)).2))]) hx hb d_M_find_230 hl (k := 4) rfl rfl (by decide) rfl (fun ls hl => ?_)
                  refine lv_goto (tgt := 134) hx hb d_M_find_233 (by decide) ?_
                  have hl := lv_sub (l' := [(0, .ref (ad 10)), (1, .int kp), (2, .int ((it (mK kp a) k (fd, 0)).2)), (3, .int (nI k + 1))]) hl [2, 3, 4, 0] rfl
                  have hqq9 : (.int ((it (mK kp a) k (fd, 0)).2) : Value) = .int ((it (mK kp a) (k + 1) (fd, 0)).2) := by rw [it_s, mK, if_pos hfk]
                  rw [hqq9] at hl
                  have hqq9 : (.int (nI k + 1) : Value) = .int (nI (k + 1)) := by rw [nI_1]
                  rw [hqq9] at hl
                  have hE : (gW n ty ad f th rt qu b w T g (va_up a 14 ((it (mK kp a) k (fd, 0)).1)) o : va_W) = gW n ty ad f th rt qu b w T g (va_up a 14 ((it (mK kp a) (k + 1) (fd, 0)).1)) o := by rw [it_s, mK, if_pos hfk]
                  have hP := kw_P hE hP
                  have hD := kw_D hE hD
                  exact ih (k + 1) _ _ ls (by omega) hP hD hS hl kx
              · have L5 : ∀ (Q : State → Prop) (rem j : Nat) (H : Heap) (locs : List Loc) (ls : Array Slot), j + rem = (a 4 k).toNatClampNeg → mS kp a k ≤ j → va_P D kCl (gW n ty ad f th rt qu b w T g (va_up a 14 ((it (mJs kp a k) j (it (mK kp a) k (fd, 0))).1)) o) H → va_D A (gW n ty ad f th rt qu b w T g (va_up a 14 ((it (mJs kp a k) j (it (mK kp a) k (fd, 0))).1)) o) → va_S A s.heap H locs → lv_has ls 6 [(0, .ref (ad 10)), (1, .int kp), (2, .int ((it (mJs kp a k) j (it (mK kp a) k (fd, 0))).2)), (3, .int (nI k)), (4, .int (nI j))] → (∀ (H : Heap) (locs : List Loc) (ls : Array Slot), va_P D kCl (gW n ty ad f th rt qu b w T g (va_up a 14 ((it (mJs kp a k) ((a 4 k).toNatClampNeg) (it (mK kp a) k (fd, 0))).1)) o) H → va_D A (gW n ty ad f th rt qu b w T g (va_up a 14 ((it (mJs kp a k) ((a 4 k).toNatClampNeg) (it (mK kp a) k (fd, 0))).1)) o) → va_S A s.heap H locs → lv_has ls 6 [(0, .ref (ad 10)), (1, .int kp), (2, .int ((it (mJs kp a k) ((a 4 k).toNatClampNeg) (it (mK kp a) k (fd, 0))).2)), (3, .int (nI k))] → W p l e (headSpec w_M_find ({ frames := 0, cells := 0, slots := 0, locals := 0 })).room s m ([.ref (ad 10), .int kp] : List Value).toArray below meth cd H locs 0 0 Q (F0 m 230 ls [])) → W p l e (headSpec w_M_find ({ frames := 0, cells := 0, slots := 0, locals := 0 })).room s m ([.ref (ad 10), .int kp] : List Value).toArray below meth cd H locs 0 0 Q (F0 m 163 ls []) := by
                  intro Q rem
                  induction rem with
                  | zero =>
                    intro j H locs ls hir_j hinv_j hP hD hS hl kx
                    obtain rfl : (a 4 k).toNatClampNeg = j := by omega
                    refine lv_iload hx hb d_M_find_163 (lv_at hl 4 rfl) ?_
                    refine lv_aload_n hx hb d_M_find_165 rfl (lv_at hl 0 rfl) ?_
                    refine va_get (D := D) (ci := 3) (v := .ref (ad 13)) (C := R_M) (T := F_M) (N := 16) hx hb hts (fun w h => kS1 w (i_M w h)) hown hK hP 10 gw_10 rfl 4 (by decide) (hts _ (kS1 _ m_M_17)) (fun _ h9 => h9) rfl d_M_find_166 ?_
                    refine lv_iload_n hx hb d_M_find_169 rfl (lv_at hl 3 rfl) ?_
                    refine va_iald (f := a 4) hx hb hK hP 13 0 gw_13 rfl (vp_in_nI (N := 300) (by omega) (by omega)) d_M_find_170 ?_
                    rw [nI_clamp (n := k) (by omega)]
                    refine lv_icmp_ge (tgt := 230) hx hb d_M_find_171 (by decide) (fun c_171''' => ?_) (fun c_171''' => absurd (hLe k hlt_k) c_171''')
                    have hl := lv_sub (l' := [(0, .ref (ad 10)), (1, .int kp), (2, .int ((it (mJs kp a k) ((a 4 k).toNatClampNeg) (it (mK kp a) k (fd, 0))).2)), (3, .int (nI k))]) hl [0, 1, 2, 3] rfl
                    exact kx _ _ ls hP hD hS hl
                  | succ rem ih =>
                    intro j H locs ls hir_j hinv_j hP hD hS hl kx
                    have hlt_j : j < (a 4 k).toNatClampNeg := by omega
                    refine lv_iload hx hb d_M_find_163 (lv_at hl 4 rfl) ?_
                    refine lv_aload_n hx hb d_M_find_165 rfl (lv_at hl 0 rfl) ?_
                    refine va_get (D := D) (ci := 3) (v := .ref (ad 13)) (C := R_M) (T := F_M) (N := 16) hx hb hts (fun w h => kS1 w (i_M w h)) hown hK hP 10 gw_10 rfl 4 (by decide) (hts _ (kS1 _ m_M_17)) (fun _ h9 => h9) rfl d_M_find_166 ?_
                    refine lv_iload_n hx hb d_M_find_169 rfl (lv_at hl 3 rfl) ?_
                    refine va_iald (f := a 4) hx hb hK hP 13 0 gw_13 rfl (vp_in_nI (N := 300) (by omega) (by omega)) d_M_find_170 ?_
                    rw [nI_clamp (n := k) (by omega)]
                    refine lv_icmp_ge (tgt := 230) hx hb d_M_find_171 (by decide) (fun c_171''' => absurd c_171''' (hLt k hlt_k hlt_j)) (fun c_171''' => ?_)
                    refine lv_aload_n hx hb d_M_find_174 rfl (lv_at hl 0 rfl) ?_
                    refine va_get (D := D) (ci := 3) (v := .ref (ad 19)) (C := R_M) (T := F_M) (N := 16) hx hb hts (fun w h => kS1 w (i_M w h)) hown hK hP 10 gw_10 rfl 14 (by decide) (hts _ (kS1 _ m_M_35)) (fun _ h9 => h9) rfl d_M_find_175 ?_
                    refine lv_iload_n hx hb d_M_find_178 rfl (lv_at hl 3 rfl) ?_
                    refine va_zald (f := (it (mJs kp a k) j (it (mK kp a) k (fd, 0))).1) hx hb hK hP 19 1 gw_19 rfl (vp_in_nI (N := 300) (by omega) (by omega)) d_M_find_179 ?_
                    rw [nI_clamp (n := k) (by omega)]
                    refine lv_if_eq (tgt := 230) hx hb d_M_find_180 (by decide) (fun c_180''' => absurd c_180''' (mJs_keep hfk)) (fun c_180''' => ?_)
                    have hj12 := hL12 k hlt_k hlt_j
                    refine lv_aload_n hx hb d_M_find_183 rfl (lv_at hl 0 rfl) ?_
                    refine va_get (D := D) (ci := 3) (v := .ref (ad 14)) (C := R_M) (T := F_M) (N := 16) hx hb hts (fun w h => kS1 w (i_M w h)) hown hK hP 10 gw_10 rfl 5 (by decide) (hts _ (kS1 _ m_M_20)) (fun _ h9 => h9) rfl d_M_find_184 ?_
                    refine lv_bipush (v := 12) hx hb d_M_find_187 (by decide) ?_
                    refine lv_iload_n hx hb d_M_find_189 rfl (lv_at hl 3 rfl) ?_
                    refine lv_imul hx hb d_M_find_190 ?_
                    refine lv_iload hx hb d_M_find_191 (lv_at hl 4 rfl) ?_
                    refine lv_iadd hx hb d_M_find_193 ?_
                    refine va_iald (f := a 5) hx hb hK hP 14 0 gw_14 rfl (k12i (by omega) (hL12 k hlt_k hlt_j)) d_M_find_194 ?_
                    rw [k12c (k := k) (j := j) (by omega) (by omega)]
                    refine lv_iconst (v := 1) hx hb d_M_find_195 (by decide) ?_
                    refine lv_isub hx hb d_M_find_196 ?_
                    refine lv_istore (lv' := [(5, .int (((a 5) (12 * k + j)) - 1)), (0, .ref (ad 10)), (1, .int kp), (2, .int ((it (mJs kp a k) j (it (mK kp a) k (fd, 0))).2)), (3, .int (nI k)), (4, .int (nI j))]) hx hb d_M_find_197 hl (by decide) rfl (fun ls hl => ?_)
                    refine lv_iload hx hb d_M_find_199 (lv_at hl 0 rfl) ?_
                    refine lv_if_lt (tgt := 224) hx hb d_M_find_201 (by decide) (fun c_201''' => ?_) (fun c_201''' => ?_)
                    · refine lv_iinc (v := nI j + 1) (lv' := [(4, .int (nI j + 1)), (5, .int (((a 5) (12 * k + j)) - 1)), (0, .ref (ad 10)), (1, .int kp), (2, .int ((it (mJs kp a k) j (it (mK kp a) k (fd, 0))).2)), (3, .int (nI k))]) hx hb d_M_find_224 hl (k := 5) rfl rfl (by decide) rfl (fun ls hl => ?_)
                      refine lv_goto (tgt := 163) hx hb d_M_find_227 (by decide) ?_
                      have hl := lv_sub (l' := [(0, .ref (ad 10)), (1, .int kp), (2, .int ((it (mJs kp a k) j (it (mK kp a) k (fd, 0))).2)), (3, .int (nI k)), (4, .int (nI j + 1))]) hl [2, 3, 4, 5, 0] rfl
                      have hqq9 : (.int ((it (mJs kp a k) j (it (mK kp a) k (fd, 0))).2) : Value) = .int ((it (mJs kp a k) (j + 1) (it (mK kp a) k (fd, 0))).2) := by rw [it_s, mJs, if_neg (by omega), mJ]; simp [kb1, c_171''', c_180''', c_201''']
                      rw [hqq9] at hl
                      have hqq9 : (.int (nI j + 1) : Value) = .int (nI (j + 1)) := by rw [nI_1]
                      rw [hqq9] at hl
                      have hE : (gW n ty ad f th rt qu b w T g (va_up a 14 ((it (mJs kp a k) j (it (mK kp a) k (fd, 0))).1)) o : va_W) = gW n ty ad f th rt qu b w T g (va_up a 14 ((it (mJs kp a k) (j + 1) (it (mK kp a) k (fd, 0))).1)) o := by rw [it_s, mJs, if_neg (by omega), mJ]; simp [kb1, c_171''', c_180''', c_201''']
                      have hP := kw_P hE hP
                      have hD := kw_D hE hD
                      exact ih (j + 1) _ _ ls (by omega) (by omega) hP hD hS hl kx
                    · refine lv_aload_n hx hb d_M_find_204 rfl (lv_at hl 1 rfl) ?_
                      refine va_get (D := D) (ci := 3) (v := .ref (ad 19)) (C := R_M) (T := F_M) (N := 16) hx hb hts (fun w h => kS1 w (i_M w h)) hown hK hP 10 gw_10 rfl 14 (by decide) (hts _ (kS1 _ m_M_35)) (fun _ h9 => h9) rfl d_M_find_205 ?_
                      refine lv_iload hx hb d_M_find_208 (lv_at hl 0 rfl) ?_
                      refine va_zald (f := (it (mJs kp a k) j (it (mK kp a) k (fd, 0))).1) hx hb hK hP 19 1 gw_19 rfl (kin5 (hF (12 * k + j) (by have := hL12 k hlt_k hlt_j; omega)) c_201''') d_M_find_210 ?_
                      refine lv_if_ne (tgt := 224) hx hb d_M_find_211 (by decide) (fun c_211''' => ?_) (fun c_211''' => ?_)
                      · refine lv_iinc (v := nI j + 1) (lv' := [(4, .int (nI j + 1)), (5, .int (((a 5) (12 * k + j)) - 1)), (0, .ref (ad 10)), (1, .int kp), (2, .int ((it (mJs kp a k) j (it (mK kp a) k (fd, 0))).2)), (3, .int (nI k))]) hx hb d_M_find_224 hl (k := 5) rfl rfl (by decide) rfl (fun ls hl => ?_)
                        refine lv_goto (tgt := 163) hx hb d_M_find_227 (by decide) ?_
                        have hl := lv_sub (l' := [(0, .ref (ad 10)), (1, .int kp), (2, .int ((it (mJs kp a k) j (it (mK kp a) k (fd, 0))).2)), (3, .int (nI k)), (4, .int (nI j + 1))]) hl [2, 3, 4, 5, 0] rfl
                        have hqq9 : (.int ((it (mJs kp a k) j (it (mK kp a) k (fd, 0))).2) : Value) = .int ((it (mJs kp a k) (j + 1) (it (mK kp a) k (fd, 0))).2) := by rw [it_s, mJs, if_neg (by omega), mJ]; simp [kb1, c_171''', c_180''', c_201''', c_211''']
                        rw [hqq9] at hl
                        have hqq9 : (.int (nI j + 1) : Value) = .int (nI (j + 1)) := by rw [nI_1]
                        rw [hqq9] at hl
                        have hE : (gW n ty ad f th rt qu b w T g (va_up a 14 ((it (mJs kp a k) j (it (mK kp a) k (fd, 0))).1)) o : va_W) = gW n ty ad f th rt qu b w T g (va_up a 14 ((it (mJs kp a k) (j + 1) (it (mK kp a) k (fd, 0))).1)) o := by rw [it_s, mJs, if_neg (by omega), mJ]; simp [kb1, c_171''', c_180''', c_201''', c_211''']
                        have hP := kw_P hE hP
                        have hD := kw_D hE hD
                        exact ih (j + 1) _ _ ls (by omega) (by omega) hP hD hS hl kx
                      · refine lv_aload_n hx hb d_M_find_214 rfl (lv_at hl 1 rfl) ?_
                        refine va_get (D := D) (ci := 3) (v := .ref (ad 19)) (C := R_M) (T := F_M) (N := 16) hx hb hts (fun w h => kS1 w (i_M w h)) hown hK hP 10 gw_10 rfl 14 (by decide) (hts _ (kS1 _ m_M_35)) (fun _ h9 => h9) rfl d_M_find_215 ?_
                        refine lv_iload hx hb d_M_find_218 (lv_at hl 0 rfl) ?_
                        refine lv_iconst (v := 1) hx hb d_M_find_220 (by decide) ?_
                        refine va_zast (f := (it (mJs kp a k) j (it (mK kp a) k (fd, 0))).1) hx hb hK hP hD hS 19 1 gw_19 rfl (kin5 (hF (12 * k + j) (by have := hL12 k hlt_k hlt_j; omega)) c_201''') d_M_find_221 (fun H locs hP hD hS => ?_)
                        have hP := kw_P ((gw_sa14 (r := upd ((it (mJs kp a k) j (it (mK kp a) k (fd, 0))).1) ((((a 5) (12 * k + j)) - 1).toNatClampNeg) (vp_nar .boolean 1))).trans (by rw [bx_uu])) hP
                        have hD := kw_D ((gw_sa14 (r := upd ((it (mJs kp a k) j (it (mK kp a) k (fd, 0))).1) ((((a 5) (12 * k + j)) - 1).toNatClampNeg) (vp_nar .boolean 1))).trans (by rw [bx_uu])) hD
                        refine lv_iconst (v := 1) hx hb d_M_find_222 (by decide) ?_
                        refine lv_istore_n (lv' := [(2, .int 1), (5, .int (((a 5) (12 * k + j)) - 1)), (0, .ref (ad 10)), (1, .int kp), (3, .int (nI k)), (4, .int (nI j))]) hx hb d_M_find_223 rfl hl (by decide) rfl (fun ls hl => ?_)
                        refine lv_iinc (v := nI j + 1) (lv' := [(4, .int (nI j + 1)), (2, .int 1), (5, .int (((a 5) (12 * k + j)) - 1)), (0, .ref (ad 10)), (1, .int kp), (3, .int (nI k))]) hx hb d_M_find_224 hl (k := 5) rfl rfl (by decide) rfl (fun ls hl => ?_)
                        refine lv_goto (tgt := 163) hx hb d_M_find_227 (by decide) ?_
                        have hl := lv_sub (l' := [(0, .ref (ad 10)), (1, .int kp), (2, .int 1), (3, .int (nI k)), (4, .int (nI j + 1))]) hl [3, 4, 1, 5, 0] rfl
                        have hqq9 : (.int 1 : Value) = .int ((it (mJs kp a k) (j + 1) (it (mK kp a) k (fd, 0))).2) := by rw [it_s, mJs, if_neg (by omega), mJ]; simp [kb1, c_171''', c_180''', c_201''', c_211''']
                        rw [hqq9] at hl
                        have hqq9 : (.int (nI j + 1) : Value) = .int (nI (j + 1)) := by rw [nI_1]
                        rw [hqq9] at hl
                        have hE : (gW n ty ad f th rt qu b w T g (va_up a 14 (upd ((it (mJs kp a k) j (it (mK kp a) k (fd, 0))).1) ((((a 5) (12 * k + j)) - 1).toNatClampNeg) (vp_nar .boolean 1))) o : va_W) = gW n ty ad f th rt qu b w T g (va_up a 14 ((it (mJs kp a k) (j + 1) (it (mK kp a) k (fd, 0))).1)) o := by rw [it_s, mJs, if_neg (by omega), mJ]; simp [kb1, c_171''', c_180''', c_201''', c_211''']
                        have hP := kw_P hE hP
                        have hD := kw_D hE hD
                        exact ih (j + 1) _ _ ls (by omega) (by omega) hP hD hS hl kx
                have hl := lv_sub (l' := [(0, .ref (ad 10)), (1, .int kp), (2, .int ((it (mK kp a) k (fd, 0)).2)), (3, .int (nI k)), (4, .int 0)]) hl [1, 2, 3, 4, 0] rfl
                have hqq9 : (.int ((it (mK kp a) k (fd, 0)).2) : Value) = .int ((it (mJs kp a k) 0 (it (mK kp a) k (fd, 0))).2) := by simp [it, mJs, mS, c_139'', c_149'', c_153'']
                rw [hqq9] at hl
                have hqq9 : (.int 0 : Value) = .int (nI 0) := by rw [nI_0]
                rw [hqq9] at hl
                have hE : (gW n ty ad f th rt qu b w T g (va_up a 14 ((it (mK kp a) k (fd, 0)).1)) o : va_W) = gW n ty ad f th rt qu b w T g (va_up a 14 ((it (mJs kp a k) 0 (it (mK kp a) k (fd, 0))).1)) o := by simp [it, mJs, mS, c_139'', c_149'', c_153'']
                have hP := kw_P hE hP
                have hD := kw_D hE hD
                refine L5 _ ((a 4 k).toNatClampNeg - 0) 0 _ _ ls (by omega) (by simp [mS, c_139'', c_149'', c_153'']) hP hD hS hl (fun H locs ls hP hD hS hl => ?_)
                refine lv_iinc (v := nI k + 1) (lv' := [(3, .int (nI k + 1)), (0, .ref (ad 10)), (1, .int kp), (2, .int ((it (mJs kp a k) ((a 4 k).toNatClampNeg) (it (mK kp a) k (fd, 0))).2))]) hx hb d_M_find_230 hl (k := 3) rfl rfl (by decide) rfl (fun ls hl => ?_)
                refine lv_goto (tgt := 134) hx hb d_M_find_233 (by decide) ?_
                have hl := lv_sub (l' := [(0, .ref (ad 10)), (1, .int kp), (2, .int ((it (mJs kp a k) ((a 4 k).toNatClampNeg) (it (mK kp a) k (fd, 0))).2)), (3, .int (nI k + 1))]) hl [1, 2, 3, 0] rfl
                have hqq9 : (.int ((it (mJs kp a k) ((a 4 k).toNatClampNeg) (it (mK kp a) k (fd, 0))).2) : Value) = .int ((it (mK kp a) (k + 1) (fd, 0)).2) := by rw [it_s, mK, if_neg hfk]
                rw [hqq9] at hl
                have hqq9 : (.int (nI k + 1) : Value) = .int (nI (k + 1)) := by rw [nI_1]
                rw [hqq9] at hl
                have hE : (gW n ty ad f th rt qu b w T g (va_up a 14 ((it (mJs kp a k) ((a 4 k).toNatClampNeg) (it (mK kp a) k (fd, 0))).1)) o : va_W) = gW n ty ad f th rt qu b w T g (va_up a 14 ((it (mK kp a) (k + 1) (fd, 0)).1)) o := by rw [it_s, mK, if_neg hfk]
                have hP := kw_P hE hP
                have hD := kw_D hE hD
                exact ih (k + 1) _ _ ls (by omega) hP hD hS hl kx
            · refine lv_iconst (v := 1) hx hb d_M_find_156 (by decide) ?_
              refine lv_goto (tgt := 161) hx hb d_M_find_157 (by decide) ?_
              refine lv_istore (lv' := [(4, .int 1), (0, .ref (ad 10)), (1, .int kp), (2, .int ((it (mK kp a) k (fd, 0)).2)), (3, .int (nI k))]) hx hb d_M_find_161 hl (by decide) rfl (fun ls hl => ?_)
              by_cases hfk : (it (mK kp a) k (fd, 0)).1 k = 0
              · refine lv_iload hx hb d_M_find_163 (lv_at hl 0 rfl) ?_
                refine lv_aload_n hx hb d_M_find_165 rfl (lv_at hl 1 rfl) ?_
                refine va_get (D := D) (ci := 3) (v := .ref (ad 13)) (C := R_M) (T := F_M) (N := 16) hx hb hts (fun w h => kS1 w (i_M w h)) hown hK hP 10 gw_10 rfl 4 (by decide) (hts _ (kS1 _ m_M_17)) (fun _ h9 => h9) rfl d_M_find_166 ?_
                refine lv_iload_n hx hb d_M_find_169 rfl (lv_at hl 4 rfl) ?_
                refine va_iald (f := a 4) hx hb hK hP 13 0 gw_13 rfl (vp_in_nI (N := 300) (by omega) (by omega)) d_M_find_170 ?_
                rw [nI_clamp (n := k) (by omega)]
                refine lv_icmp_ge (tgt := 230) hx hb d_M_find_171 (by decide) (fun c_171'' => ?_) (fun c_171'' => ?_)
                · refine lv_iinc (v := nI k + 1) (lv' := [(3, .int (nI k + 1)), (4, .int 1), (0, .ref (ad 10)), (1, .int kp), (2, .int ((it (mK kp a) k (fd, 0)).2))]) hx hb d_M_find_230 hl (k := 4) rfl rfl (by decide) rfl (fun ls hl => ?_)
                  refine lv_goto (tgt := 134) hx hb d_M_find_233 (by decide) ?_
                  have hl := lv_sub (l' := [(0, .ref (ad 10)), (1, .int kp), (2, .int ((it (mK kp a) k (fd, 0)).2)), (3, .int (nI k + 1))]) hl [2, 3, 4, 0] rfl
                  have hqq9 : (.int ((it (mK kp a) k (fd, 0)).2) : Value) = .int ((it (mK kp a) (k + 1) (fd, 0)).2) := by rw [it_s, mK, if_pos hfk]
                  rw [hqq9] at hl
                  have hqq9 : (.int (nI k + 1) : Value) = .int (nI (k + 1)) := by rw [nI_1]
                  rw [hqq9] at hl
                  have hE : (gW n ty ad f th rt qu b w T g (va_up a 14 ((it (mK kp a) k (fd, 0)).1)) o : va_W) = gW n ty ad f th rt qu b w T g (va_up a 14 ((it (mK kp a) (k + 1) (fd, 0)).1)) o := by rw [it_s, mK, if_pos hfk]
                  have hP := kw_P hE hP
                  have hD := kw_D hE hD
                  exact ih (k + 1) _ _ ls (by omega) hP hD hS hl kx
                · refine lv_aload_n hx hb d_M_find_174 rfl (lv_at hl 1 rfl) ?_
                  refine va_get (D := D) (ci := 3) (v := .ref (ad 19)) (C := R_M) (T := F_M) (N := 16) hx hb hts (fun w h => kS1 w (i_M w h)) hown hK hP 10 gw_10 rfl 14 (by decide) (hts _ (kS1 _ m_M_35)) (fun _ h9 => h9) rfl d_M_find_175 ?_
                  refine lv_iload_n hx hb d_M_find_178 rfl (lv_at hl 4 rfl) ?_
                  refine va_zald (f := (it (mK kp a) k (fd, 0)).1) hx hb hK hP 19 1 gw_19 rfl (vp_in_nI (N := 300) (by omega) (by omega)) d_M_find_179 ?_
                  rw [nI_clamp (n := k) (by omega)]
                  refine lv_if_eq (tgt := 230) hx hb d_M_find_180 (by decide) (fun c_180'' => ?_) (fun c_180'' => absurd hfk c_180'')
                  refine lv_iinc (v := nI k + 1) (lv' := [(3, .int (nI k + 1)), (4, .int 1), (0, .ref (ad 10)), (1, .int kp), (2, .int ((it (mK kp a) k (fd, 0)).2))]) hx hb d_M_find_230 hl (k := 4) rfl rfl (by decide) rfl (fun ls hl => ?_)
                  refine lv_goto (tgt := 134) hx hb d_M_find_233 (by decide) ?_
                  have hl := lv_sub (l' := [(0, .ref (ad 10)), (1, .int kp), (2, .int ((it (mK kp a) k (fd, 0)).2)), (3, .int (nI k + 1))]) hl [2, 3, 4, 0] rfl
                  have hqq9 : (.int ((it (mK kp a) k (fd, 0)).2) : Value) = .int ((it (mK kp a) (k + 1) (fd, 0)).2) := by rw [it_s, mK, if_pos hfk]
                  rw [hqq9] at hl
                  have hqq9 : (.int (nI k + 1) : Value) = .int (nI (k + 1)) := by rw [nI_1]
                  rw [hqq9] at hl
                  have hE : (gW n ty ad f th rt qu b w T g (va_up a 14 ((it (mK kp a) k (fd, 0)).1)) o : va_W) = gW n ty ad f th rt qu b w T g (va_up a 14 ((it (mK kp a) (k + 1) (fd, 0)).1)) o := by rw [it_s, mK, if_pos hfk]
                  have hP := kw_P hE hP
                  have hD := kw_D hE hD
                  exact ih (k + 1) _ _ ls (by omega) hP hD hS hl kx
              · have L5 : ∀ (Q : State → Prop) (rem j : Nat) (H : Heap) (locs : List Loc) (ls : Array Slot), j + rem = (a 4 k).toNatClampNeg → mS kp a k ≤ j → va_P D kCl (gW n ty ad f th rt qu b w T g (va_up a 14 ((it (mJs kp a k) j (it (mK kp a) k (fd, 0))).1)) o) H → va_D A (gW n ty ad f th rt qu b w T g (va_up a 14 ((it (mJs kp a k) j (it (mK kp a) k (fd, 0))).1)) o) → va_S A s.heap H locs → lv_has ls 6 [(0, .ref (ad 10)), (1, .int kp), (2, .int ((it (mJs kp a k) j (it (mK kp a) k (fd, 0))).2)), (3, .int (nI k)), (4, .int (nI j))] → (∀ (H : Heap) (locs : List Loc) (ls : Array Slot), va_P D kCl (gW n ty ad f th rt qu b w T g (va_up a 14 ((it (mJs kp a k) ((a 4 k).toNatClampNeg) (it (mK kp a) k (fd, 0))).1)) o) H → va_D A (gW n ty ad f th rt qu b w T g (va_up a 14 ((it (mJs kp a k) ((a 4 k).toNatClampNeg) (it (mK kp a) k (fd, 0))).1)) o) → va_S A s.heap H locs → lv_has ls 6 [(0, .ref (ad 10)), (1, .int kp), (2, .int ((it (mJs kp a k) ((a 4 k).toNatClampNeg) (it (mK kp a) k (fd, 0))).2)), (3, .int (nI k))] → W p l e (headSpec w_M_find ({ frames := 0, cells := 0, slots := 0, locals := 0 })).room s m ([.ref (ad 10), .int kp] : List Value).toArray below meth cd H locs 0 0 Q (F0 m 230 ls [])) → W p l e (headSpec w_M_find ({ frames := 0, cells := 0, slots := 0, locals := 0 })).room s m ([.ref (ad 10), .int kp] : List Value).toArray below meth cd H locs 0 0 Q (F0 m 163 ls []) := by
                  intro Q rem
                  induction rem with
                  | zero =>
                    intro j H locs ls hir_j hinv_j hP hD hS hl kx
                    obtain rfl : (a 4 k).toNatClampNeg = j := by omega
                    refine lv_iload hx hb d_M_find_163 (lv_at hl 4 rfl) ?_
                    refine lv_aload_n hx hb d_M_find_165 rfl (lv_at hl 0 rfl) ?_
                    refine va_get (D := D) (ci := 3) (v := .ref (ad 13)) (C := R_M) (T := F_M) (N := 16) hx hb hts (fun w h => kS1 w (i_M w h)) hown hK hP 10 gw_10 rfl 4 (by decide) (hts _ (kS1 _ m_M_17)) (fun _ h9 => h9) rfl d_M_find_166 ?_
                    refine lv_iload_n hx hb d_M_find_169 rfl (lv_at hl 3 rfl) ?_
                    refine va_iald (f := a 4) hx hb hK hP 13 0 gw_13 rfl (vp_in_nI (N := 300) (by omega) (by omega)) d_M_find_170 ?_
                    rw [nI_clamp (n := k) (by omega)]
                    refine lv_icmp_ge (tgt := 230) hx hb d_M_find_171 (by decide) (fun c_171''' => ?_) (fun c_171''' => absurd (hLe k hlt_k) c_171''')
                    have hl := lv_sub (l' := [(0, .ref (ad 10)), (1, .int kp), (2, .int ((it (mJs kp a k) ((a 4 k).toNatClampNeg) (it (mK kp a) k (fd, 0))).2)), (3, .int (nI k))]) hl [0, 1, 2, 3] rfl
                    exact kx _ _ ls hP hD hS hl
                  | succ rem ih =>
                    intro j H locs ls hir_j hinv_j hP hD hS hl kx
                    have hlt_j : j < (a 4 k).toNatClampNeg := by omega
                    refine lv_iload hx hb d_M_find_163 (lv_at hl 4 rfl) ?_
                    refine lv_aload_n hx hb d_M_find_165 rfl (lv_at hl 0 rfl) ?_
                    refine va_get (D := D) (ci := 3) (v := .ref (ad 13)) (C := R_M) (T := F_M) (N := 16) hx hb hts (fun w h => kS1 w (i_M w h)) hown hK hP 10 gw_10 rfl 4 (by decide) (hts _ (kS1 _ m_M_17)) (fun _ h9 => h9) rfl d_M_find_166 ?_
                    refine lv_iload_n hx hb d_M_find_169 rfl (lv_at hl 3 rfl) ?_
                    refine va_iald (f := a 4) hx hb hK hP 13 0 gw_13 rfl (vp_in_nI (N := 300) (by omega) (by omega)) d_M_find_170 ?_
                    rw [nI_clamp (n := k) (by omega)]
                    refine lv_icmp_ge (tgt := 230) hx hb d_M_find_171 (by decide) (fun c_171''' => absurd c_171''' (hLt k hlt_k hlt_j)) (fun c_171''' => ?_)
                    refine lv_aload_n hx hb d_M_find_174 rfl (lv_at hl 0 rfl) ?_
                    refine va_get (D := D) (ci := 3) (v := .ref (ad 19)) (C := R_M) (T := F_M) (N := 16) hx hb hts (fun w h => kS1 w (i_M w h)) hown hK hP 10 gw_10 rfl 14 (by decide) (hts _ (kS1 _ m_M_35)) (fun _ h9 => h9) rfl d_M_find_175 ?_
                    refine lv_iload_n hx hb d_M_find_178 rfl (lv_at hl 3 rfl) ?_
                    refine va_zald (f := (it (mJs kp a k) j (it (mK kp a) k (fd, 0))).1) hx hb hK hP 19 1 gw_19 rfl (vp_in_nI (N := 300) (by omega) (by omega)) d_M_find_179 ?_
                    rw [nI_clamp (n := k) (by omega)]
                    refine lv_if_eq (tgt := 230) hx hb d_M_find_180 (by decide) (fun c_180''' => absurd c_180''' (mJs_keep hfk)) (fun c_180''' => ?_)
                    have hj12 := hL12 k hlt_k hlt_j
                    refine lv_aload_n hx hb d_M_find_183 rfl (lv_at hl 0 rfl) ?_
                    refine va_get (D := D) (ci := 3) (v := .ref (ad 14)) (C := R_M) (T := F_M) (N := 16) hx hb hts (fun w h => kS1 w (i_M w h)) hown hK hP 10 gw_10 rfl 5 (by decide) (hts _ (kS1 _ m_M_20)) (fun _ h9 => h9) rfl d_M_find_184 ?_
                    refine lv_bipush (v := 12) hx hb d_M_find_187 (by decide) ?_
                    refine lv_iload_n hx hb d_M_find_189 rfl (lv_at hl 3 rfl) ?_
                    refine lv_imul hx hb d_M_find_190 ?_
                    refine lv_iload hx hb d_M_find_191 (lv_at hl 4 rfl) ?_
                    refine lv_iadd hx hb d_M_find_193 ?_
                    refine va_iald (f := a 5) hx hb hK hP 14 0 gw_14 rfl (k12i (by omega) (hL12 k hlt_k hlt_j)) d_M_find_194 ?_
                    rw [k12c (k := k) (j := j) (by omega) (by omega)]
                    refine lv_iconst (v := 1) hx hb d_M_find_195 (by decide) ?_
                    refine lv_isub hx hb d_M_find_196 ?_
                    refine lv_istore (lv' := [(5, .int (((a 5) (12 * k + j)) - 1)), (0, .ref (ad 10)), (1, .int kp), (2, .int ((it (mJs kp a k) j (it (mK kp a) k (fd, 0))).2)), (3, .int (nI k)), (4, .int (nI j))]) hx hb d_M_find_197 hl (by decide) rfl (fun ls hl => ?_)
                    refine lv_iload hx hb d_M_find_199 (lv_at hl 0 rfl) ?_
                    refine lv_if_lt (tgt := 224) hx hb d_M_find_201 (by decide) (fun c_201''' => ?_) (fun c_201''' => ?_)
                    · refine lv_iinc (v := nI j + 1) (lv' := [(4, .int (nI j + 1)), (5, .int (((a 5) (12 * k + j)) - 1)), (0, .ref (ad 10)), (1, .int kp), (2, .int ((it (mJs kp a k) j (it (mK kp a) k (fd, 0))).2)), (3, .int (nI k))]) hx hb d_M_find_224 hl (k := 5) rfl rfl (by decide) rfl (fun ls hl => ?_)
                      refine lv_goto (tgt := 163) hx hb d_M_find_227 (by decide) ?_
                      have hl := lv_sub (l' := [(0, .ref (ad 10)), (1, .int kp), (2, .int ((it (mJs kp a k) j (it (mK kp a) k (fd, 0))).2)), (3, .int (nI k)), (4, .int (nI j + 1))]) hl [2, 3, 4, 5, 0] rfl
                      have hqq9 : (.int ((it (mJs kp a k) j (it (mK kp a) k (fd, 0))).2) : Value) = .int ((it (mJs kp a k) (j + 1) (it (mK kp a) k (fd, 0))).2) := by rw [it_s, mJs, if_neg (by omega), mJ]; simp [kb1, c_171''', c_180''', c_201''']
                      rw [hqq9] at hl
                      have hqq9 : (.int (nI j + 1) : Value) = .int (nI (j + 1)) := by rw [nI_1]
                      rw [hqq9] at hl
                      have hE : (gW n ty ad f th rt qu b w T g (va_up a 14 ((it (mJs kp a k) j (it (mK kp a) k (fd, 0))).1)) o : va_W) = gW n ty ad f th rt qu b w T g (va_up a 14 ((it (mJs kp a k) (j + 1) (it (mK kp a) k (fd, 0))).1)) o := by rw [it_s, mJs, if_neg (by omega), mJ]; simp [kb1, c_171''', c_180''', c_201''']
                      have hP := kw_P hE hP
                      have hD := kw_D hE hD
                      exact ih (j + 1) _ _ ls (by omega) (by omega) hP hD hS hl kx
                    · refine lv_aload_n hx hb d_M_find_204 rfl (lv_at hl 1 rfl) ?_
                      refine va_get (D := D) (ci := 3) (v := .ref (ad 19)) (C := R_M) (T := F_M) (N := 16) hx hb hts (fun w h => kS1 w (i_M w h)) hown hK hP 10 gw_10 rfl 14 (by decide) (hts _ (kS1 _ m_M_35)) (fun _ h9 => h9) rfl d_M_find_205 ?_
                      refine lv_iload hx hb d_M_find_208 (lv_at hl 0 rfl) ?_
                      refine va_zald (f := (it (mJs kp a k) j (it (mK kp a) k (fd, 0))).1) hx hb hK hP 19 1 gw_19 rfl (kin5 (hF (12 * k + j) (by have := hL12 k hlt_k hlt_j; omega)) c_201''') d_M_find_210 ?_
                      refine lv_if_ne (tgt := 224) hx hb d_M_find_211 (by decide) (fun c_211''' => ?_) (fun c_211''' => ?_)
                      · refine lv_iinc (v := nI j + 1) (lv' := [(4, .int (nI j + 1)), (5, .int (((a 5) (12 * k + j)) - 1)), (0, .ref (ad 10)), (1, .int kp), (2, .int ((it (mJs kp a k) j (it (mK kp a) k (fd, 0))).2)), (3, .int (nI k))]) hx hb d_M_find_224 hl (k := 5) rfl rfl (by decide) rfl (fun ls hl => ?_)
                        refine lv_goto (tgt := 163) hx hb d_M_find_227 (by decide) ?_
                        have hl := lv_sub (l' := [(0, .ref (ad 10)), (1, .int kp), (2, .int ((it (mJs kp a k) j (it (mK kp a) k (fd, 0))).2)), (3, .int (nI k)), (4, .int (nI j + 1))]) hl [2, 3, 4, 5, 0] rfl
                        have hqq9 : (.int ((it (mJs kp a k) j (it (mK kp a) k (fd, 0))).2) : Value) = .int ((it (mJs kp a k) (j + 1) (it (mK kp a) k (fd, 0))).2) := by rw [it_s, mJs, if_neg (by omega), mJ]; simp [kb1, c_171''', c_180''', c_201''', c_211''']
                        rw [hqq9] at hl
                        have hqq9 : (.int (nI j + 1) : Value) = .int (nI (j + 1)) := by rw [nI_1]
                        rw [hqq9] at hl
                        have hE : (gW n ty ad f th rt qu b w T g (va_up a 14 ((it (mJs kp a k) j (it (mK kp a) k (fd, 0))).1)) o : va_W) = gW n ty ad f th rt qu b w T g (va_up a 14 ((it (mJs kp a k) (j + 1) (it (mK kp a) k (fd, 0))).1)) o := by rw [it_s, mJs, if_neg (by omega), mJ]; simp [kb1, c_171''', c_180''', c_201''', c_211''']
                        have hP := kw_P hE hP
                        have hD := kw_D hE hD
                        exact ih (j + 1) _ _ ls (by omega) (by omega) hP hD hS hl kx
                      · refine lv_aload_n hx hb d_M_find_214 rfl (lv_at hl 1 rfl) ?_
                        refine va_get (D := D) (ci := 3) (v := .ref (ad 19)) (C := R_M) (T := F_M) (N := 16) hx hb hts (fun w h => kS1 w (i_M w h)) hown hK hP 10 gw_10 rfl 14 (by decide) (hts _ (kS1 _ m_M_35)) (fun _ h9 => h9) rfl d_M_find_215 ?_
                        refine lv_iload hx hb d_M_find_218 (lv_at hl 0 rfl) ?_
                        refine lv_iconst (v := 1) hx hb d_M_find_220 (by decide) ?_
                        refine va_zast (f := (it (mJs kp a k) j (it (mK kp a) k (fd, 0))).1) hx hb hK hP hD hS 19 1 gw_19 rfl (kin5 (hF (12 * k + j) (by have := hL12 k hlt_k hlt_j; omega)) c_201''') d_M_find_221 (fun H locs hP hD hS => ?_)
                        have hP := kw_P ((gw_sa14 (r := upd ((it (mJs kp a k) j (it (mK kp a) k (fd, 0))).1) ((((a 5) (12 * k + j)) - 1).toNatClampNeg) (vp_nar .boolean 1))).trans (by rw [bx_uu])) hP
                        have hD := kw_D ((gw_sa14 (r := upd ((it (mJs kp a k) j (it (mK kp a) k (fd, 0))).1) ((((a 5) (12 * k + j)) - 1).toNatClampNeg) (vp_nar .boolean 1))).trans (by rw [bx_uu])) hD
                        refine lv_iconst (v := 1) hx hb d_M_find_222 (by decide) ?_
                        refine lv_istore_n (lv' := [(2, .int 1), (5, .int (((a 5) (12 * k + j)) - 1)), (0, .ref (ad 10)), (1, .int kp), (3, .int (nI k)), (4, .int (nI j))]) hx hb d_M_find_223 rfl hl (by decide) rfl (fun ls hl => ?_)
                        refine lv_iinc (v := nI j + 1) (lv' := [(4, .int (nI j + 1)), (2, .int 1), (5, .int (((a 5) (12 * k + j)) - 1)), (0, .ref (ad 10)), (1, .int kp), (3, .int (nI k))]) hx hb d_M_find_224 hl (k := 5) rfl rfl (by decide) rfl (fun ls hl => ?_)
                        refine lv_goto (tgt := 163) hx hb d_M_find_227 (by decide) ?_
                        have hl := lv_sub (l' := [(0, .ref (ad 10)), (1, .int kp), (2, .int 1), (3, .int (nI k)), (4, .int (nI j + 1))]) hl [3, 4, 1, 5, 0] rfl
                        have hqq9 : (.int 1 : Value) = .int ((it (mJs kp a k) (j + 1) (it (mK kp a) k (fd, 0))).2) := by rw [it_s, mJs, if_neg (by omega), mJ]; simp [kb1, c_171''', c_180''', c_201''', c_211''']
                        rw [hqq9] at hl
                        have hqq9 : (.int (nI j + 1) : Value) = .int (nI (j + 1)) := by rw [nI_1]
                        rw [hqq9] at hl
                        have hE : (gW n ty ad f th rt qu b w T g (va_up a 14 (upd ((it (mJs kp a k) j (it (mK kp a) k (fd, 0))).1) ((((a 5) (12 * k + j)) - 1).toNatClampNeg) (vp_nar .boolean 1))) o : va_W) = gW n ty ad f th rt qu b w T g (va_up a 14 ((it (mJs kp a k) (j + 1) (it (mK kp a) k (fd, 0))).1)) o := by rw [it_s, mJs, if_neg (by omega), mJ]; simp [kb1, c_171''', c_180''', c_201''', c_211''']
                        have hP := kw_P hE hP
                        have hD := kw_D hE hD
                        exact ih (j + 1) _ _ ls (by omega) (by omega) hP hD hS hl kx
                have hl := lv_sub (l' := [(0, .ref (ad 10)), (1, .int kp), (2, .int ((it (mK kp a) k (fd, 0)).2)), (3, .int (nI k)), (4, .int 1)]) hl [1, 2, 3, 4, 0] rfl
                have hqq9 : (.int ((it (mK kp a) k (fd, 0)).2) : Value) = .int ((it (mJs kp a k) 1 (it (mK kp a) k (fd, 0))).2) := by simp [it, mJs, mS, c_139'', c_149'', c_153'']
                rw [hqq9] at hl
                have hqq9 : (.int 1 : Value) = .int (nI 1) := by rfl
                rw [hqq9] at hl
                have hE : (gW n ty ad f th rt qu b w T g (va_up a 14 ((it (mK kp a) k (fd, 0)).1)) o : va_W) = gW n ty ad f th rt qu b w T g (va_up a 14 ((it (mJs kp a k) 1 (it (mK kp a) k (fd, 0))).1)) o := by simp [it, mJs, mS, c_139'', c_149'', c_153'']
                have hP := kw_P hE hP
                have hD := kw_D hE hD
                refine L5 _ ((a 4 k).toNatClampNeg - 1) 1 _ _ ls (by have := hW1 k hlt_k c_149''; omega) (by simp [mS, c_139'', c_149'', c_153'']) hP hD hS hl (fun H locs ls hP hD hS hl => ?_)
                refine lv_iinc (v := nI k + 1) (lv' := [(3, .int (nI k + 1)), (0, .ref (ad 10)), (1, .int kp), (2, .int ((it (mJs kp a k) ((a 4 k).toNatClampNeg) (it (mK kp a) k (fd, 0))).2))]) hx hb d_M_find_230 hl (k := 3) rfl rfl (by decide) rfl (fun ls hl => ?_)
                refine lv_goto (tgt := 134) hx hb d_M_find_233 (by decide) ?_
                have hl := lv_sub (l' := [(0, .ref (ad 10)), (1, .int kp), (2, .int ((it (mJs kp a k) ((a 4 k).toNatClampNeg) (it (mK kp a) k (fd, 0))).2)), (3, .int (nI k + 1))]) hl [1, 2, 3, 0] rfl
                have hqq9 : (.int ((it (mJs kp a k) ((a 4 k).toNatClampNeg) (it (mK kp a) k (fd, 0))).2) : Value) = .int ((it (mK kp a) (k + 1) (fd, 0)).2) := by rw [it_s, mK, if_neg hfk]
                rw [hqq9] at hl
                have hqq9 : (.int (nI k + 1) : Value) = .int (nI (k + 1)) := by rw [nI_1]
                rw [hqq9] at hl
                have hE : (gW n ty ad f th rt qu b w T g (va_up a 14 ((it (mJs kp a k) ((a 4 k).toNatClampNeg) (it (mK kp a) k (fd, 0))).1)) o : va_W) = gW n ty ad f th rt qu b w T g (va_up a 14 ((it (mK kp a) (k + 1) (fd, 0)).1)) o := by rw [it_s, mK, if_neg hfk]
                have hP := kw_P hE hP
                have hD := kw_D hE hD
                exact ih (k + 1) _ _ ls (by omega) hP hD hS hl kx
      have hl := lv_sub (l' := [(0, .ref (ad 10)), (1, .int kp), (2, .int 0), (3, .int 0)]) hl [2, 3, 1, 0] rfl
      have hqq9 : (.int 0 : Value) = .int (nI 0) := by rw [nI_0]
      rw [hqq9] at hl
      refine L4 _ (n - 0) 0 _ _ ls (by omega) hP hD hS hl (fun H locs ls hP hD hS hl => ?_)
      refine lv_goto (tgt := 126) hx hb d_M_find_236 (by decide) ?_
      refine lv_iload_n hx hb d_M_find_126 rfl (lv_at hl 2 rfl) ?_
      refine lv_if_eq (tgt := 239) hx hb d_M_find_127 (by decide) (fun c_127' => ?_) (fun c_127' => ?_)
      · have hl := lv_sub (l' := [(0, .ref (ad 10)), (1, .int kp)]) hl [0, 1] rfl
        have hE : (gW n ty ad f th rt qu b w T g (va_up a 14 ((it (mK kp a) n (fd, 0)).1)) o : va_W) = gW n ty ad f th rt qu b w T g (va_up a 14 (mW kp a n (fu + 1) fd)) o := by rw [mW, if_pos c_127']
        exact kx _ _ ls (kw_P hE hP) (kw_D hE hD) hS hl
      · have hl := lv_sub (l' := [(0, .ref (ad 10)), (1, .int kp)]) hl [0, 1] rfl
        have hE : (gW n ty ad f th rt qu b w T g (va_up a 14 (mW kp a n fu (it (mK kp a) n (fd, 0)).1)) o : va_W) = gW n ty ad f th rt qu b w T g (va_up a 14 (mW kp a n (fu + 1) fd)) o := by rw [mW, if_neg c_127']
        exact ih _ _ _ ls (by have := mP_grow (kp := kp) (n := n) (fd := fd) hF hL hn3 c_127'; omega) hP hD hS hl (fun H locs ls hP hD hS hl => kx H locs ls (kw_P hE hP) (kw_D hE hD) hS hl)
  have hl := lv_sub (l' := [(0, .ref (ad 10)), (1, .int kp)]) hl [1, 2] rfl
  refine L6 _ 301 _ _ _ ls (by omega) hP hD hS hl (fun H locs ls hP hD hS hl => ?_)
  refine lv_iconst (v := 0) hx hb d_M_find_239 (by decide) ?_
  refine lv_istore_n (lv' := [(3, .int 0), (0, .ref (ad 10)), (1, .int kp)]) hx hb d_M_find_240 rfl hl (by decide) rfl (fun ls hl => ?_)
  refine lv_iconst (v := 0) hx hb d_M_find_241 (by decide) ?_
  refine lv_istore (lv' := [(4, .int 0), (3, .int 0), (0, .ref (ad 10)), (1, .int kp)]) hx hb d_M_find_242 hl (by decide) rfl (fun ls hl => ?_)
  have L7 : ∀ (Q : State → Prop) (rem i : Nat) (H : Heap) (locs : List Loc) (ls : Array Slot), i + rem = n → va_P D kCl (gW n ty ad f th rt qu b w T g (va_up a 14 (mD kp a n q (a 14))) o) H → va_D A (gW n ty ad f th rt qu b w T g (va_up a 14 (mD kp a n q (a 14))) o) → va_S A s.heap H locs → lv_has ls 6 [(0, .ref (ad 10)), (3, .int (it (mC (mD kp a n q (a 14))) i 0)), (4, .int (nI i))] → (∀ (H : Heap) (locs : List Loc) (ls : Array Slot), va_P D kCl (gW n ty ad f th rt qu b w T g (va_up a 14 (mD kp a n q (a 14))) o) H → va_D A (gW n ty ad f th rt qu b w T g (va_up a 14 (mD kp a n q (a 14))) o) → va_S A s.heap H locs → lv_has ls 6 [(0, .ref (ad 10)), (3, .int (it (mC (mD kp a n q (a 14))) n 0))] → W p l e (headSpec w_M_find ({ frames := 0, cells := 0, slots := 0, locals := 0 })).room s m ([.ref (ad 10), .int kp] : List Value).toArray below meth cd H locs 0 0 Q (F0 m 277 ls [])) → W p l e (headSpec w_M_find ({ frames := 0, cells := 0, slots := 0, locals := 0 })).room s m ([.ref (ad 10), .int kp] : List Value).toArray below meth cd H locs 0 0 Q (F0 m 244 ls []) := by
    intro Q rem
    induction rem with
    | zero =>
      intro i H locs ls hir_i hP hD hS hl kx
      obtain rfl : n = i := by omega
      refine lv_iload hx hb d_M_find_244 (lv_at hl 2 rfl) ?_
      refine lv_aload_n hx hb d_M_find_246 rfl (lv_at hl 0 rfl) ?_
      refine va_get (D := D) (ci := 3) (v := .int (g 1)) (C := R_M) (T := F_M) (N := 16) hx hb hts (fun w h => kS1 w (i_M w h)) hown hK hP 10 gw_10 rfl 1 (by decide) (hts _ (kS1 _ m_M_45)) (fun _ h9 => h9) rfl d_M_find_247 ?_
      refine lv_icmp_ge (tgt := 277) hx hb d_M_find_250 (by decide) (fun c_250' => ?_) (fun c_250' => absurd (by rw [hg1]; exact nI_le (Nat.le_refl _) (by omega)) c_250')
      have hl := lv_sub (l' := [(0, .ref (ad 10)), (3, .int (it (mC (mD kp a n q (a 14))) n 0))]) hl [0, 1] rfl
      exact kx _ _ ls hP hD hS hl
    | succ rem ih =>
      intro i H locs ls hir_i hP hD hS hl kx
      have hlt_i : i < n := by omega
      refine lv_iload hx hb d_M_find_244 (lv_at hl 2 rfl) ?_
      refine lv_aload_n hx hb d_M_find_246 rfl (lv_at hl 0 rfl) ?_
      refine va_get (D := D) (ci := 3) (v := .int (g 1)) (C := R_M) (T := F_M) (N := 16) hx hb hts (fun w h => kS1 w (i_M w h)) hown hK hP 10 gw_10 rfl 1 (by decide) (hts _ (kS1 _ m_M_45)) (fun _ h9 => h9) rfl d_M_find_247 ?_
      refine lv_icmp_ge (tgt := 277) hx hb d_M_find_250 (by decide) (fun c_250' => absurd c_250' (by rw [hg1]; exact nI_ge hlt_i (by omega))) (fun c_250' => ?_)
      refine lv_aload_n hx hb d_M_find_253 rfl (lv_at hl 0 rfl) ?_
      refine va_get (D := D) (ci := 3) (v := .ref (ad 19)) (C := R_M) (T := F_M) (N := 16) hx hb hts (fun w h => kS1 w (i_M w h)) hown hK hP 10 gw_10 rfl 14 (by decide) (hts _ (kS1 _ m_M_35)) (fun _ h9 => h9) rfl d_M_find_254 ?_
      refine lv_iload hx hb d_M_find_257 (lv_at hl 2 rfl) ?_
      refine va_zald (f := mD kp a n q (a 14)) hx hb hK hP 19 1 gw_19 rfl (vp_in_nI (N := 300) (by omega) (by omega)) d_M_find_259 ?_
      rw [nI_clamp (n := i) (by omega)]
      refine lv_if_eq (tgt := 269) hx hb d_M_find_260 (by decide) (fun c_260' => ?_) (fun c_260' => ?_)
      · refine lv_iload_n hx hb d_M_find_269 rfl (lv_at hl 1 rfl) ?_
        refine lv_istore_n (lv' := [(3, .int (it (mC (mD kp a n q (a 14))) i 0)), (0, .ref (ad 10)), (4, .int (nI i))]) hx hb d_M_find_270 rfl hl (by decide) rfl (fun ls hl => ?_)
        refine lv_iinc (v := nI i + 1) (lv' := [(4, .int (nI i + 1)), (3, .int (it (mC (mD kp a n q (a 14))) i 0)), (0, .ref (ad 10))]) hx hb d_M_find_271 hl (k := 2) rfl rfl (by decide) rfl (fun ls hl => ?_)
        refine lv_goto (tgt := 244) hx hb d_M_find_274 (by decide) ?_
        have hl := lv_sub (l' := [(0, .ref (ad 10)), (3, .int (it (mC (mD kp a n q (a 14))) i 0)), (4, .int (nI i + 1))]) hl [2, 1, 0] rfl
        have hqq9 : (.int (it (mC (mD kp a n q (a 14))) i 0) : Value) = .int (it (mC (mD kp a n q (a 14))) (i + 1) 0) := by rw [it_s, mC]; simp [c_250', c_260']
        rw [hqq9] at hl
        have hqq9 : (.int (nI i + 1) : Value) = .int (nI (i + 1)) := by rw [nI_1]
        rw [hqq9] at hl
        exact ih (i + 1) _ _ ls (by omega) hP hD hS hl kx
      · refine lv_iload_n hx hb d_M_find_263 rfl (lv_at hl 1 rfl) ?_
        refine lv_iconst (v := 1) hx hb d_M_find_264 (by decide) ?_
        refine lv_iadd hx hb d_M_find_265 ?_
        refine lv_goto (tgt := 270) hx hb d_M_find_266 (by decide) ?_
        refine lv_istore_n (lv' := [(3, .int ((it (mC (mD kp a n q (a 14))) i 0) + 1)), (0, .ref (ad 10)), (4, .int (nI i))]) hx hb d_M_find_270 rfl hl (by decide) rfl (fun ls hl => ?_)
        refine lv_iinc (v := nI i + 1) (lv' := [(4, .int (nI i + 1)), (3, .int ((it (mC (mD kp a n q (a 14))) i 0) + 1)), (0, .ref (ad 10))]) hx hb d_M_find_271 hl (k := 2) rfl rfl (by decide) rfl (fun ls hl => ?_)
        refine lv_goto (tgt := 244) hx hb d_M_find_274 (by decide) ?_
        have hl := lv_sub (l' := [(0, .ref (ad 10)), (3, .int ((it (mC (mD kp a n q (a 14))) i 0) + 1)), (4, .int (nI i + 1))]) hl [2, 1, 0] rfl
        have hqq9 : (.int ((it (mC (mD kp a n q (a 14))) i 0) + 1) : Value) = .int (it (mC (mD kp a n q (a 14))) (i + 1) 0) := by rw [it_s, mC]; simp [c_250', c_260']
        rw [hqq9] at hl
        have hqq9 : (.int (nI i + 1) : Value) = .int (nI (i + 1)) := by rw [nI_1]
        rw [hqq9] at hl
        exact ih (i + 1) _ _ ls (by omega) hP hD hS hl kx
  have hl := lv_sub (l' := [(0, .ref (ad 10)), (3, .int 0), (4, .int 0)]) hl [2, 1, 0] rfl
  have hqq9 : (.int 0 : Value) = .int (nI 0) := by rw [nI_0]
  rw [hqq9] at hl
  have hE : (gW n ty ad f th rt qu b w T g (va_up a 14 (mW kp a n 301 (it (mD3 a) q (it (mD2 a) 16 (it (mD1 kp a) n (a 14)))))) o : va_W) = gW n ty ad f th rt qu b w T g (va_up a 14 (mD kp a n q (a 14))) o := by rfl
  have hP := kw_P hE hP
  have hD := kw_D hE hD
  refine L7 _ (n - 0) 0 _ _ ls (by omega) hP hD hS hl (fun H locs ls hP hD hS hl => ?_)
  refine lv_iload_n hx hb d_M_find_277 rfl (lv_at hl 1 rfl) ?_
  have hu : (gW n ty ad f th rt qu b w T g (va_up a 14 (mD kp a n q (a 14))) o : va_W) = gW n ty ad f th rt qu b w T g (va_up a 14 (mD kp a n q (a 14))) o := by rfl
  have hv : (it (mC (mD kp a n q (a 14))) n 0 : Int32) = it (mC (mD kp a n q (a 14))) n 0 := by simp [c_127]
  exact W.iret (v := it (mC (mD kp a n q (a 14))) n 0) hx hb hr (fun t ht hW => ⟨⟨_, _, rfl, ⟨hv, hu⟩, by rw [ht]; exact hP, va_K.moved hW.alike hK, hD⟩, hS.F ht⟩) hS.2.2 d_M_find_278
