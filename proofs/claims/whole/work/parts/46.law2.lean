/-! Part 46: the law, about and count. -/
section LAW2
variable {p : Program} {l : Launch} {e : Env} {s : State} {m : MethodId} {below : List Frame} {meth : Method} {cd : Code} {b0 L : Nat} {xs : Nat → Int32} {A : Nat → Prop} {D : va_G} {ty : Nat → ClassId} {Q : State → Prop}
theorem i03 {x : Int32} (h : ¬ (x.toInt < 0 ∨ 3 < x.toInt)) : x = 0 ∨ x = 1 ∨ x = 2 ∨ x = 3 := by
  have h1 : x.toInt = 0 ∨ x.toInt = 1 ∨ x.toInt = 2 ∨ x.toInt = 3 := by omega
  rcases h1 with q | q | q | q
  · exact Or.inl (Int32.toInt_inj.mp q)
  · exact Or.inr (Or.inl (Int32.toInt_inj.mp q))
  · exact Or.inr (Or.inr (Or.inl (Int32.toInt_inj.mp q)))
  · exact Or.inr (Or.inr (Or.inr (Int32.toInt_inj.mp q)))
theorem i08 {x : Int32} (h : ¬ (x.toInt < 0 ∨ 8 < x.toInt)) : x = 0 ∨ x = 1 ∨ x = 2 ∨ x = 3 ∨ x = 4 ∨ x = 5 ∨ x = 6 ∨ x = 7 ∨ x = 8 := by
  have h1 : x.toInt = 0 ∨ x.toInt = 1 ∨ x.toInt = 2 ∨ x.toInt = 3 ∨ x.toInt = 4 ∨ x.toInt = 5 ∨ x.toInt = 6 ∨ x.toInt = 7 ∨ x.toInt = 8 := by omega
  rcases h1 with q | q | q | q | q | q | q | q | q
  · exact Or.inl (Int32.toInt_inj.mp q)
  · exact Or.inr (Or.inl (Int32.toInt_inj.mp q))
  · exact Or.inr (Or.inr (Or.inl (Int32.toInt_inj.mp q)))
  · exact Or.inr (Or.inr (Or.inr (Or.inl (Int32.toInt_inj.mp q))))
  · exact Or.inr (Or.inr (Or.inr (Or.inr (Or.inl (Int32.toInt_inj.mp q)))))
  · exact Or.inr (Or.inr (Or.inr (Or.inr (Or.inr (Or.inl (Int32.toInt_inj.mp q))))))
  · exact Or.inr (Or.inr (Or.inr (Or.inr (Or.inr (Or.inr (Or.inl (Int32.toInt_inj.mp q)))))))
  · exact Or.inr (Or.inr (Or.inr (Or.inr (Or.inr (Or.inr (Or.inr (Or.inl (Int32.toInt_inj.mp q))))))))
  · exact Or.inr (Or.inr (Or.inr (Or.inr (Or.inr (Or.inr (Or.inr (Or.inr (Int32.toInt_inj.mp q))))))))
theorem mAp_0 {x : Int32} (h : x.toInt < 0 ∨ 3 < x.toInt) : mAp x = 0 := by
  unfold mAp
  rcases h with h | h
  · rw [if_pos (Int32.lt_iff_toInt_lt.mpr h)]
  · by_cases q : x < 0
    · rw [if_pos q]
    · rw [if_neg q, if_pos (Int32.lt_iff_toInt_lt.mpr (by rw [show (3 : Int32).toInt = 3 from by decide]; exact h))]
theorem mCp_0 {x : Int32} (h : x.toInt < 0 ∨ 8 < x.toInt) : mCp x = 0 := by
  unfold mCp
  rcases h with h | h
  · rw [if_pos (Int32.lt_iff_toInt_lt.mpr h)]
  · by_cases q : x < 0
    · rw [if_pos q]
    · rw [if_neg q, if_pos (Int32.lt_iff_toInt_lt.mpr (by rw [show (8 : Int32).toInt = 8 from by decide]; exact h))]
theorem Inv.has {n s e : Nat} {f : Nat → Int32} {th : Nat → Bool} {rt qu : Nat → Int32} {T : Nat → TH} {g : Nat → Int32} {a : Nat → Nat → Int32} (h : Inv n s e f th rt qu T g a) {S : SR} {z : Nat} {kp : Int32} (hS : Sv S z) (hc : ∀ k, k < 300 → (S.1 k = 1 ↔ cl th T kp (sdX kp f rt qu th T) k)) {k : Nat} (hk : k < n) : sHas S (nI k) = if mD kp a n (e - s) (a 14) k = 0 then 0 else 1 := by
  have h1 := (h.same hS hc (a 14)).1 k hk
  rw [sHas_01 S (nI k)]
  by_cases q : sHas S (nI k) = 0
  · rw [if_pos q, if_pos (Classical.byContradiction (fun r => h1.mpr r q))]
  · rw [if_neg q, if_neg (h1.mp q)]
set_option maxHeartbeats 4000000 in
set_option maxRecDepth 100000 in
theorem law_about (C : lw_C p l s m cd b0 L xs A D ty) {c : Nat} (hc : 4 * c + 4 ≤ L) {cells slots : Nat} (hc1 : cells + 2 ≤ room_1.cells) (hs1 : slots + 16 ≤ room_1.slots) {n si ei : Nat} {ad : Nat → Nat} {f : Nat → Int32} {th : Nat → Bool} {rt qu : Nat → Int32} {b w : SR} {T : Nat → TH} {g : Nat → Int32} {a : Nat → Nat → Int32} {o : Nat → Int64} {H : Heap} {locs : List Loc} {ls : Array Slot} (hI : Inv n si ei f th rt qu T g a) (h10 : f 10 = g 11) (hP : va_P D kCl (gW n ty ad f th rt qu b w T g a o) H) (hD : va_D A (gW n ty ad f th rt qu b w T g a o)) (hS : va_S A s.heap H locs) (hl : lv_has ls 7 [(4, .int (nI (4 * c))), (3, .ref (ad 21)), (2, .ref (ad 10)), (1, .ref (ad 0)), (0, .ref b0)])
    (kk : ∀ {n si ei : Nat} {ad : Nat → Nat} {f : Nat → Int32} {th : Nat → Bool} {rt qu : Nat → Int32} {b w : SR} {T : Nat → TH} {g : Nat → Int32} {a : Nat → Nat → Int32} {o : Nat → Int64} {H : Heap} {locs : List Loc} {ls : Array Slot}, Inv n si ei f th rt qu T g a → f 10 = g 11 → va_P D kCl (gW n ty ad f th rt qu b w T g a o) H → va_D A (gW n ty ad f th rt qu b w T g a o) → va_S A s.heap H locs → lv_has ls 7 [(4, .int (nI (4 * c))), (3, .ref (ad 21)), (2, .ref (ad 10)), (1, .ref (ad 0)), (0, .ref b0)] → W p l e room_1 s m #[Value.ref b0] below meth cd H locs (cells + 2) (slots + 16) Q (F0 m 655 ls [])) : W p l e room_1 s m #[Value.ref b0] below meth cd H locs cells slots Q (F0 m 531 ls []) := by
  obtain ⟨hx, hb, hml, hown, hts, hK, hX, hbl, hbA, hA, hY, htr, hL⟩ := C
  obtain ⟨x1, e1⟩ : ∃ z, xs (4 * c + 1) = z := ⟨_, rfl⟩
  obtain ⟨x2, e2⟩ : ∃ z, xs (4 * c + 2) = z := ⟨_, rfl⟩
  have hn := hI.hn
  have hn3 := hI.n3
  have hg1 := hI.g1
  have h12 := hI.l12
  by_cases h1 : tOk th x1 = true
  · obtain ⟨k, hk3, rfl, hk⟩ := tOk_k h1
    by_cases h2 : x2.toInt < 0 ∨ 3 < x2.toInt
    · have hq0 : ¬ mI g a (nI k) = 0 := (hI.tI _).mpr h1
      have hq1 := mAp_0 h2
      refine lv_aload_n hx hb d_L_law_531 rfl (lv_at hl 3 rfl) ?_
      refine lv_aload_n hx hb d_L_law_532 rfl (lv_at hl 4 rfl) ?_
      refine lv_iload hx hb d_L_law_533 (lv_at hl 0 rfl) ?_
      refine lv_iconst (v := 1) hx hb d_L_law_535 (by decide) ?_
      refine lv_iadd hx hb d_L_law_536 ?_
      refine va_sld hx hb hX hbl hbA hS (lxi1 hc hL) d_L_law_537 ?_
      rw [lx1 hc hL, e1]
      refine lv_aload_n hx hb d_L_law_538 rfl (lv_at hl 4 rfl) ?_
      refine lv_iload hx hb d_L_law_539 (lv_at hl 0 rfl) ?_
      refine lv_iconst (v := 2) hx hb d_L_law_541 (by decide) ?_
      refine lv_iadd hx hb d_L_law_542 ?_
      refine va_sld hx hb hX hbl hbA hS (lxi2 hc hL) d_L_law_543 ?_
      rw [lx2 hc hL, e2]
      refine lv_aload_n hx hb d_L_law_544 rfl (lv_at hl 1 rfl) ?_
      refine kc_i (vx_runSW (As := [.ref (ad 0), .int (nI k), .int x2, .ref (ad 21)]) (rest := []) ⟨hx, hb, hml, hown, hts⟩ (c_L_about_y l D ty ad _ n f th rt qu b w T g a o hn hn3 k x2 hk h2 htr) (vx_cwSW 4 hts (kGS kS1 m_L_85 m_st_L_about m_ini_L m_code_L_about) rfl rfl rfl (by decide +kernel) ⟨Nat.le_of_ble_eq_true rfl, Nat.le_of_ble_eq_true rfl⟩) ⟨kPY_blind, fun U hU hW => ⟨rfl, kP_at hK hP hD U hU hW, hY.at hS (kA_free hD hS hA) U hU hW⟩⟩ rfl rfl hl.1 rfl (lv_room (Nat.le_of_ble_eq_true rfl)) d_L_law_545 ⟨(by show _ ≤ room_1.cells; omega), (by show _ ≤ room_1.slots; omega)⟩) hD hS hA (fun r u H locs hu hP hD hS hz => ?_)
      obtain ⟨rfl, rfl⟩ := hu
      refine lv_istore (lv' := [(5, .int 2), (4, .int (nI (4 * c))), (3, .ref (ad 21)), (2, .ref (ad 10)), (1, .ref (ad 0)), (0, .ref b0)]) hx hb d_L_law_548 hl (by decide) rfl (fun ls hl => ?_)
      refine lv_aload_n hx hb d_L_law_550 rfl (lv_at hl 3 rfl) ?_
      refine lv_aload_n hx hb d_L_law_551 rfl (lv_at hl 5 rfl) ?_
      refine lv_iload hx hb d_L_law_552 (lv_at hl 1 rfl) ?_
      refine lv_iconst (v := 1) hx hb d_L_law_554 (by decide) ?_
      refine lv_iadd hx hb d_L_law_555 ?_
      refine va_sld hx hb hX hbl hbA hS (lxi1 hc hL) d_L_law_556 ?_
      rw [lx1 hc hL, e1]
      refine lv_aload_n hx hb d_L_law_557 rfl (lv_at hl 5 rfl) ?_
      refine lv_iload hx hb d_L_law_558 (lv_at hl 1 rfl) ?_
      refine lv_iconst (v := 2) hx hb d_L_law_560 (by decide) ?_
      refine lv_iadd hx hb d_L_law_561 ?_
      refine va_sld hx hb hX hbl hbA hS (lxi2 hc hL) d_L_law_562 ?_
      rw [lx2 hc hL, e2]
      refine kc_i (va_runV (As := [.int (nI k), .int x2]) (rest := []) ⟨hx, hb, hml, hown, hts⟩ (c_M_about_n l D ty ad _ n f th rt qu b w T g a o hg1 hn3 (ei - si) hI.g9 hI.q3 hI.hL hI.hR hI.hQ hI.hF hI.hW1 (nI k) x2 (mG_y hq1)) (cwV 2 hts (kGV kS1 m_L_87 m_im_M_about m_sel_M_about m_ini_M m_code_M_about) rfl rfl rfl (by decide +kernel) ⟨Nat.le_of_ble_eq_true rfl, Nat.le_of_ble_eq_true rfl⟩) ⟨kP_blind, va_recv hK hP (ci := 3) (q0 := 10) rfl gw_10, fun U hU hW => ⟨rfl, kP_at hK hP hD U hU hW⟩⟩ rfl rfl hl.1 rfl (lv_room (Nat.le_of_ble_eq_true rfl)) d_L_law_563 ⟨(by show _ ≤ room_1.cells; omega), (by show _ ≤ room_1.slots; omega)⟩) hD hS hA (fun r2 u H locs hu hP hD hS hz => ?_)
      obtain ⟨hr2, rfl⟩ := hu
      obtain ⟨g2, hg2⟩ : ∃ z, z = upd g 0 (mT (mI g a (nI k)) (mAp x2)) := ⟨_, rfl⟩
      rw [← hg2] at hP hD
      refine lv_istore (lv' := [(6, .int r2), (5, .int 2), (4, .int (nI (4 * c))), (3, .ref (ad 21)), (2, .ref (ad 10)), (1, .ref (ad 0)), (0, .ref b0)]) hx hb d_L_law_566 hl (by decide) rfl (fun ls hl => ?_)
      refine lv_aload_n hx hb d_L_law_568 rfl (lv_at hl 4 rfl) ?_
      refine kc_R (va_runV (As := []) (rest := []) ⟨hx, hb, hml, hown, hts⟩ (c_M_thrown l D ty ad _ n f th rt qu b w T g2 a o) (cwV 0 hts (kGV kS1 m_L_52 m_im_M_thrown m_sel_M_thrown m_ini_M m_code_M_thrown) rfl rfl rfl (by decide +kernel) ⟨Nat.le_of_ble_eq_true rfl, Nat.le_of_ble_eq_true rfl⟩) ⟨kP_blind, va_recv hK hP (ci := 3) (q0 := 10) rfl gw_10, fun U hU hW => ⟨rfl, kP_at hK hP hD U hU hW⟩⟩ rfl rfl hl.1 rfl (lv_room (Nat.le_of_ble_eq_true rfl)) d_L_law_569 ⟨(by show _ ≤ room_1.cells; omega), (by show _ ≤ room_1.slots; omega)⟩) ?_
      refine lv_iload hx hb d_L_law_572 (lv_at hl 1 rfl) ?_
      refine lv_icmp_eq (tgt := 579) hx hb d_L_law_574 (by decide) (fun c_574 => ?_) (fun c_574 => absurd (by rw [hg2]; exact mT_2 hq0 hq1) c_574)
      refine lv_iload hx hb d_L_law_579 (lv_at hl 1 rfl) ?_
      refine lv_if_ne (tgt := 596) hx hb d_L_law_581 (by decide) (fun c_581 => ?_) (fun c_581 => absurd c_581 (by decide))
      refine lv_goto (tgt := 655) hx hb d_L_law_596 (by decide) ?_
      have hl := lv_sub (l' := [(4, .int (nI (4 * c))), (3, .ref (ad 21)), (2, .ref (ad 10)), (1, .ref (ad 0)), (0, .ref b0)]) hl [2, 3, 4, 5, 6] rfl
      have hI2 : Inv n si ei f th rt qu T g2 a := by rw [hg2]; exact hI
      have h12 : f 10 = g2 11 := by rw [hg2]; exact h10
      refine W.widen (k := cells + 2) (n := slots + 16) (by omega) (by omega) ?_
      exact kk hI2 h12 hP hD hS hl
    · rcases i03 h2 with rfl | rfl | rfl | rfl
      · have hq0 : ¬ mI g a (nI k) = 0 := (hI.tI _).mpr h1
        have hans : (T k).1 = a 3 k := (hI.a3 k (hn k hk)).symm
        refine lv_aload_n hx hb d_L_law_531 rfl (lv_at hl 3 rfl) ?_
        refine lv_aload_n hx hb d_L_law_532 rfl (lv_at hl 4 rfl) ?_
        refine lv_iload hx hb d_L_law_533 (lv_at hl 0 rfl) ?_
        refine lv_iconst (v := 1) hx hb d_L_law_535 (by decide) ?_
        refine lv_iadd hx hb d_L_law_536 ?_
        refine va_sld hx hb hX hbl hbA hS (lxi1 hc hL) d_L_law_537 ?_
        rw [lx1 hc hL, e1]
        refine lv_aload_n hx hb d_L_law_538 rfl (lv_at hl 4 rfl) ?_
        refine lv_iload hx hb d_L_law_539 (lv_at hl 0 rfl) ?_
        refine lv_iconst (v := 2) hx hb d_L_law_541 (by decide) ?_
        refine lv_iadd hx hb d_L_law_542 ?_
        refine va_sld hx hb hX hbl hbA hS (lxi2 hc hL) d_L_law_543 ?_
        rw [lx2 hc hL, e2]
        refine lv_aload_n hx hb d_L_law_544 rfl (lv_at hl 1 rfl) ?_
        refine kc_i (vx_runSW (As := [.ref (ad 0), .int (nI k), .int 0, .ref (ad 21)]) (rest := []) ⟨hx, hb, hml, hown, hts⟩ (c_L_about_0 l D ty ad _ n f th rt qu b w T g a o hn hn3 h12 k hk) (vx_cwSW 4 hts (kGS kS1 m_L_85 m_st_L_about m_ini_L m_code_L_about) rfl rfl rfl (by decide +kernel) ⟨Nat.le_of_ble_eq_true rfl, Nat.le_of_ble_eq_true rfl⟩) ⟨kP_blind, fun U hU hW => ⟨rfl, kP_at hK hP hD U hU hW⟩⟩ rfl rfl hl.1 rfl (lv_room (Nat.le_of_ble_eq_true rfl)) d_L_law_545 ⟨(by show _ ≤ room_1.cells; omega), (by show _ ≤ room_1.slots; omega)⟩) hD hS hA (fun r u H locs hu hP hD hS hz => ?_)
        obtain ⟨rfl, rfl⟩ := hu
        obtain ⟨o2, ho2⟩ : ∃ z, z = vp_updL o 0 ((T k).1).toInt64 := ⟨_, rfl⟩
        rw [← ho2] at hP hD
        refine lv_istore (lv' := [(5, .int 0), (4, .int (nI (4 * c))), (3, .ref (ad 21)), (2, .ref (ad 10)), (1, .ref (ad 0)), (0, .ref b0)]) hx hb d_L_law_548 hl (by decide) rfl (fun ls hl => ?_)
        refine lv_aload_n hx hb d_L_law_550 rfl (lv_at hl 3 rfl) ?_
        refine lv_aload_n hx hb d_L_law_551 rfl (lv_at hl 5 rfl) ?_
        refine lv_iload hx hb d_L_law_552 (lv_at hl 1 rfl) ?_
        refine lv_iconst (v := 1) hx hb d_L_law_554 (by decide) ?_
        refine lv_iadd hx hb d_L_law_555 ?_
        refine va_sld hx hb hX hbl hbA hS (lxi1 hc hL) d_L_law_556 ?_
        rw [lx1 hc hL, e1]
        refine lv_aload_n hx hb d_L_law_557 rfl (lv_at hl 5 rfl) ?_
        refine lv_iload hx hb d_L_law_558 (lv_at hl 1 rfl) ?_
        refine lv_iconst (v := 2) hx hb d_L_law_560 (by decide) ?_
        refine lv_iadd hx hb d_L_law_561 ?_
        refine va_sld hx hb hX hbl hbA hS (lxi2 hc hL) d_L_law_562 ?_
        rw [lx2 hc hL, e2]
        refine kc_i (va_runV (As := [.int (nI k), .int 0]) (rest := []) ⟨hx, hb, hml, hown, hts⟩ (c_M_about_0 l D ty ad _ n f th rt qu b w T g a o2 hg1 hn3 (ei - si) hI.g9 hI.q3 hI.hL hI.hR hI.hQ hI.hF hI.hW1 (nI k) (mG_z hq0 k10)) (cwV 2 hts (kGV kS1 m_L_87 m_im_M_about m_sel_M_about m_ini_M m_code_M_about) rfl rfl rfl (by decide +kernel) ⟨Nat.le_of_ble_eq_true rfl, Nat.le_of_ble_eq_true rfl⟩) ⟨kP_blind, va_recv hK hP (ci := 3) (q0 := 10) rfl gw_10, fun U hU hW => ⟨rfl, kP_at hK hP hD U hU hW⟩⟩ rfl rfl hl.1 rfl (lv_room (Nat.le_of_ble_eq_true rfl)) d_L_law_563 ⟨(by show _ ≤ room_1.cells; omega), (by show _ ≤ room_1.slots; omega)⟩) hD hS hA (fun r2 u H locs hu hP hD hS hz => ?_)
        obtain ⟨hr2, rfl⟩ := hu
        rw [nI_clamp (show k < 2 ^ 31 by omega)] at hr2
        obtain ⟨g2, hg2⟩ : ∃ z, z = upd g 0 (mT (mI g a (nI k)) 1) := ⟨_, rfl⟩
        rw [← hg2] at hP hD
        refine lv_istore (lv' := [(6, .int r2), (5, .int 0), (4, .int (nI (4 * c))), (3, .ref (ad 21)), (2, .ref (ad 10)), (1, .ref (ad 0)), (0, .ref b0)]) hx hb d_L_law_566 hl (by decide) rfl (fun ls hl => ?_)
        refine lv_aload_n hx hb d_L_law_568 rfl (lv_at hl 4 rfl) ?_
        refine kc_R (va_runV (As := []) (rest := []) ⟨hx, hb, hml, hown, hts⟩ (c_M_thrown l D ty ad _ n f th rt qu b w T g2 a o2) (cwV 0 hts (kGV kS1 m_L_52 m_im_M_thrown m_sel_M_thrown m_ini_M m_code_M_thrown) rfl rfl rfl (by decide +kernel) ⟨Nat.le_of_ble_eq_true rfl, Nat.le_of_ble_eq_true rfl⟩) ⟨kP_blind, va_recv hK hP (ci := 3) (q0 := 10) rfl gw_10, fun U hU hW => ⟨rfl, kP_at hK hP hD U hU hW⟩⟩ rfl rfl hl.1 rfl (lv_room (Nat.le_of_ble_eq_true rfl)) d_L_law_569 ⟨(by show _ ≤ room_1.cells; omega), (by show _ ≤ room_1.slots; omega)⟩) ?_
        refine lv_iload hx hb d_L_law_572 (lv_at hl 1 rfl) ?_
        refine lv_icmp_eq (tgt := 579) hx hb d_L_law_574 (by decide) (fun c_574 => ?_) (fun c_574 => absurd (by rw [hg2]; exact mT_0 hq0 k10) c_574)
        refine lv_iload hx hb d_L_law_579 (lv_at hl 1 rfl) ?_
        refine lv_if_ne (tgt := 596) hx hb d_L_law_581 (by decide) (fun c_581 => absurd rfl c_581) (fun c_581 => ?_)
        refine lv_aload_n hx hb d_L_law_584 rfl (lv_at hl 3 rfl) ?_
        refine lv_iconst (v := 0) hx hb d_L_law_585 (by decide) ?_
        refine va_lald (f := o2) hx hb hK hP 21 3 gw_21 rfl (by rw [← nI_0]; exact vp_in_nI (N := 1) (by omega) (by omega)) d_L_law_586 ?_
        rw [sb_cl0]
        refine lv_iload hx hb d_L_law_587 (lv_at hl 0 rfl) ?_
        refine lv_i2l (v := (r2).toInt64) hx hb d_L_law_589 rfl ?_
        refine W.lcmp hx hb d_L_law_590 ?_
        refine lv_if_eq (tgt := 596) hx hb d_L_law_591 (by decide) (fun c_591 => ?_) (fun c_591 => absurd ((lg_cmp_eq _ _).mpr (by rw [ho2, pk_uLs, hr2, hans])) c_591)
        refine lv_goto (tgt := 655) hx hb d_L_law_596 (by decide) ?_
        have hl := lv_sub (l' := [(4, .int (nI (4 * c))), (3, .ref (ad 21)), (2, .ref (ad 10)), (1, .ref (ad 0)), (0, .ref b0)]) hl [2, 3, 4, 5, 6] rfl
        have hI2 : Inv n si ei f th rt qu T g2 a := by rw [hg2]; exact hI
        have h12 : f 10 = g2 11 := by rw [hg2]; exact h10
        refine W.widen (k := cells + 2) (n := slots + 16) (by omega) (by omega) ?_
        exact kk hI2 h12 hP hD hS hl
      · have hq0 : ¬ mI g a (nI k) = 0 := (hI.tI _).mpr h1
        have hans : nI (T k).2.2.2.1 = a 4 k := (hI.a4 k (hn k hk)).symm
        refine lv_aload_n hx hb d_L_law_531 rfl (lv_at hl 3 rfl) ?_
        refine lv_aload_n hx hb d_L_law_532 rfl (lv_at hl 4 rfl) ?_
        refine lv_iload hx hb d_L_law_533 (lv_at hl 0 rfl) ?_
        refine lv_iconst (v := 1) hx hb d_L_law_535 (by decide) ?_
        refine lv_iadd hx hb d_L_law_536 ?_
        refine va_sld hx hb hX hbl hbA hS (lxi1 hc hL) d_L_law_537 ?_
        rw [lx1 hc hL, e1]
        refine lv_aload_n hx hb d_L_law_538 rfl (lv_at hl 4 rfl) ?_
        refine lv_iload hx hb d_L_law_539 (lv_at hl 0 rfl) ?_
        refine lv_iconst (v := 2) hx hb d_L_law_541 (by decide) ?_
        refine lv_iadd hx hb d_L_law_542 ?_
        refine va_sld hx hb hX hbl hbA hS (lxi2 hc hL) d_L_law_543 ?_
        rw [lx2 hc hL, e2]
        refine lv_aload_n hx hb d_L_law_544 rfl (lv_at hl 1 rfl) ?_
        refine kc_i (vx_runSW (As := [.ref (ad 0), .int (nI k), .int 1, .ref (ad 21)]) (rest := []) ⟨hx, hb, hml, hown, hts⟩ (c_L_about_1 l D ty ad _ n f th rt qu b w T g a o hn hn3 h12 k hk) (vx_cwSW 4 hts (kGS kS1 m_L_85 m_st_L_about m_ini_L m_code_L_about) rfl rfl rfl (by decide +kernel) ⟨Nat.le_of_ble_eq_true rfl, Nat.le_of_ble_eq_true rfl⟩) ⟨kP_blind, fun U hU hW => ⟨rfl, kP_at hK hP hD U hU hW⟩⟩ rfl rfl hl.1 rfl (lv_room (Nat.le_of_ble_eq_true rfl)) d_L_law_545 ⟨(by show _ ≤ room_1.cells; omega), (by show _ ≤ room_1.slots; omega)⟩) hD hS hA (fun r u H locs hu hP hD hS hz => ?_)
        obtain ⟨rfl, rfl⟩ := hu
        obtain ⟨o2, ho2⟩ : ∃ z, z = vp_updL o 0 (nI (T k).2.2.2.1).toInt64 := ⟨_, rfl⟩
        rw [← ho2] at hP hD
        refine lv_istore (lv' := [(5, .int 0), (4, .int (nI (4 * c))), (3, .ref (ad 21)), (2, .ref (ad 10)), (1, .ref (ad 0)), (0, .ref b0)]) hx hb d_L_law_548 hl (by decide) rfl (fun ls hl => ?_)
        refine lv_aload_n hx hb d_L_law_550 rfl (lv_at hl 3 rfl) ?_
        refine lv_aload_n hx hb d_L_law_551 rfl (lv_at hl 5 rfl) ?_
        refine lv_iload hx hb d_L_law_552 (lv_at hl 1 rfl) ?_
        refine lv_iconst (v := 1) hx hb d_L_law_554 (by decide) ?_
        refine lv_iadd hx hb d_L_law_555 ?_
        refine va_sld hx hb hX hbl hbA hS (lxi1 hc hL) d_L_law_556 ?_
        rw [lx1 hc hL, e1]
        refine lv_aload_n hx hb d_L_law_557 rfl (lv_at hl 5 rfl) ?_
        refine lv_iload hx hb d_L_law_558 (lv_at hl 1 rfl) ?_
        refine lv_iconst (v := 2) hx hb d_L_law_560 (by decide) ?_
        refine lv_iadd hx hb d_L_law_561 ?_
        refine va_sld hx hb hX hbl hbA hS (lxi2 hc hL) d_L_law_562 ?_
        rw [lx2 hc hL, e2]
        refine kc_i (va_runV (As := [.int (nI k), .int 1]) (rest := []) ⟨hx, hb, hml, hown, hts⟩ (c_M_about_1 l D ty ad _ n f th rt qu b w T g a o2 hg1 hn3 (ei - si) hI.g9 hI.q3 hI.hL hI.hR hI.hQ hI.hF hI.hW1 (nI k) (mG_z hq0 k10)) (cwV 2 hts (kGV kS1 m_L_87 m_im_M_about m_sel_M_about m_ini_M m_code_M_about) rfl rfl rfl (by decide +kernel) ⟨Nat.le_of_ble_eq_true rfl, Nat.le_of_ble_eq_true rfl⟩) ⟨kP_blind, va_recv hK hP (ci := 3) (q0 := 10) rfl gw_10, fun U hU hW => ⟨rfl, kP_at hK hP hD U hU hW⟩⟩ rfl rfl hl.1 rfl (lv_room (Nat.le_of_ble_eq_true rfl)) d_L_law_563 ⟨(by show _ ≤ room_1.cells; omega), (by show _ ≤ room_1.slots; omega)⟩) hD hS hA (fun r2 u H locs hu hP hD hS hz => ?_)
        obtain ⟨hr2, rfl⟩ := hu
        rw [nI_clamp (show k < 2 ^ 31 by omega)] at hr2
        obtain ⟨g2, hg2⟩ : ∃ z, z = upd g 0 (mT (mI g a (nI k)) 1) := ⟨_, rfl⟩
        rw [← hg2] at hP hD
        refine lv_istore (lv' := [(6, .int r2), (5, .int 0), (4, .int (nI (4 * c))), (3, .ref (ad 21)), (2, .ref (ad 10)), (1, .ref (ad 0)), (0, .ref b0)]) hx hb d_L_law_566 hl (by decide) rfl (fun ls hl => ?_)
        refine lv_aload_n hx hb d_L_law_568 rfl (lv_at hl 4 rfl) ?_
        refine kc_R (va_runV (As := []) (rest := []) ⟨hx, hb, hml, hown, hts⟩ (c_M_thrown l D ty ad _ n f th rt qu b w T g2 a o2) (cwV 0 hts (kGV kS1 m_L_52 m_im_M_thrown m_sel_M_thrown m_ini_M m_code_M_thrown) rfl rfl rfl (by decide +kernel) ⟨Nat.le_of_ble_eq_true rfl, Nat.le_of_ble_eq_true rfl⟩) ⟨kP_blind, va_recv hK hP (ci := 3) (q0 := 10) rfl gw_10, fun U hU hW => ⟨rfl, kP_at hK hP hD U hU hW⟩⟩ rfl rfl hl.1 rfl (lv_room (Nat.le_of_ble_eq_true rfl)) d_L_law_569 ⟨(by show _ ≤ room_1.cells; omega), (by show _ ≤ room_1.slots; omega)⟩) ?_
        refine lv_iload hx hb d_L_law_572 (lv_at hl 1 rfl) ?_
        refine lv_icmp_eq (tgt := 579) hx hb d_L_law_574 (by decide) (fun c_574 => ?_) (fun c_574 => absurd (by rw [hg2]; exact mT_0 hq0 k10) c_574)
        refine lv_iload hx hb d_L_law_579 (lv_at hl 1 rfl) ?_
        refine lv_if_ne (tgt := 596) hx hb d_L_law_581 (by decide) (fun c_581 => absurd rfl c_581) (fun c_581 => ?_)
        refine lv_aload_n hx hb d_L_law_584 rfl (lv_at hl 3 rfl) ?_
        refine lv_iconst (v := 0) hx hb d_L_law_585 (by decide) ?_
        refine va_lald (f := o2) hx hb hK hP 21 3 gw_21 rfl (by rw [← nI_0]; exact vp_in_nI (N := 1) (by omega) (by omega)) d_L_law_586 ?_
        rw [sb_cl0]
        refine lv_iload hx hb d_L_law_587 (lv_at hl 0 rfl) ?_
        refine lv_i2l (v := (r2).toInt64) hx hb d_L_law_589 rfl ?_
        refine W.lcmp hx hb d_L_law_590 ?_
        refine lv_if_eq (tgt := 596) hx hb d_L_law_591 (by decide) (fun c_591 => ?_) (fun c_591 => absurd ((lg_cmp_eq _ _).mpr (by rw [ho2, pk_uLs, hr2, hans])) c_591)
        refine lv_goto (tgt := 655) hx hb d_L_law_596 (by decide) ?_
        have hl := lv_sub (l' := [(4, .int (nI (4 * c))), (3, .ref (ad 21)), (2, .ref (ad 10)), (1, .ref (ad 0)), (0, .ref b0)]) hl [2, 3, 4, 5, 6] rfl
        have hI2 : Inv n si ei f th rt qu T g2 a := by rw [hg2]; exact hI
        have h12 : f 10 = g2 11 := by rw [hg2]; exact h10
        refine W.widen (k := cells + 2) (n := slots + 16) (by omega) (by omega) ?_
        exact kk hI2 h12 hP hD hS hl
      · have hq0 : ¬ mI g a (nI k) = 0 := (hI.tI _).mpr h1
        obtain ⟨z9, hz1, hz2⟩ := hI.reach w
        have hans := hI.has hz1 hz2 (hn k hk)
        refine lv_aload_n hx hb d_L_law_531 rfl (lv_at hl 3 rfl) ?_
        refine lv_aload_n hx hb d_L_law_532 rfl (lv_at hl 4 rfl) ?_
        refine lv_iload hx hb d_L_law_533 (lv_at hl 0 rfl) ?_
        refine lv_iconst (v := 1) hx hb d_L_law_535 (by decide) ?_
        refine lv_iadd hx hb d_L_law_536 ?_
        refine va_sld hx hb hX hbl hbA hS (lxi1 hc hL) d_L_law_537 ?_
        rw [lx1 hc hL, e1]
        refine lv_aload_n hx hb d_L_law_538 rfl (lv_at hl 4 rfl) ?_
        refine lv_iload hx hb d_L_law_539 (lv_at hl 0 rfl) ?_
        refine lv_iconst (v := 2) hx hb d_L_law_541 (by decide) ?_
        refine lv_iadd hx hb d_L_law_542 ?_
        refine va_sld hx hb hX hbl hbA hS (lxi2 hc hL) d_L_law_543 ?_
        rw [lx2 hc hL, e2]
        refine lv_aload_n hx hb d_L_law_544 rfl (lv_at hl 1 rfl) ?_
        refine kc_i (vx_runSW (As := [.ref (ad 0), .int (nI k), .int 2, .ref (ad 21)]) (rest := []) ⟨hx, hb, hml, hown, hts⟩ (c_L_about_2 l D ty ad _ n f th rt qu b w T g a o hn hn3 h12 k hk) (vx_cwSW 4 hts (kGS kS1 m_L_85 m_st_L_about m_ini_L m_code_L_about) rfl rfl rfl (by decide +kernel) ⟨Nat.le_of_ble_eq_true rfl, Nat.le_of_ble_eq_true rfl⟩) ⟨kP_blind, fun U hU hW => ⟨rfl, kP_at hK hP hD U hU hW⟩⟩ rfl rfl hl.1 rfl (lv_room (Nat.le_of_ble_eq_true rfl)) d_L_law_545 ⟨(by show _ ≤ room_1.cells; omega), (by show _ ≤ room_1.slots; omega)⟩) hD hS hA (fun r u H locs hu hP hD hS hz => ?_)
        obtain ⟨rfl, rfl⟩ := hu
        obtain ⟨o2, ho2⟩ : ∃ z, z = vp_updL o 0 (sHas (sReach f th rt qu T w) (nI k)).toInt64 := ⟨_, rfl⟩
        rw [← ho2] at hP hD
        obtain ⟨w2, hw2⟩ : ∃ z, z = sReach f th rt qu T w := ⟨_, rfl⟩
        rw [← hw2] at hP hD
        refine lv_istore (lv' := [(5, .int 0), (4, .int (nI (4 * c))), (3, .ref (ad 21)), (2, .ref (ad 10)), (1, .ref (ad 0)), (0, .ref b0)]) hx hb d_L_law_548 hl (by decide) rfl (fun ls hl => ?_)
        refine lv_aload_n hx hb d_L_law_550 rfl (lv_at hl 3 rfl) ?_
        refine lv_aload_n hx hb d_L_law_551 rfl (lv_at hl 5 rfl) ?_
        refine lv_iload hx hb d_L_law_552 (lv_at hl 1 rfl) ?_
        refine lv_iconst (v := 1) hx hb d_L_law_554 (by decide) ?_
        refine lv_iadd hx hb d_L_law_555 ?_
        refine va_sld hx hb hX hbl hbA hS (lxi1 hc hL) d_L_law_556 ?_
        rw [lx1 hc hL, e1]
        refine lv_aload_n hx hb d_L_law_557 rfl (lv_at hl 5 rfl) ?_
        refine lv_iload hx hb d_L_law_558 (lv_at hl 1 rfl) ?_
        refine lv_iconst (v := 2) hx hb d_L_law_560 (by decide) ?_
        refine lv_iadd hx hb d_L_law_561 ?_
        refine va_sld hx hb hX hbl hbA hS (lxi2 hc hL) d_L_law_562 ?_
        rw [lx2 hc hL, e2]
        refine kc_i (va_runV (As := [.int (nI k), .int 2]) (rest := []) ⟨hx, hb, hml, hown, hts⟩ (c_M_about_2 l D ty ad _ n f th rt qu b w2 T g a o2 hg1 hn3 (ei - si) hI.g9 hI.q3 hI.hL hI.hR hI.hQ hI.hF hI.hW1 (nI k) (mG_z hq0 k10)) (cwV 2 hts (kGV kS1 m_L_87 m_im_M_about m_sel_M_about m_ini_M m_code_M_about) rfl rfl rfl (by decide +kernel) ⟨Nat.le_of_ble_eq_true rfl, Nat.le_of_ble_eq_true rfl⟩) ⟨kP_blind, va_recv hK hP (ci := 3) (q0 := 10) rfl gw_10, fun U hU hW => ⟨rfl, kP_at hK hP hD U hU hW⟩⟩ rfl rfl hl.1 rfl (lv_room (Nat.le_of_ble_eq_true rfl)) d_L_law_563 ⟨(by show _ ≤ room_1.cells; omega), (by show _ ≤ room_1.slots; omega)⟩) hD hS hA (fun r2 u H locs hu hP hD hS hz => ?_)
        obtain ⟨hr2, rfl⟩ := hu
        rw [nI_clamp (show k < 2 ^ 31 by omega)] at hr2
        obtain ⟨g2, hg2⟩ : ∃ z, z = upd g 0 (mT (mI g a (nI k)) 1) := ⟨_, rfl⟩
        rw [← hg2] at hP hD
        obtain ⟨a2, ha2⟩ : ∃ z, z = va_up a 14 (mD 0 a n (ei - si) (a 14)) := ⟨_, rfl⟩
        rw [← ha2] at hP hD
        refine lv_istore (lv' := [(6, .int r2), (5, .int 0), (4, .int (nI (4 * c))), (3, .ref (ad 21)), (2, .ref (ad 10)), (1, .ref (ad 0)), (0, .ref b0)]) hx hb d_L_law_566 hl (by decide) rfl (fun ls hl => ?_)
        refine lv_aload_n hx hb d_L_law_568 rfl (lv_at hl 4 rfl) ?_
        refine kc_R (va_runV (As := []) (rest := []) ⟨hx, hb, hml, hown, hts⟩ (c_M_thrown l D ty ad _ n f th rt qu b w2 T g2 a2 o2) (cwV 0 hts (kGV kS1 m_L_52 m_im_M_thrown m_sel_M_thrown m_ini_M m_code_M_thrown) rfl rfl rfl (by decide +kernel) ⟨Nat.le_of_ble_eq_true rfl, Nat.le_of_ble_eq_true rfl⟩) ⟨kP_blind, va_recv hK hP (ci := 3) (q0 := 10) rfl gw_10, fun U hU hW => ⟨rfl, kP_at hK hP hD U hU hW⟩⟩ rfl rfl hl.1 rfl (lv_room (Nat.le_of_ble_eq_true rfl)) d_L_law_569 ⟨(by show _ ≤ room_1.cells; omega), (by show _ ≤ room_1.slots; omega)⟩) ?_
        refine lv_iload hx hb d_L_law_572 (lv_at hl 1 rfl) ?_
        refine lv_icmp_eq (tgt := 579) hx hb d_L_law_574 (by decide) (fun c_574 => ?_) (fun c_574 => absurd (by rw [hg2]; exact mT_0 hq0 k10) c_574)
        refine lv_iload hx hb d_L_law_579 (lv_at hl 1 rfl) ?_
        refine lv_if_ne (tgt := 596) hx hb d_L_law_581 (by decide) (fun c_581 => absurd rfl c_581) (fun c_581 => ?_)
        refine lv_aload_n hx hb d_L_law_584 rfl (lv_at hl 3 rfl) ?_
        refine lv_iconst (v := 0) hx hb d_L_law_585 (by decide) ?_
        refine va_lald (f := o2) hx hb hK hP 21 3 gw_21 rfl (by rw [← nI_0]; exact vp_in_nI (N := 1) (by omega) (by omega)) d_L_law_586 ?_
        rw [sb_cl0]
        refine lv_iload hx hb d_L_law_587 (lv_at hl 0 rfl) ?_
        refine lv_i2l (v := (r2).toInt64) hx hb d_L_law_589 rfl ?_
        refine W.lcmp hx hb d_L_law_590 ?_
        refine lv_if_eq (tgt := 596) hx hb d_L_law_591 (by decide) (fun c_591 => ?_) (fun c_591 => absurd ((lg_cmp_eq _ _).mpr (by rw [ho2, pk_uLs, hr2, hans])) c_591)
        refine lv_goto (tgt := 655) hx hb d_L_law_596 (by decide) ?_
        have hl := lv_sub (l' := [(4, .int (nI (4 * c))), (3, .ref (ad 21)), (2, .ref (ad 10)), (1, .ref (ad 0)), (0, .ref b0)]) hl [2, 3, 4, 5, 6] rfl
        have hI2 : Inv n si ei f th rt qu T g2 a2 := by rw [hg2, ha2]; exact hI
        have h12 : f 10 = g2 11 := by rw [hg2]; exact h10
        refine W.widen (k := cells + 2) (n := slots + 16) (by omega) (by omega) ?_
        exact kk hI2 h12 hP hD hS hl
      · have hq0 : ¬ mI g a (nI k) = 0 := (hI.tI _).mpr h1
        obtain ⟨z9, hz1, hz2⟩ := hI.kept w
        have hans := hI.has hz1 hz2 (hn k hk)
        refine lv_aload_n hx hb d_L_law_531 rfl (lv_at hl 3 rfl) ?_
        refine lv_aload_n hx hb d_L_law_532 rfl (lv_at hl 4 rfl) ?_
        refine lv_iload hx hb d_L_law_533 (lv_at hl 0 rfl) ?_
        refine lv_iconst (v := 1) hx hb d_L_law_535 (by decide) ?_
        refine lv_iadd hx hb d_L_law_536 ?_
        refine va_sld hx hb hX hbl hbA hS (lxi1 hc hL) d_L_law_537 ?_
        rw [lx1 hc hL, e1]
        refine lv_aload_n hx hb d_L_law_538 rfl (lv_at hl 4 rfl) ?_
        refine lv_iload hx hb d_L_law_539 (lv_at hl 0 rfl) ?_
        refine lv_iconst (v := 2) hx hb d_L_law_541 (by decide) ?_
        refine lv_iadd hx hb d_L_law_542 ?_
        refine va_sld hx hb hX hbl hbA hS (lxi2 hc hL) d_L_law_543 ?_
        rw [lx2 hc hL, e2]
        refine lv_aload_n hx hb d_L_law_544 rfl (lv_at hl 1 rfl) ?_
        refine kc_i (vx_runSW (As := [.ref (ad 0), .int (nI k), .int 3, .ref (ad 21)]) (rest := []) ⟨hx, hb, hml, hown, hts⟩ (c_L_about_3 l D ty ad _ n f th rt qu b w T g a o hn hn3 h12 k hk) (vx_cwSW 4 hts (kGS kS1 m_L_85 m_st_L_about m_ini_L m_code_L_about) rfl rfl rfl (by decide +kernel) ⟨Nat.le_of_ble_eq_true rfl, Nat.le_of_ble_eq_true rfl⟩) ⟨kP_blind, fun U hU hW => ⟨rfl, kP_at hK hP hD U hU hW⟩⟩ rfl rfl hl.1 rfl (lv_room (Nat.le_of_ble_eq_true rfl)) d_L_law_545 ⟨(by show _ ≤ room_1.cells; omega), (by show _ ≤ room_1.slots; omega)⟩) hD hS hA (fun r u H locs hu hP hD hS hz => ?_)
        obtain ⟨rfl, rfl⟩ := hu
        obtain ⟨o2, ho2⟩ : ∃ z, z = vp_updL o 0 (sHas (sKept f th rt qu T w) (nI k)).toInt64 := ⟨_, rfl⟩
        rw [← ho2] at hP hD
        obtain ⟨w2, hw2⟩ : ∃ z, z = sKept f th rt qu T w := ⟨_, rfl⟩
        rw [← hw2] at hP hD
        refine lv_istore (lv' := [(5, .int 0), (4, .int (nI (4 * c))), (3, .ref (ad 21)), (2, .ref (ad 10)), (1, .ref (ad 0)), (0, .ref b0)]) hx hb d_L_law_548 hl (by decide) rfl (fun ls hl => ?_)
        refine lv_aload_n hx hb d_L_law_550 rfl (lv_at hl 3 rfl) ?_
        refine lv_aload_n hx hb d_L_law_551 rfl (lv_at hl 5 rfl) ?_
        refine lv_iload hx hb d_L_law_552 (lv_at hl 1 rfl) ?_
        refine lv_iconst (v := 1) hx hb d_L_law_554 (by decide) ?_
        refine lv_iadd hx hb d_L_law_555 ?_
        refine va_sld hx hb hX hbl hbA hS (lxi1 hc hL) d_L_law_556 ?_
        rw [lx1 hc hL, e1]
        refine lv_aload_n hx hb d_L_law_557 rfl (lv_at hl 5 rfl) ?_
        refine lv_iload hx hb d_L_law_558 (lv_at hl 1 rfl) ?_
        refine lv_iconst (v := 2) hx hb d_L_law_560 (by decide) ?_
        refine lv_iadd hx hb d_L_law_561 ?_
        refine va_sld hx hb hX hbl hbA hS (lxi2 hc hL) d_L_law_562 ?_
        rw [lx2 hc hL, e2]
        refine kc_i (va_runV (As := [.int (nI k), .int 3]) (rest := []) ⟨hx, hb, hml, hown, hts⟩ (c_M_about_3 l D ty ad _ n f th rt qu b w2 T g a o2 hg1 hn3 (ei - si) hI.g9 hI.q3 hI.hL hI.hR hI.hQ hI.hF hI.hW1 (nI k) (mG_z hq0 k10)) (cwV 2 hts (kGV kS1 m_L_87 m_im_M_about m_sel_M_about m_ini_M m_code_M_about) rfl rfl rfl (by decide +kernel) ⟨Nat.le_of_ble_eq_true rfl, Nat.le_of_ble_eq_true rfl⟩) ⟨kP_blind, va_recv hK hP (ci := 3) (q0 := 10) rfl gw_10, fun U hU hW => ⟨rfl, kP_at hK hP hD U hU hW⟩⟩ rfl rfl hl.1 rfl (lv_room (Nat.le_of_ble_eq_true rfl)) d_L_law_563 ⟨(by show _ ≤ room_1.cells; omega), (by show _ ≤ room_1.slots; omega)⟩) hD hS hA (fun r2 u H locs hu hP hD hS hz => ?_)
        obtain ⟨hr2, rfl⟩ := hu
        rw [nI_clamp (show k < 2 ^ 31 by omega)] at hr2
        obtain ⟨g2, hg2⟩ : ∃ z, z = upd g 0 (mT (mI g a (nI k)) 1) := ⟨_, rfl⟩
        rw [← hg2] at hP hD
        obtain ⟨a2, ha2⟩ : ∃ z, z = va_up a 14 (mD 1 a n (ei - si) (a 14)) := ⟨_, rfl⟩
        rw [← ha2] at hP hD
        refine lv_istore (lv' := [(6, .int r2), (5, .int 0), (4, .int (nI (4 * c))), (3, .ref (ad 21)), (2, .ref (ad 10)), (1, .ref (ad 0)), (0, .ref b0)]) hx hb d_L_law_566 hl (by decide) rfl (fun ls hl => ?_)
        refine lv_aload_n hx hb d_L_law_568 rfl (lv_at hl 4 rfl) ?_
        refine kc_R (va_runV (As := []) (rest := []) ⟨hx, hb, hml, hown, hts⟩ (c_M_thrown l D ty ad _ n f th rt qu b w2 T g2 a2 o2) (cwV 0 hts (kGV kS1 m_L_52 m_im_M_thrown m_sel_M_thrown m_ini_M m_code_M_thrown) rfl rfl rfl (by decide +kernel) ⟨Nat.le_of_ble_eq_true rfl, Nat.le_of_ble_eq_true rfl⟩) ⟨kP_blind, va_recv hK hP (ci := 3) (q0 := 10) rfl gw_10, fun U hU hW => ⟨rfl, kP_at hK hP hD U hU hW⟩⟩ rfl rfl hl.1 rfl (lv_room (Nat.le_of_ble_eq_true rfl)) d_L_law_569 ⟨(by show _ ≤ room_1.cells; omega), (by show _ ≤ room_1.slots; omega)⟩) ?_
        refine lv_iload hx hb d_L_law_572 (lv_at hl 1 rfl) ?_
        refine lv_icmp_eq (tgt := 579) hx hb d_L_law_574 (by decide) (fun c_574 => ?_) (fun c_574 => absurd (by rw [hg2]; exact mT_0 hq0 k10) c_574)
        refine lv_iload hx hb d_L_law_579 (lv_at hl 1 rfl) ?_
        refine lv_if_ne (tgt := 596) hx hb d_L_law_581 (by decide) (fun c_581 => absurd rfl c_581) (fun c_581 => ?_)
        refine lv_aload_n hx hb d_L_law_584 rfl (lv_at hl 3 rfl) ?_
        refine lv_iconst (v := 0) hx hb d_L_law_585 (by decide) ?_
        refine va_lald (f := o2) hx hb hK hP 21 3 gw_21 rfl (by rw [← nI_0]; exact vp_in_nI (N := 1) (by omega) (by omega)) d_L_law_586 ?_
        rw [sb_cl0]
        refine lv_iload hx hb d_L_law_587 (lv_at hl 0 rfl) ?_
        refine lv_i2l (v := (r2).toInt64) hx hb d_L_law_589 rfl ?_
        refine W.lcmp hx hb d_L_law_590 ?_
        refine lv_if_eq (tgt := 596) hx hb d_L_law_591 (by decide) (fun c_591 => ?_) (fun c_591 => absurd ((lg_cmp_eq _ _).mpr (by rw [ho2, pk_uLs, hr2, hans])) c_591)
        refine lv_goto (tgt := 655) hx hb d_L_law_596 (by decide) ?_
        have hl := lv_sub (l' := [(4, .int (nI (4 * c))), (3, .ref (ad 21)), (2, .ref (ad 10)), (1, .ref (ad 0)), (0, .ref b0)]) hl [2, 3, 4, 5, 6] rfl
        have hI2 : Inv n si ei f th rt qu T g2 a2 := by rw [hg2, ha2]; exact hI
        have h12 : f 10 = g2 11 := by rw [hg2]; exact h10
        refine W.widen (k := cells + 2) (n := slots + 16) (by omega) (by omega) ?_
        exact kk hI2 h12 hP hD hS hl
  · have hq0 := hI.nI' h1
    refine lv_aload_n hx hb d_L_law_531 rfl (lv_at hl 3 rfl) ?_
    refine lv_aload_n hx hb d_L_law_532 rfl (lv_at hl 4 rfl) ?_
    refine lv_iload hx hb d_L_law_533 (lv_at hl 0 rfl) ?_
    refine lv_iconst (v := 1) hx hb d_L_law_535 (by decide) ?_
    refine lv_iadd hx hb d_L_law_536 ?_
    refine va_sld hx hb hX hbl hbA hS (lxi1 hc hL) d_L_law_537 ?_
    rw [lx1 hc hL, e1]
    refine lv_aload_n hx hb d_L_law_538 rfl (lv_at hl 4 rfl) ?_
    refine lv_iload hx hb d_L_law_539 (lv_at hl 0 rfl) ?_
    refine lv_iconst (v := 2) hx hb d_L_law_541 (by decide) ?_
    refine lv_iadd hx hb d_L_law_542 ?_
    refine va_sld hx hb hX hbl hbA hS (lxi2 hc hL) d_L_law_543 ?_
    rw [lx2 hc hL, e2]
    refine lv_aload_n hx hb d_L_law_544 rfl (lv_at hl 1 rfl) ?_
    refine kc_i (vx_runSW (As := [.ref (ad 0), .int x1, .int x2, .ref (ad 21)]) (rest := []) ⟨hx, hb, hml, hown, hts⟩ (c_L_about_x l D ty ad _ n f th rt qu b w T g a o x1 h1 x2 htr) (vx_cwSW 4 hts (kGS kS1 m_L_85 m_st_L_about m_ini_L m_code_L_about) rfl rfl rfl (by decide +kernel) ⟨Nat.le_of_ble_eq_true rfl, Nat.le_of_ble_eq_true rfl⟩) ⟨kPY_blind, fun U hU hW => ⟨rfl, kP_at hK hP hD U hU hW, hY.at hS (kA_free hD hS hA) U hU hW⟩⟩ rfl rfl hl.1 rfl (lv_room (Nat.le_of_ble_eq_true rfl)) d_L_law_545 ⟨(by show _ ≤ room_1.cells; omega), (by show _ ≤ room_1.slots; omega)⟩) hD hS hA (fun r u H locs hu hP hD hS hz => ?_)
    obtain ⟨rfl, rfl⟩ := hu
    refine lv_istore (lv' := [(5, .int 1), (4, .int (nI (4 * c))), (3, .ref (ad 21)), (2, .ref (ad 10)), (1, .ref (ad 0)), (0, .ref b0)]) hx hb d_L_law_548 hl (by decide) rfl (fun ls hl => ?_)
    refine lv_aload_n hx hb d_L_law_550 rfl (lv_at hl 3 rfl) ?_
    refine lv_aload_n hx hb d_L_law_551 rfl (lv_at hl 5 rfl) ?_
    refine lv_iload hx hb d_L_law_552 (lv_at hl 1 rfl) ?_
    refine lv_iconst (v := 1) hx hb d_L_law_554 (by decide) ?_
    refine lv_iadd hx hb d_L_law_555 ?_
    refine va_sld hx hb hX hbl hbA hS (lxi1 hc hL) d_L_law_556 ?_
    rw [lx1 hc hL, e1]
    refine lv_aload_n hx hb d_L_law_557 rfl (lv_at hl 5 rfl) ?_
    refine lv_iload hx hb d_L_law_558 (lv_at hl 1 rfl) ?_
    refine lv_iconst (v := 2) hx hb d_L_law_560 (by decide) ?_
    refine lv_iadd hx hb d_L_law_561 ?_
    refine va_sld hx hb hX hbl hbA hS (lxi2 hc hL) d_L_law_562 ?_
    rw [lx2 hc hL, e2]
    refine kc_i (va_runV (As := [.int x1, .int x2]) (rest := []) ⟨hx, hb, hml, hown, hts⟩ (c_M_about_n l D ty ad _ n f th rt qu b w T g a o hg1 hn3 (ei - si) hI.g9 hI.q3 hI.hL hI.hR hI.hQ hI.hF hI.hW1 x1 x2 (mG_x hq0)) (cwV 2 hts (kGV kS1 m_L_87 m_im_M_about m_sel_M_about m_ini_M m_code_M_about) rfl rfl rfl (by decide +kernel) ⟨Nat.le_of_ble_eq_true rfl, Nat.le_of_ble_eq_true rfl⟩) ⟨kP_blind, va_recv hK hP (ci := 3) (q0 := 10) rfl gw_10, fun U hU hW => ⟨rfl, kP_at hK hP hD U hU hW⟩⟩ rfl rfl hl.1 rfl (lv_room (Nat.le_of_ble_eq_true rfl)) d_L_law_563 ⟨(by show _ ≤ room_1.cells; omega), (by show _ ≤ room_1.slots; omega)⟩) hD hS hA (fun r2 u H locs hu hP hD hS hz => ?_)
    obtain ⟨hr2, rfl⟩ := hu
    obtain ⟨g2, hg2⟩ : ∃ z, z = upd g 0 (mT (mI g a x1) (mAp x2)) := ⟨_, rfl⟩
    rw [← hg2] at hP hD
    refine lv_istore (lv' := [(6, .int r2), (5, .int 1), (4, .int (nI (4 * c))), (3, .ref (ad 21)), (2, .ref (ad 10)), (1, .ref (ad 0)), (0, .ref b0)]) hx hb d_L_law_566 hl (by decide) rfl (fun ls hl => ?_)
    refine lv_aload_n hx hb d_L_law_568 rfl (lv_at hl 4 rfl) ?_
    refine kc_R (va_runV (As := []) (rest := []) ⟨hx, hb, hml, hown, hts⟩ (c_M_thrown l D ty ad _ n f th rt qu b w T g2 a o) (cwV 0 hts (kGV kS1 m_L_52 m_im_M_thrown m_sel_M_thrown m_ini_M m_code_M_thrown) rfl rfl rfl (by decide +kernel) ⟨Nat.le_of_ble_eq_true rfl, Nat.le_of_ble_eq_true rfl⟩) ⟨kP_blind, va_recv hK hP (ci := 3) (q0 := 10) rfl gw_10, fun U hU hW => ⟨rfl, kP_at hK hP hD U hU hW⟩⟩ rfl rfl hl.1 rfl (lv_room (Nat.le_of_ble_eq_true rfl)) d_L_law_569 ⟨(by show _ ≤ room_1.cells; omega), (by show _ ≤ room_1.slots; omega)⟩) ?_
    refine lv_iload hx hb d_L_law_572 (lv_at hl 1 rfl) ?_
    refine lv_icmp_eq (tgt := 579) hx hb d_L_law_574 (by decide) (fun c_574 => ?_) (fun c_574 => absurd (by rw [hg2]; exact mT_1 hq0) c_574)
    refine lv_iload hx hb d_L_law_579 (lv_at hl 1 rfl) ?_
    refine lv_if_ne (tgt := 596) hx hb d_L_law_581 (by decide) (fun c_581 => ?_) (fun c_581 => absurd c_581 (by decide))
    refine lv_goto (tgt := 655) hx hb d_L_law_596 (by decide) ?_
    have hl := lv_sub (l' := [(4, .int (nI (4 * c))), (3, .ref (ad 21)), (2, .ref (ad 10)), (1, .ref (ad 0)), (0, .ref b0)]) hl [2, 3, 4, 5, 6] rfl
    have hI2 : Inv n si ei f th rt qu T g2 a := by rw [hg2]; exact hI
    have h12 : f 10 = g2 11 := by rw [hg2]; exact h10
    refine W.widen (k := cells + 2) (n := slots + 16) (by omega) (by omega) ?_
    exact kk hI2 h12 hP hD hS hl
set_option maxHeartbeats 4000000 in
set_option maxRecDepth 100000 in
theorem law_count (C : lw_C p l s m cd b0 L xs A D ty) {c : Nat} (hc : 4 * c + 4 ≤ L) {cells slots : Nat} (hc1 : cells + 2 ≤ room_1.cells) (hs1 : slots + 16 ≤ room_1.slots) {n si ei : Nat} {ad : Nat → Nat} {f : Nat → Int32} {th : Nat → Bool} {rt qu : Nat → Int32} {b w : SR} {T : Nat → TH} {g : Nat → Int32} {a : Nat → Nat → Int32} {o : Nat → Int64} {H : Heap} {locs : List Loc} {ls : Array Slot} (hI : Inv n si ei f th rt qu T g a) (h10 : f 10 = g 11) (hP : va_P D kCl (gW n ty ad f th rt qu b w T g a o) H) (hD : va_D A (gW n ty ad f th rt qu b w T g a o)) (hS : va_S A s.heap H locs) (hl : lv_has ls 7 [(4, .int (nI (4 * c))), (3, .ref (ad 21)), (2, .ref (ad 10)), (1, .ref (ad 0)), (0, .ref b0)])
    (kk : ∀ {n si ei : Nat} {ad : Nat → Nat} {f : Nat → Int32} {th : Nat → Bool} {rt qu : Nat → Int32} {b w : SR} {T : Nat → TH} {g : Nat → Int32} {a : Nat → Nat → Int32} {o : Nat → Int64} {H : Heap} {locs : List Loc} {ls : Array Slot}, Inv n si ei f th rt qu T g a → f 10 = g 11 → va_P D kCl (gW n ty ad f th rt qu b w T g a o) H → va_D A (gW n ty ad f th rt qu b w T g a o) → va_S A s.heap H locs → lv_has ls 7 [(4, .int (nI (4 * c))), (3, .ref (ad 21)), (2, .ref (ad 10)), (1, .ref (ad 0)), (0, .ref b0)] → W p l e room_1 s m #[Value.ref b0] below meth cd H locs (cells + 2) (slots + 16) Q (F0 m 655 ls [])) : W p l e room_1 s m #[Value.ref b0] below meth cd H locs cells slots Q (F0 m 599 ls []) := by
  obtain ⟨hx, hb, hml, hown, hts, hK, hX, hbl, hbA, hA, hY, htr, hL⟩ := C
  obtain ⟨x1, e1⟩ : ∃ z, xs (4 * c + 1) = z := ⟨_, rfl⟩
  have hn := hI.hn
  have hn3 := hI.n3
  have hg1 := hI.g1
  have h12 := hI.l12
  by_cases h1 : x1.toInt < 0 ∨ 8 < x1.toInt
  · have hq0 := mCp_0 h1
    refine lv_aload_n hx hb d_L_law_599 rfl (lv_at hl 3 rfl) ?_
    refine lv_aload_n hx hb d_L_law_600 rfl (lv_at hl 4 rfl) ?_
    refine lv_iload hx hb d_L_law_601 (lv_at hl 0 rfl) ?_
    refine lv_iconst (v := 1) hx hb d_L_law_603 (by decide) ?_
    refine lv_iadd hx hb d_L_law_604 ?_
    refine va_sld hx hb hX hbl hbA hS (lxi1 hc hL) d_L_law_605 ?_
    rw [lx1 hc hL, e1]
    refine lv_aload_n hx hb d_L_law_606 rfl (lv_at hl 1 rfl) ?_
    refine kc_i (vx_runSW (As := [.ref (ad 0), .int x1, .ref (ad 21)]) (rest := []) ⟨hx, hb, hml, hown, hts⟩ (c_L_count_x l D ty ad _ n f th rt qu b w T g a o x1 h1 htr) (vx_cwSW 3 hts (kGS kS1 m_L_88 m_st_L_count m_ini_L m_code_L_count) rfl rfl rfl (by decide +kernel) ⟨Nat.le_of_ble_eq_true rfl, Nat.le_of_ble_eq_true rfl⟩) ⟨kPY_blind, fun U hU hW => ⟨rfl, kP_at hK hP hD U hU hW, hY.at hS (kA_free hD hS hA) U hU hW⟩⟩ rfl rfl hl.1 rfl (lv_room (Nat.le_of_ble_eq_true rfl)) d_L_law_607 ⟨(by show _ ≤ room_1.cells; omega), (by show _ ≤ room_1.slots; omega)⟩) hD hS hA (fun r u H locs hu hP hD hS hz => ?_)
    obtain ⟨rfl, rfl⟩ := hu
    refine lv_istore (lv' := [(5, .int 1), (4, .int (nI (4 * c))), (3, .ref (ad 21)), (2, .ref (ad 10)), (1, .ref (ad 0)), (0, .ref b0)]) hx hb d_L_law_610 hl (by decide) rfl (fun ls hl => ?_)
    refine lv_aload_n hx hb d_L_law_612 rfl (lv_at hl 3 rfl) ?_
    refine lv_aload_n hx hb d_L_law_613 rfl (lv_at hl 5 rfl) ?_
    refine lv_iload hx hb d_L_law_614 (lv_at hl 1 rfl) ?_
    refine lv_iconst (v := 1) hx hb d_L_law_616 (by decide) ?_
    refine lv_iadd hx hb d_L_law_617 ?_
    refine va_sld hx hb hX hbl hbA hS (lxi1 hc hL) d_L_law_618 ?_
    rw [lx1 hc hL, e1]
    refine kc_i (va_runV (As := [.int x1]) (rest := []) ⟨hx, hb, hml, hown, hts⟩ (c_M_count_n l D ty ad _ n f th rt qu b w T g a o hg1 hn3 x1 (mG_x hq0)) (cwV 1 hts (kGV kS1 m_L_90 m_im_M_count m_sel_M_count m_ini_M m_code_M_count) rfl rfl rfl (by decide +kernel) ⟨Nat.le_of_ble_eq_true rfl, Nat.le_of_ble_eq_true rfl⟩) ⟨kP_blind, va_recv hK hP (ci := 3) (q0 := 10) rfl gw_10, fun U hU hW => ⟨rfl, kP_at hK hP hD U hU hW⟩⟩ rfl rfl hl.1 rfl (lv_room (Nat.le_of_ble_eq_true rfl)) d_L_law_619 ⟨(by show _ ≤ room_1.cells; omega), (by show _ ≤ room_1.slots; omega)⟩) hD hS hA (fun r2 u H locs hu hP hD hS hz => ?_)
    obtain ⟨hr2, rfl⟩ := hu
    obtain ⟨g2, hg2⟩ : ∃ z, z = upd g 0 (mT (mCp x1) 1) := ⟨_, rfl⟩
    rw [← hg2] at hP hD
    refine lv_istore (lv' := [(6, .int r2), (5, .int 1), (4, .int (nI (4 * c))), (3, .ref (ad 21)), (2, .ref (ad 10)), (1, .ref (ad 0)), (0, .ref b0)]) hx hb d_L_law_622 hl (by decide) rfl (fun ls hl => ?_)
    refine lv_aload_n hx hb d_L_law_624 rfl (lv_at hl 4 rfl) ?_
    refine kc_R (va_runV (As := []) (rest := []) ⟨hx, hb, hml, hown, hts⟩ (c_M_thrown l D ty ad _ n f th rt qu b w T g2 a o) (cwV 0 hts (kGV kS1 m_L_52 m_im_M_thrown m_sel_M_thrown m_ini_M m_code_M_thrown) rfl rfl rfl (by decide +kernel) ⟨Nat.le_of_ble_eq_true rfl, Nat.le_of_ble_eq_true rfl⟩) ⟨kP_blind, va_recv hK hP (ci := 3) (q0 := 10) rfl gw_10, fun U hU hW => ⟨rfl, kP_at hK hP hD U hU hW⟩⟩ rfl rfl hl.1 rfl (lv_room (Nat.le_of_ble_eq_true rfl)) d_L_law_625 ⟨(by show _ ≤ room_1.cells; omega), (by show _ ≤ room_1.slots; omega)⟩) ?_
    refine lv_iload hx hb d_L_law_628 (lv_at hl 1 rfl) ?_
    refine lv_icmp_eq (tgt := 635) hx hb d_L_law_630 (by decide) (fun c_630 => ?_) (fun c_630 => absurd (by rw [hg2]; exact mT_1 hq0) c_630)
    refine lv_iload hx hb d_L_law_635 (lv_at hl 1 rfl) ?_
    refine lv_if_ne (tgt := 652) hx hb d_L_law_637 (by decide) (fun c_637 => ?_) (fun c_637 => absurd c_637 (by decide))
    refine lv_goto (tgt := 655) hx hb d_L_law_652 (by decide) ?_
    have hl := lv_sub (l' := [(4, .int (nI (4 * c))), (3, .ref (ad 21)), (2, .ref (ad 10)), (1, .ref (ad 0)), (0, .ref b0)]) hl [2, 3, 4, 5, 6] rfl
    have hI2 : Inv n si ei f th rt qu T g2 a := by rw [hg2]; exact hI
    have h12 : f 10 = g2 11 := by rw [hg2]; exact h10
    refine W.widen (k := cells + 2) (n := slots + 16) (by omega) (by omega) ?_
    exact kk hI2 h12 hP hD hS hl
  · rcases i08 h1 with rfl | rfl | rfl | rfl | rfl | rfl | rfl | rfl | rfl
    · have hans := hI.many
      refine lv_aload_n hx hb d_L_law_599 rfl (lv_at hl 3 rfl) ?_
      refine lv_aload_n hx hb d_L_law_600 rfl (lv_at hl 4 rfl) ?_
      refine lv_iload hx hb d_L_law_601 (lv_at hl 0 rfl) ?_
      refine lv_iconst (v := 1) hx hb d_L_law_603 (by decide) ?_
      refine lv_iadd hx hb d_L_law_604 ?_
      refine va_sld hx hb hX hbl hbA hS (lxi1 hc hL) d_L_law_605 ?_
      rw [lx1 hc hL, e1]
      refine lv_aload_n hx hb d_L_law_606 rfl (lv_at hl 1 rfl) ?_
      refine kc_i (vx_runSW (As := [.ref (ad 0), .int 0, .ref (ad 21)]) (rest := []) ⟨hx, hb, hml, hown, hts⟩ (c_L_count_0 l D ty ad _ n f th rt qu b w T g a o hn h12) (vx_cwSW 3 hts (kGS kS1 m_L_88 m_st_L_count m_ini_L m_code_L_count) rfl rfl rfl (by decide +kernel) ⟨Nat.le_of_ble_eq_true rfl, Nat.le_of_ble_eq_true rfl⟩) ⟨kP_blind, fun U hU hW => ⟨rfl, kP_at hK hP hD U hU hW⟩⟩ rfl rfl hl.1 rfl (lv_room (Nat.le_of_ble_eq_true rfl)) d_L_law_607 ⟨(by show _ ≤ room_1.cells; omega), (by show _ ≤ room_1.slots; omega)⟩) hD hS hA (fun r u H locs hu hP hD hS hz => ?_)
      obtain ⟨rfl, rfl⟩ := hu
      obtain ⟨o2, ho2⟩ : ∃ z, z = vp_updL o 0 (f 8).toInt64 := ⟨_, rfl⟩
      rw [← ho2] at hP hD
      refine lv_istore (lv' := [(5, .int 0), (4, .int (nI (4 * c))), (3, .ref (ad 21)), (2, .ref (ad 10)), (1, .ref (ad 0)), (0, .ref b0)]) hx hb d_L_law_610 hl (by decide) rfl (fun ls hl => ?_)
      refine lv_aload_n hx hb d_L_law_612 rfl (lv_at hl 3 rfl) ?_
      refine lv_aload_n hx hb d_L_law_613 rfl (lv_at hl 5 rfl) ?_
      refine lv_iload hx hb d_L_law_614 (lv_at hl 1 rfl) ?_
      refine lv_iconst (v := 1) hx hb d_L_law_616 (by decide) ?_
      refine lv_iadd hx hb d_L_law_617 ?_
      refine va_sld hx hb hX hbl hbA hS (lxi1 hc hL) d_L_law_618 ?_
      rw [lx1 hc hL, e1]
      refine kc_i (va_runV (As := [.int 0]) (rest := []) ⟨hx, hb, hml, hown, hts⟩ (c_M_count_0 l D ty ad _ n f th rt qu b w T g a o2 hg1 hn3 (ei - si) hI.g9 hI.q3 hI.hL hI.hR hI.hQ hI.hF hI.hW1) (cwV 1 hts (kGV kS1 m_L_90 m_im_M_count m_sel_M_count m_ini_M m_code_M_count) rfl rfl rfl (by decide +kernel) ⟨Nat.le_of_ble_eq_true rfl, Nat.le_of_ble_eq_true rfl⟩) ⟨kP_blind, va_recv hK hP (ci := 3) (q0 := 10) rfl gw_10, fun U hU hW => ⟨rfl, kP_at hK hP hD U hU hW⟩⟩ rfl rfl hl.1 rfl (lv_room (Nat.le_of_ble_eq_true rfl)) d_L_law_619 ⟨(by show _ ≤ room_1.cells; omega), (by show _ ≤ room_1.slots; omega)⟩) hD hS hA (fun r2 u H locs hu hP hD hS hz => ?_)
      obtain ⟨hr2, rfl⟩ := hu
      obtain ⟨g2, hg2⟩ : ∃ z, z = upd g 0 (mT 1 1) := ⟨_, rfl⟩
      rw [← hg2] at hP hD
      refine lv_istore (lv' := [(6, .int r2), (5, .int 0), (4, .int (nI (4 * c))), (3, .ref (ad 21)), (2, .ref (ad 10)), (1, .ref (ad 0)), (0, .ref b0)]) hx hb d_L_law_622 hl (by decide) rfl (fun ls hl => ?_)
      refine lv_aload_n hx hb d_L_law_624 rfl (lv_at hl 4 rfl) ?_
      refine kc_R (va_runV (As := []) (rest := []) ⟨hx, hb, hml, hown, hts⟩ (c_M_thrown l D ty ad _ n f th rt qu b w T g2 a o2) (cwV 0 hts (kGV kS1 m_L_52 m_im_M_thrown m_sel_M_thrown m_ini_M m_code_M_thrown) rfl rfl rfl (by decide +kernel) ⟨Nat.le_of_ble_eq_true rfl, Nat.le_of_ble_eq_true rfl⟩) ⟨kP_blind, va_recv hK hP (ci := 3) (q0 := 10) rfl gw_10, fun U hU hW => ⟨rfl, kP_at hK hP hD U hU hW⟩⟩ rfl rfl hl.1 rfl (lv_room (Nat.le_of_ble_eq_true rfl)) d_L_law_625 ⟨(by show _ ≤ room_1.cells; omega), (by show _ ≤ room_1.slots; omega)⟩) ?_
      refine lv_iload hx hb d_L_law_628 (lv_at hl 1 rfl) ?_
      refine lv_icmp_eq (tgt := 635) hx hb d_L_law_630 (by decide) (fun c_630 => ?_) (fun c_630 => absurd (by rw [hg2]; exact mT_0 k10 k10) c_630)
      refine lv_iload hx hb d_L_law_635 (lv_at hl 1 rfl) ?_
      refine lv_if_ne (tgt := 652) hx hb d_L_law_637 (by decide) (fun c_637 => absurd rfl c_637) (fun c_637 => ?_)
      refine lv_aload_n hx hb d_L_law_640 rfl (lv_at hl 3 rfl) ?_
      refine lv_iconst (v := 0) hx hb d_L_law_641 (by decide) ?_
      refine va_lald (f := o2) hx hb hK hP 21 3 gw_21 rfl (by rw [← nI_0]; exact vp_in_nI (N := 1) (by omega) (by omega)) d_L_law_642 ?_
      rw [sb_cl0]
      refine lv_iload hx hb d_L_law_643 (lv_at hl 0 rfl) ?_
      refine lv_i2l (v := (r2).toInt64) hx hb d_L_law_645 rfl ?_
      refine W.lcmp hx hb d_L_law_646 ?_
      refine lv_if_eq (tgt := 652) hx hb d_L_law_647 (by decide) (fun c_647 => ?_) (fun c_647 => absurd ((lg_cmp_eq _ _).mpr (by rw [ho2, pk_uLs, hr2, hans])) c_647)
      refine lv_goto (tgt := 655) hx hb d_L_law_652 (by decide) ?_
      have hl := lv_sub (l' := [(4, .int (nI (4 * c))), (3, .ref (ad 21)), (2, .ref (ad 10)), (1, .ref (ad 0)), (0, .ref b0)]) hl [2, 3, 4, 5, 6] rfl
      have hI2 : Inv n si ei f th rt qu T g2 a := by rw [hg2]; exact hI
      have h12 : f 10 = g2 11 := by rw [hg2]; exact h10
      refine W.widen (k := cells + 2) (n := slots + 16) (by omega) (by omega) ?_
      exact kk hI2 h12 hP hD hS hl
    · obtain ⟨z9, hz1, hz2⟩ := hI.reach w
      have hans := (hI.same hz1 hz2 (a 14)).2.2.1
      refine lv_aload_n hx hb d_L_law_599 rfl (lv_at hl 3 rfl) ?_
      refine lv_aload_n hx hb d_L_law_600 rfl (lv_at hl 4 rfl) ?_
      refine lv_iload hx hb d_L_law_601 (lv_at hl 0 rfl) ?_
      refine lv_iconst (v := 1) hx hb d_L_law_603 (by decide) ?_
      refine lv_iadd hx hb d_L_law_604 ?_
      refine va_sld hx hb hX hbl hbA hS (lxi1 hc hL) d_L_law_605 ?_
      rw [lx1 hc hL, e1]
      refine lv_aload_n hx hb d_L_law_606 rfl (lv_at hl 1 rfl) ?_
      refine kc_i (vx_runSW (As := [.ref (ad 0), .int 1, .ref (ad 21)]) (rest := []) ⟨hx, hb, hml, hown, hts⟩ (c_L_count_1 l D ty ad _ n f th rt qu b w T g a o hn h12) (vx_cwSW 3 hts (kGS kS1 m_L_88 m_st_L_count m_ini_L m_code_L_count) rfl rfl rfl (by decide +kernel) ⟨Nat.le_of_ble_eq_true rfl, Nat.le_of_ble_eq_true rfl⟩) ⟨kP_blind, fun U hU hW => ⟨rfl, kP_at hK hP hD U hU hW⟩⟩ rfl rfl hl.1 rfl (lv_room (Nat.le_of_ble_eq_true rfl)) d_L_law_607 ⟨(by show _ ≤ room_1.cells; omega), (by show _ ≤ room_1.slots; omega)⟩) hD hS hA (fun r u H locs hu hP hD hS hz => ?_)
      obtain ⟨rfl, rfl⟩ := hu
      obtain ⟨o2, ho2⟩ : ∃ z, z = vp_updL o 0 ((sReach f th rt qu T w).2.2).toInt64 := ⟨_, rfl⟩
      rw [← ho2] at hP hD
      obtain ⟨w2, hw2⟩ : ∃ z, z = sReach f th rt qu T w := ⟨_, rfl⟩
      rw [← hw2] at hP hD
      refine lv_istore (lv' := [(5, .int 0), (4, .int (nI (4 * c))), (3, .ref (ad 21)), (2, .ref (ad 10)), (1, .ref (ad 0)), (0, .ref b0)]) hx hb d_L_law_610 hl (by decide) rfl (fun ls hl => ?_)
      refine lv_aload_n hx hb d_L_law_612 rfl (lv_at hl 3 rfl) ?_
      refine lv_aload_n hx hb d_L_law_613 rfl (lv_at hl 5 rfl) ?_
      refine lv_iload hx hb d_L_law_614 (lv_at hl 1 rfl) ?_
      refine lv_iconst (v := 1) hx hb d_L_law_616 (by decide) ?_
      refine lv_iadd hx hb d_L_law_617 ?_
      refine va_sld hx hb hX hbl hbA hS (lxi1 hc hL) d_L_law_618 ?_
      rw [lx1 hc hL, e1]
      refine kc_i (va_runV (As := [.int 1]) (rest := []) ⟨hx, hb, hml, hown, hts⟩ (c_M_count_1 l D ty ad _ n f th rt qu b w2 T g a o2 hg1 hn3 (ei - si) hI.g9 hI.q3 hI.hL hI.hR hI.hQ hI.hF hI.hW1) (cwV 1 hts (kGV kS1 m_L_90 m_im_M_count m_sel_M_count m_ini_M m_code_M_count) rfl rfl rfl (by decide +kernel) ⟨Nat.le_of_ble_eq_true rfl, Nat.le_of_ble_eq_true rfl⟩) ⟨kP_blind, va_recv hK hP (ci := 3) (q0 := 10) rfl gw_10, fun U hU hW => ⟨rfl, kP_at hK hP hD U hU hW⟩⟩ rfl rfl hl.1 rfl (lv_room (Nat.le_of_ble_eq_true rfl)) d_L_law_619 ⟨(by show _ ≤ room_1.cells; omega), (by show _ ≤ room_1.slots; omega)⟩) hD hS hA (fun r2 u H locs hu hP hD hS hz => ?_)
      obtain ⟨hr2, rfl⟩ := hu
      obtain ⟨g2, hg2⟩ : ∃ z, z = upd g 0 (mT 1 1) := ⟨_, rfl⟩
      rw [← hg2] at hP hD
      obtain ⟨a2, ha2⟩ : ∃ z, z = va_up a 14 (mD 0 a n (ei - si) (a 14)) := ⟨_, rfl⟩
      rw [← ha2] at hP hD
      refine lv_istore (lv' := [(6, .int r2), (5, .int 0), (4, .int (nI (4 * c))), (3, .ref (ad 21)), (2, .ref (ad 10)), (1, .ref (ad 0)), (0, .ref b0)]) hx hb d_L_law_622 hl (by decide) rfl (fun ls hl => ?_)
      refine lv_aload_n hx hb d_L_law_624 rfl (lv_at hl 4 rfl) ?_
      refine kc_R (va_runV (As := []) (rest := []) ⟨hx, hb, hml, hown, hts⟩ (c_M_thrown l D ty ad _ n f th rt qu b w2 T g2 a2 o2) (cwV 0 hts (kGV kS1 m_L_52 m_im_M_thrown m_sel_M_thrown m_ini_M m_code_M_thrown) rfl rfl rfl (by decide +kernel) ⟨Nat.le_of_ble_eq_true rfl, Nat.le_of_ble_eq_true rfl⟩) ⟨kP_blind, va_recv hK hP (ci := 3) (q0 := 10) rfl gw_10, fun U hU hW => ⟨rfl, kP_at hK hP hD U hU hW⟩⟩ rfl rfl hl.1 rfl (lv_room (Nat.le_of_ble_eq_true rfl)) d_L_law_625 ⟨(by show _ ≤ room_1.cells; omega), (by show _ ≤ room_1.slots; omega)⟩) ?_
      refine lv_iload hx hb d_L_law_628 (lv_at hl 1 rfl) ?_
      refine lv_icmp_eq (tgt := 635) hx hb d_L_law_630 (by decide) (fun c_630 => ?_) (fun c_630 => absurd (by rw [hg2]; exact mT_0 k10 k10) c_630)
      refine lv_iload hx hb d_L_law_635 (lv_at hl 1 rfl) ?_
      refine lv_if_ne (tgt := 652) hx hb d_L_law_637 (by decide) (fun c_637 => absurd rfl c_637) (fun c_637 => ?_)
      refine lv_aload_n hx hb d_L_law_640 rfl (lv_at hl 3 rfl) ?_
      refine lv_iconst (v := 0) hx hb d_L_law_641 (by decide) ?_
      refine va_lald (f := o2) hx hb hK hP 21 3 gw_21 rfl (by rw [← nI_0]; exact vp_in_nI (N := 1) (by omega) (by omega)) d_L_law_642 ?_
      rw [sb_cl0]
      refine lv_iload hx hb d_L_law_643 (lv_at hl 0 rfl) ?_
      refine lv_i2l (v := (r2).toInt64) hx hb d_L_law_645 rfl ?_
      refine W.lcmp hx hb d_L_law_646 ?_
      refine lv_if_eq (tgt := 652) hx hb d_L_law_647 (by decide) (fun c_647 => ?_) (fun c_647 => absurd ((lg_cmp_eq _ _).mpr (by rw [ho2, pk_uLs, hr2, hans])) c_647)
      refine lv_goto (tgt := 655) hx hb d_L_law_652 (by decide) ?_
      have hl := lv_sub (l' := [(4, .int (nI (4 * c))), (3, .ref (ad 21)), (2, .ref (ad 10)), (1, .ref (ad 0)), (0, .ref b0)]) hl [2, 3, 4, 5, 6] rfl
      have hI2 : Inv n si ei f th rt qu T g2 a2 := by rw [hg2, ha2]; exact hI
      have h12 : f 10 = g2 11 := by rw [hg2]; exact h10
      refine W.widen (k := cells + 2) (n := slots + 16) (by omega) (by omega) ?_
      exact kk hI2 h12 hP hD hS hl
    · obtain ⟨z9, hz1, hz2⟩ := hI.kept w
      have hans := (hI.same hz1 hz2 (a 14)).2.2.1
      refine lv_aload_n hx hb d_L_law_599 rfl (lv_at hl 3 rfl) ?_
      refine lv_aload_n hx hb d_L_law_600 rfl (lv_at hl 4 rfl) ?_
      refine lv_iload hx hb d_L_law_601 (lv_at hl 0 rfl) ?_
      refine lv_iconst (v := 1) hx hb d_L_law_603 (by decide) ?_
      refine lv_iadd hx hb d_L_law_604 ?_
      refine va_sld hx hb hX hbl hbA hS (lxi1 hc hL) d_L_law_605 ?_
      rw [lx1 hc hL, e1]
      refine lv_aload_n hx hb d_L_law_606 rfl (lv_at hl 1 rfl) ?_
      refine kc_i (vx_runSW (As := [.ref (ad 0), .int 2, .ref (ad 21)]) (rest := []) ⟨hx, hb, hml, hown, hts⟩ (c_L_count_2 l D ty ad _ n f th rt qu b w T g a o hn h12) (vx_cwSW 3 hts (kGS kS1 m_L_88 m_st_L_count m_ini_L m_code_L_count) rfl rfl rfl (by decide +kernel) ⟨Nat.le_of_ble_eq_true rfl, Nat.le_of_ble_eq_true rfl⟩) ⟨kP_blind, fun U hU hW => ⟨rfl, kP_at hK hP hD U hU hW⟩⟩ rfl rfl hl.1 rfl (lv_room (Nat.le_of_ble_eq_true rfl)) d_L_law_607 ⟨(by show _ ≤ room_1.cells; omega), (by show _ ≤ room_1.slots; omega)⟩) hD hS hA (fun r u H locs hu hP hD hS hz => ?_)
      obtain ⟨rfl, rfl⟩ := hu
      obtain ⟨o2, ho2⟩ : ∃ z, z = vp_updL o 0 ((sKept f th rt qu T w).2.2).toInt64 := ⟨_, rfl⟩
      rw [← ho2] at hP hD
      obtain ⟨w2, hw2⟩ : ∃ z, z = sKept f th rt qu T w := ⟨_, rfl⟩
      rw [← hw2] at hP hD
      refine lv_istore (lv' := [(5, .int 0), (4, .int (nI (4 * c))), (3, .ref (ad 21)), (2, .ref (ad 10)), (1, .ref (ad 0)), (0, .ref b0)]) hx hb d_L_law_610 hl (by decide) rfl (fun ls hl => ?_)
      refine lv_aload_n hx hb d_L_law_612 rfl (lv_at hl 3 rfl) ?_
      refine lv_aload_n hx hb d_L_law_613 rfl (lv_at hl 5 rfl) ?_
      refine lv_iload hx hb d_L_law_614 (lv_at hl 1 rfl) ?_
      refine lv_iconst (v := 1) hx hb d_L_law_616 (by decide) ?_
      refine lv_iadd hx hb d_L_law_617 ?_
      refine va_sld hx hb hX hbl hbA hS (lxi1 hc hL) d_L_law_618 ?_
      rw [lx1 hc hL, e1]
      refine kc_i (va_runV (As := [.int 2]) (rest := []) ⟨hx, hb, hml, hown, hts⟩ (c_M_count_2 l D ty ad _ n f th rt qu b w2 T g a o2 hg1 hn3 (ei - si) hI.g9 hI.q3 hI.hL hI.hR hI.hQ hI.hF hI.hW1) (cwV 1 hts (kGV kS1 m_L_90 m_im_M_count m_sel_M_count m_ini_M m_code_M_count) rfl rfl rfl (by decide +kernel) ⟨Nat.le_of_ble_eq_true rfl, Nat.le_of_ble_eq_true rfl⟩) ⟨kP_blind, va_recv hK hP (ci := 3) (q0 := 10) rfl gw_10, fun U hU hW => ⟨rfl, kP_at hK hP hD U hU hW⟩⟩ rfl rfl hl.1 rfl (lv_room (Nat.le_of_ble_eq_true rfl)) d_L_law_619 ⟨(by show _ ≤ room_1.cells; omega), (by show _ ≤ room_1.slots; omega)⟩) hD hS hA (fun r2 u H locs hu hP hD hS hz => ?_)
      obtain ⟨hr2, rfl⟩ := hu
      obtain ⟨g2, hg2⟩ : ∃ z, z = upd g 0 (mT 1 1) := ⟨_, rfl⟩
      rw [← hg2] at hP hD
      obtain ⟨a2, ha2⟩ : ∃ z, z = va_up a 14 (mD 1 a n (ei - si) (a 14)) := ⟨_, rfl⟩
      rw [← ha2] at hP hD
      refine lv_istore (lv' := [(6, .int r2), (5, .int 0), (4, .int (nI (4 * c))), (3, .ref (ad 21)), (2, .ref (ad 10)), (1, .ref (ad 0)), (0, .ref b0)]) hx hb d_L_law_622 hl (by decide) rfl (fun ls hl => ?_)
      refine lv_aload_n hx hb d_L_law_624 rfl (lv_at hl 4 rfl) ?_
      refine kc_R (va_runV (As := []) (rest := []) ⟨hx, hb, hml, hown, hts⟩ (c_M_thrown l D ty ad _ n f th rt qu b w2 T g2 a2 o2) (cwV 0 hts (kGV kS1 m_L_52 m_im_M_thrown m_sel_M_thrown m_ini_M m_code_M_thrown) rfl rfl rfl (by decide +kernel) ⟨Nat.le_of_ble_eq_true rfl, Nat.le_of_ble_eq_true rfl⟩) ⟨kP_blind, va_recv hK hP (ci := 3) (q0 := 10) rfl gw_10, fun U hU hW => ⟨rfl, kP_at hK hP hD U hU hW⟩⟩ rfl rfl hl.1 rfl (lv_room (Nat.le_of_ble_eq_true rfl)) d_L_law_625 ⟨(by show _ ≤ room_1.cells; omega), (by show _ ≤ room_1.slots; omega)⟩) ?_
      refine lv_iload hx hb d_L_law_628 (lv_at hl 1 rfl) ?_
      refine lv_icmp_eq (tgt := 635) hx hb d_L_law_630 (by decide) (fun c_630 => ?_) (fun c_630 => absurd (by rw [hg2]; exact mT_0 k10 k10) c_630)
      refine lv_iload hx hb d_L_law_635 (lv_at hl 1 rfl) ?_
      refine lv_if_ne (tgt := 652) hx hb d_L_law_637 (by decide) (fun c_637 => absurd rfl c_637) (fun c_637 => ?_)
      refine lv_aload_n hx hb d_L_law_640 rfl (lv_at hl 3 rfl) ?_
      refine lv_iconst (v := 0) hx hb d_L_law_641 (by decide) ?_
      refine va_lald (f := o2) hx hb hK hP 21 3 gw_21 rfl (by rw [← nI_0]; exact vp_in_nI (N := 1) (by omega) (by omega)) d_L_law_642 ?_
      rw [sb_cl0]
      refine lv_iload hx hb d_L_law_643 (lv_at hl 0 rfl) ?_
      refine lv_i2l (v := (r2).toInt64) hx hb d_L_law_645 rfl ?_
      refine W.lcmp hx hb d_L_law_646 ?_
      refine lv_if_eq (tgt := 652) hx hb d_L_law_647 (by decide) (fun c_647 => ?_) (fun c_647 => absurd ((lg_cmp_eq _ _).mpr (by rw [ho2, pk_uLs, hr2, hans])) c_647)
      refine lv_goto (tgt := 655) hx hb d_L_law_652 (by decide) ?_
      have hl := lv_sub (l' := [(4, .int (nI (4 * c))), (3, .ref (ad 21)), (2, .ref (ad 10)), (1, .ref (ad 0)), (0, .ref b0)]) hl [2, 3, 4, 5, 6] rfl
      have hI2 : Inv n si ei f th rt qu T g2 a2 := by rw [hg2, ha2]; exact hI
      have h12 : f 10 = g2 11 := by rw [hg2]; exact h10
      refine W.widen (k := cells + 2) (n := slots + 16) (by omega) (by omega) ?_
      exact kk hI2 h12 hP hD hS hl
    · have hans : f 4 - f 3 = g 9 := by rw [hI.size, hI.g9]
      refine lv_aload_n hx hb d_L_law_599 rfl (lv_at hl 3 rfl) ?_
      refine lv_aload_n hx hb d_L_law_600 rfl (lv_at hl 4 rfl) ?_
      refine lv_iload hx hb d_L_law_601 (lv_at hl 0 rfl) ?_
      refine lv_iconst (v := 1) hx hb d_L_law_603 (by decide) ?_
      refine lv_iadd hx hb d_L_law_604 ?_
      refine va_sld hx hb hX hbl hbA hS (lxi1 hc hL) d_L_law_605 ?_
      rw [lx1 hc hL, e1]
      refine lv_aload_n hx hb d_L_law_606 rfl (lv_at hl 1 rfl) ?_
      refine kc_i (vx_runSW (As := [.ref (ad 0), .int 3, .ref (ad 21)]) (rest := []) ⟨hx, hb, hml, hown, hts⟩ (c_L_count_3 l D ty ad _ n f th rt qu b w T g a o hn h12) (vx_cwSW 3 hts (kGS kS1 m_L_88 m_st_L_count m_ini_L m_code_L_count) rfl rfl rfl (by decide +kernel) ⟨Nat.le_of_ble_eq_true rfl, Nat.le_of_ble_eq_true rfl⟩) ⟨kP_blind, fun U hU hW => ⟨rfl, kP_at hK hP hD U hU hW⟩⟩ rfl rfl hl.1 rfl (lv_room (Nat.le_of_ble_eq_true rfl)) d_L_law_607 ⟨(by show _ ≤ room_1.cells; omega), (by show _ ≤ room_1.slots; omega)⟩) hD hS hA (fun r u H locs hu hP hD hS hz => ?_)
      obtain ⟨rfl, rfl⟩ := hu
      obtain ⟨o2, ho2⟩ : ∃ z, z = vp_updL o 0 (f 4 - f 3).toInt64 := ⟨_, rfl⟩
      rw [← ho2] at hP hD
      refine lv_istore (lv' := [(5, .int 0), (4, .int (nI (4 * c))), (3, .ref (ad 21)), (2, .ref (ad 10)), (1, .ref (ad 0)), (0, .ref b0)]) hx hb d_L_law_610 hl (by decide) rfl (fun ls hl => ?_)
      refine lv_aload_n hx hb d_L_law_612 rfl (lv_at hl 3 rfl) ?_
      refine lv_aload_n hx hb d_L_law_613 rfl (lv_at hl 5 rfl) ?_
      refine lv_iload hx hb d_L_law_614 (lv_at hl 1 rfl) ?_
      refine lv_iconst (v := 1) hx hb d_L_law_616 (by decide) ?_
      refine lv_iadd hx hb d_L_law_617 ?_
      refine va_sld hx hb hX hbl hbA hS (lxi1 hc hL) d_L_law_618 ?_
      rw [lx1 hc hL, e1]
      refine kc_i (va_runV (As := [.int 3]) (rest := []) ⟨hx, hb, hml, hown, hts⟩ (c_M_count_3 l D ty ad _ n f th rt qu b w T g a o2 hg1 hn3 (ei - si) hI.g9 hI.q3 hI.hL hI.hR hI.hQ hI.hF hI.hW1) (cwV 1 hts (kGV kS1 m_L_90 m_im_M_count m_sel_M_count m_ini_M m_code_M_count) rfl rfl rfl (by decide +kernel) ⟨Nat.le_of_ble_eq_true rfl, Nat.le_of_ble_eq_true rfl⟩) ⟨kP_blind, va_recv hK hP (ci := 3) (q0 := 10) rfl gw_10, fun U hU hW => ⟨rfl, kP_at hK hP hD U hU hW⟩⟩ rfl rfl hl.1 rfl (lv_room (Nat.le_of_ble_eq_true rfl)) d_L_law_619 ⟨(by show _ ≤ room_1.cells; omega), (by show _ ≤ room_1.slots; omega)⟩) hD hS hA (fun r2 u H locs hu hP hD hS hz => ?_)
      obtain ⟨hr2, rfl⟩ := hu
      obtain ⟨g2, hg2⟩ : ∃ z, z = upd g 0 (mT 1 1) := ⟨_, rfl⟩
      rw [← hg2] at hP hD
      refine lv_istore (lv' := [(6, .int r2), (5, .int 0), (4, .int (nI (4 * c))), (3, .ref (ad 21)), (2, .ref (ad 10)), (1, .ref (ad 0)), (0, .ref b0)]) hx hb d_L_law_622 hl (by decide) rfl (fun ls hl => ?_)
      refine lv_aload_n hx hb d_L_law_624 rfl (lv_at hl 4 rfl) ?_
      refine kc_R (va_runV (As := []) (rest := []) ⟨hx, hb, hml, hown, hts⟩ (c_M_thrown l D ty ad _ n f th rt qu b w T g2 a o2) (cwV 0 hts (kGV kS1 m_L_52 m_im_M_thrown m_sel_M_thrown m_ini_M m_code_M_thrown) rfl rfl rfl (by decide +kernel) ⟨Nat.le_of_ble_eq_true rfl, Nat.le_of_ble_eq_true rfl⟩) ⟨kP_blind, va_recv hK hP (ci := 3) (q0 := 10) rfl gw_10, fun U hU hW => ⟨rfl, kP_at hK hP hD U hU hW⟩⟩ rfl rfl hl.1 rfl (lv_room (Nat.le_of_ble_eq_true rfl)) d_L_law_625 ⟨(by show _ ≤ room_1.cells; omega), (by show _ ≤ room_1.slots; omega)⟩) ?_
      refine lv_iload hx hb d_L_law_628 (lv_at hl 1 rfl) ?_
      refine lv_icmp_eq (tgt := 635) hx hb d_L_law_630 (by decide) (fun c_630 => ?_) (fun c_630 => absurd (by rw [hg2]; exact mT_0 k10 k10) c_630)
      refine lv_iload hx hb d_L_law_635 (lv_at hl 1 rfl) ?_
      refine lv_if_ne (tgt := 652) hx hb d_L_law_637 (by decide) (fun c_637 => absurd rfl c_637) (fun c_637 => ?_)
      refine lv_aload_n hx hb d_L_law_640 rfl (lv_at hl 3 rfl) ?_
      refine lv_iconst (v := 0) hx hb d_L_law_641 (by decide) ?_
      refine va_lald (f := o2) hx hb hK hP 21 3 gw_21 rfl (by rw [← nI_0]; exact vp_in_nI (N := 1) (by omega) (by omega)) d_L_law_642 ?_
      rw [sb_cl0]
      refine lv_iload hx hb d_L_law_643 (lv_at hl 0 rfl) ?_
      refine lv_i2l (v := (r2).toInt64) hx hb d_L_law_645 rfl ?_
      refine W.lcmp hx hb d_L_law_646 ?_
      refine lv_if_eq (tgt := 652) hx hb d_L_law_647 (by decide) (fun c_647 => ?_) (fun c_647 => absurd ((lg_cmp_eq _ _).mpr (by rw [ho2, pk_uLs, hr2, hans])) c_647)
      refine lv_goto (tgt := 655) hx hb d_L_law_652 (by decide) ?_
      have hl := lv_sub (l' := [(4, .int (nI (4 * c))), (3, .ref (ad 21)), (2, .ref (ad 10)), (1, .ref (ad 0)), (0, .ref b0)]) hl [2, 3, 4, 5, 6] rfl
      have hI2 : Inv n si ei f th rt qu T g2 a := by rw [hg2]; exact hI
      have h12 : f 10 = g2 11 := by rw [hg2]; exact h10
      refine W.widen (k := cells + 2) (n := slots + 16) (by omega) (by omega) ?_
      exact kk hI2 h12 hP hD hS hl
    · have hans := hI.waiting
      refine lv_aload_n hx hb d_L_law_599 rfl (lv_at hl 3 rfl) ?_
      refine lv_aload_n hx hb d_L_law_600 rfl (lv_at hl 4 rfl) ?_
      refine lv_iload hx hb d_L_law_601 (lv_at hl 0 rfl) ?_
      refine lv_iconst (v := 1) hx hb d_L_law_603 (by decide) ?_
      refine lv_iadd hx hb d_L_law_604 ?_
      refine va_sld hx hb hX hbl hbA hS (lxi1 hc hL) d_L_law_605 ?_
      rw [lx1 hc hL, e1]
      refine lv_aload_n hx hb d_L_law_606 rfl (lv_at hl 1 rfl) ?_
      refine kc_i (vx_runSW (As := [.ref (ad 0), .int 4, .ref (ad 21)]) (rest := []) ⟨hx, hb, hml, hown, hts⟩ (c_L_count_4 l D ty ad _ n f th rt qu b w T g a o hn h12) (vx_cwSW 3 hts (kGS kS1 m_L_88 m_st_L_count m_ini_L m_code_L_count) rfl rfl rfl (by decide +kernel) ⟨Nat.le_of_ble_eq_true rfl, Nat.le_of_ble_eq_true rfl⟩) ⟨kP_blind, fun U hU hW => ⟨rfl, kP_at hK hP hD U hU hW⟩⟩ rfl rfl hl.1 rfl (lv_room (Nat.le_of_ble_eq_true rfl)) d_L_law_607 ⟨(by show _ ≤ room_1.cells; omega), (by show _ ≤ room_1.slots; omega)⟩) hD hS hA (fun r u H locs hu hP hD hS hz => ?_)
      obtain ⟨rfl, rfl⟩ := hu
      obtain ⟨o2, ho2⟩ : ∃ z, z = vp_updL o 0 (it (kWt th T) 300 0).toInt64 := ⟨_, rfl⟩
      rw [← ho2] at hP hD
      refine lv_istore (lv' := [(5, .int 0), (4, .int (nI (4 * c))), (3, .ref (ad 21)), (2, .ref (ad 10)), (1, .ref (ad 0)), (0, .ref b0)]) hx hb d_L_law_610 hl (by decide) rfl (fun ls hl => ?_)
      refine lv_aload_n hx hb d_L_law_612 rfl (lv_at hl 3 rfl) ?_
      refine lv_aload_n hx hb d_L_law_613 rfl (lv_at hl 5 rfl) ?_
      refine lv_iload hx hb d_L_law_614 (lv_at hl 1 rfl) ?_
      refine lv_iconst (v := 1) hx hb d_L_law_616 (by decide) ?_
      refine lv_iadd hx hb d_L_law_617 ?_
      refine va_sld hx hb hX hbl hbA hS (lxi1 hc hL) d_L_law_618 ?_
      rw [lx1 hc hL, e1]
      refine kc_i (va_runV (As := [.int 4]) (rest := []) ⟨hx, hb, hml, hown, hts⟩ (c_M_count_4 l D ty ad _ n f th rt qu b w T g a o2 hg1 hn3 (ei - si) hI.g9 hI.q3 hI.hL hI.hR hI.hQ hI.hF hI.hW1) (cwV 1 hts (kGV kS1 m_L_90 m_im_M_count m_sel_M_count m_ini_M m_code_M_count) rfl rfl rfl (by decide +kernel) ⟨Nat.le_of_ble_eq_true rfl, Nat.le_of_ble_eq_true rfl⟩) ⟨kP_blind, va_recv hK hP (ci := 3) (q0 := 10) rfl gw_10, fun U hU hW => ⟨rfl, kP_at hK hP hD U hU hW⟩⟩ rfl rfl hl.1 rfl (lv_room (Nat.le_of_ble_eq_true rfl)) d_L_law_619 ⟨(by show _ ≤ room_1.cells; omega), (by show _ ≤ room_1.slots; omega)⟩) hD hS hA (fun r2 u H locs hu hP hD hS hz => ?_)
      obtain ⟨hr2, rfl⟩ := hu
      obtain ⟨g2, hg2⟩ : ∃ z, z = upd g 0 (mT 1 1) := ⟨_, rfl⟩
      rw [← hg2] at hP hD
      refine lv_istore (lv' := [(6, .int r2), (5, .int 0), (4, .int (nI (4 * c))), (3, .ref (ad 21)), (2, .ref (ad 10)), (1, .ref (ad 0)), (0, .ref b0)]) hx hb d_L_law_622 hl (by decide) rfl (fun ls hl => ?_)
      refine lv_aload_n hx hb d_L_law_624 rfl (lv_at hl 4 rfl) ?_
      refine kc_R (va_runV (As := []) (rest := []) ⟨hx, hb, hml, hown, hts⟩ (c_M_thrown l D ty ad _ n f th rt qu b w T g2 a o2) (cwV 0 hts (kGV kS1 m_L_52 m_im_M_thrown m_sel_M_thrown m_ini_M m_code_M_thrown) rfl rfl rfl (by decide +kernel) ⟨Nat.le_of_ble_eq_true rfl, Nat.le_of_ble_eq_true rfl⟩) ⟨kP_blind, va_recv hK hP (ci := 3) (q0 := 10) rfl gw_10, fun U hU hW => ⟨rfl, kP_at hK hP hD U hU hW⟩⟩ rfl rfl hl.1 rfl (lv_room (Nat.le_of_ble_eq_true rfl)) d_L_law_625 ⟨(by show _ ≤ room_1.cells; omega), (by show _ ≤ room_1.slots; omega)⟩) ?_
      refine lv_iload hx hb d_L_law_628 (lv_at hl 1 rfl) ?_
      refine lv_icmp_eq (tgt := 635) hx hb d_L_law_630 (by decide) (fun c_630 => ?_) (fun c_630 => absurd (by rw [hg2]; exact mT_0 k10 k10) c_630)
      refine lv_iload hx hb d_L_law_635 (lv_at hl 1 rfl) ?_
      refine lv_if_ne (tgt := 652) hx hb d_L_law_637 (by decide) (fun c_637 => absurd rfl c_637) (fun c_637 => ?_)
      refine lv_aload_n hx hb d_L_law_640 rfl (lv_at hl 3 rfl) ?_
      refine lv_iconst (v := 0) hx hb d_L_law_641 (by decide) ?_
      refine va_lald (f := o2) hx hb hK hP 21 3 gw_21 rfl (by rw [← nI_0]; exact vp_in_nI (N := 1) (by omega) (by omega)) d_L_law_642 ?_
      rw [sb_cl0]
      refine lv_iload hx hb d_L_law_643 (lv_at hl 0 rfl) ?_
      refine lv_i2l (v := (r2).toInt64) hx hb d_L_law_645 rfl ?_
      refine W.lcmp hx hb d_L_law_646 ?_
      refine lv_if_eq (tgt := 652) hx hb d_L_law_647 (by decide) (fun c_647 => ?_) (fun c_647 => absurd ((lg_cmp_eq _ _).mpr (by rw [ho2, pk_uLs, hr2, hans])) c_647)
      refine lv_goto (tgt := 655) hx hb d_L_law_652 (by decide) ?_
      have hl := lv_sub (l' := [(4, .int (nI (4 * c))), (3, .ref (ad 21)), (2, .ref (ad 10)), (1, .ref (ad 0)), (0, .ref b0)]) hl [2, 3, 4, 5, 6] rfl
      have hI2 : Inv n si ei f th rt qu T g2 a := by rw [hg2]; exact hI
      have h12 : f 10 = g2 11 := by rw [hg2]; exact h10
      refine W.widen (k := cells + 2) (n := slots + 16) (by omega) (by omega) ?_
      exact kk hI2 h12 hP hD hS hl
    · have hans := hI.f9
      refine lv_aload_n hx hb d_L_law_599 rfl (lv_at hl 3 rfl) ?_
      refine lv_aload_n hx hb d_L_law_600 rfl (lv_at hl 4 rfl) ?_
      refine lv_iload hx hb d_L_law_601 (lv_at hl 0 rfl) ?_
      refine lv_iconst (v := 1) hx hb d_L_law_603 (by decide) ?_
      refine lv_iadd hx hb d_L_law_604 ?_
      refine va_sld hx hb hX hbl hbA hS (lxi1 hc hL) d_L_law_605 ?_
      rw [lx1 hc hL, e1]
      refine lv_aload_n hx hb d_L_law_606 rfl (lv_at hl 1 rfl) ?_
      refine kc_i (vx_runSW (As := [.ref (ad 0), .int 5, .ref (ad 21)]) (rest := []) ⟨hx, hb, hml, hown, hts⟩ (c_L_count_5 l D ty ad _ n f th rt qu b w T g a o hn h12) (vx_cwSW 3 hts (kGS kS1 m_L_88 m_st_L_count m_ini_L m_code_L_count) rfl rfl rfl (by decide +kernel) ⟨Nat.le_of_ble_eq_true rfl, Nat.le_of_ble_eq_true rfl⟩) ⟨kP_blind, fun U hU hW => ⟨rfl, kP_at hK hP hD U hU hW⟩⟩ rfl rfl hl.1 rfl (lv_room (Nat.le_of_ble_eq_true rfl)) d_L_law_607 ⟨(by show _ ≤ room_1.cells; omega), (by show _ ≤ room_1.slots; omega)⟩) hD hS hA (fun r u H locs hu hP hD hS hz => ?_)
      obtain ⟨rfl, rfl⟩ := hu
      obtain ⟨o2, ho2⟩ : ∃ z, z = vp_updL o 0 (f 9).toInt64 := ⟨_, rfl⟩
      rw [← ho2] at hP hD
      refine lv_istore (lv' := [(5, .int 0), (4, .int (nI (4 * c))), (3, .ref (ad 21)), (2, .ref (ad 10)), (1, .ref (ad 0)), (0, .ref b0)]) hx hb d_L_law_610 hl (by decide) rfl (fun ls hl => ?_)
      refine lv_aload_n hx hb d_L_law_612 rfl (lv_at hl 3 rfl) ?_
      refine lv_aload_n hx hb d_L_law_613 rfl (lv_at hl 5 rfl) ?_
      refine lv_iload hx hb d_L_law_614 (lv_at hl 1 rfl) ?_
      refine lv_iconst (v := 1) hx hb d_L_law_616 (by decide) ?_
      refine lv_iadd hx hb d_L_law_617 ?_
      refine va_sld hx hb hX hbl hbA hS (lxi1 hc hL) d_L_law_618 ?_
      rw [lx1 hc hL, e1]
      refine kc_i (va_runV (As := [.int 5]) (rest := []) ⟨hx, hb, hml, hown, hts⟩ (c_M_count_5 l D ty ad _ n f th rt qu b w T g a o2 hg1 hn3 (ei - si) hI.g9 hI.q3 hI.hL hI.hR hI.hQ hI.hF hI.hW1) (cwV 1 hts (kGV kS1 m_L_90 m_im_M_count m_sel_M_count m_ini_M m_code_M_count) rfl rfl rfl (by decide +kernel) ⟨Nat.le_of_ble_eq_true rfl, Nat.le_of_ble_eq_true rfl⟩) ⟨kP_blind, va_recv hK hP (ci := 3) (q0 := 10) rfl gw_10, fun U hU hW => ⟨rfl, kP_at hK hP hD U hU hW⟩⟩ rfl rfl hl.1 rfl (lv_room (Nat.le_of_ble_eq_true rfl)) d_L_law_619 ⟨(by show _ ≤ room_1.cells; omega), (by show _ ≤ room_1.slots; omega)⟩) hD hS hA (fun r2 u H locs hu hP hD hS hz => ?_)
      obtain ⟨hr2, rfl⟩ := hu
      obtain ⟨g2, hg2⟩ : ∃ z, z = upd g 0 (mT 1 1) := ⟨_, rfl⟩
      rw [← hg2] at hP hD
      refine lv_istore (lv' := [(6, .int r2), (5, .int 0), (4, .int (nI (4 * c))), (3, .ref (ad 21)), (2, .ref (ad 10)), (1, .ref (ad 0)), (0, .ref b0)]) hx hb d_L_law_622 hl (by decide) rfl (fun ls hl => ?_)
      refine lv_aload_n hx hb d_L_law_624 rfl (lv_at hl 4 rfl) ?_
      refine kc_R (va_runV (As := []) (rest := []) ⟨hx, hb, hml, hown, hts⟩ (c_M_thrown l D ty ad _ n f th rt qu b w T g2 a o2) (cwV 0 hts (kGV kS1 m_L_52 m_im_M_thrown m_sel_M_thrown m_ini_M m_code_M_thrown) rfl rfl rfl (by decide +kernel) ⟨Nat.le_of_ble_eq_true rfl, Nat.le_of_ble_eq_true rfl⟩) ⟨kP_blind, va_recv hK hP (ci := 3) (q0 := 10) rfl gw_10, fun U hU hW => ⟨rfl, kP_at hK hP hD U hU hW⟩⟩ rfl rfl hl.1 rfl (lv_room (Nat.le_of_ble_eq_true rfl)) d_L_law_625 ⟨(by show _ ≤ room_1.cells; omega), (by show _ ≤ room_1.slots; omega)⟩) ?_
      refine lv_iload hx hb d_L_law_628 (lv_at hl 1 rfl) ?_
      refine lv_icmp_eq (tgt := 635) hx hb d_L_law_630 (by decide) (fun c_630 => ?_) (fun c_630 => absurd (by rw [hg2]; exact mT_0 k10 k10) c_630)
      refine lv_iload hx hb d_L_law_635 (lv_at hl 1 rfl) ?_
      refine lv_if_ne (tgt := 652) hx hb d_L_law_637 (by decide) (fun c_637 => absurd rfl c_637) (fun c_637 => ?_)
      refine lv_aload_n hx hb d_L_law_640 rfl (lv_at hl 3 rfl) ?_
      refine lv_iconst (v := 0) hx hb d_L_law_641 (by decide) ?_
      refine va_lald (f := o2) hx hb hK hP 21 3 gw_21 rfl (by rw [← nI_0]; exact vp_in_nI (N := 1) (by omega) (by omega)) d_L_law_642 ?_
      rw [sb_cl0]
      refine lv_iload hx hb d_L_law_643 (lv_at hl 0 rfl) ?_
      refine lv_i2l (v := (r2).toInt64) hx hb d_L_law_645 rfl ?_
      refine W.lcmp hx hb d_L_law_646 ?_
      refine lv_if_eq (tgt := 652) hx hb d_L_law_647 (by decide) (fun c_647 => ?_) (fun c_647 => absurd ((lg_cmp_eq _ _).mpr (by rw [ho2, pk_uLs, hr2, hans])) c_647)
      refine lv_goto (tgt := 655) hx hb d_L_law_652 (by decide) ?_
      have hl := lv_sub (l' := [(4, .int (nI (4 * c))), (3, .ref (ad 21)), (2, .ref (ad 10)), (1, .ref (ad 0)), (0, .ref b0)]) hl [2, 3, 4, 5, 6] rfl
      have hI2 : Inv n si ei f th rt qu T g2 a := by rw [hg2]; exact hI
      have h12 : f 10 = g2 11 := by rw [hg2]; exact h10
      refine W.widen (k := cells + 2) (n := slots + 16) (by omega) (by omega) ?_
      exact kk hI2 h12 hP hD hS hl
    · have hans := h10
      refine lv_aload_n hx hb d_L_law_599 rfl (lv_at hl 3 rfl) ?_
      refine lv_aload_n hx hb d_L_law_600 rfl (lv_at hl 4 rfl) ?_
      refine lv_iload hx hb d_L_law_601 (lv_at hl 0 rfl) ?_
      refine lv_iconst (v := 1) hx hb d_L_law_603 (by decide) ?_
      refine lv_iadd hx hb d_L_law_604 ?_
      refine va_sld hx hb hX hbl hbA hS (lxi1 hc hL) d_L_law_605 ?_
      rw [lx1 hc hL, e1]
      refine lv_aload_n hx hb d_L_law_606 rfl (lv_at hl 1 rfl) ?_
      refine kc_i (vx_runSW (As := [.ref (ad 0), .int 6, .ref (ad 21)]) (rest := []) ⟨hx, hb, hml, hown, hts⟩ (c_L_count_6 l D ty ad _ n f th rt qu b w T g a o hn h12) (vx_cwSW 3 hts (kGS kS1 m_L_88 m_st_L_count m_ini_L m_code_L_count) rfl rfl rfl (by decide +kernel) ⟨Nat.le_of_ble_eq_true rfl, Nat.le_of_ble_eq_true rfl⟩) ⟨kP_blind, fun U hU hW => ⟨rfl, kP_at hK hP hD U hU hW⟩⟩ rfl rfl hl.1 rfl (lv_room (Nat.le_of_ble_eq_true rfl)) d_L_law_607 ⟨(by show _ ≤ room_1.cells; omega), (by show _ ≤ room_1.slots; omega)⟩) hD hS hA (fun r u H locs hu hP hD hS hz => ?_)
      obtain ⟨rfl, rfl⟩ := hu
      obtain ⟨o2, ho2⟩ : ∃ z, z = vp_updL o 0 (f 10).toInt64 := ⟨_, rfl⟩
      rw [← ho2] at hP hD
      refine lv_istore (lv' := [(5, .int 0), (4, .int (nI (4 * c))), (3, .ref (ad 21)), (2, .ref (ad 10)), (1, .ref (ad 0)), (0, .ref b0)]) hx hb d_L_law_610 hl (by decide) rfl (fun ls hl => ?_)
      refine lv_aload_n hx hb d_L_law_612 rfl (lv_at hl 3 rfl) ?_
      refine lv_aload_n hx hb d_L_law_613 rfl (lv_at hl 5 rfl) ?_
      refine lv_iload hx hb d_L_law_614 (lv_at hl 1 rfl) ?_
      refine lv_iconst (v := 1) hx hb d_L_law_616 (by decide) ?_
      refine lv_iadd hx hb d_L_law_617 ?_
      refine va_sld hx hb hX hbl hbA hS (lxi1 hc hL) d_L_law_618 ?_
      rw [lx1 hc hL, e1]
      refine kc_i (va_runV (As := [.int 6]) (rest := []) ⟨hx, hb, hml, hown, hts⟩ (c_M_count_6 l D ty ad _ n f th rt qu b w T g a o2 hg1 hn3 (ei - si) hI.g9 hI.q3 hI.hL hI.hR hI.hQ hI.hF hI.hW1) (cwV 1 hts (kGV kS1 m_L_90 m_im_M_count m_sel_M_count m_ini_M m_code_M_count) rfl rfl rfl (by decide +kernel) ⟨Nat.le_of_ble_eq_true rfl, Nat.le_of_ble_eq_true rfl⟩) ⟨kP_blind, va_recv hK hP (ci := 3) (q0 := 10) rfl gw_10, fun U hU hW => ⟨rfl, kP_at hK hP hD U hU hW⟩⟩ rfl rfl hl.1 rfl (lv_room (Nat.le_of_ble_eq_true rfl)) d_L_law_619 ⟨(by show _ ≤ room_1.cells; omega), (by show _ ≤ room_1.slots; omega)⟩) hD hS hA (fun r2 u H locs hu hP hD hS hz => ?_)
      obtain ⟨hr2, rfl⟩ := hu
      obtain ⟨g2, hg2⟩ : ∃ z, z = upd g 0 (mT 1 1) := ⟨_, rfl⟩
      rw [← hg2] at hP hD
      refine lv_istore (lv' := [(6, .int r2), (5, .int 0), (4, .int (nI (4 * c))), (3, .ref (ad 21)), (2, .ref (ad 10)), (1, .ref (ad 0)), (0, .ref b0)]) hx hb d_L_law_622 hl (by decide) rfl (fun ls hl => ?_)
      refine lv_aload_n hx hb d_L_law_624 rfl (lv_at hl 4 rfl) ?_
      refine kc_R (va_runV (As := []) (rest := []) ⟨hx, hb, hml, hown, hts⟩ (c_M_thrown l D ty ad _ n f th rt qu b w T g2 a o2) (cwV 0 hts (kGV kS1 m_L_52 m_im_M_thrown m_sel_M_thrown m_ini_M m_code_M_thrown) rfl rfl rfl (by decide +kernel) ⟨Nat.le_of_ble_eq_true rfl, Nat.le_of_ble_eq_true rfl⟩) ⟨kP_blind, va_recv hK hP (ci := 3) (q0 := 10) rfl gw_10, fun U hU hW => ⟨rfl, kP_at hK hP hD U hU hW⟩⟩ rfl rfl hl.1 rfl (lv_room (Nat.le_of_ble_eq_true rfl)) d_L_law_625 ⟨(by show _ ≤ room_1.cells; omega), (by show _ ≤ room_1.slots; omega)⟩) ?_
      refine lv_iload hx hb d_L_law_628 (lv_at hl 1 rfl) ?_
      refine lv_icmp_eq (tgt := 635) hx hb d_L_law_630 (by decide) (fun c_630 => ?_) (fun c_630 => absurd (by rw [hg2]; exact mT_0 k10 k10) c_630)
      refine lv_iload hx hb d_L_law_635 (lv_at hl 1 rfl) ?_
      refine lv_if_ne (tgt := 652) hx hb d_L_law_637 (by decide) (fun c_637 => absurd rfl c_637) (fun c_637 => ?_)
      refine lv_aload_n hx hb d_L_law_640 rfl (lv_at hl 3 rfl) ?_
      refine lv_iconst (v := 0) hx hb d_L_law_641 (by decide) ?_
      refine va_lald (f := o2) hx hb hK hP 21 3 gw_21 rfl (by rw [← nI_0]; exact vp_in_nI (N := 1) (by omega) (by omega)) d_L_law_642 ?_
      rw [sb_cl0]
      refine lv_iload hx hb d_L_law_643 (lv_at hl 0 rfl) ?_
      refine lv_i2l (v := (r2).toInt64) hx hb d_L_law_645 rfl ?_
      refine W.lcmp hx hb d_L_law_646 ?_
      refine lv_if_eq (tgt := 652) hx hb d_L_law_647 (by decide) (fun c_647 => ?_) (fun c_647 => absurd ((lg_cmp_eq _ _).mpr (by rw [ho2, pk_uLs, hr2, hans])) c_647)
      refine lv_goto (tgt := 655) hx hb d_L_law_652 (by decide) ?_
      have hl := lv_sub (l' := [(4, .int (nI (4 * c))), (3, .ref (ad 21)), (2, .ref (ad 10)), (1, .ref (ad 0)), (0, .ref b0)]) hl [2, 3, 4, 5, 6] rfl
      have hI2 : Inv n si ei f th rt qu T g2 a := by rw [hg2]; exact hI
      have h12 : f 10 = g2 11 := by rw [hg2]; exact h10
      refine W.widen (k := cells + 2) (n := slots + 16) (by omega) (by omega) ?_
      exact kk hI2 h12 hP hD hS hl
    · have hans := hI.f11
      refine lv_aload_n hx hb d_L_law_599 rfl (lv_at hl 3 rfl) ?_
      refine lv_aload_n hx hb d_L_law_600 rfl (lv_at hl 4 rfl) ?_
      refine lv_iload hx hb d_L_law_601 (lv_at hl 0 rfl) ?_
      refine lv_iconst (v := 1) hx hb d_L_law_603 (by decide) ?_
      refine lv_iadd hx hb d_L_law_604 ?_
      refine va_sld hx hb hX hbl hbA hS (lxi1 hc hL) d_L_law_605 ?_
      rw [lx1 hc hL, e1]
      refine lv_aload_n hx hb d_L_law_606 rfl (lv_at hl 1 rfl) ?_
      refine kc_i (vx_runSW (As := [.ref (ad 0), .int 7, .ref (ad 21)]) (rest := []) ⟨hx, hb, hml, hown, hts⟩ (c_L_count_7 l D ty ad _ n f th rt qu b w T g a o hn h12) (vx_cwSW 3 hts (kGS kS1 m_L_88 m_st_L_count m_ini_L m_code_L_count) rfl rfl rfl (by decide +kernel) ⟨Nat.le_of_ble_eq_true rfl, Nat.le_of_ble_eq_true rfl⟩) ⟨kP_blind, fun U hU hW => ⟨rfl, kP_at hK hP hD U hU hW⟩⟩ rfl rfl hl.1 rfl (lv_room (Nat.le_of_ble_eq_true rfl)) d_L_law_607 ⟨(by show _ ≤ room_1.cells; omega), (by show _ ≤ room_1.slots; omega)⟩) hD hS hA (fun r u H locs hu hP hD hS hz => ?_)
      obtain ⟨rfl, rfl⟩ := hu
      obtain ⟨o2, ho2⟩ : ∃ z, z = vp_updL o 0 (f 11).toInt64 := ⟨_, rfl⟩
      rw [← ho2] at hP hD
      refine lv_istore (lv' := [(5, .int 0), (4, .int (nI (4 * c))), (3, .ref (ad 21)), (2, .ref (ad 10)), (1, .ref (ad 0)), (0, .ref b0)]) hx hb d_L_law_610 hl (by decide) rfl (fun ls hl => ?_)
      refine lv_aload_n hx hb d_L_law_612 rfl (lv_at hl 3 rfl) ?_
      refine lv_aload_n hx hb d_L_law_613 rfl (lv_at hl 5 rfl) ?_
      refine lv_iload hx hb d_L_law_614 (lv_at hl 1 rfl) ?_
      refine lv_iconst (v := 1) hx hb d_L_law_616 (by decide) ?_
      refine lv_iadd hx hb d_L_law_617 ?_
      refine va_sld hx hb hX hbl hbA hS (lxi1 hc hL) d_L_law_618 ?_
      rw [lx1 hc hL, e1]
      refine kc_i (va_runV (As := [.int 7]) (rest := []) ⟨hx, hb, hml, hown, hts⟩ (c_M_count_7 l D ty ad _ n f th rt qu b w T g a o2 hg1 hn3 (ei - si) hI.g9 hI.q3 hI.hL hI.hR hI.hQ hI.hF hI.hW1) (cwV 1 hts (kGV kS1 m_L_90 m_im_M_count m_sel_M_count m_ini_M m_code_M_count) rfl rfl rfl (by decide +kernel) ⟨Nat.le_of_ble_eq_true rfl, Nat.le_of_ble_eq_true rfl⟩) ⟨kP_blind, va_recv hK hP (ci := 3) (q0 := 10) rfl gw_10, fun U hU hW => ⟨rfl, kP_at hK hP hD U hU hW⟩⟩ rfl rfl hl.1 rfl (lv_room (Nat.le_of_ble_eq_true rfl)) d_L_law_619 ⟨(by show _ ≤ room_1.cells; omega), (by show _ ≤ room_1.slots; omega)⟩) hD hS hA (fun r2 u H locs hu hP hD hS hz => ?_)
      obtain ⟨hr2, rfl⟩ := hu
      obtain ⟨g2, hg2⟩ : ∃ z, z = upd g 0 (mT 1 1) := ⟨_, rfl⟩
      rw [← hg2] at hP hD
      refine lv_istore (lv' := [(6, .int r2), (5, .int 0), (4, .int (nI (4 * c))), (3, .ref (ad 21)), (2, .ref (ad 10)), (1, .ref (ad 0)), (0, .ref b0)]) hx hb d_L_law_622 hl (by decide) rfl (fun ls hl => ?_)
      refine lv_aload_n hx hb d_L_law_624 rfl (lv_at hl 4 rfl) ?_
      refine kc_R (va_runV (As := []) (rest := []) ⟨hx, hb, hml, hown, hts⟩ (c_M_thrown l D ty ad _ n f th rt qu b w T g2 a o2) (cwV 0 hts (kGV kS1 m_L_52 m_im_M_thrown m_sel_M_thrown m_ini_M m_code_M_thrown) rfl rfl rfl (by decide +kernel) ⟨Nat.le_of_ble_eq_true rfl, Nat.le_of_ble_eq_true rfl⟩) ⟨kP_blind, va_recv hK hP (ci := 3) (q0 := 10) rfl gw_10, fun U hU hW => ⟨rfl, kP_at hK hP hD U hU hW⟩⟩ rfl rfl hl.1 rfl (lv_room (Nat.le_of_ble_eq_true rfl)) d_L_law_625 ⟨(by show _ ≤ room_1.cells; omega), (by show _ ≤ room_1.slots; omega)⟩) ?_
      refine lv_iload hx hb d_L_law_628 (lv_at hl 1 rfl) ?_
      refine lv_icmp_eq (tgt := 635) hx hb d_L_law_630 (by decide) (fun c_630 => ?_) (fun c_630 => absurd (by rw [hg2]; exact mT_0 k10 k10) c_630)
      refine lv_iload hx hb d_L_law_635 (lv_at hl 1 rfl) ?_
      refine lv_if_ne (tgt := 652) hx hb d_L_law_637 (by decide) (fun c_637 => absurd rfl c_637) (fun c_637 => ?_)
      refine lv_aload_n hx hb d_L_law_640 rfl (lv_at hl 3 rfl) ?_
      refine lv_iconst (v := 0) hx hb d_L_law_641 (by decide) ?_
      refine va_lald (f := o2) hx hb hK hP 21 3 gw_21 rfl (by rw [← nI_0]; exact vp_in_nI (N := 1) (by omega) (by omega)) d_L_law_642 ?_
      rw [sb_cl0]
      refine lv_iload hx hb d_L_law_643 (lv_at hl 0 rfl) ?_
      refine lv_i2l (v := (r2).toInt64) hx hb d_L_law_645 rfl ?_
      refine W.lcmp hx hb d_L_law_646 ?_
      refine lv_if_eq (tgt := 652) hx hb d_L_law_647 (by decide) (fun c_647 => ?_) (fun c_647 => absurd ((lg_cmp_eq _ _).mpr (by rw [ho2, pk_uLs, hr2, hans])) c_647)
      refine lv_goto (tgt := 655) hx hb d_L_law_652 (by decide) ?_
      have hl := lv_sub (l' := [(4, .int (nI (4 * c))), (3, .ref (ad 21)), (2, .ref (ad 10)), (1, .ref (ad 0)), (0, .ref b0)]) hl [2, 3, 4, 5, 6] rfl
      have hI2 : Inv n si ei f th rt qu T g2 a := by rw [hg2]; exact hI
      have h12 : f 10 = g2 11 := by rw [hg2]; exact h10
      refine W.widen (k := cells + 2) (n := slots + 16) (by omega) (by omega) ?_
      exact kk hI2 h12 hP hD hS hl
    · have hans : f 7 = g 1 := by rw [hI.f7, hg1]
      refine lv_aload_n hx hb d_L_law_599 rfl (lv_at hl 3 rfl) ?_
      refine lv_aload_n hx hb d_L_law_600 rfl (lv_at hl 4 rfl) ?_
      refine lv_iload hx hb d_L_law_601 (lv_at hl 0 rfl) ?_
      refine lv_iconst (v := 1) hx hb d_L_law_603 (by decide) ?_
      refine lv_iadd hx hb d_L_law_604 ?_
      refine va_sld hx hb hX hbl hbA hS (lxi1 hc hL) d_L_law_605 ?_
      rw [lx1 hc hL, e1]
      refine lv_aload_n hx hb d_L_law_606 rfl (lv_at hl 1 rfl) ?_
      refine kc_i (vx_runSW (As := [.ref (ad 0), .int 8, .ref (ad 21)]) (rest := []) ⟨hx, hb, hml, hown, hts⟩ (c_L_count_8 l D ty ad _ n f th rt qu b w T g a o hn h12) (vx_cwSW 3 hts (kGS kS1 m_L_88 m_st_L_count m_ini_L m_code_L_count) rfl rfl rfl (by decide +kernel) ⟨Nat.le_of_ble_eq_true rfl, Nat.le_of_ble_eq_true rfl⟩) ⟨kP_blind, fun U hU hW => ⟨rfl, kP_at hK hP hD U hU hW⟩⟩ rfl rfl hl.1 rfl (lv_room (Nat.le_of_ble_eq_true rfl)) d_L_law_607 ⟨(by show _ ≤ room_1.cells; omega), (by show _ ≤ room_1.slots; omega)⟩) hD hS hA (fun r u H locs hu hP hD hS hz => ?_)
      obtain ⟨rfl, rfl⟩ := hu
      obtain ⟨o2, ho2⟩ : ∃ z, z = vp_updL o 0 (f 7).toInt64 := ⟨_, rfl⟩
      rw [← ho2] at hP hD
      refine lv_istore (lv' := [(5, .int 0), (4, .int (nI (4 * c))), (3, .ref (ad 21)), (2, .ref (ad 10)), (1, .ref (ad 0)), (0, .ref b0)]) hx hb d_L_law_610 hl (by decide) rfl (fun ls hl => ?_)
      refine lv_aload_n hx hb d_L_law_612 rfl (lv_at hl 3 rfl) ?_
      refine lv_aload_n hx hb d_L_law_613 rfl (lv_at hl 5 rfl) ?_
      refine lv_iload hx hb d_L_law_614 (lv_at hl 1 rfl) ?_
      refine lv_iconst (v := 1) hx hb d_L_law_616 (by decide) ?_
      refine lv_iadd hx hb d_L_law_617 ?_
      refine va_sld hx hb hX hbl hbA hS (lxi1 hc hL) d_L_law_618 ?_
      rw [lx1 hc hL, e1]
      refine kc_i (va_runV (As := [.int 8]) (rest := []) ⟨hx, hb, hml, hown, hts⟩ (c_M_count_8 l D ty ad _ n f th rt qu b w T g a o2 hg1 hn3 (ei - si) hI.g9 hI.q3 hI.hL hI.hR hI.hQ hI.hF hI.hW1) (cwV 1 hts (kGV kS1 m_L_90 m_im_M_count m_sel_M_count m_ini_M m_code_M_count) rfl rfl rfl (by decide +kernel) ⟨Nat.le_of_ble_eq_true rfl, Nat.le_of_ble_eq_true rfl⟩) ⟨kP_blind, va_recv hK hP (ci := 3) (q0 := 10) rfl gw_10, fun U hU hW => ⟨rfl, kP_at hK hP hD U hU hW⟩⟩ rfl rfl hl.1 rfl (lv_room (Nat.le_of_ble_eq_true rfl)) d_L_law_619 ⟨(by show _ ≤ room_1.cells; omega), (by show _ ≤ room_1.slots; omega)⟩) hD hS hA (fun r2 u H locs hu hP hD hS hz => ?_)
      obtain ⟨hr2, rfl⟩ := hu
      obtain ⟨g2, hg2⟩ : ∃ z, z = upd g 0 (mT 1 1) := ⟨_, rfl⟩
      rw [← hg2] at hP hD
      refine lv_istore (lv' := [(6, .int r2), (5, .int 0), (4, .int (nI (4 * c))), (3, .ref (ad 21)), (2, .ref (ad 10)), (1, .ref (ad 0)), (0, .ref b0)]) hx hb d_L_law_622 hl (by decide) rfl (fun ls hl => ?_)
      refine lv_aload_n hx hb d_L_law_624 rfl (lv_at hl 4 rfl) ?_
      refine kc_R (va_runV (As := []) (rest := []) ⟨hx, hb, hml, hown, hts⟩ (c_M_thrown l D ty ad _ n f th rt qu b w T g2 a o2) (cwV 0 hts (kGV kS1 m_L_52 m_im_M_thrown m_sel_M_thrown m_ini_M m_code_M_thrown) rfl rfl rfl (by decide +kernel) ⟨Nat.le_of_ble_eq_true rfl, Nat.le_of_ble_eq_true rfl⟩) ⟨kP_blind, va_recv hK hP (ci := 3) (q0 := 10) rfl gw_10, fun U hU hW => ⟨rfl, kP_at hK hP hD U hU hW⟩⟩ rfl rfl hl.1 rfl (lv_room (Nat.le_of_ble_eq_true rfl)) d_L_law_625 ⟨(by show _ ≤ room_1.cells; omega), (by show _ ≤ room_1.slots; omega)⟩) ?_
      refine lv_iload hx hb d_L_law_628 (lv_at hl 1 rfl) ?_
      refine lv_icmp_eq (tgt := 635) hx hb d_L_law_630 (by decide) (fun c_630 => ?_) (fun c_630 => absurd (by rw [hg2]; exact mT_0 k10 k10) c_630)
      refine lv_iload hx hb d_L_law_635 (lv_at hl 1 rfl) ?_
      refine lv_if_ne (tgt := 652) hx hb d_L_law_637 (by decide) (fun c_637 => absurd rfl c_637) (fun c_637 => ?_)
      refine lv_aload_n hx hb d_L_law_640 rfl (lv_at hl 3 rfl) ?_
      refine lv_iconst (v := 0) hx hb d_L_law_641 (by decide) ?_
      refine va_lald (f := o2) hx hb hK hP 21 3 gw_21 rfl (by rw [← nI_0]; exact vp_in_nI (N := 1) (by omega) (by omega)) d_L_law_642 ?_
      rw [sb_cl0]
      refine lv_iload hx hb d_L_law_643 (lv_at hl 0 rfl) ?_
      refine lv_i2l (v := (r2).toInt64) hx hb d_L_law_645 rfl ?_
      refine W.lcmp hx hb d_L_law_646 ?_
      refine lv_if_eq (tgt := 652) hx hb d_L_law_647 (by decide) (fun c_647 => ?_) (fun c_647 => absurd ((lg_cmp_eq _ _).mpr (by rw [ho2, pk_uLs, hr2, hans])) c_647)
      refine lv_goto (tgt := 655) hx hb d_L_law_652 (by decide) ?_
      have hl := lv_sub (l' := [(4, .int (nI (4 * c))), (3, .ref (ad 21)), (2, .ref (ad 10)), (1, .ref (ad 0)), (0, .ref b0)]) hl [2, 3, 4, 5, 6] rfl
      have hI2 : Inv n si ei f th rt qu T g2 a := by rw [hg2]; exact hI
      have h12 : f 10 = g2 11 := by rw [hg2]; exact h10
      refine W.widen (k := cells + 2) (n := slots + 16) (by omega) (by omega) ?_
      exact kk hI2 h12 hP hD hS hl
end LAW2
