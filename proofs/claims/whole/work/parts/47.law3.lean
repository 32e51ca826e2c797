/-! Part 47: the law, clear, take and sweep. -/
section LAW3
variable {p : Program} {l : Launch} {e : Env} {s : State} {m : MethodId} {below : List Frame} {meth : Method} {cd : Code} {b0 L : Nat} {xs : Nat → Int32} {A : Nat → Prop} {D : va_G} {ty : Nat → ClassId} {Q : State → Prop}
set_option maxHeartbeats 4000000 in
set_option maxRecDepth 100000 in
theorem law_clear (C : lw_C p l s m cd b0 L xs A D ty) {c : Nat} (hc : 4 * c + 4 ≤ L) {cells slots : Nat} (hc1 : cells + 2 ≤ room_1.cells) (hs1 : slots + 16 ≤ room_1.slots) {n si ei : Nat} {ad : Nat → Nat} {f : Nat → Int32} {th : Nat → Bool} {rt qu : Nat → Int32} {b w : SR} {T : Nat → TH} {g : Nat → Int32} {a : Nat → Nat → Int32} {o : Nat → Int64} {H : Heap} {locs : List Loc} {ls : Array Slot} (hI : Inv n si ei f th rt qu T g a) (h10 : f 10 = g 11) (hP : va_P D kCl (gW n ty ad f th rt qu b w T g a o) H) (hD : va_D A (gW n ty ad f th rt qu b w T g a o)) (hS : va_S A s.heap H locs) (hl : lv_has ls 7 [(4, .int (nI (4 * c))), (3, .ref (ad 21)), (2, .ref (ad 10)), (1, .ref (ad 0)), (0, .ref b0)])
    (kk : ∀ {n si ei : Nat} {ad : Nat → Nat} {f : Nat → Int32} {th : Nat → Bool} {rt qu : Nat → Int32} {b w : SR} {T : Nat → TH} {g : Nat → Int32} {a : Nat → Nat → Int32} {o : Nat → Int64} {H : Heap} {locs : List Loc} {ls : Array Slot}, Inv n si ei f th rt qu T g a → f 10 = g 11 → va_P D kCl (gW n ty ad f th rt qu b w T g a o) H → va_D A (gW n ty ad f th rt qu b w T g a o) → va_S A s.heap H locs → lv_has ls 7 [(4, .int (nI (4 * c))), (3, .ref (ad 21)), (2, .ref (ad 10)), (1, .ref (ad 0)), (0, .ref b0)] → W p l e room_1 s m #[Value.ref b0] below meth cd H locs (cells + 2) (slots + 16) Q (F0 m 655 ls [])) : W p l e room_1 s m #[Value.ref b0] below meth cd H locs cells slots Q (F0 m 380 ls []) := by
  obtain ⟨hx, hb, hml, hown, hts, hK, hX, hbl, hbA, hA, hY, htr, hL⟩ := C
  have hn := hI.hn
  have hn3 := hI.n3
  have hg1 := hI.g1
  have h12 := hI.l12
  have hqc := hI.hqc
  refine lv_aload_n hx hb d_L_law_380 rfl (lv_at hl 3 rfl) ?_
  refine kc_i (va_runV (As := []) (rest := []) ⟨hx, hb, hml, hown, hts⟩ (c_K_clear l D ty ad _ n f th rt qu b w T g a o hn h12) (cwV 0 hts (kGV kS1 m_L_66 m_im_K_clear m_sel_K_clear m_ini_K m_code_K_clear) rfl rfl rfl (by decide +kernel) ⟨Nat.le_of_ble_eq_true rfl, Nat.le_of_ble_eq_true rfl⟩) ⟨kP_blind, va_recv hK hP (ci := 0) (q0 := 0) rfl gw_0, fun U hU hW => ⟨rfl, kP_at hK hP hD U hU hW⟩⟩ rfl rfl hl.1 rfl (lv_room (Nat.le_of_ble_eq_true rfl)) d_L_law_381 ⟨(by show _ ≤ room_1.cells; omega), (by show _ ≤ room_1.slots; omega)⟩) hD hS hA (fun r1 u H locs hu hP hD hS hz => ?_)
  obtain ⟨hr1, rfl⟩ := hu
  obtain ⟨B9, hB9⟩ : ∃ z, z = sReach f th rt qu T b := ⟨_, rfl⟩
  rw [← hB9] at hP hD hr1
  obtain ⟨X9, hX9⟩ : ∃ z, z = it (qU th B9) 300 (qu, f, T, 0) := ⟨_, rfl⟩
  rw [← hX9] at hP hD hr1
  obtain ⟨W9, hW9⟩ : ∃ z, z = sReach X9.2.1 th rt X9.1 X9.2.2.1 w := ⟨_, rfl⟩
  rw [← hW9] at hP hD
  obtain ⟨Y9, hY9⟩ : ∃ z, z = it (fU th B9 W9) 300 (X9.2.2.1, X9.2.1) := ⟨_, rfl⟩
  rw [← hY9] at hP hD
  obtain ⟨f2, hf2⟩ : ∃ z, z = upd Y9.2 10 (Y9.2 10 + 1) := ⟨_, rfl⟩
  rw [← hf2] at hP hD
  obtain ⟨qu2, hqu2⟩ : ∃ z, z = X9.1 := ⟨_, rfl⟩
  rw [← hqu2] at hP hD
  obtain ⟨T2, hT2⟩ : ∃ z, z = Y9.1 := ⟨_, rfl⟩
  rw [← hT2] at hP hD
  refine lv_aload_n hx hb d_L_law_384 rfl (lv_at hl 2 rfl) ?_
  refine kc_i (va_runV (As := []) (rest := [.int r1]) ⟨hx, hb, hml, hown, hts⟩ (c_M_clear l D ty ad _ n f2 th rt qu2 B9 W9 T2 g a o hg1 hn3 (ei - si) hI.g9 hI.q3 hI.hL hI.hR hI.hQ hI.hF hI.hW1 hqc) (cwV 0 hts (kGV kS1 m_L_69 m_im_M_clear m_sel_M_clear m_ini_M m_code_M_clear) rfl rfl rfl (by decide +kernel) ⟨Nat.le_of_ble_eq_true rfl, Nat.le_of_ble_eq_true rfl⟩) ⟨kP_blind, va_recv hK hP (ci := 3) (q0 := 10) rfl gw_10, fun U hU hW => ⟨rfl, kP_at hK hP hD U hU hW⟩⟩ rfl rfl hl.1 rfl (lv_room (Nat.le_of_ble_eq_true rfl)) d_L_law_385 ⟨(by show _ ≤ room_1.cells; omega), (by show _ ≤ room_1.slots; omega)⟩) hD hS hA (fun r2 u H locs hu hP hD hS hz => ?_)
  obtain ⟨hr2, rfl⟩ := hu
  obtain ⟨X0, hX0⟩ : ∃ z, z = it mU n (va_up a 14 (mD 0 a n (ei - si) (a 14)), upd (upd g 0 0) 11 (g 11 + 1)) := ⟨_, rfl⟩
  rw [← hX0] at hP hD hr2
  obtain ⟨YN, hYN⟩ : ∃ z, z = it mV n (va_up X0.1 14 (mD 0 X0.1 n (X0.2 9).toNatClampNeg (X0.1 14)), X0.2) := ⟨_, rfl⟩
  rw [← hYN] at hP hD hr2
  obtain ⟨g2, hg2⟩ : ∃ z, z = YN.2 := ⟨_, rfl⟩
  rw [← hg2] at hP hD
  obtain ⟨a2, ha2⟩ : ∃ z, z = YN.1 := ⟨_, rfl⟩
  rw [← ha2] at hP hD
  obtain ⟨ca, ei2, hI2, h102⟩ := hI.clear h10 b w hB9 hX9 hW9 hY9 hX0 hYN
  refine lv_icmp_eq (tgt := 655) hx hb d_L_law_388 (by decide) (fun c_388 => ?_) (fun c_388 => absurd (by rw [hr1, hr2]; exact ca) c_388)
  have hI2 : Inv n si ei2 f2 th rt qu2 T2 g2 a2 := by rw [hf2, hqu2, hT2, hg2, ha2]; exact hI2
  have h12 : f2 10 = g2 11 := by rw [hf2, hg2]; exact h102
  refine W.widen (k := cells + 2) (n := slots + 16) (by omega) (by omega) ?_
  exact kk hI2 h12 hP hD hS hl
set_option maxHeartbeats 4000000 in
set_option maxRecDepth 100000 in
theorem law_take (C : lw_C p l s m cd b0 L xs A D ty) {c : Nat} (hc : 4 * c + 4 ≤ L) {cells slots : Nat} (hc1 : cells + 2 ≤ room_1.cells) (hs1 : slots + 16 ≤ room_1.slots) {n si ei : Nat} {ad : Nat → Nat} {f : Nat → Int32} {th : Nat → Bool} {rt qu : Nat → Int32} {b w : SR} {T : Nat → TH} {g : Nat → Int32} {a : Nat → Nat → Int32} {o : Nat → Int64} {H : Heap} {locs : List Loc} {ls : Array Slot} (hI : Inv n si ei f th rt qu T g a) (h10 : f 10 = g 11) (hP : va_P D kCl (gW n ty ad f th rt qu b w T g a o) H) (hD : va_D A (gW n ty ad f th rt qu b w T g a o)) (hS : va_S A s.heap H locs) (hl : lv_has ls 7 [(4, .int (nI (4 * c))), (3, .ref (ad 21)), (2, .ref (ad 10)), (1, .ref (ad 0)), (0, .ref b0)])
    (kk : ∀ {n si ei : Nat} {ad : Nat → Nat} {f : Nat → Int32} {th : Nat → Bool} {rt qu : Nat → Int32} {b w : SR} {T : Nat → TH} {g : Nat → Int32} {a : Nat → Nat → Int32} {o : Nat → Int64} {H : Heap} {locs : List Loc} {ls : Array Slot}, Inv n si ei f th rt qu T g a → f 10 = g 11 → va_P D kCl (gW n ty ad f th rt qu b w T g a o) H → va_D A (gW n ty ad f th rt qu b w T g a o) → va_S A s.heap H locs → lv_has ls 7 [(4, .int (nI (4 * c))), (3, .ref (ad 21)), (2, .ref (ad 10)), (1, .ref (ad 0)), (0, .ref b0)] → W p l e room_1 s m #[Value.ref b0] below meth cd H locs (cells + 2) (slots + 16) Q (F0 m 655 ls [])) : W p l e room_1 s m #[Value.ref b0] below meth cd H locs cells slots Q (F0 m 393 ls []) := by
  obtain ⟨hx, hb, hml, hown, hts, hK, hX, hbl, hbA, hA, hY, htr, hL⟩ := C
  have hn := hI.hn
  have hn3 := hI.n3
  have hg1 := hI.g1
  have h12 := hI.l12
  by_cases hq : ei - si = 0
  · have hz9 : ¬ 0 < f 4 - f 3 := by rw [hI.size, hq, nI_0]; decide
    refine lv_aload_n hx hb d_L_law_393 rfl (lv_at hl 3 rfl) ?_
    refine kc_i (va_runV (As := []) (rest := []) ⟨hx, hb, hml, hown, hts⟩ (c_K_take l D ty ad _ n f th rt qu b w T g a o hn) (cwV 0 hts (kGV kS1 m_L_70 m_im_K_take m_sel_K_take m_ini_K m_code_K_take) rfl rfl rfl (by decide +kernel) ⟨Nat.le_of_ble_eq_true rfl, Nat.le_of_ble_eq_true rfl⟩) ⟨kP_blind, va_recv hK hP (ci := 0) (q0 := 0) rfl gw_0, fun U hU hW => ⟨rfl, kP_at hK hP hD U hU hW⟩⟩ rfl rfl hl.1 rfl (lv_room (Nat.le_of_ble_eq_true rfl)) d_L_law_394 ⟨(by show _ ≤ room_1.cells; omega), (by show _ ≤ room_1.slots; omega)⟩) hD hS hA (fun r1 u H locs hu hP hD hS hz => ?_)
    obtain ⟨hr1, rfl⟩ := hu
    simp only [if_neg hz9] at hr1 hP hD
    refine lv_aload_n hx hb d_L_law_397 rfl (lv_at hl 2 rfl) ?_
    refine kc_i (va_runV (As := []) (rest := [.int r1]) ⟨hx, hb, hml, hown, hts⟩ (c_M_take_0 l D ty ad _ n f th rt qu b w T g a o (by rw [hI.g9, hq, nI_0])) (cwV 0 hts (kGV kS1 m_L_73 m_im_M_take m_sel_M_take m_ini_M m_code_M_take) rfl rfl rfl (by decide +kernel) ⟨Nat.le_of_ble_eq_true rfl, Nat.le_of_ble_eq_true rfl⟩) ⟨kP_blind, va_recv hK hP (ci := 3) (q0 := 10) rfl gw_10, fun U hU hW => ⟨rfl, kP_at hK hP hD U hU hW⟩⟩ rfl rfl hl.1 rfl (lv_room (Nat.le_of_ble_eq_true rfl)) d_L_law_398 ⟨(by show _ ≤ room_1.cells; omega), (by show _ ≤ room_1.slots; omega)⟩) hD hS hA (fun r2 u H locs hu hP hD hS hz => ?_)
    obtain ⟨hr2, rfl⟩ := hu
    obtain ⟨g2, hg2⟩ : ∃ z, z = upd g 0 0 := ⟨_, rfl⟩
    rw [← hg2] at hP hD
    refine lv_icmp_eq (tgt := 655) hx hb d_L_law_401 (by decide) (fun c_401 => ?_) (fun c_401 => absurd (by rw [hr1, hr2]) c_401)
    have hI2 : Inv n si ei f th rt qu T g2 a := by rw [hg2]; exact hI
    have h12 : f 10 = g2 11 := by rw [hg2]; exact h10
    refine W.widen (k := cells + 2) (n := slots + 16) (by omega) (by omega) ?_
    exact kk hI2 h12 hP hD hS hl
  · obtain ⟨q, hq1⟩ : ∃ q, ei - si = q + 1 := ⟨ei - si - 1, by omega⟩
    obtain ⟨k, hk3, hk, ek, ak, hIt⟩ := hI.take hq1
    have h300 := hI.e3
    have hz9 : 0 < f 4 - f 3 := by rw [hI.size, ← nI_0]; exact nI_lt (by omega) (by omega)
    refine lv_aload_n hx hb d_L_law_393 rfl (lv_at hl 3 rfl) ?_
    refine kc_i (va_runV (As := []) (rest := []) ⟨hx, hb, hml, hown, hts⟩ (c_K_take l D ty ad _ n f th rt qu b w T g a o hn) (cwV 0 hts (kGV kS1 m_L_70 m_im_K_take m_sel_K_take m_ini_K m_code_K_take) rfl rfl rfl (by decide +kernel) ⟨Nat.le_of_ble_eq_true rfl, Nat.le_of_ble_eq_true rfl⟩) ⟨kP_blind, va_recv hK hP (ci := 0) (q0 := 0) rfl gw_0, fun U hU hW => ⟨rfl, kP_at hK hP hD U hU hW⟩⟩ rfl rfl hl.1 rfl (lv_room (Nat.le_of_ble_eq_true rfl)) d_L_law_394 ⟨(by show _ ≤ room_1.cells; omega), (by show _ ≤ room_1.slots; omega)⟩) hD hS hA (fun r1 u H locs hu hP hD hS hz => ?_)
    obtain ⟨hr1, rfl⟩ := hu
    simp only [if_pos hz9, ek, if_pos (tOk_i hk3 hk), nI_clamp (show k < 2 ^ 31 by omega)] at hr1 hP hD
    obtain ⟨f2, hf2⟩ : ∃ z, z = upd f 3 (f 3 + 1) := ⟨_, rfl⟩
    rw [← hf2] at hP hD
    obtain ⟨T2, hT2⟩ : ∃ z, z = va_up T k (0, (T k).2) := ⟨_, rfl⟩
    rw [← hT2] at hP hD
    refine lv_aload_n hx hb d_L_law_397 rfl (lv_at hl 2 rfl) ?_
    refine kc_i (va_runV (As := []) (rest := [.int r1]) ⟨hx, hb, hml, hown, hts⟩ (c_M_take_1 l D ty ad _ n f2 th rt qu b w T2 g a o q (by rw [hI.g9, hq1]) (by omega) ⟨k, hk3, ak⟩) (cwV 0 hts (kGV kS1 m_L_73 m_im_M_take m_sel_M_take m_ini_M m_code_M_take) rfl rfl rfl (by decide +kernel) ⟨Nat.le_of_ble_eq_true rfl, Nat.le_of_ble_eq_true rfl⟩) ⟨kP_blind, va_recv hK hP (ci := 3) (q0 := 10) rfl gw_10, fun U hU hW => ⟨rfl, kP_at hK hP hD U hU hW⟩⟩ rfl rfl hl.1 rfl (lv_room (Nat.le_of_ble_eq_true rfl)) d_L_law_398 ⟨(by show _ ≤ room_1.cells; omega), (by show _ ≤ room_1.slots; omega)⟩) hD hS hA (fun r2 u H locs hu hP hD hS hz => ?_)
    obtain ⟨hr2, rfl⟩ := hu
    rw [ak] at hr2
    simp only [ak, nI_clamp (show k < 2 ^ 31 by omega)] at hP hD
    obtain ⟨g2, hg2⟩ : ∃ z, z = upd (upd g 0 0) 9 (g 9 - 1) := ⟨_, rfl⟩
    rw [← hg2] at hP hD
    obtain ⟨a2, ha2⟩ : ∃ z, z = va_up (it mTk q a) 3 (upd ((it mTk q a) 3) k 0) := ⟨_, rfl⟩
    rw [← ha2] at hP hD
    refine lv_icmp_eq (tgt := 655) hx hb d_L_law_401 (by decide) (fun c_401 => ?_) (fun c_401 => absurd (by rw [hr1, hr2]) c_401)
    have hI2 : Inv n (si + 1) ei f2 th rt qu T2 g2 a2 := by rw [hf2, hT2, hg2, ha2]; exact hIt
    have h12 : f2 10 = g2 11 := by rw [hf2, hg2]; exact h10
    refine W.widen (k := cells + 2) (n := slots + 16) (by omega) (by omega) ?_
    exact kk hI2 h12 hP hD hS hl
set_option maxHeartbeats 4000000 in
set_option maxRecDepth 100000 in
theorem law_sweep (C : lw_C p l s m cd b0 L xs A D ty) {c : Nat} (hc : 4 * c + 4 ≤ L) {cells slots : Nat} (hc1 : cells + 2 ≤ room_1.cells) (hs1 : slots + 16 ≤ room_1.slots) {n si ei : Nat} {ad : Nat → Nat} {f : Nat → Int32} {th : Nat → Bool} {rt qu : Nat → Int32} {b w : SR} {T : Nat → TH} {g : Nat → Int32} {a : Nat → Nat → Int32} {o : Nat → Int64} {H : Heap} {locs : List Loc} {ls : Array Slot} (hI : Inv n si ei f th rt qu T g a) (h10 : f 10 = g 11) (hP : va_P D kCl (gW n ty ad f th rt qu b w T g a o) H) (hD : va_D A (gW n ty ad f th rt qu b w T g a o)) (hS : va_S A s.heap H locs) (hl : lv_has ls 7 [(4, .int (nI (4 * c))), (3, .ref (ad 21)), (2, .ref (ad 10)), (1, .ref (ad 0)), (0, .ref b0)])
    (kk : ∀ {n si ei : Nat} {ad : Nat → Nat} {f : Nat → Int32} {th : Nat → Bool} {rt qu : Nat → Int32} {b w : SR} {T : Nat → TH} {g : Nat → Int32} {a : Nat → Nat → Int32} {o : Nat → Int64} {H : Heap} {locs : List Loc} {ls : Array Slot}, Inv n si ei f th rt qu T g a → f 10 = g 11 → va_P D kCl (gW n ty ad f th rt qu b w T g a o) H → va_D A (gW n ty ad f th rt qu b w T g a o) → va_S A s.heap H locs → lv_has ls 7 [(4, .int (nI (4 * c))), (3, .ref (ad 21)), (2, .ref (ad 10)), (1, .ref (ad 0)), (0, .ref b0)] → W p l e room_1 s m #[Value.ref b0] below meth cd H locs (cells + 2) (slots + 16) Q (F0 m 655 ls [])) : W p l e room_1 s m #[Value.ref b0] below meth cd H locs cells slots Q (F0 m 462 ls []) := by
  obtain ⟨hx, hb, hml, hown, hts, hK, hX, hbl, hbA, hA, hY, htr, hL⟩ := C
  have hn := hI.hn
  have hn3 := hI.n3
  have hg1 := hI.g1
  have h12 := hI.l12
  have hq3 := hI.q3
  refine lv_aload_n hx hb d_L_law_462 rfl (lv_at hl 3 rfl) ?_
  refine kc_i (va_runV (As := []) (rest := []) ⟨hx, hb, hml, hown, hts⟩ (c_K_sweep l D ty ad _ n f th rt qu b w T g a o hn h12) (cwV 0 hts (kGV kS1 m_L_78 m_im_K_sweep m_sel_K_sweep m_ini_K m_code_K_sweep) rfl rfl rfl (by decide +kernel) ⟨Nat.le_of_ble_eq_true rfl, Nat.le_of_ble_eq_true rfl⟩) ⟨kP_blind, va_recv hK hP (ci := 0) (q0 := 0) rfl gw_0, fun U hU hW => ⟨rfl, kP_at hK hP hD U hU hW⟩⟩ rfl rfl hl.1 rfl (lv_room (Nat.le_of_ble_eq_true rfl)) d_L_law_463 ⟨(by show _ ≤ room_1.cells; omega), (by show _ ≤ room_1.slots; omega)⟩) hD hS hA (fun r1 u H locs hu hP hD hS hz => ?_)
  obtain ⟨hr1, rfl⟩ := hu
  obtain ⟨W9, hW9⟩ : ∃ z, z = sKept f th rt qu T w := ⟨_, rfl⟩
  rw [← hW9] at hP hD hr1
  obtain ⟨V9, hV9⟩ : ∃ z, z = it (sW W9) 300 (th, 0) := ⟨_, rfl⟩
  rw [← hV9] at hP hD hr1
  obtain ⟨f2, hf2⟩ : ∃ z, z = upd f 8 (f 8 - V9.2) := ⟨_, rfl⟩
  rw [← hf2] at hP hD
  obtain ⟨th2, hth2⟩ : ∃ z, z = V9.1 := ⟨_, rfl⟩
  rw [← hth2] at hP hD
  refine lv_aload_n hx hb d_L_law_466 rfl (lv_at hl 2 rfl) ?_
  refine kc_i (va_runV (As := []) (rest := [.int r1]) ⟨hx, hb, hml, hown, hts⟩ (c_M_sweep l D ty ad _ n f2 th2 rt qu b W9 T g a o hg1 hn3 (ei - si) hI.g9 hI.q3 hI.hL hI.hR hI.hQ hI.hF hI.hW1) (cwV 0 hts (kGV kS1 m_L_81 m_im_M_sweep m_sel_M_sweep m_ini_M m_code_M_sweep) rfl rfl rfl (by decide +kernel) ⟨Nat.le_of_ble_eq_true rfl, Nat.le_of_ble_eq_true rfl⟩) ⟨kP_blind, va_recv hK hP (ci := 3) (q0 := 10) rfl gw_10, fun U hU hW => ⟨rfl, kP_at hK hP hD U hU hW⟩⟩ rfl rfl hl.1 rfl (lv_room (Nat.le_of_ble_eq_true rfl)) d_L_law_467 ⟨(by show _ ≤ room_1.cells; omega), (by show _ ≤ room_1.slots; omega)⟩) hD hS hA (fun r2 u H locs hu hP hD hS hz => ?_)
  obtain ⟨hr2, rfl⟩ := hu
  obtain ⟨X9, hX9⟩ : ∃ z, z = it mSw n (va_up a 14 (mD 1 a n (ei - si) (a 14)), 0) := ⟨_, rfl⟩
  rw [← hX9] at hP hD hr2
  obtain ⟨g2, hg2⟩ : ∃ z, z = upd g 0 0 := ⟨_, rfl⟩
  rw [← hg2] at hP hD
  obtain ⟨a2, ha2⟩ : ∃ z, z = X9.1 := ⟨_, rfl⟩
  rw [← ha2] at hP hD
  obtain ⟨hs1, hs2⟩ := hI.sweep w
  rw [← hW9, ← hV9, ← hX9] at hs1 hs2
  refine lv_icmp_eq (tgt := 655) hx hb d_L_law_470 (by decide) (fun c_470 => ?_) (fun c_470 => absurd (by rw [hr1, hr2]; exact hs1) c_470)
  have hI2 : Inv n si ei f2 th2 rt qu T g2 a2 := by rw [hf2, hth2, hg2, ha2]; exact hs2
  have h12 : f2 10 = g2 11 := by rw [hf2, hg2]; exact h10
  refine W.widen (k := cells + 2) (n := slots + 16) (by omega) (by omega) ?_
  exact kk hI2 h12 hP hD hS hl
end LAW3
