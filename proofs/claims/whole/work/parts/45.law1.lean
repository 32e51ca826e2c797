/-! Part 45: the law, call by call. -/
def lw_C (p : Program) (l : Launch) (s : State) (m : MethodId) (cd : Code) (b0 L : Nat) (xs : Nat → Int32) (A : Nat → Prop) (D : va_G) (ty : Nat → ClassId) : Prop :=
  p.tables.exec = Jvm.exec ∧ cd.code = b_L_law ∧ cd.maxLocals = 7 ∧ s.vm.findClass R_L = some m.cls ∧ (∀ w ∈ w_L_make, w.before #[Value.ref b0] s = true) ∧ va_K D kCl (kTy ty) s ∧ va_X b0 L xs s s.heap ∧ b0 < s.heap.size ∧ (¬ A b0) ∧ (∀ q, s.heap.size ≤ q → A q) ∧ kY A s s.heap ∧ l.stackTraces = false ∧ L ≤ 2048
theorem lx0 {c L : Nat} (hc : 4 * c + 4 ≤ L) (hL : L ≤ 2048) : (nI (4 * c)).toNatClampNeg = 4 * c + 0 := nI_clamp (by omega)
theorem lx1 {c L : Nat} (hc : 4 * c + 4 ≤ L) (hL : L ≤ 2048) : (nI (4 * c) + 1).toNatClampNeg = 4 * c + 1 := by rw [nI_1, nI_clamp (by omega)]
theorem lx2 {c L : Nat} (hc : 4 * c + 4 ≤ L) (hL : L ≤ 2048) : (nI (4 * c) + 2).toNatClampNeg = 4 * c + 2 := by rw [show (2 : Int32) = nI 2 from rfl, nI_add, nI_clamp (by omega)]
theorem lx3 {c L : Nat} (hc : 4 * c + 4 ≤ L) (hL : L ≤ 2048) : (nI (4 * c) + 3).toNatClampNeg = 4 * c + 3 := by rw [show (3 : Int32) = nI 3 from rfl, nI_add, nI_clamp (by omega)]
theorem lxi0 {c L : Nat} (hc : 4 * c + 4 ≤ L) (hL : L ≤ 2048) : vp_in (nI (4 * c)) L := vp_in_nI (by omega) (by omega)
theorem lxi1 {c L : Nat} (hc : 4 * c + 4 ≤ L) (hL : L ≤ 2048) : vp_in (nI (4 * c) + 1) L := by rw [nI_1]; exact vp_in_nI (by omega) (by omega)
theorem lxi2 {c L : Nat} (hc : 4 * c + 4 ≤ L) (hL : L ≤ 2048) : vp_in (nI (4 * c) + 2) L := by rw [show (2 : Int32) = nI 2 from rfl, nI_add]; exact vp_in_nI (by omega) (by omega)
theorem lxi3 {c L : Nat} (hc : 4 * c + 4 ≤ L) (hL : L ≤ 2048) : vp_in (nI (4 * c) + 3) L := by rw [show (3 : Int32) = nI 3 from rfl, nI_add]; exact vp_in_nI (by omega) (by omega)
theorem mT_1 {p1 p2 : Int32} (h : p1 = 0) : mT p1 p2 = 1 := by unfold mT; rw [if_pos h]
theorem mT_2 {p1 p2 : Int32} (h : ¬ p1 = 0) (h2 : p2 = 0) : mT p1 p2 = 2 := by unfold mT; rw [if_neg h, if_pos h2]
theorem mT_0 {p1 p2 : Int32} (h : ¬ p1 = 0) (h2 : ¬ p2 = 0) : mT p1 p2 = 0 := by unfold mT; rw [if_neg h, if_neg h2]
theorem mG_x {p1 p2 : Int32} (h : p1 = 0) : mG p1 p2 = 0 := by unfold mG; rw [if_pos h]
theorem mG_y {p1 p2 : Int32} (h2 : p2 = 0) : mG p1 p2 = 0 := by unfold mG; rw [if_pos h2]; split <;> rfl
theorem mG_z {p1 p2 : Int32} (h : ¬ p1 = 0) (h2 : ¬ p2 = 0) : ¬ mG p1 p2 = 0 := by unfold mG; rw [if_neg h, if_neg h2]; decide
theorem k10 : ¬ (1 : Int32) = 0 := by decide
section LAW
variable {p : Program} {l : Launch} {e : Env} {s : State} {m : MethodId} {below : List Frame} {meth : Method} {cd : Code} {b0 L : Nat} {xs : Nat → Int32} {A : Nat → Prop} {D : va_G} {ty : Nat → ClassId} {Q : State → Prop}
theorem Inv.queued {n s e : Nat} {f : Nat → Int32} {th : Nat → Bool} {rt qu : Nat → Int32} {T : Nat → TH} {g : Nat → Int32} {a : Nat → Nat → Int32} (h : Inv n s e f th rt qu T g a) {x : Int32} (hx : ¬ x < 0) : kQp f qu x = mQd g a x := by
  obtain ⟨j, hj, rfl⟩ := nI_of hx
  have h3 := h.e3
  unfold mQd
  rw [h.g9]
  by_cases q : j < e - s
  · rw [h.qp q, if_neg (nI_ge q (by omega)), nI_clamp hj, h.a10 j q]
  · rw [h.qp' q hj, if_pos (nI_le (by omega) hj)]
set_option maxHeartbeats 4000000 in
set_option maxRecDepth 100000 in
theorem law_queued (C : lw_C p l s m cd b0 L xs A D ty) {c : Nat} (hc : 4 * c + 4 ≤ L) {cells slots : Nat} (hc1 : cells + 2 ≤ room_1.cells) (hs1 : slots + 16 ≤ room_1.slots) {n si ei : Nat} {ad : Nat → Nat} {f : Nat → Int32} {th : Nat → Bool} {rt qu : Nat → Int32} {b w : SR} {T : Nat → TH} {g : Nat → Int32} {a : Nat → Nat → Int32} {o : Nat → Int64} {H : Heap} {locs : List Loc} {ls : Array Slot} (hI : Inv n si ei f th rt qu T g a) (h10 : f 10 = g 11) (hP : va_P D kCl (gW n ty ad f th rt qu b w T g a o) H) (hD : va_D A (gW n ty ad f th rt qu b w T g a o)) (hS : va_S A s.heap H locs) (hl : lv_has ls 7 [(4, .int (nI (4 * c))), (3, .ref (ad 21)), (2, .ref (ad 10)), (1, .ref (ad 0)), (0, .ref b0)])
    (kk : ∀ {n si ei : Nat} {ad : Nat → Nat} {f : Nat → Int32} {th : Nat → Bool} {rt qu : Nat → Int32} {b w : SR} {T : Nat → TH} {g : Nat → Int32} {a : Nat → Nat → Int32} {o : Nat → Int64} {H : Heap} {locs : List Loc} {ls : Array Slot}, Inv n si ei f th rt qu T g a → f 10 = g 11 → va_P D kCl (gW n ty ad f th rt qu b w T g a o) H → va_D A (gW n ty ad f th rt qu b w T g a o) → va_S A s.heap H locs → lv_has ls 7 [(4, .int (nI (4 * c))), (3, .ref (ad 21)), (2, .ref (ad 10)), (1, .ref (ad 0)), (0, .ref b0)] → W p l e room_1 s m #[Value.ref b0] below meth cd H locs (cells + 2) (slots + 16) Q (F0 m 655 ls [])) : W p l e room_1 s m #[Value.ref b0] below meth cd H locs cells slots Q (F0 m 406 ls []) := by
  obtain ⟨hx, hb, hml, hown, hts, hK, hX, hbl, hbA, hA, hY, htr, hL⟩ := C
  obtain ⟨x1, e1⟩ : ∃ z, xs (4 * c + 1) = z := ⟨_, rfl⟩
  have hn := hI.hn
  have hn3 := hI.n3
  have hg1 := hI.g1
  have h12 := hI.l12
  by_cases hneg : x1 < 0
  · have hq0 : mQp x1 = 0 := by unfold mQp; rw [if_pos hneg]
    refine lv_aload_n hx hb d_L_law_406 rfl (lv_at hl 3 rfl) ?_
    refine lv_aload_n hx hb d_L_law_407 rfl (lv_at hl 4 rfl) ?_
    refine lv_iload hx hb d_L_law_408 (lv_at hl 0 rfl) ?_
    refine lv_iconst (v := 1) hx hb d_L_law_410 (by decide) ?_
    refine lv_iadd hx hb d_L_law_411 ?_
    refine va_sld hx hb hX hbl hbA hS (lxi1 hc hL) d_L_law_412 ?_
    rw [lx1 hc hL, e1]
    refine lv_aload_n hx hb d_L_law_413 rfl (lv_at hl 1 rfl) ?_
    refine kc_i (vx_runSW (As := [.ref (ad 0), .int x1, .ref (ad 21)]) (rest := []) ⟨hx, hb, hml, hown, hts⟩ (c_L_queued_x l D ty ad _ n f th rt qu b w T g a o x1 (fun h9 => absurd hneg (Int32.not_lt.mpr h9)) htr) (vx_cwSW 3 hts (kGS kS1 m_L_74 m_st_L_queued m_ini_L m_code_L_queued) rfl rfl rfl (by decide +kernel) ⟨Nat.le_of_ble_eq_true rfl, Nat.le_of_ble_eq_true rfl⟩) ⟨kPY_blind, fun U hU hW => ⟨rfl, kP_at hK hP hD U hU hW, hY.at hS (kA_free hD hS hA) U hU hW⟩⟩ rfl rfl hl.1 rfl (lv_room (Nat.le_of_ble_eq_true rfl)) d_L_law_414 ⟨(by show _ ≤ room_1.cells; omega), (by show _ ≤ room_1.slots; omega)⟩) hD hS hA (fun r u H locs hu hP hD hS hz => ?_)
    obtain ⟨rfl, rfl⟩ := hu
    refine lv_istore (lv' := [(5, .int 1), (4, .int (nI (4 * c))), (3, .ref (ad 21)), (2, .ref (ad 10)), (1, .ref (ad 0)), (0, .ref b0)]) hx hb d_L_law_417 hl (by decide) rfl (fun ls hl => ?_)
    refine lv_aload_n hx hb d_L_law_419 rfl (lv_at hl 3 rfl) ?_
    refine lv_aload_n hx hb d_L_law_420 rfl (lv_at hl 5 rfl) ?_
    refine lv_iload hx hb d_L_law_421 (lv_at hl 1 rfl) ?_
    refine lv_iconst (v := 1) hx hb d_L_law_423 (by decide) ?_
    refine lv_iadd hx hb d_L_law_424 ?_
    refine va_sld hx hb hX hbl hbA hS (lxi1 hc hL) d_L_law_425 ?_
    rw [lx1 hc hL, e1]
    refine kc_i (va_runV (As := [.int x1]) (rest := []) ⟨hx, hb, hml, hown, hts⟩ (c_M_queued_n l D ty ad _ n f th rt qu b w T g a o hg1 hn3 (ei - si) hI.g9 hI.q3 x1 (mG_x hq0)) (cwV 1 hts (kGV kS1 m_L_77 m_im_M_queued m_sel_M_queued m_ini_M m_code_M_queued) rfl rfl rfl (by decide +kernel) ⟨Nat.le_of_ble_eq_true rfl, Nat.le_of_ble_eq_true rfl⟩) ⟨kP_blind, va_recv hK hP (ci := 3) (q0 := 10) rfl gw_10, fun U hU hW => ⟨rfl, kP_at hK hP hD U hU hW⟩⟩ rfl rfl hl.1 rfl (lv_room (Nat.le_of_ble_eq_true rfl)) d_L_law_426 ⟨(by show _ ≤ room_1.cells; omega), (by show _ ≤ room_1.slots; omega)⟩) hD hS hA (fun r2 u H locs hu hP hD hS hz => ?_)
    obtain ⟨hr2, rfl⟩ := hu
    obtain ⟨g2, hg2⟩ : ∃ z, z = upd g 0 (mT (mQp x1) 1) := ⟨_, rfl⟩
    rw [← hg2] at hP hD
    refine lv_istore (lv' := [(6, .int r2), (5, .int 1), (4, .int (nI (4 * c))), (3, .ref (ad 21)), (2, .ref (ad 10)), (1, .ref (ad 0)), (0, .ref b0)]) hx hb d_L_law_429 hl (by decide) rfl (fun ls hl => ?_)
    refine lv_aload_n hx hb d_L_law_431 rfl (lv_at hl 4 rfl) ?_
    refine kc_R (va_runV (As := []) (rest := []) ⟨hx, hb, hml, hown, hts⟩ (c_M_thrown l D ty ad _ n f th rt qu b w T g2 a o) (cwV 0 hts (kGV kS1 m_L_52 m_im_M_thrown m_sel_M_thrown m_ini_M m_code_M_thrown) rfl rfl rfl (by decide +kernel) ⟨Nat.le_of_ble_eq_true rfl, Nat.le_of_ble_eq_true rfl⟩) ⟨kP_blind, va_recv hK hP (ci := 3) (q0 := 10) rfl gw_10, fun U hU hW => ⟨rfl, kP_at hK hP hD U hU hW⟩⟩ rfl rfl hl.1 rfl (lv_room (Nat.le_of_ble_eq_true rfl)) d_L_law_432 ⟨(by show _ ≤ room_1.cells; omega), (by show _ ≤ room_1.slots; omega)⟩) ?_
    refine lv_iload hx hb d_L_law_435 (lv_at hl 1 rfl) ?_
    refine lv_icmp_eq (tgt := 442) hx hb d_L_law_437 (by decide) (fun c_437 => ?_) (fun c_437 => absurd (by rw [hg2]; exact mT_1 hq0) c_437)
    refine lv_iload hx hb d_L_law_442 (lv_at hl 1 rfl) ?_
    refine lv_if_ne (tgt := 459) hx hb d_L_law_444 (by decide) (fun c_444 => ?_) (fun c_444 => absurd c_444 (by decide))
    refine lv_goto (tgt := 655) hx hb d_L_law_459 (by decide) ?_
    have hl := lv_sub (l' := [(4, .int (nI (4 * c))), (3, .ref (ad 21)), (2, .ref (ad 10)), (1, .ref (ad 0)), (0, .ref b0)]) hl [2, 3, 4, 5, 6] rfl
    have hI2 : Inv n si ei f th rt qu T g2 a := by rw [hg2]; exact hI
    have h12 : f 10 = g2 11 := by rw [hg2]; exact h10
    refine W.widen (k := cells + 2) (n := slots + 16) (by omega) (by omega) ?_
    exact kk hI2 h12 hP hD hS hl
  · have hq0 : ¬ mQp x1 = 0 := by unfold mQp; rw [if_neg hneg]; decide
    have hans : kQp f qu x1 = mQd g a x1 := hI.queued hneg
    refine lv_aload_n hx hb d_L_law_406 rfl (lv_at hl 3 rfl) ?_
    refine lv_aload_n hx hb d_L_law_407 rfl (lv_at hl 4 rfl) ?_
    refine lv_iload hx hb d_L_law_408 (lv_at hl 0 rfl) ?_
    refine lv_iconst (v := 1) hx hb d_L_law_410 (by decide) ?_
    refine lv_iadd hx hb d_L_law_411 ?_
    refine va_sld hx hb hX hbl hbA hS (lxi1 hc hL) d_L_law_412 ?_
    rw [lx1 hc hL, e1]
    refine lv_aload_n hx hb d_L_law_413 rfl (lv_at hl 1 rfl) ?_
    refine kc_i (vx_runSW (As := [.ref (ad 0), .int x1, .ref (ad 21)]) (rest := []) ⟨hx, hb, hml, hown, hts⟩ (c_L_queued_r l D ty ad _ n f th rt qu b w T g a o x1 (Int32.not_lt.mp hneg)) (vx_cwSW 3 hts (kGS kS1 m_L_74 m_st_L_queued m_ini_L m_code_L_queued) rfl rfl rfl (by decide +kernel) ⟨Nat.le_of_ble_eq_true rfl, Nat.le_of_ble_eq_true rfl⟩) ⟨kP_blind, fun U hU hW => ⟨rfl, kP_at hK hP hD U hU hW⟩⟩ rfl rfl hl.1 rfl (lv_room (Nat.le_of_ble_eq_true rfl)) d_L_law_414 ⟨(by show _ ≤ room_1.cells; omega), (by show _ ≤ room_1.slots; omega)⟩) hD hS hA (fun r u H locs hu hP hD hS hz => ?_)
    obtain ⟨rfl, rfl⟩ := hu
    obtain ⟨o2, ho2⟩ : ∃ z, z = vp_updL o 0 (kQp f qu x1).toInt64 := ⟨_, rfl⟩
    rw [← ho2] at hP hD
    refine lv_istore (lv' := [(5, .int 0), (4, .int (nI (4 * c))), (3, .ref (ad 21)), (2, .ref (ad 10)), (1, .ref (ad 0)), (0, .ref b0)]) hx hb d_L_law_417 hl (by decide) rfl (fun ls hl => ?_)
    refine lv_aload_n hx hb d_L_law_419 rfl (lv_at hl 3 rfl) ?_
    refine lv_aload_n hx hb d_L_law_420 rfl (lv_at hl 5 rfl) ?_
    refine lv_iload hx hb d_L_law_421 (lv_at hl 1 rfl) ?_
    refine lv_iconst (v := 1) hx hb d_L_law_423 (by decide) ?_
    refine lv_iadd hx hb d_L_law_424 ?_
    refine va_sld hx hb hX hbl hbA hS (lxi1 hc hL) d_L_law_425 ?_
    rw [lx1 hc hL, e1]
    refine kc_i (va_runV (As := [.int x1]) (rest := []) ⟨hx, hb, hml, hown, hts⟩ (c_M_queued_y l D ty ad _ n f th rt qu b w T g a o2 hg1 hn3 (ei - si) hI.g9 hI.q3 x1 (mG_z hq0 k10)) (cwV 1 hts (kGV kS1 m_L_77 m_im_M_queued m_sel_M_queued m_ini_M m_code_M_queued) rfl rfl rfl (by decide +kernel) ⟨Nat.le_of_ble_eq_true rfl, Nat.le_of_ble_eq_true rfl⟩) ⟨kP_blind, va_recv hK hP (ci := 3) (q0 := 10) rfl gw_10, fun U hU hW => ⟨rfl, kP_at hK hP hD U hU hW⟩⟩ rfl rfl hl.1 rfl (lv_room (Nat.le_of_ble_eq_true rfl)) d_L_law_426 ⟨(by show _ ≤ room_1.cells; omega), (by show _ ≤ room_1.slots; omega)⟩) hD hS hA (fun r2 u H locs hu hP hD hS hz => ?_)
    obtain ⟨hr2, rfl⟩ := hu
    obtain ⟨g2, hg2⟩ : ∃ z, z = upd g 0 (mT (mQp x1) 1) := ⟨_, rfl⟩
    rw [← hg2] at hP hD
    refine lv_istore (lv' := [(6, .int r2), (5, .int 0), (4, .int (nI (4 * c))), (3, .ref (ad 21)), (2, .ref (ad 10)), (1, .ref (ad 0)), (0, .ref b0)]) hx hb d_L_law_429 hl (by decide) rfl (fun ls hl => ?_)
    refine lv_aload_n hx hb d_L_law_431 rfl (lv_at hl 4 rfl) ?_
    refine kc_R (va_runV (As := []) (rest := []) ⟨hx, hb, hml, hown, hts⟩ (c_M_thrown l D ty ad _ n f th rt qu b w T g2 a o2) (cwV 0 hts (kGV kS1 m_L_52 m_im_M_thrown m_sel_M_thrown m_ini_M m_code_M_thrown) rfl rfl rfl (by decide +kernel) ⟨Nat.le_of_ble_eq_true rfl, Nat.le_of_ble_eq_true rfl⟩) ⟨kP_blind, va_recv hK hP (ci := 3) (q0 := 10) rfl gw_10, fun U hU hW => ⟨rfl, kP_at hK hP hD U hU hW⟩⟩ rfl rfl hl.1 rfl (lv_room (Nat.le_of_ble_eq_true rfl)) d_L_law_432 ⟨(by show _ ≤ room_1.cells; omega), (by show _ ≤ room_1.slots; omega)⟩) ?_
    refine lv_iload hx hb d_L_law_435 (lv_at hl 1 rfl) ?_
    refine lv_icmp_eq (tgt := 442) hx hb d_L_law_437 (by decide) (fun c_437 => ?_) (fun c_437 => absurd (by rw [hg2]; exact mT_0 hq0 k10) c_437)
    refine lv_iload hx hb d_L_law_442 (lv_at hl 1 rfl) ?_
    refine lv_if_ne (tgt := 459) hx hb d_L_law_444 (by decide) (fun c_444 => absurd rfl c_444) (fun c_444 => ?_)
    refine lv_aload_n hx hb d_L_law_447 rfl (lv_at hl 3 rfl) ?_
    refine lv_iconst (v := 0) hx hb d_L_law_448 (by decide) ?_
    refine va_lald (f := o2) hx hb hK hP 21 3 gw_21 rfl (by rw [← nI_0]; exact vp_in_nI (N := 1) (by omega) (by omega)) d_L_law_449 ?_
    rw [sb_cl0]
    refine lv_iload hx hb d_L_law_450 (lv_at hl 0 rfl) ?_
    refine lv_i2l (v := (r2).toInt64) hx hb d_L_law_452 rfl ?_
    refine W.lcmp hx hb d_L_law_453 ?_
    refine lv_if_eq (tgt := 459) hx hb d_L_law_454 (by decide) (fun c_454 => ?_) (fun c_454 => absurd ((lg_cmp_eq _ _).mpr (by rw [ho2, pk_uLs, hr2, hans])) c_454)
    refine lv_goto (tgt := 655) hx hb d_L_law_459 (by decide) ?_
    have hl := lv_sub (l' := [(4, .int (nI (4 * c))), (3, .ref (ad 21)), (2, .ref (ad 10)), (1, .ref (ad 0)), (0, .ref b0)]) hl [2, 3, 4, 5, 6] rfl
    have hI2 : Inv n si ei f th rt qu T g2 a := by rw [hg2]; exact hI
    have h12 : f 10 = g2 11 := by rw [hg2]; exact h10
    refine W.widen (k := cells + 2) (n := slots + 16) (by omega) (by omega) ?_
    exact kk hI2 h12 hP hD hS hl
theorem mkP_bad {kd z : Int32} (h : mkP kd z = 0) : kd < 0 ∨ ¬ kd ≤ 2 ∨ z < 0 ∨ ¬ z ≤ 12 ∨ (kd = 1 ∧ z = 0) := by
  unfold mkP at h
  split at h
  · rename_i q; exact Or.inl q
  · split at h
    · rename_i q; exact Or.inr (Or.inl (Int32.not_le.mpr q))
    · split at h
      · rename_i q; exact Or.inr (Or.inr (Or.inl q))
      · rename_i q0
        split at h
        · rename_i q; exact Or.inr (Or.inr (Or.inr (Or.inl (Int32.not_le.mpr q))))
        · split at h
          · rename_i q1
            split at h
            · rename_i q2; exact Or.inr (Or.inr (Or.inr (Or.inr ⟨q1, Int32.le_antisymm q2 (Int32.not_lt.mp q0)⟩)))
            · exact absurd h (by decide)
          · exact absurd h (by decide)
theorem mkP_ok {kd z : Int32} (h : ¬ mkP kd z = 0) : ¬ kd < 0 ∧ kd ≤ 2 ∧ ¬ z < 0 ∧ z ≤ 12 ∧ ¬ (kd = 1 ∧ z = 0) := by
  unfold mkP at h
  split at h
  · exact absurd rfl h
  · rename_i q1
    split at h
    · exact absurd rfl h
    · rename_i q2
      split at h
      · exact absurd rfl h
      · rename_i q3
        split at h
        · exact absurd rfl h
        · rename_i q4
          refine ⟨q1, Int32.not_lt.mp q2, q3, Int32.not_lt.mp q4, ?_⟩
          rintro ⟨r1, r2⟩
          rw [if_pos r1, r2, if_pos (by decide)] at h
          exact absurd rfl h
set_option maxHeartbeats 4000000 in
set_option maxRecDepth 100000 in
theorem law_make (C : lw_C p l s m cd b0 L xs A D ty) {c : Nat} (hc : 4 * c + 4 ≤ L) {cells slots : Nat} (hc1 : cells + 2 ≤ room_1.cells) (hs1 : slots + 16 ≤ room_1.slots) {n si ei : Nat} {ad : Nat → Nat} {f : Nat → Int32} {th : Nat → Bool} {rt qu : Nat → Int32} {b w : SR} {T : Nat → TH} {g : Nat → Int32} {a : Nat → Nat → Int32} {o : Nat → Int64} {H : Heap} {locs : List Loc} {ls : Array Slot} (hI : Inv n si ei f th rt qu T g a) (h10 : f 10 = g 11) (hP : va_P D kCl (gW n ty ad f th rt qu b w T g a o) H) (hD : va_D A (gW n ty ad f th rt qu b w T g a o)) (hS : va_S A s.heap H locs) (hl : lv_has ls 7 [(4, .int (nI (4 * c))), (3, .ref (ad 21)), (2, .ref (ad 10)), (1, .ref (ad 0)), (0, .ref b0)])
    (kk : ∀ {n si ei : Nat} {ad : Nat → Nat} {f : Nat → Int32} {th : Nat → Bool} {rt qu : Nat → Int32} {b w : SR} {T : Nat → TH} {g : Nat → Int32} {a : Nat → Nat → Int32} {o : Nat → Int64} {H : Heap} {locs : List Loc} {ls : Array Slot}, Inv n si ei f th rt qu T g a → f 10 = g 11 → va_P D kCl (gW n ty ad f th rt qu b w T g a o) H → va_D A (gW n ty ad f th rt qu b w T g a o) → va_S A s.heap H locs → lv_has ls 7 [(4, .int (nI (4 * c))), (3, .ref (ad 21)), (2, .ref (ad 10)), (1, .ref (ad 0)), (0, .ref b0)] → W p l e room_1 s m #[Value.ref b0] below meth cd H locs (cells + 2) (slots + 16) Q (F0 m 655 ls [])) : W p l e room_1 s m #[Value.ref b0] below meth cd H locs cells slots Q (F0 m 96 ls []) := by
  obtain ⟨hx, hb, hml, hown, hts, hK, hX, hbl, hbA, hA, hY, htr, hL⟩ := C
  obtain ⟨x1, e1⟩ : ∃ z, xs (4 * c + 1) = z := ⟨_, rfl⟩
  obtain ⟨x2, e2⟩ : ∃ z, xs (4 * c + 2) = z := ⟨_, rfl⟩
  have hn := hI.hn
  have hn3 := hI.n3
  have hg1 := hI.g1
  have h12 := hI.l12
  by_cases hm : mkP x1 x2 = 0
  · have hq0 := mkP_bad hm
    refine lv_aload_n hx hb d_L_law_96 rfl (lv_at hl 3 rfl) ?_
    refine lv_aload_n hx hb d_L_law_97 rfl (lv_at hl 4 rfl) ?_
    refine lv_iload hx hb d_L_law_98 (lv_at hl 0 rfl) ?_
    refine lv_iconst (v := 1) hx hb d_L_law_100 (by decide) ?_
    refine lv_iadd hx hb d_L_law_101 ?_
    refine va_sld hx hb hX hbl hbA hS (lxi1 hc hL) d_L_law_102 ?_
    rw [lx1 hc hL, e1]
    refine lv_aload_n hx hb d_L_law_103 rfl (lv_at hl 4 rfl) ?_
    refine lv_iload hx hb d_L_law_104 (lv_at hl 0 rfl) ?_
    refine lv_iconst (v := 2) hx hb d_L_law_106 (by decide) ?_
    refine lv_iadd hx hb d_L_law_107 ?_
    refine va_sld hx hb hX hbl hbA hS (lxi2 hc hL) d_L_law_108 ?_
    rw [lx2 hc hL, e2]
    refine lv_aload_n hx hb d_L_law_109 rfl (lv_at hl 1 rfl) ?_
    refine kc_i (vx_runSW (As := [.ref (ad 0), .int x1, .int x2, .ref (ad 21)]) (rest := []) ⟨hx, hb, hml, hown, hts⟩ (c_L_make_x l D ty ad _ n f th rt qu b w T g a o x1 x2 hq0 htr) (vx_cwSW 4 hts (kGS kS1 m_L_46 m_st_L_make m_ini_L m_code_L_make) rfl rfl rfl (by decide +kernel) ⟨Nat.le_of_ble_eq_true rfl, Nat.le_of_ble_eq_true rfl⟩) ⟨kPY_blind, fun U hU hW => ⟨rfl, kP_at hK hP hD U hU hW, hY.at hS (kA_free hD hS hA) U hU hW⟩⟩ rfl rfl hl.1 rfl (lv_room (Nat.le_of_ble_eq_true rfl)) d_L_law_110 ⟨(by show _ ≤ room_1.cells; omega), (by show _ ≤ room_1.slots; omega)⟩) hD hS hA (fun r u H locs hu hP hD hS hz => ?_)
    obtain ⟨rfl, rfl⟩ := hu
    refine lv_istore (lv' := [(5, .int 1), (4, .int (nI (4 * c))), (3, .ref (ad 21)), (2, .ref (ad 10)), (1, .ref (ad 0)), (0, .ref b0)]) hx hb d_L_law_113 hl (by decide) rfl (fun ls hl => ?_)
    refine lv_aload_n hx hb d_L_law_115 rfl (lv_at hl 3 rfl) ?_
    refine lv_aload_n hx hb d_L_law_116 rfl (lv_at hl 5 rfl) ?_
    refine lv_iload hx hb d_L_law_117 (lv_at hl 1 rfl) ?_
    refine lv_iconst (v := 1) hx hb d_L_law_119 (by decide) ?_
    refine lv_iadd hx hb d_L_law_120 ?_
    refine va_sld hx hb hX hbl hbA hS (lxi1 hc hL) d_L_law_121 ?_
    rw [lx1 hc hL, e1]
    refine lv_aload_n hx hb d_L_law_122 rfl (lv_at hl 5 rfl) ?_
    refine lv_iload hx hb d_L_law_123 (lv_at hl 1 rfl) ?_
    refine lv_iconst (v := 2) hx hb d_L_law_125 (by decide) ?_
    refine lv_iadd hx hb d_L_law_126 ?_
    refine va_sld hx hb hX hbl hbA hS (lxi2 hc hL) d_L_law_127 ?_
    rw [lx2 hc hL, e2]
    refine kc_i (va_runV (As := [.int x1, .int x2]) (rest := []) ⟨hx, hb, hml, hown, hts⟩ (c_M_make_n l D ty ad _ n f th rt qu b w T g a o hg1 hn3 x1 x2 (mG_x hm)) (cwV 2 hts (kGV kS1 m_L_51 m_im_M_make m_sel_M_make m_ini_M m_code_M_make) rfl rfl rfl (by decide +kernel) ⟨Nat.le_of_ble_eq_true rfl, Nat.le_of_ble_eq_true rfl⟩) ⟨kP_blind, va_recv hK hP (ci := 3) (q0 := 10) rfl gw_10, fun U hU hW => ⟨rfl, kP_at hK hP hD U hU hW⟩⟩ rfl rfl hl.1 rfl (lv_room (Nat.le_of_ble_eq_true rfl)) d_L_law_128 ⟨(by show _ ≤ room_1.cells; omega), (by show _ ≤ room_1.slots; omega)⟩) hD hS hA (fun r2 u H locs hu hP hD hS hz => ?_)
    obtain ⟨hr2, rfl⟩ := hu
    obtain ⟨g2, hg2⟩ : ∃ z, z = upd g 0 (mT (mkP x1 x2) (mkQ g)) := ⟨_, rfl⟩
    rw [← hg2] at hP hD
    refine lv_istore (lv' := [(6, .int r2), (5, .int 1), (4, .int (nI (4 * c))), (3, .ref (ad 21)), (2, .ref (ad 10)), (1, .ref (ad 0)), (0, .ref b0)]) hx hb d_L_law_131 hl (by decide) rfl (fun ls hl => ?_)
    refine lv_aload_n hx hb d_L_law_133 rfl (lv_at hl 4 rfl) ?_
    refine kc_R (va_runV (As := []) (rest := []) ⟨hx, hb, hml, hown, hts⟩ (c_M_thrown l D ty ad _ n f th rt qu b w T g2 a o) (cwV 0 hts (kGV kS1 m_L_52 m_im_M_thrown m_sel_M_thrown m_ini_M m_code_M_thrown) rfl rfl rfl (by decide +kernel) ⟨Nat.le_of_ble_eq_true rfl, Nat.le_of_ble_eq_true rfl⟩) ⟨kP_blind, va_recv hK hP (ci := 3) (q0 := 10) rfl gw_10, fun U hU hW => ⟨rfl, kP_at hK hP hD U hU hW⟩⟩ rfl rfl hl.1 rfl (lv_room (Nat.le_of_ble_eq_true rfl)) d_L_law_134 ⟨(by show _ ≤ room_1.cells; omega), (by show _ ≤ room_1.slots; omega)⟩) ?_
    refine lv_iload hx hb d_L_law_137 (lv_at hl 1 rfl) ?_
    refine lv_icmp_eq (tgt := 144) hx hb d_L_law_139 (by decide) (fun c_139 => ?_) (fun c_139 => absurd (by rw [hg2]; exact mT_1 hm) c_139)
    refine lv_iload hx hb d_L_law_144 (lv_at hl 1 rfl) ?_
    refine lv_if_ne (tgt := 161) hx hb d_L_law_146 (by decide) (fun c_146 => ?_) (fun c_146 => absurd c_146 (by decide))
    refine lv_goto (tgt := 655) hx hb d_L_law_161 (by decide) ?_
    have hl := lv_sub (l' := [(4, .int (nI (4 * c))), (3, .ref (ad 21)), (2, .ref (ad 10)), (1, .ref (ad 0)), (0, .ref b0)]) hl [2, 3, 4, 5, 6] rfl
    have hI2 : Inv n si ei f th rt qu T g2 a := by rw [hg2]; exact hI
    have h12 : f 10 = g2 11 := by rw [hg2]; exact h10
    refine W.widen (k := cells + 2) (n := slots + 16) (by omega) (by omega) ?_
    exact kk hI2 h12 hP hD hS hl
  · obtain ⟨h1, h2, h3, h4, h5⟩ := mkP_ok hm
    by_cases hf : n < 300
    · obtain ⟨q, hq, rfl⟩ := nI_of2 (n := 12) (M := 12) rfl h3 h4
      have hq9 : ¬ mkQ g = 0 := by unfold mkQ; rw [hg1, if_neg (k300 hf)]; decide
      refine lv_aload_n hx hb d_L_law_96 rfl (lv_at hl 3 rfl) ?_
      refine lv_aload_n hx hb d_L_law_97 rfl (lv_at hl 4 rfl) ?_
      refine lv_iload hx hb d_L_law_98 (lv_at hl 0 rfl) ?_
      refine lv_iconst (v := 1) hx hb d_L_law_100 (by decide) ?_
      refine lv_iadd hx hb d_L_law_101 ?_
      refine va_sld hx hb hX hbl hbA hS (lxi1 hc hL) d_L_law_102 ?_
      rw [lx1 hc hL, e1]
      refine lv_aload_n hx hb d_L_law_103 rfl (lv_at hl 4 rfl) ?_
      refine lv_iload hx hb d_L_law_104 (lv_at hl 0 rfl) ?_
      refine lv_iconst (v := 2) hx hb d_L_law_106 (by decide) ?_
      refine lv_iadd hx hb d_L_law_107 ?_
      refine va_sld hx hb hX hbl hbA hS (lxi2 hc hL) d_L_law_108 ?_
      rw [lx2 hc hL, e2]
      refine lv_aload_n hx hb d_L_law_109 rfl (lv_at hl 1 rfl) ?_
      refine kc_i (vx_runSW (As := [.ref (ad 0), .int x1, .int (nI q), .ref (ad 21)]) (rest := []) ⟨hx, hb, hml, hown, hts⟩ (c_L_make_r l D ty ad _ n f th rt qu b w T g a o hn hf hI.f7 x1 q h1 h2 hq h5) (vx_cwSW 4 hts (kGS kS1 m_L_46 m_st_L_make m_ini_L m_code_L_make) rfl rfl rfl (by decide +kernel) ⟨Nat.le_of_ble_eq_true rfl, Nat.le_of_ble_eq_true rfl⟩) ⟨kP_blind, fun U hU hW => ⟨rfl, kP_at hK hP hD U hU hW⟩⟩ rfl rfl hl.1 rfl (lv_room (Nat.le_of_ble_eq_true rfl)) d_L_law_110 ⟨(by show _ ≤ room_1.cells; omega), (by show _ ≤ room_1.slots; omega)⟩) hD hS hA (fun r u H locs hu hP hD hS hz => ?_)
      obtain ⟨rfl, ad2, hA22, rfl⟩ := hu
      rw [← hA22 0 (by omega), ← hA22 10 (by omega), ← hA22 21 (by omega)] at hl
      obtain ⟨f2, hf2⟩ : ∃ z, z = upd (upd f 7 (f 7 + 1)) 8 (f 8 + 1) := ⟨_, rfl⟩
      rw [← hf2] at hP hD
      obtain ⟨th2, hth2⟩ : ∃ z, z = va_up th n true := ⟨_, rfl⟩
      rw [← hth2] at hP hD
      obtain ⟨T2, hT2⟩ : ∃ z, z = va_up T n (x1, 0, -1, q, nf q) := ⟨_, rfl⟩
      rw [← hT2] at hP hD
      obtain ⟨o2, ho2⟩ : ∃ z, z = vp_updL o 0 (nI n).toInt64 := ⟨_, rfl⟩
      rw [← ho2] at hP hD
      refine lv_istore (lv' := [(5, .int 0), (4, .int (nI (4 * c))), (3, .ref (ad2 21)), (2, .ref (ad2 10)), (1, .ref (ad2 0)), (0, .ref b0)]) hx hb d_L_law_113 hl (by decide) rfl (fun ls hl => ?_)
      refine lv_aload_n hx hb d_L_law_115 rfl (lv_at hl 3 rfl) ?_
      refine lv_aload_n hx hb d_L_law_116 rfl (lv_at hl 5 rfl) ?_
      refine lv_iload hx hb d_L_law_117 (lv_at hl 1 rfl) ?_
      refine lv_iconst (v := 1) hx hb d_L_law_119 (by decide) ?_
      refine lv_iadd hx hb d_L_law_120 ?_
      refine va_sld hx hb hX hbl hbA hS (lxi1 hc hL) d_L_law_121 ?_
      rw [lx1 hc hL, e1]
      refine lv_aload_n hx hb d_L_law_122 rfl (lv_at hl 5 rfl) ?_
      refine lv_iload hx hb d_L_law_123 (lv_at hl 1 rfl) ?_
      refine lv_iconst (v := 2) hx hb d_L_law_125 (by decide) ?_
      refine lv_iadd hx hb d_L_law_126 ?_
      refine va_sld hx hb hX hbl hbA hS (lxi2 hc hL) d_L_law_127 ?_
      rw [lx2 hc hL, e2]
      refine kc_i (va_runV (As := [.int x1, .int (nI q)]) (rest := []) ⟨hx, hb, hml, hown, hts⟩ (c_M_make_yN l D ty ad2 _ (n + 1) n f2 th2 rt qu b w T2 g a o2 hg1 hn3 x1 (nI q) (mG_z hm hq9)) (cwV 2 hts (kGV kS1 m_L_51 m_im_M_make m_sel_M_make m_ini_M m_code_M_make) rfl rfl rfl (by decide +kernel) ⟨Nat.le_of_ble_eq_true rfl, Nat.le_of_ble_eq_true rfl⟩) ⟨kP_blind, va_recv hK hP (ci := 3) (q0 := 10) rfl gw_10, fun U hU hW => ⟨rfl, kP_at hK hP hD U hU hW⟩⟩ rfl rfl hl.1 rfl (lv_room (Nat.le_of_ble_eq_true rfl)) d_L_law_128 ⟨(by show _ ≤ room_1.cells; omega), (by show _ ≤ room_1.slots; omega)⟩) hD hS hA (fun r2 u H locs hu hP hD hS hz => ?_)
      obtain ⟨hr2, rfl⟩ := hu
      obtain ⟨g2, hg2⟩ : ∃ z, z = upd (upd g 0 (mT (mkP x1 (nI q)) (mkQ g))) 1 (g 1 + 1) := ⟨_, rfl⟩
      rw [← hg2] at hP hD
      obtain ⟨a2, ha2⟩ : ∃ z, z = va_up (va_up (va_up a 2 (upd (a 2) n 1)) 3 (upd (a 3) n x1)) 4 (upd (a 4) n (nI q)) := ⟨_, rfl⟩
      rw [← ha2] at hP hD
      refine lv_istore (lv' := [(6, .int r2), (5, .int 0), (4, .int (nI (4 * c))), (3, .ref (ad2 21)), (2, .ref (ad2 10)), (1, .ref (ad2 0)), (0, .ref b0)]) hx hb d_L_law_131 hl (by decide) rfl (fun ls hl => ?_)
      refine lv_aload_n hx hb d_L_law_133 rfl (lv_at hl 4 rfl) ?_
      refine kc_R (va_runV (As := []) (rest := []) ⟨hx, hb, hml, hown, hts⟩ (c_M_thrown l D ty ad2 _ (n + 1) f2 th2 rt qu b w T2 g2 a2 o2) (cwV 0 hts (kGV kS1 m_L_52 m_im_M_thrown m_sel_M_thrown m_ini_M m_code_M_thrown) rfl rfl rfl (by decide +kernel) ⟨Nat.le_of_ble_eq_true rfl, Nat.le_of_ble_eq_true rfl⟩) ⟨kP_blind, va_recv hK hP (ci := 3) (q0 := 10) rfl gw_10, fun U hU hW => ⟨rfl, kP_at hK hP hD U hU hW⟩⟩ rfl rfl hl.1 rfl (lv_room (Nat.le_of_ble_eq_true rfl)) d_L_law_134 ⟨(by show _ ≤ room_1.cells; omega), (by show _ ≤ room_1.slots; omega)⟩) ?_
      refine lv_iload hx hb d_L_law_137 (lv_at hl 1 rfl) ?_
      refine lv_icmp_eq (tgt := 144) hx hb d_L_law_139 (by decide) (fun c_139 => ?_) (fun c_139 => absurd (by rw [hg2]; exact mT_0 hm hq9) c_139)
      refine lv_iload hx hb d_L_law_144 (lv_at hl 1 rfl) ?_
      refine lv_if_ne (tgt := 161) hx hb d_L_law_146 (by decide) (fun c_146 => absurd rfl c_146) (fun c_146 => ?_)
      refine lv_aload_n hx hb d_L_law_149 rfl (lv_at hl 3 rfl) ?_
      refine lv_iconst (v := 0) hx hb d_L_law_150 (by decide) ?_
      refine va_lald (f := o2) hx hb hK hP 21 3 gw_21 rfl (by rw [← nI_0]; exact vp_in_nI (N := 1) (by omega) (by omega)) d_L_law_151 ?_
      rw [sb_cl0]
      refine lv_iload hx hb d_L_law_152 (lv_at hl 0 rfl) ?_
      refine lv_i2l (v := (r2).toInt64) hx hb d_L_law_154 rfl ?_
      refine W.lcmp hx hb d_L_law_155 ?_
      refine lv_if_eq (tgt := 161) hx hb d_L_law_156 (by decide) (fun c_156 => ?_) (fun c_156 => absurd ((lg_cmp_eq _ _).mpr (by rw [ho2, pk_uLs, hr2, p_as, hg1])) c_156)
      refine lv_goto (tgt := 655) hx hb d_L_law_161 (by decide) ?_
      have hl := lv_sub (l' := [(4, .int (nI (4 * c))), (3, .ref (ad2 21)), (2, .ref (ad2 10)), (1, .ref (ad2 0)), (0, .ref b0)]) hl [2, 3, 4, 5, 6] rfl
      have hI2 : Inv (n + 1) si ei f2 th2 rt qu T2 g2 a2 := by rw [hf2, hth2, hT2, hg2, ha2]; exact hI.make hf hq h5 _
      have h12 : f2 10 = g2 11 := by rw [hf2, hg2]; exact h10
      refine W.widen (k := cells + 2) (n := slots + 16) (by omega) (by omega) ?_
      exact kk hI2 h12 hP hD hS hl
    · have hnf : n = 300 := by omega
      have hq9 : mkQ g = 0 := by unfold mkQ; rw [hg1, hnf]; rfl
      refine lv_aload_n hx hb d_L_law_96 rfl (lv_at hl 3 rfl) ?_
      refine lv_aload_n hx hb d_L_law_97 rfl (lv_at hl 4 rfl) ?_
      refine lv_iload hx hb d_L_law_98 (lv_at hl 0 rfl) ?_
      refine lv_iconst (v := 1) hx hb d_L_law_100 (by decide) ?_
      refine lv_iadd hx hb d_L_law_101 ?_
      refine va_sld hx hb hX hbl hbA hS (lxi1 hc hL) d_L_law_102 ?_
      rw [lx1 hc hL, e1]
      refine lv_aload_n hx hb d_L_law_103 rfl (lv_at hl 4 rfl) ?_
      refine lv_iload hx hb d_L_law_104 (lv_at hl 0 rfl) ?_
      refine lv_iconst (v := 2) hx hb d_L_law_106 (by decide) ?_
      refine lv_iadd hx hb d_L_law_107 ?_
      refine va_sld hx hb hX hbl hbA hS (lxi2 hc hL) d_L_law_108 ?_
      rw [lx2 hc hL, e2]
      refine lv_aload_n hx hb d_L_law_109 rfl (lv_at hl 1 rfl) ?_
      refine kc_i (vx_runSW (As := [.ref (ad 0), .int x1, .int x2, .ref (ad 21)]) (rest := []) ⟨hx, hb, hml, hown, hts⟩ (c_L_make_y l D ty ad _ n f th rt qu b w T g a o x1 x2 h1 h2 h3 h4 h5 (by rw [hI.f7, hnf]; decide) htr) (vx_cwSW 4 hts (kGS kS1 m_L_46 m_st_L_make m_ini_L m_code_L_make) rfl rfl rfl (by decide +kernel) ⟨Nat.le_of_ble_eq_true rfl, Nat.le_of_ble_eq_true rfl⟩) ⟨kPY_blind, fun U hU hW => ⟨rfl, kP_at hK hP hD U hU hW, hY.at hS (kA_free hD hS hA) U hU hW⟩⟩ rfl rfl hl.1 rfl (lv_room (Nat.le_of_ble_eq_true rfl)) d_L_law_110 ⟨(by show _ ≤ room_1.cells; omega), (by show _ ≤ room_1.slots; omega)⟩) hD hS hA (fun r u H locs hu hP hD hS hz => ?_)
      obtain ⟨rfl, rfl⟩ := hu
      refine lv_istore (lv' := [(5, .int 2), (4, .int (nI (4 * c))), (3, .ref (ad 21)), (2, .ref (ad 10)), (1, .ref (ad 0)), (0, .ref b0)]) hx hb d_L_law_113 hl (by decide) rfl (fun ls hl => ?_)
      refine lv_aload_n hx hb d_L_law_115 rfl (lv_at hl 3 rfl) ?_
      refine lv_aload_n hx hb d_L_law_116 rfl (lv_at hl 5 rfl) ?_
      refine lv_iload hx hb d_L_law_117 (lv_at hl 1 rfl) ?_
      refine lv_iconst (v := 1) hx hb d_L_law_119 (by decide) ?_
      refine lv_iadd hx hb d_L_law_120 ?_
      refine va_sld hx hb hX hbl hbA hS (lxi1 hc hL) d_L_law_121 ?_
      rw [lx1 hc hL, e1]
      refine lv_aload_n hx hb d_L_law_122 rfl (lv_at hl 5 rfl) ?_
      refine lv_iload hx hb d_L_law_123 (lv_at hl 1 rfl) ?_
      refine lv_iconst (v := 2) hx hb d_L_law_125 (by decide) ?_
      refine lv_iadd hx hb d_L_law_126 ?_
      refine va_sld hx hb hX hbl hbA hS (lxi2 hc hL) d_L_law_127 ?_
      rw [lx2 hc hL, e2]
      refine kc_i (va_runV (As := [.int x1, .int x2]) (rest := []) ⟨hx, hb, hml, hown, hts⟩ (c_M_make_n l D ty ad _ n f th rt qu b w T g a o hg1 hn3 x1 x2 (mG_y hq9)) (cwV 2 hts (kGV kS1 m_L_51 m_im_M_make m_sel_M_make m_ini_M m_code_M_make) rfl rfl rfl (by decide +kernel) ⟨Nat.le_of_ble_eq_true rfl, Nat.le_of_ble_eq_true rfl⟩) ⟨kP_blind, va_recv hK hP (ci := 3) (q0 := 10) rfl gw_10, fun U hU hW => ⟨rfl, kP_at hK hP hD U hU hW⟩⟩ rfl rfl hl.1 rfl (lv_room (Nat.le_of_ble_eq_true rfl)) d_L_law_128 ⟨(by show _ ≤ room_1.cells; omega), (by show _ ≤ room_1.slots; omega)⟩) hD hS hA (fun r2 u H locs hu hP hD hS hz => ?_)
      obtain ⟨hr2, rfl⟩ := hu
      obtain ⟨g2, hg2⟩ : ∃ z, z = upd g 0 (mT (mkP x1 x2) (mkQ g)) := ⟨_, rfl⟩
      rw [← hg2] at hP hD
      refine lv_istore (lv' := [(6, .int r2), (5, .int 2), (4, .int (nI (4 * c))), (3, .ref (ad 21)), (2, .ref (ad 10)), (1, .ref (ad 0)), (0, .ref b0)]) hx hb d_L_law_131 hl (by decide) rfl (fun ls hl => ?_)
      refine lv_aload_n hx hb d_L_law_133 rfl (lv_at hl 4 rfl) ?_
      refine kc_R (va_runV (As := []) (rest := []) ⟨hx, hb, hml, hown, hts⟩ (c_M_thrown l D ty ad _ n f th rt qu b w T g2 a o) (cwV 0 hts (kGV kS1 m_L_52 m_im_M_thrown m_sel_M_thrown m_ini_M m_code_M_thrown) rfl rfl rfl (by decide +kernel) ⟨Nat.le_of_ble_eq_true rfl, Nat.le_of_ble_eq_true rfl⟩) ⟨kP_blind, va_recv hK hP (ci := 3) (q0 := 10) rfl gw_10, fun U hU hW => ⟨rfl, kP_at hK hP hD U hU hW⟩⟩ rfl rfl hl.1 rfl (lv_room (Nat.le_of_ble_eq_true rfl)) d_L_law_134 ⟨(by show _ ≤ room_1.cells; omega), (by show _ ≤ room_1.slots; omega)⟩) ?_
      refine lv_iload hx hb d_L_law_137 (lv_at hl 1 rfl) ?_
      refine lv_icmp_eq (tgt := 144) hx hb d_L_law_139 (by decide) (fun c_139 => ?_) (fun c_139 => absurd (by rw [hg2]; exact mT_2 hm hq9) c_139)
      refine lv_iload hx hb d_L_law_144 (lv_at hl 1 rfl) ?_
      refine lv_if_ne (tgt := 161) hx hb d_L_law_146 (by decide) (fun c_146 => ?_) (fun c_146 => absurd c_146 (by decide))
      refine lv_goto (tgt := 655) hx hb d_L_law_161 (by decide) ?_
      have hl := lv_sub (l' := [(4, .int (nI (4 * c))), (3, .ref (ad 21)), (2, .ref (ad 10)), (1, .ref (ad 0)), (0, .ref b0)]) hl [2, 3, 4, 5, 6] rfl
      have hI2 : Inv n si ei f th rt qu T g2 a := by rw [hg2]; exact hI
      have h12 : f 10 = g2 11 := by rw [hg2]; exact h10
      refine W.widen (k := cells + 2) (n := slots + 16) (by omega) (by omega) ?_
      exact kk hI2 h12 hP hD hS hl
theorem mA_x {p q : Int32} (h : p = 0) : mA p q = 0 := by unfold mA; rw [if_pos h]
theorem mA_y {p q : Int32} (h : q = 0) : mA p q = 0 := by unfold mA; rw [if_pos h]; split <;> rfl
theorem mA_z {p q : Int32} (h : ¬ p = 0) (h2 : ¬ q = 0) : ¬ mA p q = 0 := by unfold mA; rw [if_neg h, if_neg h2]; decide
theorem hasF_j {len : Nat} {y : Int32} (hl : len < 2 ^ 31) (h : ¬ tHasF len y = 0) : ∃ j, y = nI j ∧ j < len := Classical.byContradiction (fun q => h ((tHasF_0 hl).mpr q))
section TF
variable {n s e : Nat} {f : Nat → Int32} {th : Nat → Bool} {rt qu : Nat → Int32} {T : Nat → TH} {g : Nat → Int32} {a : Nat → Nat → Int32}
theorem Inv.nF1 (h : Inv n s e f th rt qu T g a) {x y : Int32} (h1 : ¬ tOk th x = true) : mF g a x y = 0 := Classical.byContradiction (fun q => by
  obtain ⟨k, j, rfl, hk, -⟩ := (h.tF x y).mp q
  exact h1 (tOk_i (h.th3 hk) hk))
theorem Inv.nF2 (h : Inv n s e f th rt qu T g a) {k : Nat} {y : Int32} (hk3 : k < 300) (h2 : tHasF (T k).2.2.2.1 y = 0) : mF g a (nI k) y = 0 := Classical.byContradiction (fun q => by
  obtain ⟨k', j, e1, hk, rfl, hj⟩ := (h.tF (nI k) y).mp q
  have := nI_inj (by omega) (by have := h.th3 hk; omega) e1
  subst this
  rw [tHasF_t hj (by have := h.l12 k; omega)] at h2
  exact absurd h2 (by decide))
theorem Inv.nO (h : Inv n s e f th rt qu T g a) {x : Int32} (h3 : ¬ (x = -1 ∨ tOk th x = true)) : mO g a x = 0 := Classical.byContradiction (fun q => h3 ((h.tO x).mp q))
theorem Inv.nI' (h : Inv n s e f th rt qu T g a) {x : Int32} (h1 : ¬ tOk th x = true) : mI g a x = 0 := Classical.byContradiction (fun q => h1 ((h.tI x).mp q))
end TF
set_option maxHeartbeats 4000000 in
set_option maxRecDepth 100000 in
theorem law_set (C : lw_C p l s m cd b0 L xs A D ty) {c : Nat} (hc : 4 * c + 4 ≤ L) {cells slots : Nat} (hc1 : cells + 2 ≤ room_1.cells) (hs1 : slots + 16 ≤ room_1.slots) {n si ei : Nat} {ad : Nat → Nat} {f : Nat → Int32} {th : Nat → Bool} {rt qu : Nat → Int32} {b w : SR} {T : Nat → TH} {g : Nat → Int32} {a : Nat → Nat → Int32} {o : Nat → Int64} {H : Heap} {locs : List Loc} {ls : Array Slot} (hI : Inv n si ei f th rt qu T g a) (h10 : f 10 = g 11) (hP : va_P D kCl (gW n ty ad f th rt qu b w T g a o) H) (hD : va_D A (gW n ty ad f th rt qu b w T g a o)) (hS : va_S A s.heap H locs) (hl : lv_has ls 7 [(4, .int (nI (4 * c))), (3, .ref (ad 21)), (2, .ref (ad 10)), (1, .ref (ad 0)), (0, .ref b0)])
    (kk : ∀ {n si ei : Nat} {ad : Nat → Nat} {f : Nat → Int32} {th : Nat → Bool} {rt qu : Nat → Int32} {b w : SR} {T : Nat → TH} {g : Nat → Int32} {a : Nat → Nat → Int32} {o : Nat → Int64} {H : Heap} {locs : List Loc} {ls : Array Slot}, Inv n si ei f th rt qu T g a → f 10 = g 11 → va_P D kCl (gW n ty ad f th rt qu b w T g a o) H → va_D A (gW n ty ad f th rt qu b w T g a o) → va_S A s.heap H locs → lv_has ls 7 [(4, .int (nI (4 * c))), (3, .ref (ad 21)), (2, .ref (ad 10)), (1, .ref (ad 0)), (0, .ref b0)] → W p l e room_1 s m #[Value.ref b0] below meth cd H locs (cells + 2) (slots + 16) Q (F0 m 655 ls [])) : W p l e room_1 s m #[Value.ref b0] below meth cd H locs cells slots Q (F0 m 164 ls []) := by
  obtain ⟨hx, hb, hml, hown, hts, hK, hX, hbl, hbA, hA, hY, htr, hL⟩ := C
  obtain ⟨x1, e1⟩ : ∃ z, xs (4 * c + 1) = z := ⟨_, rfl⟩
  obtain ⟨x2, e2⟩ : ∃ z, xs (4 * c + 2) = z := ⟨_, rfl⟩
  obtain ⟨x3, e3⟩ : ∃ z, xs (4 * c + 3) = z := ⟨_, rfl⟩
  have hn := hI.hn
  have hn3 := hI.n3
  have hg1 := hI.g1
  have h12 := hI.l12
  by_cases h1 : tOk th x1 = true
  · obtain ⟨k, hk3, rfl, hk⟩ := tOk_k h1
    by_cases h2 : tHasF (T k).2.2.2.1 x2 = 0
    · have hq0 : mF g a (nI k) x2 = 0 := hI.nF2 hk3 h2
      refine lv_aload_n hx hb d_L_law_164 rfl (lv_at hl 3 rfl) ?_
      refine lv_aload_n hx hb d_L_law_165 rfl (lv_at hl 4 rfl) ?_
      refine lv_iload hx hb d_L_law_166 (lv_at hl 0 rfl) ?_
      refine lv_iconst (v := 1) hx hb d_L_law_168 (by decide) ?_
      refine lv_iadd hx hb d_L_law_169 ?_
      refine va_sld hx hb hX hbl hbA hS (lxi1 hc hL) d_L_law_170 ?_
      rw [lx1 hc hL, e1]
      refine lv_aload_n hx hb d_L_law_171 rfl (lv_at hl 4 rfl) ?_
      refine lv_iload hx hb d_L_law_172 (lv_at hl 0 rfl) ?_
      refine lv_iconst (v := 2) hx hb d_L_law_174 (by decide) ?_
      refine lv_iadd hx hb d_L_law_175 ?_
      refine va_sld hx hb hX hbl hbA hS (lxi2 hc hL) d_L_law_176 ?_
      rw [lx2 hc hL, e2]
      refine lv_aload_n hx hb d_L_law_177 rfl (lv_at hl 4 rfl) ?_
      refine lv_iload hx hb d_L_law_178 (lv_at hl 0 rfl) ?_
      refine lv_iconst (v := 3) hx hb d_L_law_180 (by decide) ?_
      refine lv_iadd hx hb d_L_law_181 ?_
      refine va_sld hx hb hX hbl hbA hS (lxi3 hc hL) d_L_law_182 ?_
      rw [lx3 hc hL, e3]
      refine lv_aload_n hx hb d_L_law_183 rfl (lv_at hl 1 rfl) ?_
      refine kc_i (vx_runSW (As := [.ref (ad 0), .int (nI k), .int x2, .int x3, .ref (ad 21)]) (rest := []) ⟨hx, hb, hml, hown, hts⟩ (c_L_set_y l D ty ad _ n f th rt qu b w T g a o hn hn3 k x2 hk h2 x3 htr) (vx_cwSW 5 hts (kGS kS1 m_L_56 m_st_L_set m_ini_L m_code_L_set) rfl rfl rfl (by decide +kernel) ⟨Nat.le_of_ble_eq_true rfl, Nat.le_of_ble_eq_true rfl⟩) ⟨kPY_blind, fun U hU hW => ⟨rfl, kP_at hK hP hD U hU hW, hY.at hS (kA_free hD hS hA) U hU hW⟩⟩ rfl rfl hl.1 rfl (lv_room (Nat.le_of_ble_eq_true rfl)) d_L_law_184 ⟨(by show _ ≤ room_1.cells; omega), (by show _ ≤ room_1.slots; omega)⟩) hD hS hA (fun r u H locs hu hP hD hS hz => ?_)
      obtain ⟨rfl, rfl⟩ := hu
      refine lv_istore (lv' := [(5, .int 1), (4, .int (nI (4 * c))), (3, .ref (ad 21)), (2, .ref (ad 10)), (1, .ref (ad 0)), (0, .ref b0)]) hx hb d_L_law_187 hl (by decide) rfl (fun ls hl => ?_)
      refine lv_aload_n hx hb d_L_law_189 rfl (lv_at hl 3 rfl) ?_
      refine lv_aload_n hx hb d_L_law_190 rfl (lv_at hl 5 rfl) ?_
      refine lv_iload hx hb d_L_law_191 (lv_at hl 1 rfl) ?_
      refine lv_iconst (v := 1) hx hb d_L_law_193 (by decide) ?_
      refine lv_iadd hx hb d_L_law_194 ?_
      refine va_sld hx hb hX hbl hbA hS (lxi1 hc hL) d_L_law_195 ?_
      rw [lx1 hc hL, e1]
      refine lv_aload_n hx hb d_L_law_196 rfl (lv_at hl 5 rfl) ?_
      refine lv_iload hx hb d_L_law_197 (lv_at hl 1 rfl) ?_
      refine lv_iconst (v := 2) hx hb d_L_law_199 (by decide) ?_
      refine lv_iadd hx hb d_L_law_200 ?_
      refine va_sld hx hb hX hbl hbA hS (lxi2 hc hL) d_L_law_201 ?_
      rw [lx2 hc hL, e2]
      refine lv_aload_n hx hb d_L_law_202 rfl (lv_at hl 5 rfl) ?_
      refine lv_iload hx hb d_L_law_203 (lv_at hl 1 rfl) ?_
      refine lv_iconst (v := 3) hx hb d_L_law_205 (by decide) ?_
      refine lv_iadd hx hb d_L_law_206 ?_
      refine va_sld hx hb hX hbl hbA hS (lxi3 hc hL) d_L_law_207 ?_
      rw [lx3 hc hL, e3]
      refine kc_i (va_runV (As := [.int (nI k), .int x2, .int x3]) (rest := []) ⟨hx, hb, hml, hown, hts⟩ (c_M_set_n l D ty ad _ n f th rt qu b w T g a o hg1 hn3 hI.hL (nI k) x2 x3 (mG_x (mA_x hq0))) (cwV 3 hts (kGV kS1 m_L_59 m_im_M_set m_sel_M_set m_ini_M m_code_M_set) rfl rfl rfl (by decide +kernel) ⟨Nat.le_of_ble_eq_true rfl, Nat.le_of_ble_eq_true rfl⟩) ⟨kP_blind, va_recv hK hP (ci := 3) (q0 := 10) rfl gw_10, fun U hU hW => ⟨rfl, kP_at hK hP hD U hU hW⟩⟩ rfl rfl hl.1 rfl (lv_room (Nat.le_of_ble_eq_true rfl)) d_L_law_208 ⟨(by show _ ≤ room_1.cells; omega), (by show _ ≤ room_1.slots; omega)⟩) hD hS hA (fun r2 u H locs hu hP hD hS hz => ?_)
      obtain ⟨hr2, rfl⟩ := hu
      obtain ⟨g2, hg2⟩ : ∃ z, z = upd g 0 (mT (mA (mF g a (nI k) x2) (mO g a x3)) 1) := ⟨_, rfl⟩
      rw [← hg2] at hP hD
      refine lv_istore (lv' := [(6, .int r2), (5, .int 1), (4, .int (nI (4 * c))), (3, .ref (ad 21)), (2, .ref (ad 10)), (1, .ref (ad 0)), (0, .ref b0)]) hx hb d_L_law_211 hl (by decide) rfl (fun ls hl => ?_)
      refine lv_aload_n hx hb d_L_law_213 rfl (lv_at hl 4 rfl) ?_
      refine kc_R (va_runV (As := []) (rest := []) ⟨hx, hb, hml, hown, hts⟩ (c_M_thrown l D ty ad _ n f th rt qu b w T g2 a o) (cwV 0 hts (kGV kS1 m_L_52 m_im_M_thrown m_sel_M_thrown m_ini_M m_code_M_thrown) rfl rfl rfl (by decide +kernel) ⟨Nat.le_of_ble_eq_true rfl, Nat.le_of_ble_eq_true rfl⟩) ⟨kP_blind, va_recv hK hP (ci := 3) (q0 := 10) rfl gw_10, fun U hU hW => ⟨rfl, kP_at hK hP hD U hU hW⟩⟩ rfl rfl hl.1 rfl (lv_room (Nat.le_of_ble_eq_true rfl)) d_L_law_214 ⟨(by show _ ≤ room_1.cells; omega), (by show _ ≤ room_1.slots; omega)⟩) ?_
      refine lv_iload hx hb d_L_law_217 (lv_at hl 1 rfl) ?_
      refine lv_icmp_eq (tgt := 224) hx hb d_L_law_219 (by decide) (fun c_219 => ?_) (fun c_219 => absurd (by rw [hg2]; exact mT_1 (mA_x hq0)) c_219)
      refine lv_iload hx hb d_L_law_224 (lv_at hl 1 rfl) ?_
      refine lv_if_ne (tgt := 241) hx hb d_L_law_226 (by decide) (fun c_226 => ?_) (fun c_226 => absurd c_226 (by decide))
      refine lv_goto (tgt := 655) hx hb d_L_law_241 (by decide) ?_
      have hl := lv_sub (l' := [(4, .int (nI (4 * c))), (3, .ref (ad 21)), (2, .ref (ad 10)), (1, .ref (ad 0)), (0, .ref b0)]) hl [2, 3, 4, 5, 6] rfl
      have hI2 : Inv n si ei f th rt qu T g2 a := by rw [hg2]; exact hI
      have h12 : f 10 = g2 11 := by rw [hg2]; exact h10
      refine W.widen (k := cells + 2) (n := slots + 16) (by omega) (by omega) ?_
      exact kk hI2 h12 hP hD hS hl
    · obtain ⟨j, rfl, hj⟩ := hasF_j (by have := h12 k; omega) h2
      by_cases h3 : x3 = -1 ∨ tOk th x3 = true
      · have hq0 : ¬ mF g a (nI k) (nI j) = 0 := (hI.tF _ _).mpr ⟨k, j, rfl, hk, rfl, hj⟩
        have hj12 : j < 12 := by have := h12 k; omega
        have hq1 := mA_z hq0 ((hI.tO x3).mpr h3)
        refine lv_aload_n hx hb d_L_law_164 rfl (lv_at hl 3 rfl) ?_
        refine lv_aload_n hx hb d_L_law_165 rfl (lv_at hl 4 rfl) ?_
        refine lv_iload hx hb d_L_law_166 (lv_at hl 0 rfl) ?_
        refine lv_iconst (v := 1) hx hb d_L_law_168 (by decide) ?_
        refine lv_iadd hx hb d_L_law_169 ?_
        refine va_sld hx hb hX hbl hbA hS (lxi1 hc hL) d_L_law_170 ?_
        rw [lx1 hc hL, e1]
        refine lv_aload_n hx hb d_L_law_171 rfl (lv_at hl 4 rfl) ?_
        refine lv_iload hx hb d_L_law_172 (lv_at hl 0 rfl) ?_
        refine lv_iconst (v := 2) hx hb d_L_law_174 (by decide) ?_
        refine lv_iadd hx hb d_L_law_175 ?_
        refine va_sld hx hb hX hbl hbA hS (lxi2 hc hL) d_L_law_176 ?_
        rw [lx2 hc hL, e2]
        refine lv_aload_n hx hb d_L_law_177 rfl (lv_at hl 4 rfl) ?_
        refine lv_iload hx hb d_L_law_178 (lv_at hl 0 rfl) ?_
        refine lv_iconst (v := 3) hx hb d_L_law_180 (by decide) ?_
        refine lv_iadd hx hb d_L_law_181 ?_
        refine va_sld hx hb hX hbl hbA hS (lxi3 hc hL) d_L_law_182 ?_
        rw [lx3 hc hL, e3]
        refine lv_aload_n hx hb d_L_law_183 rfl (lv_at hl 1 rfl) ?_
        refine kc_i (vx_runSW (As := [.ref (ad 0), .int (nI k), .int (nI j), .int x3, .ref (ad 21)]) (rest := []) ⟨hx, hb, hml, hown, hts⟩ (c_L_set_r l D ty ad _ n f th rt qu b w T g a o hn hn3 k j x3 hk hj (h12 k) h3) (vx_cwSW 5 hts (kGS kS1 m_L_56 m_st_L_set m_ini_L m_code_L_set) rfl rfl rfl (by decide +kernel) ⟨Nat.le_of_ble_eq_true rfl, Nat.le_of_ble_eq_true rfl⟩) ⟨kP_blind, fun U hU hW => ⟨rfl, kP_at hK hP hD U hU hW⟩⟩ rfl rfl hl.1 rfl (lv_room (Nat.le_of_ble_eq_true rfl)) d_L_law_184 ⟨(by show _ ≤ room_1.cells; omega), (by show _ ≤ room_1.slots; omega)⟩) hD hS hA (fun r u H locs hu hP hD hS hz => ?_)
        obtain ⟨rfl, rfl⟩ := hu
        obtain ⟨T2, hT2⟩ : ∃ z, z = va_up T k ((T k).1, (T k).2.1, (T k).2.2.1, (T k).2.2.2.1, upd (T k).2.2.2.2 j x3) := ⟨_, rfl⟩
        rw [← hT2] at hP hD
        obtain ⟨o2, ho2⟩ : ∃ z, z = vp_updL o 0 ((T k).2.2.2.2 j).toInt64 := ⟨_, rfl⟩
        rw [← ho2] at hP hD
        refine lv_istore (lv' := [(5, .int 0), (4, .int (nI (4 * c))), (3, .ref (ad 21)), (2, .ref (ad 10)), (1, .ref (ad 0)), (0, .ref b0)]) hx hb d_L_law_187 hl (by decide) rfl (fun ls hl => ?_)
        refine lv_aload_n hx hb d_L_law_189 rfl (lv_at hl 3 rfl) ?_
        refine lv_aload_n hx hb d_L_law_190 rfl (lv_at hl 5 rfl) ?_
        refine lv_iload hx hb d_L_law_191 (lv_at hl 1 rfl) ?_
        refine lv_iconst (v := 1) hx hb d_L_law_193 (by decide) ?_
        refine lv_iadd hx hb d_L_law_194 ?_
        refine va_sld hx hb hX hbl hbA hS (lxi1 hc hL) d_L_law_195 ?_
        rw [lx1 hc hL, e1]
        refine lv_aload_n hx hb d_L_law_196 rfl (lv_at hl 5 rfl) ?_
        refine lv_iload hx hb d_L_law_197 (lv_at hl 1 rfl) ?_
        refine lv_iconst (v := 2) hx hb d_L_law_199 (by decide) ?_
        refine lv_iadd hx hb d_L_law_200 ?_
        refine va_sld hx hb hX hbl hbA hS (lxi2 hc hL) d_L_law_201 ?_
        rw [lx2 hc hL, e2]
        refine lv_aload_n hx hb d_L_law_202 rfl (lv_at hl 5 rfl) ?_
        refine lv_iload hx hb d_L_law_203 (lv_at hl 1 rfl) ?_
        refine lv_iconst (v := 3) hx hb d_L_law_205 (by decide) ?_
        refine lv_iadd hx hb d_L_law_206 ?_
        refine va_sld hx hb hX hbl hbA hS (lxi3 hc hL) d_L_law_207 ?_
        rw [lx3 hc hL, e3]
        refine kc_i (va_runV (As := [.int (nI k), .int (nI j), .int x3]) (rest := []) ⟨hx, hb, hml, hown, hts⟩ (c_M_set_y l D ty ad _ n f th rt qu b w T2 g a o2 hg1 hn3 hI.hL (nI k) (nI j) x3 (mG_z hq1 k10)) (cwV 3 hts (kGV kS1 m_L_59 m_im_M_set m_sel_M_set m_ini_M m_code_M_set) rfl rfl rfl (by decide +kernel) ⟨Nat.le_of_ble_eq_true rfl, Nat.le_of_ble_eq_true rfl⟩) ⟨kP_blind, va_recv hK hP (ci := 3) (q0 := 10) rfl gw_10, fun U hU hW => ⟨rfl, kP_at hK hP hD U hU hW⟩⟩ rfl rfl hl.1 rfl (lv_room (Nat.le_of_ble_eq_true rfl)) d_L_law_208 ⟨(by show _ ≤ room_1.cells; omega), (by show _ ≤ room_1.slots; omega)⟩) hD hS hA (fun r2 u H locs hu hP hD hS hz => ?_)
        obtain ⟨hr2, rfl⟩ := hu
        rw [k12c hk3 hj12] at hr2 hP hD
        obtain ⟨g2, hg2⟩ : ∃ z, z = upd g 0 (mT (mA (mF g a (nI k) (nI j)) (mO g a x3)) 1) := ⟨_, rfl⟩
        rw [← hg2] at hP hD
        obtain ⟨a2, ha2⟩ : ∃ z, z = va_up a 5 (upd (a 5) (12 * k + j) (x3 + 1)) := ⟨_, rfl⟩
        rw [← ha2] at hP hD
        refine lv_istore (lv' := [(6, .int r2), (5, .int 0), (4, .int (nI (4 * c))), (3, .ref (ad 21)), (2, .ref (ad 10)), (1, .ref (ad 0)), (0, .ref b0)]) hx hb d_L_law_211 hl (by decide) rfl (fun ls hl => ?_)
        refine lv_aload_n hx hb d_L_law_213 rfl (lv_at hl 4 rfl) ?_
        refine kc_R (va_runV (As := []) (rest := []) ⟨hx, hb, hml, hown, hts⟩ (c_M_thrown l D ty ad _ n f th rt qu b w T2 g2 a2 o2) (cwV 0 hts (kGV kS1 m_L_52 m_im_M_thrown m_sel_M_thrown m_ini_M m_code_M_thrown) rfl rfl rfl (by decide +kernel) ⟨Nat.le_of_ble_eq_true rfl, Nat.le_of_ble_eq_true rfl⟩) ⟨kP_blind, va_recv hK hP (ci := 3) (q0 := 10) rfl gw_10, fun U hU hW => ⟨rfl, kP_at hK hP hD U hU hW⟩⟩ rfl rfl hl.1 rfl (lv_room (Nat.le_of_ble_eq_true rfl)) d_L_law_214 ⟨(by show _ ≤ room_1.cells; omega), (by show _ ≤ room_1.slots; omega)⟩) ?_
        refine lv_iload hx hb d_L_law_217 (lv_at hl 1 rfl) ?_
        refine lv_icmp_eq (tgt := 224) hx hb d_L_law_219 (by decide) (fun c_219 => ?_) (fun c_219 => absurd (by rw [hg2]; exact mT_0 hq1 k10) c_219)
        refine lv_iload hx hb d_L_law_224 (lv_at hl 1 rfl) ?_
        refine lv_if_ne (tgt := 241) hx hb d_L_law_226 (by decide) (fun c_226 => absurd rfl c_226) (fun c_226 => ?_)
        refine lv_aload_n hx hb d_L_law_229 rfl (lv_at hl 3 rfl) ?_
        refine lv_iconst (v := 0) hx hb d_L_law_230 (by decide) ?_
        refine va_lald (f := o2) hx hb hK hP 21 3 gw_21 rfl (by rw [← nI_0]; exact vp_in_nI (N := 1) (by omega) (by omega)) d_L_law_231 ?_
        rw [sb_cl0]
        refine lv_iload hx hb d_L_law_232 (lv_at hl 0 rfl) ?_
        refine lv_i2l (v := (r2).toInt64) hx hb d_L_law_234 rfl ?_
        refine W.lcmp hx hb d_L_law_235 ?_
        refine lv_if_eq (tgt := 241) hx hb d_L_law_236 (by decide) (fun c_236 => ?_) (fun c_236 => absurd ((lg_cmp_eq _ _).mpr (by rw [ho2, pk_uLs, hr2, hI.a5 k (hn k hk) j hj, p_as])) c_236)
        refine lv_goto (tgt := 655) hx hb d_L_law_241 (by decide) ?_
        have hl := lv_sub (l' := [(4, .int (nI (4 * c))), (3, .ref (ad 21)), (2, .ref (ad 10)), (1, .ref (ad 0)), (0, .ref b0)]) hl [2, 3, 4, 5, 6] rfl
        have hI2 : Inv n si ei f th rt qu T2 g2 a2 := by rw [hT2, hg2, ha2]; exact hI.setF hk hj h3 _
        have h12 : f 10 = g2 11 := by rw [hg2]; exact h10
        refine W.widen (k := cells + 2) (n := slots + 16) (by omega) (by omega) ?_
        exact kk hI2 h12 hP hD hS hl
      · have hq0 : mO g a x3 = 0 := hI.nO h3
        refine lv_aload_n hx hb d_L_law_164 rfl (lv_at hl 3 rfl) ?_
        refine lv_aload_n hx hb d_L_law_165 rfl (lv_at hl 4 rfl) ?_
        refine lv_iload hx hb d_L_law_166 (lv_at hl 0 rfl) ?_
        refine lv_iconst (v := 1) hx hb d_L_law_168 (by decide) ?_
        refine lv_iadd hx hb d_L_law_169 ?_
        refine va_sld hx hb hX hbl hbA hS (lxi1 hc hL) d_L_law_170 ?_
        rw [lx1 hc hL, e1]
        refine lv_aload_n hx hb d_L_law_171 rfl (lv_at hl 4 rfl) ?_
        refine lv_iload hx hb d_L_law_172 (lv_at hl 0 rfl) ?_
        refine lv_iconst (v := 2) hx hb d_L_law_174 (by decide) ?_
        refine lv_iadd hx hb d_L_law_175 ?_
        refine va_sld hx hb hX hbl hbA hS (lxi2 hc hL) d_L_law_176 ?_
        rw [lx2 hc hL, e2]
        refine lv_aload_n hx hb d_L_law_177 rfl (lv_at hl 4 rfl) ?_
        refine lv_iload hx hb d_L_law_178 (lv_at hl 0 rfl) ?_
        refine lv_iconst (v := 3) hx hb d_L_law_180 (by decide) ?_
        refine lv_iadd hx hb d_L_law_181 ?_
        refine va_sld hx hb hX hbl hbA hS (lxi3 hc hL) d_L_law_182 ?_
        rw [lx3 hc hL, e3]
        refine lv_aload_n hx hb d_L_law_183 rfl (lv_at hl 1 rfl) ?_
        refine kc_i (vx_runSW (As := [.ref (ad 0), .int (nI k), .int (nI j), .int x3, .ref (ad 21)]) (rest := []) ⟨hx, hb, hml, hown, hts⟩ (c_L_set_z l D ty ad _ n f th rt qu b w T g a o hn hn3 k j hk hj (h12 k) x3 (fun q9 => h3 (Or.inr q9)) (fun q9 => h3 (Or.inl q9)) htr) (vx_cwSW 5 hts (kGS kS1 m_L_56 m_st_L_set m_ini_L m_code_L_set) rfl rfl rfl (by decide +kernel) ⟨Nat.le_of_ble_eq_true rfl, Nat.le_of_ble_eq_true rfl⟩) ⟨kPY_blind, fun U hU hW => ⟨rfl, kP_at hK hP hD U hU hW, hY.at hS (kA_free hD hS hA) U hU hW⟩⟩ rfl rfl hl.1 rfl (lv_room (Nat.le_of_ble_eq_true rfl)) d_L_law_184 ⟨(by show _ ≤ room_1.cells; omega), (by show _ ≤ room_1.slots; omega)⟩) hD hS hA (fun r u H locs hu hP hD hS hz => ?_)
        obtain ⟨rfl, rfl⟩ := hu
        refine lv_istore (lv' := [(5, .int 1), (4, .int (nI (4 * c))), (3, .ref (ad 21)), (2, .ref (ad 10)), (1, .ref (ad 0)), (0, .ref b0)]) hx hb d_L_law_187 hl (by decide) rfl (fun ls hl => ?_)
        refine lv_aload_n hx hb d_L_law_189 rfl (lv_at hl 3 rfl) ?_
        refine lv_aload_n hx hb d_L_law_190 rfl (lv_at hl 5 rfl) ?_
        refine lv_iload hx hb d_L_law_191 (lv_at hl 1 rfl) ?_
        refine lv_iconst (v := 1) hx hb d_L_law_193 (by decide) ?_
        refine lv_iadd hx hb d_L_law_194 ?_
        refine va_sld hx hb hX hbl hbA hS (lxi1 hc hL) d_L_law_195 ?_
        rw [lx1 hc hL, e1]
        refine lv_aload_n hx hb d_L_law_196 rfl (lv_at hl 5 rfl) ?_
        refine lv_iload hx hb d_L_law_197 (lv_at hl 1 rfl) ?_
        refine lv_iconst (v := 2) hx hb d_L_law_199 (by decide) ?_
        refine lv_iadd hx hb d_L_law_200 ?_
        refine va_sld hx hb hX hbl hbA hS (lxi2 hc hL) d_L_law_201 ?_
        rw [lx2 hc hL, e2]
        refine lv_aload_n hx hb d_L_law_202 rfl (lv_at hl 5 rfl) ?_
        refine lv_iload hx hb d_L_law_203 (lv_at hl 1 rfl) ?_
        refine lv_iconst (v := 3) hx hb d_L_law_205 (by decide) ?_
        refine lv_iadd hx hb d_L_law_206 ?_
        refine va_sld hx hb hX hbl hbA hS (lxi3 hc hL) d_L_law_207 ?_
        rw [lx3 hc hL, e3]
        refine kc_i (va_runV (As := [.int (nI k), .int (nI j), .int x3]) (rest := []) ⟨hx, hb, hml, hown, hts⟩ (c_M_set_n l D ty ad _ n f th rt qu b w T g a o hg1 hn3 hI.hL (nI k) (nI j) x3 (mG_x (mA_y hq0))) (cwV 3 hts (kGV kS1 m_L_59 m_im_M_set m_sel_M_set m_ini_M m_code_M_set) rfl rfl rfl (by decide +kernel) ⟨Nat.le_of_ble_eq_true rfl, Nat.le_of_ble_eq_true rfl⟩) ⟨kP_blind, va_recv hK hP (ci := 3) (q0 := 10) rfl gw_10, fun U hU hW => ⟨rfl, kP_at hK hP hD U hU hW⟩⟩ rfl rfl hl.1 rfl (lv_room (Nat.le_of_ble_eq_true rfl)) d_L_law_208 ⟨(by show _ ≤ room_1.cells; omega), (by show _ ≤ room_1.slots; omega)⟩) hD hS hA (fun r2 u H locs hu hP hD hS hz => ?_)
        obtain ⟨hr2, rfl⟩ := hu
        obtain ⟨g2, hg2⟩ : ∃ z, z = upd g 0 (mT (mA (mF g a (nI k) (nI j)) (mO g a x3)) 1) := ⟨_, rfl⟩
        rw [← hg2] at hP hD
        refine lv_istore (lv' := [(6, .int r2), (5, .int 1), (4, .int (nI (4 * c))), (3, .ref (ad 21)), (2, .ref (ad 10)), (1, .ref (ad 0)), (0, .ref b0)]) hx hb d_L_law_211 hl (by decide) rfl (fun ls hl => ?_)
        refine lv_aload_n hx hb d_L_law_213 rfl (lv_at hl 4 rfl) ?_
        refine kc_R (va_runV (As := []) (rest := []) ⟨hx, hb, hml, hown, hts⟩ (c_M_thrown l D ty ad _ n f th rt qu b w T g2 a o) (cwV 0 hts (kGV kS1 m_L_52 m_im_M_thrown m_sel_M_thrown m_ini_M m_code_M_thrown) rfl rfl rfl (by decide +kernel) ⟨Nat.le_of_ble_eq_true rfl, Nat.le_of_ble_eq_true rfl⟩) ⟨kP_blind, va_recv hK hP (ci := 3) (q0 := 10) rfl gw_10, fun U hU hW => ⟨rfl, kP_at hK hP hD U hU hW⟩⟩ rfl rfl hl.1 rfl (lv_room (Nat.le_of_ble_eq_true rfl)) d_L_law_214 ⟨(by show _ ≤ room_1.cells; omega), (by show _ ≤ room_1.slots; omega)⟩) ?_
        refine lv_iload hx hb d_L_law_217 (lv_at hl 1 rfl) ?_
        refine lv_icmp_eq (tgt := 224) hx hb d_L_law_219 (by decide) (fun c_219 => ?_) (fun c_219 => absurd (by rw [hg2]; exact mT_1 (mA_y hq0)) c_219)
        refine lv_iload hx hb d_L_law_224 (lv_at hl 1 rfl) ?_
        refine lv_if_ne (tgt := 241) hx hb d_L_law_226 (by decide) (fun c_226 => ?_) (fun c_226 => absurd c_226 (by decide))
        refine lv_goto (tgt := 655) hx hb d_L_law_241 (by decide) ?_
        have hl := lv_sub (l' := [(4, .int (nI (4 * c))), (3, .ref (ad 21)), (2, .ref (ad 10)), (1, .ref (ad 0)), (0, .ref b0)]) hl [2, 3, 4, 5, 6] rfl
        have hI2 : Inv n si ei f th rt qu T g2 a := by rw [hg2]; exact hI
        have h12 : f 10 = g2 11 := by rw [hg2]; exact h10
        refine W.widen (k := cells + 2) (n := slots + 16) (by omega) (by omega) ?_
        exact kk hI2 h12 hP hD hS hl
  · have hq0 : mF g a x1 x2 = 0 := hI.nF1 h1
    refine lv_aload_n hx hb d_L_law_164 rfl (lv_at hl 3 rfl) ?_
    refine lv_aload_n hx hb d_L_law_165 rfl (lv_at hl 4 rfl) ?_
    refine lv_iload hx hb d_L_law_166 (lv_at hl 0 rfl) ?_
    refine lv_iconst (v := 1) hx hb d_L_law_168 (by decide) ?_
    refine lv_iadd hx hb d_L_law_169 ?_
    refine va_sld hx hb hX hbl hbA hS (lxi1 hc hL) d_L_law_170 ?_
    rw [lx1 hc hL, e1]
    refine lv_aload_n hx hb d_L_law_171 rfl (lv_at hl 4 rfl) ?_
    refine lv_iload hx hb d_L_law_172 (lv_at hl 0 rfl) ?_
    refine lv_iconst (v := 2) hx hb d_L_law_174 (by decide) ?_
    refine lv_iadd hx hb d_L_law_175 ?_
    refine va_sld hx hb hX hbl hbA hS (lxi2 hc hL) d_L_law_176 ?_
    rw [lx2 hc hL, e2]
    refine lv_aload_n hx hb d_L_law_177 rfl (lv_at hl 4 rfl) ?_
    refine lv_iload hx hb d_L_law_178 (lv_at hl 0 rfl) ?_
    refine lv_iconst (v := 3) hx hb d_L_law_180 (by decide) ?_
    refine lv_iadd hx hb d_L_law_181 ?_
    refine va_sld hx hb hX hbl hbA hS (lxi3 hc hL) d_L_law_182 ?_
    rw [lx3 hc hL, e3]
    refine lv_aload_n hx hb d_L_law_183 rfl (lv_at hl 1 rfl) ?_
    refine kc_i (vx_runSW (As := [.ref (ad 0), .int x1, .int x2, .int x3, .ref (ad 21)]) (rest := []) ⟨hx, hb, hml, hown, hts⟩ (c_L_set_x l D ty ad _ n f th rt qu b w T g a o x1 h1 x2 x3 htr) (vx_cwSW 5 hts (kGS kS1 m_L_56 m_st_L_set m_ini_L m_code_L_set) rfl rfl rfl (by decide +kernel) ⟨Nat.le_of_ble_eq_true rfl, Nat.le_of_ble_eq_true rfl⟩) ⟨kPY_blind, fun U hU hW => ⟨rfl, kP_at hK hP hD U hU hW, hY.at hS (kA_free hD hS hA) U hU hW⟩⟩ rfl rfl hl.1 rfl (lv_room (Nat.le_of_ble_eq_true rfl)) d_L_law_184 ⟨(by show _ ≤ room_1.cells; omega), (by show _ ≤ room_1.slots; omega)⟩) hD hS hA (fun r u H locs hu hP hD hS hz => ?_)
    obtain ⟨rfl, rfl⟩ := hu
    refine lv_istore (lv' := [(5, .int 1), (4, .int (nI (4 * c))), (3, .ref (ad 21)), (2, .ref (ad 10)), (1, .ref (ad 0)), (0, .ref b0)]) hx hb d_L_law_187 hl (by decide) rfl (fun ls hl => ?_)
    refine lv_aload_n hx hb d_L_law_189 rfl (lv_at hl 3 rfl) ?_
    refine lv_aload_n hx hb d_L_law_190 rfl (lv_at hl 5 rfl) ?_
    refine lv_iload hx hb d_L_law_191 (lv_at hl 1 rfl) ?_
    refine lv_iconst (v := 1) hx hb d_L_law_193 (by decide) ?_
    refine lv_iadd hx hb d_L_law_194 ?_
    refine va_sld hx hb hX hbl hbA hS (lxi1 hc hL) d_L_law_195 ?_
    rw [lx1 hc hL, e1]
    refine lv_aload_n hx hb d_L_law_196 rfl (lv_at hl 5 rfl) ?_
    refine lv_iload hx hb d_L_law_197 (lv_at hl 1 rfl) ?_
    refine lv_iconst (v := 2) hx hb d_L_law_199 (by decide) ?_
    refine lv_iadd hx hb d_L_law_200 ?_
    refine va_sld hx hb hX hbl hbA hS (lxi2 hc hL) d_L_law_201 ?_
    rw [lx2 hc hL, e2]
    refine lv_aload_n hx hb d_L_law_202 rfl (lv_at hl 5 rfl) ?_
    refine lv_iload hx hb d_L_law_203 (lv_at hl 1 rfl) ?_
    refine lv_iconst (v := 3) hx hb d_L_law_205 (by decide) ?_
    refine lv_iadd hx hb d_L_law_206 ?_
    refine va_sld hx hb hX hbl hbA hS (lxi3 hc hL) d_L_law_207 ?_
    rw [lx3 hc hL, e3]
    refine kc_i (va_runV (As := [.int x1, .int x2, .int x3]) (rest := []) ⟨hx, hb, hml, hown, hts⟩ (c_M_set_n l D ty ad _ n f th rt qu b w T g a o hg1 hn3 hI.hL x1 x2 x3 (mG_x (mA_x hq0))) (cwV 3 hts (kGV kS1 m_L_59 m_im_M_set m_sel_M_set m_ini_M m_code_M_set) rfl rfl rfl (by decide +kernel) ⟨Nat.le_of_ble_eq_true rfl, Nat.le_of_ble_eq_true rfl⟩) ⟨kP_blind, va_recv hK hP (ci := 3) (q0 := 10) rfl gw_10, fun U hU hW => ⟨rfl, kP_at hK hP hD U hU hW⟩⟩ rfl rfl hl.1 rfl (lv_room (Nat.le_of_ble_eq_true rfl)) d_L_law_208 ⟨(by show _ ≤ room_1.cells; omega), (by show _ ≤ room_1.slots; omega)⟩) hD hS hA (fun r2 u H locs hu hP hD hS hz => ?_)
    obtain ⟨hr2, rfl⟩ := hu
    obtain ⟨g2, hg2⟩ : ∃ z, z = upd g 0 (mT (mA (mF g a x1 x2) (mO g a x3)) 1) := ⟨_, rfl⟩
    rw [← hg2] at hP hD
    refine lv_istore (lv' := [(6, .int r2), (5, .int 1), (4, .int (nI (4 * c))), (3, .ref (ad 21)), (2, .ref (ad 10)), (1, .ref (ad 0)), (0, .ref b0)]) hx hb d_L_law_211 hl (by decide) rfl (fun ls hl => ?_)
    refine lv_aload_n hx hb d_L_law_213 rfl (lv_at hl 4 rfl) ?_
    refine kc_R (va_runV (As := []) (rest := []) ⟨hx, hb, hml, hown, hts⟩ (c_M_thrown l D ty ad _ n f th rt qu b w T g2 a o) (cwV 0 hts (kGV kS1 m_L_52 m_im_M_thrown m_sel_M_thrown m_ini_M m_code_M_thrown) rfl rfl rfl (by decide +kernel) ⟨Nat.le_of_ble_eq_true rfl, Nat.le_of_ble_eq_true rfl⟩) ⟨kP_blind, va_recv hK hP (ci := 3) (q0 := 10) rfl gw_10, fun U hU hW => ⟨rfl, kP_at hK hP hD U hU hW⟩⟩ rfl rfl hl.1 rfl (lv_room (Nat.le_of_ble_eq_true rfl)) d_L_law_214 ⟨(by show _ ≤ room_1.cells; omega), (by show _ ≤ room_1.slots; omega)⟩) ?_
    refine lv_iload hx hb d_L_law_217 (lv_at hl 1 rfl) ?_
    refine lv_icmp_eq (tgt := 224) hx hb d_L_law_219 (by decide) (fun c_219 => ?_) (fun c_219 => absurd (by rw [hg2]; exact mT_1 (mA_x hq0)) c_219)
    refine lv_iload hx hb d_L_law_224 (lv_at hl 1 rfl) ?_
    refine lv_if_ne (tgt := 241) hx hb d_L_law_226 (by decide) (fun c_226 => ?_) (fun c_226 => absurd c_226 (by decide))
    refine lv_goto (tgt := 655) hx hb d_L_law_241 (by decide) ?_
    have hl := lv_sub (l' := [(4, .int (nI (4 * c))), (3, .ref (ad 21)), (2, .ref (ad 10)), (1, .ref (ad 0)), (0, .ref b0)]) hl [2, 3, 4, 5, 6] rfl
    have hI2 : Inv n si ei f th rt qu T g2 a := by rw [hg2]; exact hI
    have h12 : f 10 = g2 11 := by rw [hg2]; exact h10
    refine W.widen (k := cells + 2) (n := slots + 16) (by omega) (by omega) ?_
    exact kk hI2 h12 hP hD hS hl
set_option maxHeartbeats 4000000 in
set_option maxRecDepth 100000 in
theorem law_get (C : lw_C p l s m cd b0 L xs A D ty) {c : Nat} (hc : 4 * c + 4 ≤ L) {cells slots : Nat} (hc1 : cells + 2 ≤ room_1.cells) (hs1 : slots + 16 ≤ room_1.slots) {n si ei : Nat} {ad : Nat → Nat} {f : Nat → Int32} {th : Nat → Bool} {rt qu : Nat → Int32} {b w : SR} {T : Nat → TH} {g : Nat → Int32} {a : Nat → Nat → Int32} {o : Nat → Int64} {H : Heap} {locs : List Loc} {ls : Array Slot} (hI : Inv n si ei f th rt qu T g a) (h10 : f 10 = g 11) (hP : va_P D kCl (gW n ty ad f th rt qu b w T g a o) H) (hD : va_D A (gW n ty ad f th rt qu b w T g a o)) (hS : va_S A s.heap H locs) (hl : lv_has ls 7 [(4, .int (nI (4 * c))), (3, .ref (ad 21)), (2, .ref (ad 10)), (1, .ref (ad 0)), (0, .ref b0)])
    (kk : ∀ {n si ei : Nat} {ad : Nat → Nat} {f : Nat → Int32} {th : Nat → Bool} {rt qu : Nat → Int32} {b w : SR} {T : Nat → TH} {g : Nat → Int32} {a : Nat → Nat → Int32} {o : Nat → Int64} {H : Heap} {locs : List Loc} {ls : Array Slot}, Inv n si ei f th rt qu T g a → f 10 = g 11 → va_P D kCl (gW n ty ad f th rt qu b w T g a o) H → va_D A (gW n ty ad f th rt qu b w T g a o) → va_S A s.heap H locs → lv_has ls 7 [(4, .int (nI (4 * c))), (3, .ref (ad 21)), (2, .ref (ad 10)), (1, .ref (ad 0)), (0, .ref b0)] → W p l e room_1 s m #[Value.ref b0] below meth cd H locs (cells + 2) (slots + 16) Q (F0 m 655 ls [])) : W p l e room_1 s m #[Value.ref b0] below meth cd H locs cells slots Q (F0 m 244 ls []) := by
  obtain ⟨hx, hb, hml, hown, hts, hK, hX, hbl, hbA, hA, hY, htr, hL⟩ := C
  obtain ⟨x1, e1⟩ : ∃ z, xs (4 * c + 1) = z := ⟨_, rfl⟩
  obtain ⟨x2, e2⟩ : ∃ z, xs (4 * c + 2) = z := ⟨_, rfl⟩
  have hn := hI.hn
  have hn3 := hI.n3
  have hg1 := hI.g1
  have h12 := hI.l12
  by_cases h1 : tOk th x1 = true
  · obtain ⟨k, hk3, rfl, hk⟩ := tOk_k h1
    by_cases h2 : tHasF (T k).2.2.2.1 x2 = 0
    · have hq0 : mF g a (nI k) x2 = 0 := hI.nF2 hk3 h2
      refine lv_aload_n hx hb d_L_law_244 rfl (lv_at hl 3 rfl) ?_
      refine lv_aload_n hx hb d_L_law_245 rfl (lv_at hl 4 rfl) ?_
      refine lv_iload hx hb d_L_law_246 (lv_at hl 0 rfl) ?_
      refine lv_iconst (v := 1) hx hb d_L_law_248 (by decide) ?_
      refine lv_iadd hx hb d_L_law_249 ?_
      refine va_sld hx hb hX hbl hbA hS (lxi1 hc hL) d_L_law_250 ?_
      rw [lx1 hc hL, e1]
      refine lv_aload_n hx hb d_L_law_251 rfl (lv_at hl 4 rfl) ?_
      refine lv_iload hx hb d_L_law_252 (lv_at hl 0 rfl) ?_
      refine lv_iconst (v := 2) hx hb d_L_law_254 (by decide) ?_
      refine lv_iadd hx hb d_L_law_255 ?_
      refine va_sld hx hb hX hbl hbA hS (lxi2 hc hL) d_L_law_256 ?_
      rw [lx2 hc hL, e2]
      refine lv_aload_n hx hb d_L_law_257 rfl (lv_at hl 1 rfl) ?_
      refine kc_i (vx_runSW (As := [.ref (ad 0), .int (nI k), .int x2, .ref (ad 21)]) (rest := []) ⟨hx, hb, hml, hown, hts⟩ (c_L_get_y l D ty ad _ n f th rt qu b w T g a o hn hn3 k x2 hk h2 htr) (vx_cwSW 4 hts (kGS kS1 m_L_60 m_st_L_get m_ini_L m_code_L_get) rfl rfl rfl (by decide +kernel) ⟨Nat.le_of_ble_eq_true rfl, Nat.le_of_ble_eq_true rfl⟩) ⟨kPY_blind, fun U hU hW => ⟨rfl, kP_at hK hP hD U hU hW, hY.at hS (kA_free hD hS hA) U hU hW⟩⟩ rfl rfl hl.1 rfl (lv_room (Nat.le_of_ble_eq_true rfl)) d_L_law_258 ⟨(by show _ ≤ room_1.cells; omega), (by show _ ≤ room_1.slots; omega)⟩) hD hS hA (fun r u H locs hu hP hD hS hz => ?_)
      obtain ⟨rfl, rfl⟩ := hu
      refine lv_istore (lv' := [(5, .int 1), (4, .int (nI (4 * c))), (3, .ref (ad 21)), (2, .ref (ad 10)), (1, .ref (ad 0)), (0, .ref b0)]) hx hb d_L_law_261 hl (by decide) rfl (fun ls hl => ?_)
      refine lv_aload_n hx hb d_L_law_263 rfl (lv_at hl 3 rfl) ?_
      refine lv_aload_n hx hb d_L_law_264 rfl (lv_at hl 5 rfl) ?_
      refine lv_iload hx hb d_L_law_265 (lv_at hl 1 rfl) ?_
      refine lv_iconst (v := 1) hx hb d_L_law_267 (by decide) ?_
      refine lv_iadd hx hb d_L_law_268 ?_
      refine va_sld hx hb hX hbl hbA hS (lxi1 hc hL) d_L_law_269 ?_
      rw [lx1 hc hL, e1]
      refine lv_aload_n hx hb d_L_law_270 rfl (lv_at hl 5 rfl) ?_
      refine lv_iload hx hb d_L_law_271 (lv_at hl 1 rfl) ?_
      refine lv_iconst (v := 2) hx hb d_L_law_273 (by decide) ?_
      refine lv_iadd hx hb d_L_law_274 ?_
      refine va_sld hx hb hX hbl hbA hS (lxi2 hc hL) d_L_law_275 ?_
      rw [lx2 hc hL, e2]
      refine kc_i (va_runV (As := [.int (nI k), .int x2]) (rest := []) ⟨hx, hb, hml, hown, hts⟩ (c_M_get_n l D ty ad _ n f th rt qu b w T g a o hg1 hn3 hI.hL (nI k) x2 (mG_x hq0)) (cwV 2 hts (kGV kS1 m_L_62 m_im_M_get m_sel_M_get m_ini_M m_code_M_get) rfl rfl rfl (by decide +kernel) ⟨Nat.le_of_ble_eq_true rfl, Nat.le_of_ble_eq_true rfl⟩) ⟨kP_blind, va_recv hK hP (ci := 3) (q0 := 10) rfl gw_10, fun U hU hW => ⟨rfl, kP_at hK hP hD U hU hW⟩⟩ rfl rfl hl.1 rfl (lv_room (Nat.le_of_ble_eq_true rfl)) d_L_law_276 ⟨(by show _ ≤ room_1.cells; omega), (by show _ ≤ room_1.slots; omega)⟩) hD hS hA (fun r2 u H locs hu hP hD hS hz => ?_)
      obtain ⟨hr2, rfl⟩ := hu
      obtain ⟨g2, hg2⟩ : ∃ z, z = upd g 0 (mT (mF g a (nI k) x2) 1) := ⟨_, rfl⟩
      rw [← hg2] at hP hD
      refine lv_istore (lv' := [(6, .int r2), (5, .int 1), (4, .int (nI (4 * c))), (3, .ref (ad 21)), (2, .ref (ad 10)), (1, .ref (ad 0)), (0, .ref b0)]) hx hb d_L_law_279 hl (by decide) rfl (fun ls hl => ?_)
      refine lv_aload_n hx hb d_L_law_281 rfl (lv_at hl 4 rfl) ?_
      refine kc_R (va_runV (As := []) (rest := []) ⟨hx, hb, hml, hown, hts⟩ (c_M_thrown l D ty ad _ n f th rt qu b w T g2 a o) (cwV 0 hts (kGV kS1 m_L_52 m_im_M_thrown m_sel_M_thrown m_ini_M m_code_M_thrown) rfl rfl rfl (by decide +kernel) ⟨Nat.le_of_ble_eq_true rfl, Nat.le_of_ble_eq_true rfl⟩) ⟨kP_blind, va_recv hK hP (ci := 3) (q0 := 10) rfl gw_10, fun U hU hW => ⟨rfl, kP_at hK hP hD U hU hW⟩⟩ rfl rfl hl.1 rfl (lv_room (Nat.le_of_ble_eq_true rfl)) d_L_law_282 ⟨(by show _ ≤ room_1.cells; omega), (by show _ ≤ room_1.slots; omega)⟩) ?_
      refine lv_iload hx hb d_L_law_285 (lv_at hl 1 rfl) ?_
      refine lv_icmp_eq (tgt := 292) hx hb d_L_law_287 (by decide) (fun c_287 => ?_) (fun c_287 => absurd (by rw [hg2]; exact mT_1 hq0) c_287)
      refine lv_iload hx hb d_L_law_292 (lv_at hl 1 rfl) ?_
      refine lv_if_ne (tgt := 309) hx hb d_L_law_294 (by decide) (fun c_294 => ?_) (fun c_294 => absurd c_294 (by decide))
      refine lv_goto (tgt := 655) hx hb d_L_law_309 (by decide) ?_
      have hl := lv_sub (l' := [(4, .int (nI (4 * c))), (3, .ref (ad 21)), (2, .ref (ad 10)), (1, .ref (ad 0)), (0, .ref b0)]) hl [2, 3, 4, 5, 6] rfl
      have hI2 : Inv n si ei f th rt qu T g2 a := by rw [hg2]; exact hI
      have h12 : f 10 = g2 11 := by rw [hg2]; exact h10
      refine W.widen (k := cells + 2) (n := slots + 16) (by omega) (by omega) ?_
      exact kk hI2 h12 hP hD hS hl
    · obtain ⟨j, rfl, hj⟩ := hasF_j (by have := h12 k; omega) h2
      have hq0 : ¬ mF g a (nI k) (nI j) = 0 := (hI.tF _ _).mpr ⟨k, j, rfl, hk, rfl, hj⟩
      have hj12 : j < 12 := by have := h12 k; omega
      refine lv_aload_n hx hb d_L_law_244 rfl (lv_at hl 3 rfl) ?_
      refine lv_aload_n hx hb d_L_law_245 rfl (lv_at hl 4 rfl) ?_
      refine lv_iload hx hb d_L_law_246 (lv_at hl 0 rfl) ?_
      refine lv_iconst (v := 1) hx hb d_L_law_248 (by decide) ?_
      refine lv_iadd hx hb d_L_law_249 ?_
      refine va_sld hx hb hX hbl hbA hS (lxi1 hc hL) d_L_law_250 ?_
      rw [lx1 hc hL, e1]
      refine lv_aload_n hx hb d_L_law_251 rfl (lv_at hl 4 rfl) ?_
      refine lv_iload hx hb d_L_law_252 (lv_at hl 0 rfl) ?_
      refine lv_iconst (v := 2) hx hb d_L_law_254 (by decide) ?_
      refine lv_iadd hx hb d_L_law_255 ?_
      refine va_sld hx hb hX hbl hbA hS (lxi2 hc hL) d_L_law_256 ?_
      rw [lx2 hc hL, e2]
      refine lv_aload_n hx hb d_L_law_257 rfl (lv_at hl 1 rfl) ?_
      refine kc_i (vx_runSW (As := [.ref (ad 0), .int (nI k), .int (nI j), .ref (ad 21)]) (rest := []) ⟨hx, hb, hml, hown, hts⟩ (c_L_get_r l D ty ad _ n f th rt qu b w T g a o hn hn3 k j hk hj (h12 k)) (vx_cwSW 4 hts (kGS kS1 m_L_60 m_st_L_get m_ini_L m_code_L_get) rfl rfl rfl (by decide +kernel) ⟨Nat.le_of_ble_eq_true rfl, Nat.le_of_ble_eq_true rfl⟩) ⟨kP_blind, fun U hU hW => ⟨rfl, kP_at hK hP hD U hU hW⟩⟩ rfl rfl hl.1 rfl (lv_room (Nat.le_of_ble_eq_true rfl)) d_L_law_258 ⟨(by show _ ≤ room_1.cells; omega), (by show _ ≤ room_1.slots; omega)⟩) hD hS hA (fun r u H locs hu hP hD hS hz => ?_)
      obtain ⟨rfl, rfl⟩ := hu
      obtain ⟨o2, ho2⟩ : ∃ z, z = vp_updL o 0 ((T k).2.2.2.2 j).toInt64 := ⟨_, rfl⟩
      rw [← ho2] at hP hD
      refine lv_istore (lv' := [(5, .int 0), (4, .int (nI (4 * c))), (3, .ref (ad 21)), (2, .ref (ad 10)), (1, .ref (ad 0)), (0, .ref b0)]) hx hb d_L_law_261 hl (by decide) rfl (fun ls hl => ?_)
      refine lv_aload_n hx hb d_L_law_263 rfl (lv_at hl 3 rfl) ?_
      refine lv_aload_n hx hb d_L_law_264 rfl (lv_at hl 5 rfl) ?_
      refine lv_iload hx hb d_L_law_265 (lv_at hl 1 rfl) ?_
      refine lv_iconst (v := 1) hx hb d_L_law_267 (by decide) ?_
      refine lv_iadd hx hb d_L_law_268 ?_
      refine va_sld hx hb hX hbl hbA hS (lxi1 hc hL) d_L_law_269 ?_
      rw [lx1 hc hL, e1]
      refine lv_aload_n hx hb d_L_law_270 rfl (lv_at hl 5 rfl) ?_
      refine lv_iload hx hb d_L_law_271 (lv_at hl 1 rfl) ?_
      refine lv_iconst (v := 2) hx hb d_L_law_273 (by decide) ?_
      refine lv_iadd hx hb d_L_law_274 ?_
      refine va_sld hx hb hX hbl hbA hS (lxi2 hc hL) d_L_law_275 ?_
      rw [lx2 hc hL, e2]
      refine kc_i (va_runV (As := [.int (nI k), .int (nI j)]) (rest := []) ⟨hx, hb, hml, hown, hts⟩ (c_M_get_y l D ty ad _ n f th rt qu b w T g a o2 hg1 hn3 hI.hL (nI k) (nI j) (mG_z hq0 k10)) (cwV 2 hts (kGV kS1 m_L_62 m_im_M_get m_sel_M_get m_ini_M m_code_M_get) rfl rfl rfl (by decide +kernel) ⟨Nat.le_of_ble_eq_true rfl, Nat.le_of_ble_eq_true rfl⟩) ⟨kP_blind, va_recv hK hP (ci := 3) (q0 := 10) rfl gw_10, fun U hU hW => ⟨rfl, kP_at hK hP hD U hU hW⟩⟩ rfl rfl hl.1 rfl (lv_room (Nat.le_of_ble_eq_true rfl)) d_L_law_276 ⟨(by show _ ≤ room_1.cells; omega), (by show _ ≤ room_1.slots; omega)⟩) hD hS hA (fun r2 u H locs hu hP hD hS hz => ?_)
      obtain ⟨hr2, rfl⟩ := hu
      rw [k12c hk3 hj12] at hr2
      obtain ⟨g2, hg2⟩ : ∃ z, z = upd g 0 (mT (mF g a (nI k) (nI j)) 1) := ⟨_, rfl⟩
      rw [← hg2] at hP hD
      refine lv_istore (lv' := [(6, .int r2), (5, .int 0), (4, .int (nI (4 * c))), (3, .ref (ad 21)), (2, .ref (ad 10)), (1, .ref (ad 0)), (0, .ref b0)]) hx hb d_L_law_279 hl (by decide) rfl (fun ls hl => ?_)
      refine lv_aload_n hx hb d_L_law_281 rfl (lv_at hl 4 rfl) ?_
      refine kc_R (va_runV (As := []) (rest := []) ⟨hx, hb, hml, hown, hts⟩ (c_M_thrown l D ty ad _ n f th rt qu b w T g2 a o2) (cwV 0 hts (kGV kS1 m_L_52 m_im_M_thrown m_sel_M_thrown m_ini_M m_code_M_thrown) rfl rfl rfl (by decide +kernel) ⟨Nat.le_of_ble_eq_true rfl, Nat.le_of_ble_eq_true rfl⟩) ⟨kP_blind, va_recv hK hP (ci := 3) (q0 := 10) rfl gw_10, fun U hU hW => ⟨rfl, kP_at hK hP hD U hU hW⟩⟩ rfl rfl hl.1 rfl (lv_room (Nat.le_of_ble_eq_true rfl)) d_L_law_282 ⟨(by show _ ≤ room_1.cells; omega), (by show _ ≤ room_1.slots; omega)⟩) ?_
      refine lv_iload hx hb d_L_law_285 (lv_at hl 1 rfl) ?_
      refine lv_icmp_eq (tgt := 292) hx hb d_L_law_287 (by decide) (fun c_287 => ?_) (fun c_287 => absurd (by rw [hg2]; exact mT_0 hq0 k10) c_287)
      refine lv_iload hx hb d_L_law_292 (lv_at hl 1 rfl) ?_
      refine lv_if_ne (tgt := 309) hx hb d_L_law_294 (by decide) (fun c_294 => absurd rfl c_294) (fun c_294 => ?_)
      refine lv_aload_n hx hb d_L_law_297 rfl (lv_at hl 3 rfl) ?_
      refine lv_iconst (v := 0) hx hb d_L_law_298 (by decide) ?_
      refine va_lald (f := o2) hx hb hK hP 21 3 gw_21 rfl (by rw [← nI_0]; exact vp_in_nI (N := 1) (by omega) (by omega)) d_L_law_299 ?_
      rw [sb_cl0]
      refine lv_iload hx hb d_L_law_300 (lv_at hl 0 rfl) ?_
      refine lv_i2l (v := (r2).toInt64) hx hb d_L_law_302 rfl ?_
      refine W.lcmp hx hb d_L_law_303 ?_
      refine lv_if_eq (tgt := 309) hx hb d_L_law_304 (by decide) (fun c_304 => ?_) (fun c_304 => absurd ((lg_cmp_eq _ _).mpr (by rw [ho2, pk_uLs, hr2, hI.a5 k (hn k hk) j hj, p_as])) c_304)
      refine lv_goto (tgt := 655) hx hb d_L_law_309 (by decide) ?_
      have hl := lv_sub (l' := [(4, .int (nI (4 * c))), (3, .ref (ad 21)), (2, .ref (ad 10)), (1, .ref (ad 0)), (0, .ref b0)]) hl [2, 3, 4, 5, 6] rfl
      have hI2 : Inv n si ei f th rt qu T g2 a := by rw [hg2]; exact hI
      have h12 : f 10 = g2 11 := by rw [hg2]; exact h10
      refine W.widen (k := cells + 2) (n := slots + 16) (by omega) (by omega) ?_
      exact kk hI2 h12 hP hD hS hl
  · have hq0 : mF g a x1 x2 = 0 := hI.nF1 h1
    refine lv_aload_n hx hb d_L_law_244 rfl (lv_at hl 3 rfl) ?_
    refine lv_aload_n hx hb d_L_law_245 rfl (lv_at hl 4 rfl) ?_
    refine lv_iload hx hb d_L_law_246 (lv_at hl 0 rfl) ?_
    refine lv_iconst (v := 1) hx hb d_L_law_248 (by decide) ?_
    refine lv_iadd hx hb d_L_law_249 ?_
    refine va_sld hx hb hX hbl hbA hS (lxi1 hc hL) d_L_law_250 ?_
    rw [lx1 hc hL, e1]
    refine lv_aload_n hx hb d_L_law_251 rfl (lv_at hl 4 rfl) ?_
    refine lv_iload hx hb d_L_law_252 (lv_at hl 0 rfl) ?_
    refine lv_iconst (v := 2) hx hb d_L_law_254 (by decide) ?_
    refine lv_iadd hx hb d_L_law_255 ?_
    refine va_sld hx hb hX hbl hbA hS (lxi2 hc hL) d_L_law_256 ?_
    rw [lx2 hc hL, e2]
    refine lv_aload_n hx hb d_L_law_257 rfl (lv_at hl 1 rfl) ?_
    refine kc_i (vx_runSW (As := [.ref (ad 0), .int x1, .int x2, .ref (ad 21)]) (rest := []) ⟨hx, hb, hml, hown, hts⟩ (c_L_get_x l D ty ad _ n f th rt qu b w T g a o x1 h1 x2 htr) (vx_cwSW 4 hts (kGS kS1 m_L_60 m_st_L_get m_ini_L m_code_L_get) rfl rfl rfl (by decide +kernel) ⟨Nat.le_of_ble_eq_true rfl, Nat.le_of_ble_eq_true rfl⟩) ⟨kPY_blind, fun U hU hW => ⟨rfl, kP_at hK hP hD U hU hW, hY.at hS (kA_free hD hS hA) U hU hW⟩⟩ rfl rfl hl.1 rfl (lv_room (Nat.le_of_ble_eq_true rfl)) d_L_law_258 ⟨(by show _ ≤ room_1.cells; omega), (by show _ ≤ room_1.slots; omega)⟩) hD hS hA (fun r u H locs hu hP hD hS hz => ?_)
    obtain ⟨rfl, rfl⟩ := hu
    refine lv_istore (lv' := [(5, .int 1), (4, .int (nI (4 * c))), (3, .ref (ad 21)), (2, .ref (ad 10)), (1, .ref (ad 0)), (0, .ref b0)]) hx hb d_L_law_261 hl (by decide) rfl (fun ls hl => ?_)
    refine lv_aload_n hx hb d_L_law_263 rfl (lv_at hl 3 rfl) ?_
    refine lv_aload_n hx hb d_L_law_264 rfl (lv_at hl 5 rfl) ?_
    refine lv_iload hx hb d_L_law_265 (lv_at hl 1 rfl) ?_
    refine lv_iconst (v := 1) hx hb d_L_law_267 (by decide) ?_
    refine lv_iadd hx hb d_L_law_268 ?_
    refine va_sld hx hb hX hbl hbA hS (lxi1 hc hL) d_L_law_269 ?_
    rw [lx1 hc hL, e1]
    refine lv_aload_n hx hb d_L_law_270 rfl (lv_at hl 5 rfl) ?_
    refine lv_iload hx hb d_L_law_271 (lv_at hl 1 rfl) ?_
    refine lv_iconst (v := 2) hx hb d_L_law_273 (by decide) ?_
    refine lv_iadd hx hb d_L_law_274 ?_
    refine va_sld hx hb hX hbl hbA hS (lxi2 hc hL) d_L_law_275 ?_
    rw [lx2 hc hL, e2]
    refine kc_i (va_runV (As := [.int x1, .int x2]) (rest := []) ⟨hx, hb, hml, hown, hts⟩ (c_M_get_n l D ty ad _ n f th rt qu b w T g a o hg1 hn3 hI.hL x1 x2 (mG_x hq0)) (cwV 2 hts (kGV kS1 m_L_62 m_im_M_get m_sel_M_get m_ini_M m_code_M_get) rfl rfl rfl (by decide +kernel) ⟨Nat.le_of_ble_eq_true rfl, Nat.le_of_ble_eq_true rfl⟩) ⟨kP_blind, va_recv hK hP (ci := 3) (q0 := 10) rfl gw_10, fun U hU hW => ⟨rfl, kP_at hK hP hD U hU hW⟩⟩ rfl rfl hl.1 rfl (lv_room (Nat.le_of_ble_eq_true rfl)) d_L_law_276 ⟨(by show _ ≤ room_1.cells; omega), (by show _ ≤ room_1.slots; omega)⟩) hD hS hA (fun r2 u H locs hu hP hD hS hz => ?_)
    obtain ⟨hr2, rfl⟩ := hu
    obtain ⟨g2, hg2⟩ : ∃ z, z = upd g 0 (mT (mF g a x1 x2) 1) := ⟨_, rfl⟩
    rw [← hg2] at hP hD
    refine lv_istore (lv' := [(6, .int r2), (5, .int 1), (4, .int (nI (4 * c))), (3, .ref (ad 21)), (2, .ref (ad 10)), (1, .ref (ad 0)), (0, .ref b0)]) hx hb d_L_law_279 hl (by decide) rfl (fun ls hl => ?_)
    refine lv_aload_n hx hb d_L_law_281 rfl (lv_at hl 4 rfl) ?_
    refine kc_R (va_runV (As := []) (rest := []) ⟨hx, hb, hml, hown, hts⟩ (c_M_thrown l D ty ad _ n f th rt qu b w T g2 a o) (cwV 0 hts (kGV kS1 m_L_52 m_im_M_thrown m_sel_M_thrown m_ini_M m_code_M_thrown) rfl rfl rfl (by decide +kernel) ⟨Nat.le_of_ble_eq_true rfl, Nat.le_of_ble_eq_true rfl⟩) ⟨kP_blind, va_recv hK hP (ci := 3) (q0 := 10) rfl gw_10, fun U hU hW => ⟨rfl, kP_at hK hP hD U hU hW⟩⟩ rfl rfl hl.1 rfl (lv_room (Nat.le_of_ble_eq_true rfl)) d_L_law_282 ⟨(by show _ ≤ room_1.cells; omega), (by show _ ≤ room_1.slots; omega)⟩) ?_
    refine lv_iload hx hb d_L_law_285 (lv_at hl 1 rfl) ?_
    refine lv_icmp_eq (tgt := 292) hx hb d_L_law_287 (by decide) (fun c_287 => ?_) (fun c_287 => absurd (by rw [hg2]; exact mT_1 hq0) c_287)
    refine lv_iload hx hb d_L_law_292 (lv_at hl 1 rfl) ?_
    refine lv_if_ne (tgt := 309) hx hb d_L_law_294 (by decide) (fun c_294 => ?_) (fun c_294 => absurd c_294 (by decide))
    refine lv_goto (tgt := 655) hx hb d_L_law_309 (by decide) ?_
    have hl := lv_sub (l' := [(4, .int (nI (4 * c))), (3, .ref (ad 21)), (2, .ref (ad 10)), (1, .ref (ad 0)), (0, .ref b0)]) hl [2, 3, 4, 5, 6] rfl
    have hI2 : Inv n si ei f th rt qu T g2 a := by rw [hg2]; exact hI
    have h12 : f 10 = g2 11 := by rw [hg2]; exact h10
    refine W.widen (k := cells + 2) (n := slots + 16) (by omega) (by omega) ?_
    exact kk hI2 h12 hP hD hS hl
theorem mR_x {g : Nat → Int32} {a : Nat → Nat → Int32} {x u : Int32} (h : x < 0 ∨ ¬ x < 16) : mR g a x u = 0 := by
  unfold mR
  by_cases q : x < 0
  · rw [if_pos q]
  · rw [if_neg q, if_pos (Int32.not_lt.mp (h.resolve_left q))]
theorem mR_y {g : Nat → Int32} {a : Nat → Nat → Int32} {x u : Int32} (h : mO g a u = 0) : mR g a x u = 0 := by
  unfold mR
  rw [if_pos h]; split
  · rfl
  · split <;> rfl
theorem mR_z {g : Nat → Int32} {a : Nat → Nat → Int32} {r : Nat} {u : Int32} (hr : r < 16) (h : ¬ mO g a u = 0) : ¬ mR g a (nI r) u = 0 := by
  unfold mR
  rw [if_neg (nI_pos (by omega)), if_neg (show ¬ (16 : Int32) ≤ nI r from nI_ge (b := 16) hr (by omega)), if_neg h]; decide
theorem root_r {x : Int32} (h : ¬ (x < 0 ∨ ¬ x < 16)) : ∃ r, r < 16 ∧ x = nI r := by
  have h0 : ¬ x < 0 := fun q => h (Or.inl q)
  have h1 : x < 16 := Classical.byContradiction (fun q => h (Or.inr q))
  obtain ⟨j, hj, rfl⟩ := nI_of h0
  refine ⟨j, ?_, rfl⟩
  rcases Nat.lt_or_ge j 16 with q | q
  · exact q
  · exact absurd h1 (nI_nlt (b := 16) q hj)
set_option maxHeartbeats 4000000 in
set_option maxRecDepth 100000 in
theorem law_root (C : lw_C p l s m cd b0 L xs A D ty) {c : Nat} (hc : 4 * c + 4 ≤ L) {cells slots : Nat} (hc1 : cells + 2 ≤ room_1.cells) (hs1 : slots + 16 ≤ room_1.slots) {n si ei : Nat} {ad : Nat → Nat} {f : Nat → Int32} {th : Nat → Bool} {rt qu : Nat → Int32} {b w : SR} {T : Nat → TH} {g : Nat → Int32} {a : Nat → Nat → Int32} {o : Nat → Int64} {H : Heap} {locs : List Loc} {ls : Array Slot} (hI : Inv n si ei f th rt qu T g a) (h10 : f 10 = g 11) (hP : va_P D kCl (gW n ty ad f th rt qu b w T g a o) H) (hD : va_D A (gW n ty ad f th rt qu b w T g a o)) (hS : va_S A s.heap H locs) (hl : lv_has ls 7 [(4, .int (nI (4 * c))), (3, .ref (ad 21)), (2, .ref (ad 10)), (1, .ref (ad 0)), (0, .ref b0)])
    (kk : ∀ {n si ei : Nat} {ad : Nat → Nat} {f : Nat → Int32} {th : Nat → Bool} {rt qu : Nat → Int32} {b w : SR} {T : Nat → TH} {g : Nat → Int32} {a : Nat → Nat → Int32} {o : Nat → Int64} {H : Heap} {locs : List Loc} {ls : Array Slot}, Inv n si ei f th rt qu T g a → f 10 = g 11 → va_P D kCl (gW n ty ad f th rt qu b w T g a o) H → va_D A (gW n ty ad f th rt qu b w T g a o) → va_S A s.heap H locs → lv_has ls 7 [(4, .int (nI (4 * c))), (3, .ref (ad 21)), (2, .ref (ad 10)), (1, .ref (ad 0)), (0, .ref b0)] → W p l e room_1 s m #[Value.ref b0] below meth cd H locs (cells + 2) (slots + 16) Q (F0 m 655 ls [])) : W p l e room_1 s m #[Value.ref b0] below meth cd H locs cells slots Q (F0 m 312 ls []) := by
  obtain ⟨hx, hb, hml, hown, hts, hK, hX, hbl, hbA, hA, hY, htr, hL⟩ := C
  obtain ⟨x1, e1⟩ : ∃ z, xs (4 * c + 1) = z := ⟨_, rfl⟩
  obtain ⟨x2, e2⟩ : ∃ z, xs (4 * c + 2) = z := ⟨_, rfl⟩
  have hn := hI.hn
  have hn3 := hI.n3
  have hg1 := hI.g1
  have h12 := hI.l12
  by_cases h1 : x1 < 0 ∨ ¬ x1 < 16
  · have hq0 := mR_x (g := g) (a := a) (u := x2) h1
    refine lv_aload_n hx hb d_L_law_312 rfl (lv_at hl 3 rfl) ?_
    refine lv_aload_n hx hb d_L_law_313 rfl (lv_at hl 4 rfl) ?_
    refine lv_iload hx hb d_L_law_314 (lv_at hl 0 rfl) ?_
    refine lv_iconst (v := 1) hx hb d_L_law_316 (by decide) ?_
    refine lv_iadd hx hb d_L_law_317 ?_
    refine va_sld hx hb hX hbl hbA hS (lxi1 hc hL) d_L_law_318 ?_
    rw [lx1 hc hL, e1]
    refine lv_aload_n hx hb d_L_law_319 rfl (lv_at hl 4 rfl) ?_
    refine lv_iload hx hb d_L_law_320 (lv_at hl 0 rfl) ?_
    refine lv_iconst (v := 2) hx hb d_L_law_322 (by decide) ?_
    refine lv_iadd hx hb d_L_law_323 ?_
    refine va_sld hx hb hX hbl hbA hS (lxi2 hc hL) d_L_law_324 ?_
    rw [lx2 hc hL, e2]
    refine lv_aload_n hx hb d_L_law_325 rfl (lv_at hl 1 rfl) ?_
    refine kc_i (vx_runSW (As := [.ref (ad 0), .int x1, .int x2, .ref (ad 21)]) (rest := []) ⟨hx, hb, hml, hown, hts⟩ (c_L_root_y l D ty ad _ n f th rt qu b w T g a o x1 x2 h1 htr) (vx_cwSW 4 hts (kGS kS1 m_L_63 m_st_L_root m_ini_L m_code_L_root) rfl rfl rfl (by decide +kernel) ⟨Nat.le_of_ble_eq_true rfl, Nat.le_of_ble_eq_true rfl⟩) ⟨kPY_blind, fun U hU hW => ⟨rfl, kP_at hK hP hD U hU hW, hY.at hS (kA_free hD hS hA) U hU hW⟩⟩ rfl rfl hl.1 rfl (lv_room (Nat.le_of_ble_eq_true rfl)) d_L_law_326 ⟨(by show _ ≤ room_1.cells; omega), (by show _ ≤ room_1.slots; omega)⟩) hD hS hA (fun r u H locs hu hP hD hS hz => ?_)
    obtain ⟨rfl, rfl⟩ := hu
    refine lv_istore (lv' := [(5, .int 1), (4, .int (nI (4 * c))), (3, .ref (ad 21)), (2, .ref (ad 10)), (1, .ref (ad 0)), (0, .ref b0)]) hx hb d_L_law_329 hl (by decide) rfl (fun ls hl => ?_)
    refine lv_aload_n hx hb d_L_law_331 rfl (lv_at hl 3 rfl) ?_
    refine lv_aload_n hx hb d_L_law_332 rfl (lv_at hl 5 rfl) ?_
    refine lv_iload hx hb d_L_law_333 (lv_at hl 1 rfl) ?_
    refine lv_iconst (v := 1) hx hb d_L_law_335 (by decide) ?_
    refine lv_iadd hx hb d_L_law_336 ?_
    refine va_sld hx hb hX hbl hbA hS (lxi1 hc hL) d_L_law_337 ?_
    rw [lx1 hc hL, e1]
    refine lv_aload_n hx hb d_L_law_338 rfl (lv_at hl 5 rfl) ?_
    refine lv_iload hx hb d_L_law_339 (lv_at hl 1 rfl) ?_
    refine lv_iconst (v := 2) hx hb d_L_law_341 (by decide) ?_
    refine lv_iadd hx hb d_L_law_342 ?_
    refine va_sld hx hb hX hbl hbA hS (lxi2 hc hL) d_L_law_343 ?_
    rw [lx2 hc hL, e2]
    refine kc_i (va_runV (As := [.int x1, .int x2]) (rest := []) ⟨hx, hb, hml, hown, hts⟩ (c_M_root_n l D ty ad _ n f th rt qu b w T g a o hg1 hn3 x1 x2 (mG_x hq0)) (cwV 2 hts (kGV kS1 m_L_65 m_im_M_root m_sel_M_root m_ini_M m_code_M_root) rfl rfl rfl (by decide +kernel) ⟨Nat.le_of_ble_eq_true rfl, Nat.le_of_ble_eq_true rfl⟩) ⟨kP_blind, va_recv hK hP (ci := 3) (q0 := 10) rfl gw_10, fun U hU hW => ⟨rfl, kP_at hK hP hD U hU hW⟩⟩ rfl rfl hl.1 rfl (lv_room (Nat.le_of_ble_eq_true rfl)) d_L_law_344 ⟨(by show _ ≤ room_1.cells; omega), (by show _ ≤ room_1.slots; omega)⟩) hD hS hA (fun r2 u H locs hu hP hD hS hz => ?_)
    obtain ⟨hr2, rfl⟩ := hu
    obtain ⟨g2, hg2⟩ : ∃ z, z = upd g 0 (mT (mR g a x1 x2) 1) := ⟨_, rfl⟩
    rw [← hg2] at hP hD
    refine lv_istore (lv' := [(6, .int r2), (5, .int 1), (4, .int (nI (4 * c))), (3, .ref (ad 21)), (2, .ref (ad 10)), (1, .ref (ad 0)), (0, .ref b0)]) hx hb d_L_law_347 hl (by decide) rfl (fun ls hl => ?_)
    refine lv_aload_n hx hb d_L_law_349 rfl (lv_at hl 4 rfl) ?_
    refine kc_R (va_runV (As := []) (rest := []) ⟨hx, hb, hml, hown, hts⟩ (c_M_thrown l D ty ad _ n f th rt qu b w T g2 a o) (cwV 0 hts (kGV kS1 m_L_52 m_im_M_thrown m_sel_M_thrown m_ini_M m_code_M_thrown) rfl rfl rfl (by decide +kernel) ⟨Nat.le_of_ble_eq_true rfl, Nat.le_of_ble_eq_true rfl⟩) ⟨kP_blind, va_recv hK hP (ci := 3) (q0 := 10) rfl gw_10, fun U hU hW => ⟨rfl, kP_at hK hP hD U hU hW⟩⟩ rfl rfl hl.1 rfl (lv_room (Nat.le_of_ble_eq_true rfl)) d_L_law_350 ⟨(by show _ ≤ room_1.cells; omega), (by show _ ≤ room_1.slots; omega)⟩) ?_
    refine lv_iload hx hb d_L_law_353 (lv_at hl 1 rfl) ?_
    refine lv_icmp_eq (tgt := 360) hx hb d_L_law_355 (by decide) (fun c_355 => ?_) (fun c_355 => absurd (by rw [hg2]; exact mT_1 hq0) c_355)
    refine lv_iload hx hb d_L_law_360 (lv_at hl 1 rfl) ?_
    refine lv_if_ne (tgt := 377) hx hb d_L_law_362 (by decide) (fun c_362 => ?_) (fun c_362 => absurd c_362 (by decide))
    refine lv_goto (tgt := 655) hx hb d_L_law_377 (by decide) ?_
    have hl := lv_sub (l' := [(4, .int (nI (4 * c))), (3, .ref (ad 21)), (2, .ref (ad 10)), (1, .ref (ad 0)), (0, .ref b0)]) hl [2, 3, 4, 5, 6] rfl
    have hI2 : Inv n si ei f th rt qu T g2 a := by rw [hg2]; exact hI
    have h12 : f 10 = g2 11 := by rw [hg2]; exact h10
    refine W.widen (k := cells + 2) (n := slots + 16) (by omega) (by omega) ?_
    exact kk hI2 h12 hP hD hS hl
  · obtain ⟨r, hr16, rfl⟩ := root_r h1
    by_cases h2 : x2 = -1 ∨ tOk th x2 = true
    · have hq0 := mR_z hr16 ((hI.tO x2).mpr h2)
      refine lv_aload_n hx hb d_L_law_312 rfl (lv_at hl 3 rfl) ?_
      refine lv_aload_n hx hb d_L_law_313 rfl (lv_at hl 4 rfl) ?_
      refine lv_iload hx hb d_L_law_314 (lv_at hl 0 rfl) ?_
      refine lv_iconst (v := 1) hx hb d_L_law_316 (by decide) ?_
      refine lv_iadd hx hb d_L_law_317 ?_
      refine va_sld hx hb hX hbl hbA hS (lxi1 hc hL) d_L_law_318 ?_
      rw [lx1 hc hL, e1]
      refine lv_aload_n hx hb d_L_law_319 rfl (lv_at hl 4 rfl) ?_
      refine lv_iload hx hb d_L_law_320 (lv_at hl 0 rfl) ?_
      refine lv_iconst (v := 2) hx hb d_L_law_322 (by decide) ?_
      refine lv_iadd hx hb d_L_law_323 ?_
      refine va_sld hx hb hX hbl hbA hS (lxi2 hc hL) d_L_law_324 ?_
      rw [lx2 hc hL, e2]
      refine lv_aload_n hx hb d_L_law_325 rfl (lv_at hl 1 rfl) ?_
      refine kc_i (vx_runSW (As := [.ref (ad 0), .int (nI r), .int x2, .ref (ad 21)]) (rest := []) ⟨hx, hb, hml, hown, hts⟩ (c_L_root_r l D ty ad _ n f th rt qu b w T g a o r x2 hr16 h2) (vx_cwSW 4 hts (kGS kS1 m_L_63 m_st_L_root m_ini_L m_code_L_root) rfl rfl rfl (by decide +kernel) ⟨Nat.le_of_ble_eq_true rfl, Nat.le_of_ble_eq_true rfl⟩) ⟨kP_blind, fun U hU hW => ⟨rfl, kP_at hK hP hD U hU hW⟩⟩ rfl rfl hl.1 rfl (lv_room (Nat.le_of_ble_eq_true rfl)) d_L_law_326 ⟨(by show _ ≤ room_1.cells; omega), (by show _ ≤ room_1.slots; omega)⟩) hD hS hA (fun r u H locs hu hP hD hS hz => ?_)
      obtain ⟨rfl, rfl⟩ := hu
      obtain ⟨rt2, hrt2⟩ : ∃ z, z = upd rt r x2 := ⟨_, rfl⟩
      rw [← hrt2] at hP hD
      obtain ⟨o2, ho2⟩ : ∃ z, z = vp_updL o 0 (rt r).toInt64 := ⟨_, rfl⟩
      rw [← ho2] at hP hD
      refine lv_istore (lv' := [(5, .int 0), (4, .int (nI (4 * c))), (3, .ref (ad 21)), (2, .ref (ad 10)), (1, .ref (ad 0)), (0, .ref b0)]) hx hb d_L_law_329 hl (by decide) rfl (fun ls hl => ?_)
      refine lv_aload_n hx hb d_L_law_331 rfl (lv_at hl 3 rfl) ?_
      refine lv_aload_n hx hb d_L_law_332 rfl (lv_at hl 5 rfl) ?_
      refine lv_iload hx hb d_L_law_333 (lv_at hl 1 rfl) ?_
      refine lv_iconst (v := 1) hx hb d_L_law_335 (by decide) ?_
      refine lv_iadd hx hb d_L_law_336 ?_
      refine va_sld hx hb hX hbl hbA hS (lxi1 hc hL) d_L_law_337 ?_
      rw [lx1 hc hL, e1]
      refine lv_aload_n hx hb d_L_law_338 rfl (lv_at hl 5 rfl) ?_
      refine lv_iload hx hb d_L_law_339 (lv_at hl 1 rfl) ?_
      refine lv_iconst (v := 2) hx hb d_L_law_341 (by decide) ?_
      refine lv_iadd hx hb d_L_law_342 ?_
      refine va_sld hx hb hX hbl hbA hS (lxi2 hc hL) d_L_law_343 ?_
      rw [lx2 hc hL, e2]
      refine kc_i (va_runV (As := [.int (nI r), .int x2]) (rest := []) ⟨hx, hb, hml, hown, hts⟩ (c_M_root_y l D ty ad _ n f th rt2 qu b w T g a o2 hg1 hn3 (nI r) x2 (mG_z hq0 k10)) (cwV 2 hts (kGV kS1 m_L_65 m_im_M_root m_sel_M_root m_ini_M m_code_M_root) rfl rfl rfl (by decide +kernel) ⟨Nat.le_of_ble_eq_true rfl, Nat.le_of_ble_eq_true rfl⟩) ⟨kP_blind, va_recv hK hP (ci := 3) (q0 := 10) rfl gw_10, fun U hU hW => ⟨rfl, kP_at hK hP hD U hU hW⟩⟩ rfl rfl hl.1 rfl (lv_room (Nat.le_of_ble_eq_true rfl)) d_L_law_344 ⟨(by show _ ≤ room_1.cells; omega), (by show _ ≤ room_1.slots; omega)⟩) hD hS hA (fun r2 u H locs hu hP hD hS hz => ?_)
      obtain ⟨hr2, rfl⟩ := hu
      rw [nI_clamp (show r < 2 ^ 31 by omega)] at hr2 hP hD
      obtain ⟨g2, hg2⟩ : ∃ z, z = upd g 0 (mT (mR g a (nI r) x2) 1) := ⟨_, rfl⟩
      rw [← hg2] at hP hD
      obtain ⟨a2, ha2⟩ : ∃ z, z = va_up a 8 (upd (a 8) r (x2 + 1)) := ⟨_, rfl⟩
      rw [← ha2] at hP hD
      refine lv_istore (lv' := [(6, .int r2), (5, .int 0), (4, .int (nI (4 * c))), (3, .ref (ad 21)), (2, .ref (ad 10)), (1, .ref (ad 0)), (0, .ref b0)]) hx hb d_L_law_347 hl (by decide) rfl (fun ls hl => ?_)
      refine lv_aload_n hx hb d_L_law_349 rfl (lv_at hl 4 rfl) ?_
      refine kc_R (va_runV (As := []) (rest := []) ⟨hx, hb, hml, hown, hts⟩ (c_M_thrown l D ty ad _ n f th rt2 qu b w T g2 a2 o2) (cwV 0 hts (kGV kS1 m_L_52 m_im_M_thrown m_sel_M_thrown m_ini_M m_code_M_thrown) rfl rfl rfl (by decide +kernel) ⟨Nat.le_of_ble_eq_true rfl, Nat.le_of_ble_eq_true rfl⟩) ⟨kP_blind, va_recv hK hP (ci := 3) (q0 := 10) rfl gw_10, fun U hU hW => ⟨rfl, kP_at hK hP hD U hU hW⟩⟩ rfl rfl hl.1 rfl (lv_room (Nat.le_of_ble_eq_true rfl)) d_L_law_350 ⟨(by show _ ≤ room_1.cells; omega), (by show _ ≤ room_1.slots; omega)⟩) ?_
      refine lv_iload hx hb d_L_law_353 (lv_at hl 1 rfl) ?_
      refine lv_icmp_eq (tgt := 360) hx hb d_L_law_355 (by decide) (fun c_355 => ?_) (fun c_355 => absurd (by rw [hg2]; exact mT_0 hq0 k10) c_355)
      refine lv_iload hx hb d_L_law_360 (lv_at hl 1 rfl) ?_
      refine lv_if_ne (tgt := 377) hx hb d_L_law_362 (by decide) (fun c_362 => absurd rfl c_362) (fun c_362 => ?_)
      refine lv_aload_n hx hb d_L_law_365 rfl (lv_at hl 3 rfl) ?_
      refine lv_iconst (v := 0) hx hb d_L_law_366 (by decide) ?_
      refine va_lald (f := o2) hx hb hK hP 21 3 gw_21 rfl (by rw [← nI_0]; exact vp_in_nI (N := 1) (by omega) (by omega)) d_L_law_367 ?_
      rw [sb_cl0]
      refine lv_iload hx hb d_L_law_368 (lv_at hl 0 rfl) ?_
      refine lv_i2l (v := (r2).toInt64) hx hb d_L_law_370 rfl ?_
      refine W.lcmp hx hb d_L_law_371 ?_
      refine lv_if_eq (tgt := 377) hx hb d_L_law_372 (by decide) (fun c_372 => ?_) (fun c_372 => absurd ((lg_cmp_eq _ _).mpr (by rw [ho2, pk_uLs, hr2, hI.rts r hr16, p_as])) c_372)
      refine lv_goto (tgt := 655) hx hb d_L_law_377 (by decide) ?_
      have hl := lv_sub (l' := [(4, .int (nI (4 * c))), (3, .ref (ad 21)), (2, .ref (ad 10)), (1, .ref (ad 0)), (0, .ref b0)]) hl [2, 3, 4, 5, 6] rfl
      have hI2 : Inv n si ei f th rt2 qu T g2 a2 := by rw [hrt2, hg2, ha2]; exact hI.setR h2 _
      have h12 : f 10 = g2 11 := by rw [hg2]; exact h10
      refine W.widen (k := cells + 2) (n := slots + 16) (by omega) (by omega) ?_
      exact kk hI2 h12 hP hD hS hl
    · have hq0 := mR_y (x := nI r) (hI.nO h2)
      refine lv_aload_n hx hb d_L_law_312 rfl (lv_at hl 3 rfl) ?_
      refine lv_aload_n hx hb d_L_law_313 rfl (lv_at hl 4 rfl) ?_
      refine lv_iload hx hb d_L_law_314 (lv_at hl 0 rfl) ?_
      refine lv_iconst (v := 1) hx hb d_L_law_316 (by decide) ?_
      refine lv_iadd hx hb d_L_law_317 ?_
      refine va_sld hx hb hX hbl hbA hS (lxi1 hc hL) d_L_law_318 ?_
      rw [lx1 hc hL, e1]
      refine lv_aload_n hx hb d_L_law_319 rfl (lv_at hl 4 rfl) ?_
      refine lv_iload hx hb d_L_law_320 (lv_at hl 0 rfl) ?_
      refine lv_iconst (v := 2) hx hb d_L_law_322 (by decide) ?_
      refine lv_iadd hx hb d_L_law_323 ?_
      refine va_sld hx hb hX hbl hbA hS (lxi2 hc hL) d_L_law_324 ?_
      rw [lx2 hc hL, e2]
      refine lv_aload_n hx hb d_L_law_325 rfl (lv_at hl 1 rfl) ?_
      refine kc_i (vx_runSW (As := [.ref (ad 0), .int (nI r), .int x2, .ref (ad 21)]) (rest := []) ⟨hx, hb, hml, hown, hts⟩ (c_L_root_x l D ty ad _ n f th rt qu b w T g a o r hr16 x2 (fun q9 => h2 (Or.inr q9)) (fun q9 => h2 (Or.inl q9)) htr) (vx_cwSW 4 hts (kGS kS1 m_L_63 m_st_L_root m_ini_L m_code_L_root) rfl rfl rfl (by decide +kernel) ⟨Nat.le_of_ble_eq_true rfl, Nat.le_of_ble_eq_true rfl⟩) ⟨kPY_blind, fun U hU hW => ⟨rfl, kP_at hK hP hD U hU hW, hY.at hS (kA_free hD hS hA) U hU hW⟩⟩ rfl rfl hl.1 rfl (lv_room (Nat.le_of_ble_eq_true rfl)) d_L_law_326 ⟨(by show _ ≤ room_1.cells; omega), (by show _ ≤ room_1.slots; omega)⟩) hD hS hA (fun r u H locs hu hP hD hS hz => ?_)
      obtain ⟨rfl, rfl⟩ := hu
      refine lv_istore (lv' := [(5, .int 1), (4, .int (nI (4 * c))), (3, .ref (ad 21)), (2, .ref (ad 10)), (1, .ref (ad 0)), (0, .ref b0)]) hx hb d_L_law_329 hl (by decide) rfl (fun ls hl => ?_)
      refine lv_aload_n hx hb d_L_law_331 rfl (lv_at hl 3 rfl) ?_
      refine lv_aload_n hx hb d_L_law_332 rfl (lv_at hl 5 rfl) ?_
      refine lv_iload hx hb d_L_law_333 (lv_at hl 1 rfl) ?_
      refine lv_iconst (v := 1) hx hb d_L_law_335 (by decide) ?_
      refine lv_iadd hx hb d_L_law_336 ?_
      refine va_sld hx hb hX hbl hbA hS (lxi1 hc hL) d_L_law_337 ?_
      rw [lx1 hc hL, e1]
      refine lv_aload_n hx hb d_L_law_338 rfl (lv_at hl 5 rfl) ?_
      refine lv_iload hx hb d_L_law_339 (lv_at hl 1 rfl) ?_
      refine lv_iconst (v := 2) hx hb d_L_law_341 (by decide) ?_
      refine lv_iadd hx hb d_L_law_342 ?_
      refine va_sld hx hb hX hbl hbA hS (lxi2 hc hL) d_L_law_343 ?_
      rw [lx2 hc hL, e2]
      refine kc_i (va_runV (As := [.int (nI r), .int x2]) (rest := []) ⟨hx, hb, hml, hown, hts⟩ (c_M_root_n l D ty ad _ n f th rt qu b w T g a o hg1 hn3 (nI r) x2 (mG_x hq0)) (cwV 2 hts (kGV kS1 m_L_65 m_im_M_root m_sel_M_root m_ini_M m_code_M_root) rfl rfl rfl (by decide +kernel) ⟨Nat.le_of_ble_eq_true rfl, Nat.le_of_ble_eq_true rfl⟩) ⟨kP_blind, va_recv hK hP (ci := 3) (q0 := 10) rfl gw_10, fun U hU hW => ⟨rfl, kP_at hK hP hD U hU hW⟩⟩ rfl rfl hl.1 rfl (lv_room (Nat.le_of_ble_eq_true rfl)) d_L_law_344 ⟨(by show _ ≤ room_1.cells; omega), (by show _ ≤ room_1.slots; omega)⟩) hD hS hA (fun r2 u H locs hu hP hD hS hz => ?_)
      obtain ⟨hr2, rfl⟩ := hu
      obtain ⟨g2, hg2⟩ : ∃ z, z = upd g 0 (mT (mR g a (nI r) x2) 1) := ⟨_, rfl⟩
      rw [← hg2] at hP hD
      refine lv_istore (lv' := [(6, .int r2), (5, .int 1), (4, .int (nI (4 * c))), (3, .ref (ad 21)), (2, .ref (ad 10)), (1, .ref (ad 0)), (0, .ref b0)]) hx hb d_L_law_347 hl (by decide) rfl (fun ls hl => ?_)
      refine lv_aload_n hx hb d_L_law_349 rfl (lv_at hl 4 rfl) ?_
      refine kc_R (va_runV (As := []) (rest := []) ⟨hx, hb, hml, hown, hts⟩ (c_M_thrown l D ty ad _ n f th rt qu b w T g2 a o) (cwV 0 hts (kGV kS1 m_L_52 m_im_M_thrown m_sel_M_thrown m_ini_M m_code_M_thrown) rfl rfl rfl (by decide +kernel) ⟨Nat.le_of_ble_eq_true rfl, Nat.le_of_ble_eq_true rfl⟩) ⟨kP_blind, va_recv hK hP (ci := 3) (q0 := 10) rfl gw_10, fun U hU hW => ⟨rfl, kP_at hK hP hD U hU hW⟩⟩ rfl rfl hl.1 rfl (lv_room (Nat.le_of_ble_eq_true rfl)) d_L_law_350 ⟨(by show _ ≤ room_1.cells; omega), (by show _ ≤ room_1.slots; omega)⟩) ?_
      refine lv_iload hx hb d_L_law_353 (lv_at hl 1 rfl) ?_
      refine lv_icmp_eq (tgt := 360) hx hb d_L_law_355 (by decide) (fun c_355 => ?_) (fun c_355 => absurd (by rw [hg2]; exact mT_1 hq0) c_355)
      refine lv_iload hx hb d_L_law_360 (lv_at hl 1 rfl) ?_
      refine lv_if_ne (tgt := 377) hx hb d_L_law_362 (by decide) (fun c_362 => ?_) (fun c_362 => absurd c_362 (by decide))
      refine lv_goto (tgt := 655) hx hb d_L_law_377 (by decide) ?_
      have hl := lv_sub (l' := [(4, .int (nI (4 * c))), (3, .ref (ad 21)), (2, .ref (ad 10)), (1, .ref (ad 0)), (0, .ref b0)]) hl [2, 3, 4, 5, 6] rfl
      have hI2 : Inv n si ei f th rt qu T g2 a := by rw [hg2]; exact hI
      have h12 : f 10 = g2 11 := by rw [hg2]; exact h10
      refine W.widen (k := cells + 2) (n := slots + 16) (by omega) (by omega) ?_
      exact kk hI2 h12 hP hD hS hl
set_option maxHeartbeats 4000000 in
set_option maxRecDepth 100000 in
theorem law_identity (C : lw_C p l s m cd b0 L xs A D ty) {c : Nat} (hc : 4 * c + 4 ≤ L) {cells slots : Nat} (hc1 : cells + 2 ≤ room_1.cells) (hs1 : slots + 16 ≤ room_1.slots) {n si ei : Nat} {ad : Nat → Nat} {f : Nat → Int32} {th : Nat → Bool} {rt qu : Nat → Int32} {b w : SR} {T : Nat → TH} {g : Nat → Int32} {a : Nat → Nat → Int32} {o : Nat → Int64} {H : Heap} {locs : List Loc} {ls : Array Slot} (hI : Inv n si ei f th rt qu T g a) (h10 : f 10 = g 11) (hP : va_P D kCl (gW n ty ad f th rt qu b w T g a o) H) (hD : va_D A (gW n ty ad f th rt qu b w T g a o)) (hS : va_S A s.heap H locs) (hl : lv_has ls 7 [(4, .int (nI (4 * c))), (3, .ref (ad 21)), (2, .ref (ad 10)), (1, .ref (ad 0)), (0, .ref b0)])
    (kk : ∀ {n si ei : Nat} {ad : Nat → Nat} {f : Nat → Int32} {th : Nat → Bool} {rt qu : Nat → Int32} {b w : SR} {T : Nat → TH} {g : Nat → Int32} {a : Nat → Nat → Int32} {o : Nat → Int64} {H : Heap} {locs : List Loc} {ls : Array Slot}, Inv n si ei f th rt qu T g a → f 10 = g 11 → va_P D kCl (gW n ty ad f th rt qu b w T g a o) H → va_D A (gW n ty ad f th rt qu b w T g a o) → va_S A s.heap H locs → lv_has ls 7 [(4, .int (nI (4 * c))), (3, .ref (ad 21)), (2, .ref (ad 10)), (1, .ref (ad 0)), (0, .ref b0)] → W p l e room_1 s m #[Value.ref b0] below meth cd H locs (cells + 2) (slots + 16) Q (F0 m 655 ls [])) : W p l e room_1 s m #[Value.ref b0] below meth cd H locs cells slots Q (F0 m 475 ls []) := by
  obtain ⟨hx, hb, hml, hown, hts, hK, hX, hbl, hbA, hA, hY, htr, hL⟩ := C
  obtain ⟨x1, e1⟩ : ∃ z, xs (4 * c + 1) = z := ⟨_, rfl⟩
  have hn := hI.hn
  have hn3 := hI.n3
  have hg1 := hI.g1
  have h12 := hI.l12
  by_cases h1 : tOk th x1 = true
  · obtain ⟨k, hk3, rfl, hk⟩ := tOk_k h1
    by_cases hid : (T k).2.2.1 = -1
    · have hq0 : ¬ mI g a (nI k) = 0 := (hI.tI _).mpr h1
      have h6 : a 6 k = 0 := by rw [hI.a6 k (hn k hk), hid]; decide
      refine lv_aload_n hx hb d_L_law_475 rfl (lv_at hl 3 rfl) ?_
      refine lv_aload_n hx hb d_L_law_476 rfl (lv_at hl 4 rfl) ?_
      refine lv_iload hx hb d_L_law_477 (lv_at hl 0 rfl) ?_
      refine lv_iconst (v := 1) hx hb d_L_law_479 (by decide) ?_
      refine lv_iadd hx hb d_L_law_480 ?_
      refine va_sld hx hb hX hbl hbA hS (lxi1 hc hL) d_L_law_481 ?_
      rw [lx1 hc hL, e1]
      refine lv_aload_n hx hb d_L_law_482 rfl (lv_at hl 1 rfl) ?_
      refine kc_i (vx_runSW (As := [.ref (ad 0), .int (nI k), .ref (ad 21)]) (rest := []) ⟨hx, hb, hml, hown, hts⟩ (c_L_identity_r l D ty ad _ n f th rt qu b w T g a o hn hn3 k hk) (vx_cwSW 3 hts (kGS kS1 m_L_82 m_st_L_identity m_ini_L m_code_L_identity) rfl rfl rfl (by decide +kernel) ⟨Nat.le_of_ble_eq_true rfl, Nat.le_of_ble_eq_true rfl⟩) ⟨kP_blind, fun U hU hW => ⟨rfl, kP_at hK hP hD U hU hW⟩⟩ rfl rfl hl.1 rfl (lv_room (Nat.le_of_ble_eq_true rfl)) d_L_law_483 ⟨(by show _ ≤ room_1.cells; omega), (by show _ ≤ room_1.slots; omega)⟩) hD hS hA (fun r u H locs hu hP hD hS hz => ?_)
      obtain ⟨rfl, rfl⟩ := hu
      simp only [if_pos hid] at hP hD
      obtain ⟨o2, ho2⟩ : ∃ z, z = vp_updL o 0 (f 11).toInt64 := ⟨_, rfl⟩
      rw [← ho2] at hP hD
      obtain ⟨T2, hT2⟩ : ∃ z, z = va_up T k ((T k).1, (T k).2.1, f 11, (T k).2.2.2) := ⟨_, rfl⟩
      rw [← hT2] at hP hD
      obtain ⟨f2, hf2⟩ : ∃ z, z = upd f 11 (f 11 + 1) := ⟨_, rfl⟩
      rw [← hf2] at hP hD
      refine lv_istore (lv' := [(5, .int 0), (4, .int (nI (4 * c))), (3, .ref (ad 21)), (2, .ref (ad 10)), (1, .ref (ad 0)), (0, .ref b0)]) hx hb d_L_law_486 hl (by decide) rfl (fun ls hl => ?_)
      refine lv_aload_n hx hb d_L_law_488 rfl (lv_at hl 3 rfl) ?_
      refine lv_aload_n hx hb d_L_law_489 rfl (lv_at hl 5 rfl) ?_
      refine lv_iload hx hb d_L_law_490 (lv_at hl 1 rfl) ?_
      refine lv_iconst (v := 1) hx hb d_L_law_492 (by decide) ?_
      refine lv_iadd hx hb d_L_law_493 ?_
      refine va_sld hx hb hX hbl hbA hS (lxi1 hc hL) d_L_law_494 ?_
      rw [lx1 hc hL, e1]
      refine kc_i (va_runV (As := [.int (nI k)]) (rest := []) ⟨hx, hb, hml, hown, hts⟩ (c_M_identity_y l D ty ad _ n f2 th rt qu b w T2 g a o2 hg1 hn3 (nI k) (mG_z hq0 k10)) (cwV 1 hts (kGV kS1 m_L_84 m_im_M_identity m_sel_M_identity m_ini_M m_code_M_identity) rfl rfl rfl (by decide +kernel) ⟨Nat.le_of_ble_eq_true rfl, Nat.le_of_ble_eq_true rfl⟩) ⟨kP_blind, va_recv hK hP (ci := 3) (q0 := 10) rfl gw_10, fun U hU hW => ⟨rfl, kP_at hK hP hD U hU hW⟩⟩ rfl rfl hl.1 rfl (lv_room (Nat.le_of_ble_eq_true rfl)) d_L_law_495 ⟨(by show _ ≤ room_1.cells; omega), (by show _ ≤ room_1.slots; omega)⟩) hD hS hA (fun r2 u H locs hu hP hD hS hz => ?_)
      obtain ⟨hr2, rfl⟩ := hu
      rw [nI_clamp (show k < 2 ^ 31 by omega)] at hr2 hP hD
      simp only [if_pos h6] at hr2 hP hD
      obtain ⟨g2, hg2⟩ : ∃ z, z = upd (upd g 0 (mT (mI g a (nI k)) 1)) 13 (g 13 + 1) := ⟨_, rfl⟩
      rw [← hg2] at hP hD
      obtain ⟨a2, ha2⟩ : ∃ z, z = va_up a 6 (upd (a 6) k (g 13 + 1)) := ⟨_, rfl⟩
      rw [← ha2] at hP hD
      refine lv_istore (lv' := [(6, .int r2), (5, .int 0), (4, .int (nI (4 * c))), (3, .ref (ad 21)), (2, .ref (ad 10)), (1, .ref (ad 0)), (0, .ref b0)]) hx hb d_L_law_498 hl (by decide) rfl (fun ls hl => ?_)
      refine lv_aload_n hx hb d_L_law_500 rfl (lv_at hl 4 rfl) ?_
      refine kc_R (va_runV (As := []) (rest := []) ⟨hx, hb, hml, hown, hts⟩ (c_M_thrown l D ty ad _ n f2 th rt qu b w T2 g2 a2 o2) (cwV 0 hts (kGV kS1 m_L_52 m_im_M_thrown m_sel_M_thrown m_ini_M m_code_M_thrown) rfl rfl rfl (by decide +kernel) ⟨Nat.le_of_ble_eq_true rfl, Nat.le_of_ble_eq_true rfl⟩) ⟨kP_blind, va_recv hK hP (ci := 3) (q0 := 10) rfl gw_10, fun U hU hW => ⟨rfl, kP_at hK hP hD U hU hW⟩⟩ rfl rfl hl.1 rfl (lv_room (Nat.le_of_ble_eq_true rfl)) d_L_law_501 ⟨(by show _ ≤ room_1.cells; omega), (by show _ ≤ room_1.slots; omega)⟩) ?_
      refine lv_iload hx hb d_L_law_504 (lv_at hl 1 rfl) ?_
      refine lv_icmp_eq (tgt := 511) hx hb d_L_law_506 (by decide) (fun c_506 => ?_) (fun c_506 => absurd (by rw [hg2]; exact mT_0 hq0 k10) c_506)
      refine lv_iload hx hb d_L_law_511 (lv_at hl 1 rfl) ?_
      refine lv_if_ne (tgt := 528) hx hb d_L_law_513 (by decide) (fun c_513 => absurd rfl c_513) (fun c_513 => ?_)
      refine lv_aload_n hx hb d_L_law_516 rfl (lv_at hl 3 rfl) ?_
      refine lv_iconst (v := 0) hx hb d_L_law_517 (by decide) ?_
      refine va_lald (f := o2) hx hb hK hP 21 3 gw_21 rfl (by rw [← nI_0]; exact vp_in_nI (N := 1) (by omega) (by omega)) d_L_law_518 ?_
      rw [sb_cl0]
      refine lv_iload hx hb d_L_law_519 (lv_at hl 0 rfl) ?_
      refine lv_i2l (v := (r2).toInt64) hx hb d_L_law_521 rfl ?_
      refine W.lcmp hx hb d_L_law_522 ?_
      refine lv_if_eq (tgt := 528) hx hb d_L_law_523 (by decide) (fun c_523 => ?_) (fun c_523 => absurd ((lg_cmp_eq _ _).mpr (by rw [ho2, pk_uLs, hr2, p_as, hI.f11])) c_523)
      refine lv_goto (tgt := 655) hx hb d_L_law_528 (by decide) ?_
      have hl := lv_sub (l' := [(4, .int (nI (4 * c))), (3, .ref (ad 21)), (2, .ref (ad 10)), (1, .ref (ad 0)), (0, .ref b0)]) hl [2, 3, 4, 5, 6] rfl
      have hI2 : Inv n si ei f2 th rt qu T2 g2 a2 := by rw [hf2, hT2, hg2, ha2]; exact hI.ident hk _
      have h12 : f2 10 = g2 11 := by rw [hf2, hg2]; exact h10
      refine W.widen (k := cells + 2) (n := slots + 16) (by omega) (by omega) ?_
      exact kk hI2 h12 hP hD hS hl
    · have hq0 : ¬ mI g a (nI k) = 0 := (hI.tI _).mpr h1
      have h6 : ¬ a 6 k = 0 := fun q9 => hid (p_a0 (by rw [← hI.a6 k (hn k hk)]; exact q9))
      refine lv_aload_n hx hb d_L_law_475 rfl (lv_at hl 3 rfl) ?_
      refine lv_aload_n hx hb d_L_law_476 rfl (lv_at hl 4 rfl) ?_
      refine lv_iload hx hb d_L_law_477 (lv_at hl 0 rfl) ?_
      refine lv_iconst (v := 1) hx hb d_L_law_479 (by decide) ?_
      refine lv_iadd hx hb d_L_law_480 ?_
      refine va_sld hx hb hX hbl hbA hS (lxi1 hc hL) d_L_law_481 ?_
      rw [lx1 hc hL, e1]
      refine lv_aload_n hx hb d_L_law_482 rfl (lv_at hl 1 rfl) ?_
      refine kc_i (vx_runSW (As := [.ref (ad 0), .int (nI k), .ref (ad 21)]) (rest := []) ⟨hx, hb, hml, hown, hts⟩ (c_L_identity_r l D ty ad _ n f th rt qu b w T g a o hn hn3 k hk) (vx_cwSW 3 hts (kGS kS1 m_L_82 m_st_L_identity m_ini_L m_code_L_identity) rfl rfl rfl (by decide +kernel) ⟨Nat.le_of_ble_eq_true rfl, Nat.le_of_ble_eq_true rfl⟩) ⟨kP_blind, fun U hU hW => ⟨rfl, kP_at hK hP hD U hU hW⟩⟩ rfl rfl hl.1 rfl (lv_room (Nat.le_of_ble_eq_true rfl)) d_L_law_483 ⟨(by show _ ≤ room_1.cells; omega), (by show _ ≤ room_1.slots; omega)⟩) hD hS hA (fun r u H locs hu hP hD hS hz => ?_)
      obtain ⟨rfl, rfl⟩ := hu
      simp only [if_neg hid] at hP hD
      obtain ⟨o2, ho2⟩ : ∃ z, z = vp_updL o 0 ((T k).2.2.1).toInt64 := ⟨_, rfl⟩
      rw [← ho2] at hP hD
      refine lv_istore (lv' := [(5, .int 0), (4, .int (nI (4 * c))), (3, .ref (ad 21)), (2, .ref (ad 10)), (1, .ref (ad 0)), (0, .ref b0)]) hx hb d_L_law_486 hl (by decide) rfl (fun ls hl => ?_)
      refine lv_aload_n hx hb d_L_law_488 rfl (lv_at hl 3 rfl) ?_
      refine lv_aload_n hx hb d_L_law_489 rfl (lv_at hl 5 rfl) ?_
      refine lv_iload hx hb d_L_law_490 (lv_at hl 1 rfl) ?_
      refine lv_iconst (v := 1) hx hb d_L_law_492 (by decide) ?_
      refine lv_iadd hx hb d_L_law_493 ?_
      refine va_sld hx hb hX hbl hbA hS (lxi1 hc hL) d_L_law_494 ?_
      rw [lx1 hc hL, e1]
      refine kc_i (va_runV (As := [.int (nI k)]) (rest := []) ⟨hx, hb, hml, hown, hts⟩ (c_M_identity_y l D ty ad _ n f th rt qu b w T g a o2 hg1 hn3 (nI k) (mG_z hq0 k10)) (cwV 1 hts (kGV kS1 m_L_84 m_im_M_identity m_sel_M_identity m_ini_M m_code_M_identity) rfl rfl rfl (by decide +kernel) ⟨Nat.le_of_ble_eq_true rfl, Nat.le_of_ble_eq_true rfl⟩) ⟨kP_blind, va_recv hK hP (ci := 3) (q0 := 10) rfl gw_10, fun U hU hW => ⟨rfl, kP_at hK hP hD U hU hW⟩⟩ rfl rfl hl.1 rfl (lv_room (Nat.le_of_ble_eq_true rfl)) d_L_law_495 ⟨(by show _ ≤ room_1.cells; omega), (by show _ ≤ room_1.slots; omega)⟩) hD hS hA (fun r2 u H locs hu hP hD hS hz => ?_)
      obtain ⟨hr2, rfl⟩ := hu
      rw [nI_clamp (show k < 2 ^ 31 by omega)] at hr2 hP hD
      simp only [if_neg h6] at hr2 hP hD
      obtain ⟨g2, hg2⟩ : ∃ z, z = upd g 0 (mT (mI g a (nI k)) 1) := ⟨_, rfl⟩
      rw [← hg2] at hP hD
      refine lv_istore (lv' := [(6, .int r2), (5, .int 0), (4, .int (nI (4 * c))), (3, .ref (ad 21)), (2, .ref (ad 10)), (1, .ref (ad 0)), (0, .ref b0)]) hx hb d_L_law_498 hl (by decide) rfl (fun ls hl => ?_)
      refine lv_aload_n hx hb d_L_law_500 rfl (lv_at hl 4 rfl) ?_
      refine kc_R (va_runV (As := []) (rest := []) ⟨hx, hb, hml, hown, hts⟩ (c_M_thrown l D ty ad _ n f th rt qu b w T g2 a o2) (cwV 0 hts (kGV kS1 m_L_52 m_im_M_thrown m_sel_M_thrown m_ini_M m_code_M_thrown) rfl rfl rfl (by decide +kernel) ⟨Nat.le_of_ble_eq_true rfl, Nat.le_of_ble_eq_true rfl⟩) ⟨kP_blind, va_recv hK hP (ci := 3) (q0 := 10) rfl gw_10, fun U hU hW => ⟨rfl, kP_at hK hP hD U hU hW⟩⟩ rfl rfl hl.1 rfl (lv_room (Nat.le_of_ble_eq_true rfl)) d_L_law_501 ⟨(by show _ ≤ room_1.cells; omega), (by show _ ≤ room_1.slots; omega)⟩) ?_
      refine lv_iload hx hb d_L_law_504 (lv_at hl 1 rfl) ?_
      refine lv_icmp_eq (tgt := 511) hx hb d_L_law_506 (by decide) (fun c_506 => ?_) (fun c_506 => absurd (by rw [hg2]; exact mT_0 hq0 k10) c_506)
      refine lv_iload hx hb d_L_law_511 (lv_at hl 1 rfl) ?_
      refine lv_if_ne (tgt := 528) hx hb d_L_law_513 (by decide) (fun c_513 => absurd rfl c_513) (fun c_513 => ?_)
      refine lv_aload_n hx hb d_L_law_516 rfl (lv_at hl 3 rfl) ?_
      refine lv_iconst (v := 0) hx hb d_L_law_517 (by decide) ?_
      refine va_lald (f := o2) hx hb hK hP 21 3 gw_21 rfl (by rw [← nI_0]; exact vp_in_nI (N := 1) (by omega) (by omega)) d_L_law_518 ?_
      rw [sb_cl0]
      refine lv_iload hx hb d_L_law_519 (lv_at hl 0 rfl) ?_
      refine lv_i2l (v := (r2).toInt64) hx hb d_L_law_521 rfl ?_
      refine W.lcmp hx hb d_L_law_522 ?_
      refine lv_if_eq (tgt := 528) hx hb d_L_law_523 (by decide) (fun c_523 => ?_) (fun c_523 => absurd ((lg_cmp_eq _ _).mpr (by rw [ho2, pk_uLs, hr2, hI.a6 k (hn k hk), p_as])) c_523)
      refine lv_goto (tgt := 655) hx hb d_L_law_528 (by decide) ?_
      have hl := lv_sub (l' := [(4, .int (nI (4 * c))), (3, .ref (ad 21)), (2, .ref (ad 10)), (1, .ref (ad 0)), (0, .ref b0)]) hl [2, 3, 4, 5, 6] rfl
      have hI2 : Inv n si ei f th rt qu T g2 a := by rw [hg2]; exact hI
      have h12 : f 10 = g2 11 := by rw [hg2]; exact h10
      refine W.widen (k := cells + 2) (n := slots + 16) (by omega) (by omega) ?_
      exact kk hI2 h12 hP hD hS hl
  · have hq0 := hI.nI' h1
    refine lv_aload_n hx hb d_L_law_475 rfl (lv_at hl 3 rfl) ?_
    refine lv_aload_n hx hb d_L_law_476 rfl (lv_at hl 4 rfl) ?_
    refine lv_iload hx hb d_L_law_477 (lv_at hl 0 rfl) ?_
    refine lv_iconst (v := 1) hx hb d_L_law_479 (by decide) ?_
    refine lv_iadd hx hb d_L_law_480 ?_
    refine va_sld hx hb hX hbl hbA hS (lxi1 hc hL) d_L_law_481 ?_
    rw [lx1 hc hL, e1]
    refine lv_aload_n hx hb d_L_law_482 rfl (lv_at hl 1 rfl) ?_
    refine kc_i (vx_runSW (As := [.ref (ad 0), .int x1, .ref (ad 21)]) (rest := []) ⟨hx, hb, hml, hown, hts⟩ (c_L_identity_x l D ty ad _ n f th rt qu b w T g a o x1 h1 htr) (vx_cwSW 3 hts (kGS kS1 m_L_82 m_st_L_identity m_ini_L m_code_L_identity) rfl rfl rfl (by decide +kernel) ⟨Nat.le_of_ble_eq_true rfl, Nat.le_of_ble_eq_true rfl⟩) ⟨kPY_blind, fun U hU hW => ⟨rfl, kP_at hK hP hD U hU hW, hY.at hS (kA_free hD hS hA) U hU hW⟩⟩ rfl rfl hl.1 rfl (lv_room (Nat.le_of_ble_eq_true rfl)) d_L_law_483 ⟨(by show _ ≤ room_1.cells; omega), (by show _ ≤ room_1.slots; omega)⟩) hD hS hA (fun r u H locs hu hP hD hS hz => ?_)
    obtain ⟨rfl, rfl⟩ := hu
    refine lv_istore (lv' := [(5, .int 1), (4, .int (nI (4 * c))), (3, .ref (ad 21)), (2, .ref (ad 10)), (1, .ref (ad 0)), (0, .ref b0)]) hx hb d_L_law_486 hl (by decide) rfl (fun ls hl => ?_)
    refine lv_aload_n hx hb d_L_law_488 rfl (lv_at hl 3 rfl) ?_
    refine lv_aload_n hx hb d_L_law_489 rfl (lv_at hl 5 rfl) ?_
    refine lv_iload hx hb d_L_law_490 (lv_at hl 1 rfl) ?_
    refine lv_iconst (v := 1) hx hb d_L_law_492 (by decide) ?_
    refine lv_iadd hx hb d_L_law_493 ?_
    refine va_sld hx hb hX hbl hbA hS (lxi1 hc hL) d_L_law_494 ?_
    rw [lx1 hc hL, e1]
    refine kc_i (va_runV (As := [.int x1]) (rest := []) ⟨hx, hb, hml, hown, hts⟩ (c_M_identity_n l D ty ad _ n f th rt qu b w T g a o hg1 hn3 x1 (mG_x hq0)) (cwV 1 hts (kGV kS1 m_L_84 m_im_M_identity m_sel_M_identity m_ini_M m_code_M_identity) rfl rfl rfl (by decide +kernel) ⟨Nat.le_of_ble_eq_true rfl, Nat.le_of_ble_eq_true rfl⟩) ⟨kP_blind, va_recv hK hP (ci := 3) (q0 := 10) rfl gw_10, fun U hU hW => ⟨rfl, kP_at hK hP hD U hU hW⟩⟩ rfl rfl hl.1 rfl (lv_room (Nat.le_of_ble_eq_true rfl)) d_L_law_495 ⟨(by show _ ≤ room_1.cells; omega), (by show _ ≤ room_1.slots; omega)⟩) hD hS hA (fun r2 u H locs hu hP hD hS hz => ?_)
    obtain ⟨hr2, rfl⟩ := hu
    obtain ⟨g2, hg2⟩ : ∃ z, z = upd g 0 (mT (mI g a x1) 1) := ⟨_, rfl⟩
    rw [← hg2] at hP hD
    refine lv_istore (lv' := [(6, .int r2), (5, .int 1), (4, .int (nI (4 * c))), (3, .ref (ad 21)), (2, .ref (ad 10)), (1, .ref (ad 0)), (0, .ref b0)]) hx hb d_L_law_498 hl (by decide) rfl (fun ls hl => ?_)
    refine lv_aload_n hx hb d_L_law_500 rfl (lv_at hl 4 rfl) ?_
    refine kc_R (va_runV (As := []) (rest := []) ⟨hx, hb, hml, hown, hts⟩ (c_M_thrown l D ty ad _ n f th rt qu b w T g2 a o) (cwV 0 hts (kGV kS1 m_L_52 m_im_M_thrown m_sel_M_thrown m_ini_M m_code_M_thrown) rfl rfl rfl (by decide +kernel) ⟨Nat.le_of_ble_eq_true rfl, Nat.le_of_ble_eq_true rfl⟩) ⟨kP_blind, va_recv hK hP (ci := 3) (q0 := 10) rfl gw_10, fun U hU hW => ⟨rfl, kP_at hK hP hD U hU hW⟩⟩ rfl rfl hl.1 rfl (lv_room (Nat.le_of_ble_eq_true rfl)) d_L_law_501 ⟨(by show _ ≤ room_1.cells; omega), (by show _ ≤ room_1.slots; omega)⟩) ?_
    refine lv_iload hx hb d_L_law_504 (lv_at hl 1 rfl) ?_
    refine lv_icmp_eq (tgt := 511) hx hb d_L_law_506 (by decide) (fun c_506 => ?_) (fun c_506 => absurd (by rw [hg2]; exact mT_1 hq0) c_506)
    refine lv_iload hx hb d_L_law_511 (lv_at hl 1 rfl) ?_
    refine lv_if_ne (tgt := 528) hx hb d_L_law_513 (by decide) (fun c_513 => ?_) (fun c_513 => absurd c_513 (by decide))
    refine lv_goto (tgt := 655) hx hb d_L_law_528 (by decide) ?_
    have hl := lv_sub (l' := [(4, .int (nI (4 * c))), (3, .ref (ad 21)), (2, .ref (ad 10)), (1, .ref (ad 0)), (0, .ref b0)]) hl [2, 3, 4, 5, 6] rfl
    have hI2 : Inv n si ei f th rt qu T g2 a := by rw [hg2]; exact hI
    have h12 : f 10 = g2 11 := by rw [hg2]; exact h10
    refine W.widen (k := cells + 2) (n := slots + 16) (by omega) (by omega) ?_
    exact kk hI2 h12 hP hD hS hl
end LAW
