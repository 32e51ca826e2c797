/-! Part 49.a: the law's loop. Of the room only a lower bound is used: its numbers are measured when the statement is made, and differ by one from machine to machine. -/
theorem rm_c : 2000 ≤ room_1.cells := Nat.le_of_ble_eq_true rfl
theorem rm_s : 20000 ≤ room_1.slots := Nat.le_of_ble_eq_true rfl
theorem lp_le {c L : Nat} (hc : c ≤ 4096) (hL : L ≤ 2048) (h : ¬ Int32.ofNat L - 4 < nI (4 * c)) : 4 * c + 4 ≤ L := by
  have h1 : (nI L - nI 4).toInt = (L : Int) - (4 : Nat) := pk_sub_toInt (by omega) (by omega)
  have h2 : (nI (4 * c)).toInt = ((4 * c : Nat) : Int) := nI_toInt (by omega)
  have h3 : ¬ (nI L - nI 4).toInt < (nI (4 * c)).toInt := fun q => h (Int32.lt_iff_toInt_lt.mpr q)
  rw [h1, h2] at h3
  omega
section LOOP
variable {p : Program} {l : Launch} {e : Env} {s : State} {m : MethodId} {below : List Frame} {meth : Method} {cd : Code} {b0 L : Nat} {xs : Nat → Int32} {A : Nat → Prop} {D : va_G} {ty : Nat → ClassId}
set_option maxHeartbeats 4000000 in
set_option maxRecDepth 100000 in
/-- from the head of the loop: the law comes to its end -/
theorem law_loop (C : lw_C p l s m cd b0 L xs A D ty) (hr : meth.sig.returnType = ret) (hlocks : meth.locks = false) (hAs : ∀ q, A q → s.heap.size ≤ q) : ∀ (rem c : Nat) {n si ei : Nat} {ad : Nat → Nat} {f : Nat → Int32} {th : Nat → Bool} {rt qu : Nat → Int32} {b w : SR} {T : Nat → TH} {g : Nat → Int32} {a : Nat → Nat → Int32} {o : Nat → Int64} {H : Heap} {locs : List Loc} {ls : Array Slot} {cells slots : Nat}, L ≤ 4 * c + 4 * rem → c ≤ 512 → cells ≤ 22 + 2 * c → slots ≤ 7867 + 16 * c → Inv n si ei f th rt qu T g a → f 10 = g 11 → va_P D kCl (gW n ty ad f th rt qu b w T g a o) H → va_D A (gW n ty ad f th rt qu b w T g a o) → va_S A s.heap H locs → lv_has ls 7 [(4, .int (nI (4 * c))), (3, .ref (ad 21)), (2, .ref (ad 10)), (1, .ref (ad 0)), (0, .ref b0)] → W p l e room_1 s m #[Value.ref b0] below meth cd H locs cells slots (lw_Z below #[Value.ref b0] s) (F0 m 23 ls []) := by
  intro rem
  induction rem with
  | zero =>
    intro c n si ei ad f th rt qu b w T g a o H locs ls cells slots hLc hc5 hcl hsl hI h10 hP hD hS hl
    have C9 := C
    have rmc := rm_c
    have rms := rm_s
    obtain ⟨hx, hb, hml, hown, hts, hK, hX, hbl, hbA, hA, hY, htr, hL⟩ := C9
    refine lv_iload hx hb d_L_law_23 (lv_at hl 0 rfl) ?_
    refine lv_aload_n hx hb d_L_law_25 rfl (lv_at hl 4 rfl) ?_
    refine va_slen hx hb hX hbl hbA hS d_L_law_26 ?_
    refine lv_iconst (v := 4) hx hb d_L_law_27 (by decide) ?_
    refine lv_isub hx hb d_L_law_28 ?_
    refine lv_icmp_gt (tgt := 661) hx hb d_L_law_29 (by decide) (fun h9 => ?_) (fun h9 => ?_)
    · refine lv_iconst (v := 1) hx hb d_L_law_661 (by decide) ?_
      refine va_forget (fun q hq => hAs _ (hS.2.2 q hq)) ?_
      refine W.widen (k := room_1.cells) (n := room_1.slots) (by omega) (by omega) ?_
      exact lw_ret hx hb hr hlocks d_L_law_662
    · exact absurd (lp_le (by omega) hL h9) (by omega)
  | succ rem ih =>
    intro c n si ei ad f th rt qu b w T g a o H locs ls cells slots hLc hc5 hcl hsl hI h10 hP hD hS hl
    have C9 := C
    have rmc := rm_c
    have rms := rm_s
    obtain ⟨hx, hb, hml, hown, hts, hK, hX, hbl, hbA, hA, hY, htr, hL⟩ := C9
    refine lv_iload hx hb d_L_law_23 (lv_at hl 0 rfl) ?_
    refine lv_aload_n hx hb d_L_law_25 rfl (lv_at hl 4 rfl) ?_
    refine va_slen hx hb hX hbl hbA hS d_L_law_26 ?_
    refine lv_iconst (v := 4) hx hb d_L_law_27 (by decide) ?_
    refine lv_isub hx hb d_L_law_28 ?_
    refine lv_icmp_gt (tgt := 661) hx hb d_L_law_29 (by decide) (fun h9 => ?_) (fun h9 => ?_)
    · refine lv_iconst (v := 1) hx hb d_L_law_661 (by decide) ?_
      refine va_forget (fun q hq => hAs _ (hS.2.2 q hq)) ?_
      refine W.widen (k := room_1.cells) (n := room_1.slots) (by omega) (by omega) ?_
      exact lw_ret hx hb hr hlocks d_L_law_662
    · have hc := lp_le (by omega) hL h9
      obtain ⟨x0, e0⟩ : ∃ z, xs (4 * c + 0) = z := ⟨_, rfl⟩
      refine lv_aload_n hx hb d_L_law_32 rfl (lv_at hl 4 rfl) ?_
      refine lv_iload hx hb d_L_law_33 (lv_at hl 0 rfl) ?_
      refine va_sld hx hb hX hbl hbA hS (lxi0 hc hL) d_L_law_35 ?_
      rw [lx0 hc hL, e0]
      refine lv_bipush (v := 15) hx hb d_L_law_36 (by decide) ?_
      refine lv_iand hx hb d_L_law_38 ?_
      obtain ⟨j, hj, ej⟩ := pk_andE x0 (m := 15) 4 (by decide)
      rw [ej]
      have K : ∀ {n si ei : Nat} {ad : Nat → Nat} {f : Nat → Int32} {th : Nat → Bool} {rt qu : Nat → Int32} {b w : SR} {T : Nat → TH} {g : Nat → Int32} {a : Nat → Nat → Int32} {o : Nat → Int64} {H : Heap} {locs : List Loc} {ls : Array Slot} {cells2 slots2 : Nat}, cells2 ≤ cells + 2 → slots2 ≤ slots + 16 → Inv n si ei f th rt qu T g a → f 10 = g 11 → va_P D kCl (gW n ty ad f th rt qu b w T g a o) H → va_D A (gW n ty ad f th rt qu b w T g a o) → va_S A s.heap H locs → lv_has ls 7 [(4, .int (nI (4 * c))), (3, .ref (ad 21)), (2, .ref (ad 10)), (1, .ref (ad 0)), (0, .ref b0)] → W p l e room_1 s m #[Value.ref b0] below meth cd H locs cells2 slots2 (lw_Z below #[Value.ref b0] s) (F0 m 655 ls []) := by
        intro n si ei ad f th rt qu b w T g a o H locs ls cells2 slots2 q1 q2 hI h10 hP hD hS hl
        refine lv_iinc (v := nI (4 * c) + 4) (lv' := [(4, .int (nI (4 * c) + 4)), (3, .ref (ad 21)), (2, .ref (ad 10)), (1, .ref (ad 0)), (0, .ref b0)]) hx hb d_L_law_655 hl (k := 0) rfl rfl (by decide) rfl (fun ls hl => ?_)
        have hq9 : nI (4 * c) + 4 = nI (4 * (c + 1)) := by rw [show (4 : Int32) = nI 4 from rfl, nI_add]; congr 1
        rw [hq9] at hl
        refine lv_goto (tgt := 23) hx hb d_L_law_658 (by decide) ?_
        exact ih (c + 1) (by omega) (by omega) (by omega) (by omega) hI h10 hP hD hS hl
      have K2 : ∀ {n si ei : Nat} {ad : Nat → Nat} {f : Nat → Int32} {th : Nat → Bool} {rt qu : Nat → Int32} {b w : SR} {T : Nat → TH} {g : Nat → Int32} {a : Nat → Nat → Int32} {o : Nat → Int64} {H : Heap} {locs : List Loc} {ls : Array Slot}, Inv n si ei f th rt qu T g a → f 10 = g 11 → va_P D kCl (gW n ty ad f th rt qu b w T g a o) H → va_D A (gW n ty ad f th rt qu b w T g a o) → va_S A s.heap H locs → lv_has ls 7 [(4, .int (nI (4 * c))), (3, .ref (ad 21)), (2, .ref (ad 10)), (1, .ref (ad 0)), (0, .ref b0)] → W p l e room_1 s m #[Value.ref b0] below meth cd H locs (cells + 2) (slots + 16) (lw_Z below #[Value.ref b0] s) (F0 m 655 ls []) := fun hI h10 hP hD hS hl => K (Nat.le_refl _) (Nat.le_refl _) hI h10 hP hD hS hl
      rcases (show j = 0 ∨ j = 1 ∨ j = 2 ∨ j = 3 ∨ j = 4 ∨ j = 5 ∨ j = 6 ∨ j = 7 ∨ j = 8 ∨ j = 9 ∨ j = 10 ∨ j = 11 ∨ j = 12 ∨ j = 13 ∨ j = 14 ∨ j = 15 by omega) with rfl | rfl | rfl | rfl | rfl | rfl | rfl | rfl | rfl | rfl | rfl | rfl | rfl | rfl | rfl | rfl
      · refine lv_tableIn (off := 57) (tgt := 96) hx hb d_L_law_39 (by decide) (by decide) rfl (by decide) ?_
        exact law_make C hc (by omega) (by omega) hI h10 hP hD hS hl K2
      · refine lv_tableIn (off := 125) (tgt := 164) hx hb d_L_law_39 (by decide) (by decide) rfl (by decide) ?_
        exact law_set C hc (by omega) (by omega) hI h10 hP hD hS hl K2
      · refine lv_tableIn (off := 205) (tgt := 244) hx hb d_L_law_39 (by decide) (by decide) rfl (by decide) ?_
        exact law_get C hc (by omega) (by omega) hI h10 hP hD hS hl K2
      · refine lv_tableIn (off := 273) (tgt := 312) hx hb d_L_law_39 (by decide) (by decide) rfl (by decide) ?_
        exact law_root C hc (by omega) (by omega) hI h10 hP hD hS hl K2
      · refine lv_tableIn (off := 341) (tgt := 380) hx hb d_L_law_39 (by decide) (by decide) rfl (by decide) ?_
        exact law_clear C hc (by omega) (by omega) hI h10 hP hD hS hl K2
      · refine lv_tableIn (off := 354) (tgt := 393) hx hb d_L_law_39 (by decide) (by decide) rfl (by decide) ?_
        exact law_take C hc (by omega) (by omega) hI h10 hP hD hS hl K2
      · refine lv_tableIn (off := 367) (tgt := 406) hx hb d_L_law_39 (by decide) (by decide) rfl (by decide) ?_
        exact law_queued C hc (by omega) (by omega) hI h10 hP hD hS hl K2
      · refine lv_tableIn (off := 423) (tgt := 462) hx hb d_L_law_39 (by decide) (by decide) rfl (by decide) ?_
        exact law_sweep C hc (by omega) (by omega) hI h10 hP hD hS hl K2
      · refine lv_tableIn (off := 436) (tgt := 475) hx hb d_L_law_39 (by decide) (by decide) rfl (by decide) ?_
        exact law_identity C hc (by omega) (by omega) hI h10 hP hD hS hl K2
      · refine lv_tableIn (off := 492) (tgt := 531) hx hb d_L_law_39 (by decide) (by decide) rfl (by decide) ?_
        exact law_about C hc (by omega) (by omega) hI h10 hP hD hS hl K2
      · refine lv_tableIn (off := 560) (tgt := 599) hx hb d_L_law_39 (by decide) (by decide) rfl (by decide) ?_
        exact law_count C hc (by omega) (by omega) hI h10 hP hD hS hl K2
      · refine lv_tableOut (tgt := 655) hx hb d_L_law_39 (Or.inr (by decide)) (by decide) ?_
        exact K (by omega) (by omega) hI h10 hP hD hS hl
      · refine lv_tableOut (tgt := 655) hx hb d_L_law_39 (Or.inr (by decide)) (by decide) ?_
        exact K (by omega) (by omega) hI h10 hP hD hS hl
      · refine lv_tableOut (tgt := 655) hx hb d_L_law_39 (Or.inr (by decide)) (by decide) ?_
        exact K (by omega) (by omega) hI h10 hP hD hS hl
      · refine lv_tableOut (tgt := 655) hx hb d_L_law_39 (Or.inr (by decide)) (by decide) ?_
        exact K (by omega) (by omega) hI h10 hP hD hS hl
      · refine lv_tableOut (tgt := 655) hx hb d_L_law_39 (Or.inr (by decide)) (by decide) ?_
        exact K (by omega) (by omega) hI h10 hP hD hS hl
end LOOP
