/-! Part 49.b: the law's start. -/
theorem kPA_blind {D : va_G} {cl : List vw_C} {tys : List (ClassId × FieldType)} {ws : va_W} {sz : Nat} {av : List Value} : FrameBlind (va_Pc av (fun U => kP D cl tys ws sz U ∧ va_AO R_T U)) := fun a U g mk q => by
  obtain ⟨q0, ⟨q1, qP, qK, qD⟩, q2⟩ := q
  exact ⟨q0, ⟨q1, qP, va_K.moved (u := U) (U := U.calling g mk a) (Vm.Alike.refl U.vm) qK, qD⟩, va_AO.moved (u := U) (U := U.calling g mk a) (Vm.Alike.refl U.vm) q2⟩
/-- the array classes that the program uses -/
theorem st_ty {s : State} {args : Array Value} (hts : ∀ w ∈ kT, w.before args s = true) (hAO : va_AO R_T s) : ∃ ty : Nat → ClassId, ∀ (k : Nat) (q : ClassId × FieldType), (kTy ty)[k]? = some q → ArrOfT s q.1 q.2 ∧ va_RA s q.1 q.2 := by
  obtain ⟨c0, k0, p0, h01, h02, h03⟩ := Cond.arrayClass_spec (hts _ m_arr_int)
  obtain ⟨c1, k1, p1, h11, h12, h13⟩ := Cond.arrayClass_spec (hts _ m_arr_boolean)
  obtain ⟨c3, k3, p3, h31, h32, h33⟩ := Cond.arrayClass_spec (hts _ m_arr_long)
  obtain ⟨p2, c2, k2, h21, -, h22, h23, h24⟩ := Cond.arrayOver_spec hAO
  refine ⟨fun i => match i with | 0 => c0 | 1 => c1 | 2 => c2 | _ => c3, fun k q hk => ?_⟩
  have hk4 : k < 4 := (List.getElem?_eq_some_iff.mp hk).1
  match k, hk4 with
  | 0, _ => cases hk; exact ⟨fun N z => ⟨(fun k h => by cases h), k0, h02, p0, h03⟩, h01⟩
  | 1, _ => cases hk; exact ⟨fun N z => ⟨(fun k h => by cases h), k1, h12, p1, h13⟩, h11⟩
  | 2, _ => cases hk; exact ⟨fun N z => ⟨(fun k h => by cases h), k2, h22, p2, h23⟩, k2, p2, h22, h23, h21, h24⟩
  | 3, _ => cases hk; exact ⟨fun N z => ⟨(fun k h => by cases h), k3, h32, p3, h33⟩, h31⟩
theorem st_K {s : State} {args : Array Value} (hts : ∀ w ∈ kT, w.before args s = true) (hAO : va_AO R_T s) : ∃ (D : va_G) (ty : Nat → ClassId), va_K D kCl (kTy ty) s := by
  obtain ⟨ty, hty⟩ := st_ty hts hAO
  obtain ⟨cK, iK, hK⟩ := u_known (T := F_K) (N := 12) hts i_K (hts _ m_ins_K)
  obtain ⟨cS, iS, hS⟩ := u_known (T := F_S) (N := 3) hts i_S (hts _ m_ins_S)
  obtain ⟨cT, iT, hT⟩ := u_known (T := F_T) (N := 4) hts i_T (hts _ m_ins_T)
  obtain ⟨cM, iM, hM⟩ := u_known (T := F_M) (N := 16) hts i_M (hts _ m_ins_M)
  refine ⟨(fun i => match i with | 0 => cK | 1 => cS | 2 => cT | _ => cM, fun i => match i with | 0 => iK | 1 => iS | 2 => iT | _ => iM), ty, fun k q hk => ?_, hty⟩
  have hk4 : k < 4 := (List.getElem?_eq_some_iff.mp hk).1
  match k, hk4 with
  | 0, _ => cases hk; exact hK
  | 1, _ => cases hk; exact hS
  | 2, _ => cases hk; exact hT
  | 3, _ => cases hk; exact hM
def f_0 : Nat → Int32 := fun _ => 0
def th_0 : Nat → Bool := fun _ => false
def s_0 : SR := (fun _ => 0, fun _ => 0, 0)
def T_0 : Nat → TH := fun _ => (0, 0, 0, 0, fun _ => 0)
def a_0 : Nat → Nat → Int32 := fun _ _ => 0
theorem Inv_0 : Inv 0 0 0 f_0 th_0 (nf 16) (fun _ => 0) T_0 f_0 a_0 := by
  refine ⟨by omega, nI_0.symm, nI_0.symm, fun k hk => absurd (show false = true from hk) (by decide), fun k hk => absurd hk (by omega), fun k hk => absurd hk (by omega), fun k hk => absurd hk (by omega), fun k => by show 0 ≤ 12; omega, fun k hk => absurd hk (by omega), fun _ _ => rfl, fun i _ => ⟨0, by omega, nI_0.symm⟩, fun k hk => absurd hk (by omega), fun _ _ => rfl, fun k hk => absurd hk (by omega), fun _ _ => rfl, fun k hk => absurd hk (by omega), fun r hr => ?_, fun r hr => ?_, nI_0.symm, nI_0.symm, Nat.le_refl _, Nat.zero_le _, nI_0.symm, fun i hi => absurd hi (by omega), fun i hi => absurd hi (by omega), fun k hk => absurd (show false = true from hk) (by decide), nI_0.symm, rfl, rfl⟩
  · show (0 : Int32) = nf 16 r + 1
    unfold nf; rw [if_pos hr]; decide
  · left; unfold nf; rw [if_pos hr]
/-- the cells' places, and the world that lies there at first -/
def ad_0 (h0 k1 k2 k3 k4 k5 k6 k7 k8 k9 h1 n1 n2 n3 n4 n5 n6 n7 n8 n9 n10 h2 : Nat) : Nat → Nat
  | 0 => h0
  | 1 => k1
  | 2 => k2
  | 3 => k3
  | 4 => k4
  | 5 => k5
  | 6 => k6
  | 7 => k7
  | 8 => k8
  | 9 => k9
  | 10 => h1
  | 11 => n1
  | 12 => n2
  | 13 => n3
  | 14 => n4
  | 15 => n5
  | 16 => n6
  | 17 => n7
  | 18 => n8
  | 19 => n9
  | 20 => n10
  | 21 => h2
  | _ => 0
set_option maxRecDepth 100000 in
theorem gw_0s {ty : Nat → ClassId} {h0 k1 k2 k3 k4 k5 k6 k7 k8 k9 h1 n1 n2 n3 n4 n5 n6 n7 n8 n9 n10 h2 : Nat} : ([(h0, .inr (0, [.ref k1, .ref k2, .ref k3, .int 0, .int 0, .ref k4, .ref k7, .int 0, .int 0, .int 0, .int 0, .int 0])), (k1, .inl (ty 2, 300, .inr (.inr (.inr (.inr (fun _ => none)))))), (k2, .inl (ty 0, 16, .inl (nf 16))), (k3, .inl (ty 0, 300, .inl (fun _ => 0))), (k4, .inr (1, [.ref k5, .ref k6, .int 0])), (k5, .inl (ty 1, 300, .inl (fun _ => 0))), (k6, .inl (ty 0, 300, .inl (fun _ => 0))), (k7, .inr (1, [.ref k8, .ref k9, .int 0])), (k8, .inl (ty 1, 300, .inl (fun _ => 0))), (k9, .inl (ty 0, 300, .inl (fun _ => 0))), (h1, .inr (3, [.int 0, .int 0, .ref n1, .ref n2, .ref n3, .ref n4, .ref n5, .ref n6, .ref n7, .int 0, .ref n8, .int 0, .int 0, .int 0, .ref n9, .ref n10])), (n1, .inl (ty 1, 300, .inl (fun _ => 0))), (n2, .inl (ty 0, 300, .inl (fun _ => 0))), (n3, .inl (ty 0, 300, .inl (fun _ => 0))), (n4, .inl (ty 0, 3600, .inl (fun _ => 0))), (n5, .inl (ty 0, 300, .inl (fun _ => 0))), (n6, .inl (ty 1, 300, .inl (fun _ => 0))), (n7, .inl (ty 0, 16, .inl (fun _ => 0))), (n8, .inl (ty 0, 300, .inl (fun _ => 0))), (n9, .inl (ty 1, 300, .inl (fun _ => 0))), (n10, .inl (ty 1, 300, .inl (fun _ => 0))), (h2, .inl (ty 3, 1, .inr (.inl (fun _ => 0))))] : va_W) = gW 0 ty (ad_0 h0 k1 k2 k3 k4 k5 k6 k7 k8 k9 h1 n1 n2 n3 n4 n5 n6 n7 n8 n9 n10 h2) f_0 th_0 (nf 16) (fun _ => 0) s_0 s_0 T_0 f_0 a_0 (fun _ => 0) := rfl
set_option maxHeartbeats 4000000 in
set_option maxRecDepth 100000 in
theorem whole_start {p : Program} {e : Env} {s : State} {m : MethodId} {below : List Frame} {meth : Method} {cd : Code} (l : Launch) (htr : l.stackTraces = false) {b0 L : Nat} {xs : Nat → Int32} (hL : L ≤ 2048) (C0 : lw_At p s m meth cd b0 L xs) : W p l e room_1 s m #[Value.ref b0] below meth cd s.heap [] 0 0 (lw_Z below #[Value.ref b0] s) (entryFrame m ([Value.ref b0] : List Value).toArray 7) := by
  obtain ⟨hx, hb, hr, hml, hown, htbl, hX, hbl, hlocks, hgv⟩ := C0
  have hb : cd.code = b_L_law := hb
  have hown : s.vm.findClass R_L = some m.cls := hown
  have hT : ∀ w ∈ kT, w.before #[Value.ref b0] s = true := fun w hw => htbl w (kT_tbl hw)
  have hts : ∀ w ∈ w_L_make, w.before #[Value.ref b0] s = true := fun w hw => by
    rcases List.mem_cons.mp hw with rfl | hw
    · exact hT _ m_code_L_make
    · exact hT _ hw
  have hfl := flat_of_before _ hgv
  have hAO : va_AO R_T s := va_AO.of (htbl (.arrayOver (.object "WillKeeper$Thing")) (List.mem_of_getElem? (i := 42) rfl))
  obtain ⟨D, ty, hK⟩ := st_K hT hAO
  obtain ⟨A, hAe⟩ : ∃ z, z = fun q : Nat => s.heap.size ≤ q := ⟨_, rfl⟩
  have hA : ∀ q : Nat, s.heap.size ≤ q → A q := fun q h => by rw [hAe]; exact h
  have hAs : ∀ q : Nat, A q → s.heap.size ≤ q := fun q h => by rw [hAe] at h; exact h
  have hAn : ∀ a : Nat, a < s.heap.size → ¬ A a := fun a h q => by have := hAs a q; omega
  have hini : (Cond.initialized "java/lang/Throwable").before #[Value.ref b0] s = true := htbl _ (List.mem_of_getElem? (i := 26) rfl)
  have hY : kY A s s.heap := ⟨⟨vx_Zqof (htbl _ (List.mem_of_getElem? (i := 215) rfl)) hini (hfl _ (by decide +kernel)) hAn, vx_Zqof (htbl _ (List.mem_of_getElem? (i := 217) rfl)) hini (hfl _ (by decide +kernel)) hAn, kN.at htbl⟩, va_Nc.of (hfl _ (by decide +kernel)), va_Nc.of (hfl _ (by decide +kernel))⟩
  have C : lw_C p l s m cd b0 L xs A D ty := ⟨hx, hb, hml, hown, hts, hK, hX, hbl, hAn b0 hbl, hA, hY, htr, hL⟩
  have hP : va_P D kCl [] s.heap := fun k q h => by cases h
  have hD : va_D A [] := ⟨fun i j p q h => (by cases h), fun k q h => (by cases h)⟩
  have hS : va_S A s.heap s.heap [] := va_S.rf
  have hl := lv_entry ([.ref b0]) (n := 7) (Nat.le_of_ble_eq_true rfl)
  rw [lg_entry_eq]
  generalize (lg_sl ([.ref b0]) ++ List.replicate (7 - (lg_sl ([.ref b0])).length) Slot.unset).toArray = ls at hl ⊢
  have hl : lv_has ls 7 [(0, .ref b0)] := hl
  refine va_new (ci := 0) (fs := [.null, .null, .null, .int 0, .int 0, .null, .null, .int 0, .int 0, .int 0, .int 0, .int 0]) (C := R_K) (T := F_K) (N := 12) hx hb hts (fun w h => kS1 w (i_K w h)) tt_K tt_K_ok hown (hts _ (kS1 _ m_L_8)) (hts _ (kS1 _ m_ins_K)) (hts _ (kS1 _ m_ini_K)) hK hP hD hS hA rfl (fun j hj => by rcases (show j = 0 ∨ j = 1 ∨ j = 2 ∨ j = 3 ∨ j = 4 ∨ j = 5 ∨ j = 6 ∨ j = 7 ∨ j = 8 ∨ j = 9 ∨ j = 10 ∨ j = 11 by omega) with rfl | rfl | rfl | rfl | rfl | rfl | rfl | rfl | rfl | rfl | rfl | rfl <;> rfl) (Nat.le_of_ble_eq_true rfl) (Nat.le_of_ble_eq_true rfl) d_L_law_0 (fun q1 H hP hD hS => ?_)
  refine lv_dup hx hb d_L_law_3 rfl ?_
  have hPx := hP.sub (ws' := [(q1, .inr (0, [.null, .null, .null, .int 0, .int 0, .null, .null, .int 0, .int 0, .int 0, .int 0, .int 0]))]) [0] rfl
  have hDx := hD.sub (ws' := [(q1, .inr (0, [.null, .null, .null, .int 0, .int 0, .null, .null, .int 0, .int 0, .int 0, .int 0, .int 0]))]) [0] (by decide) rfl
  refine k_ctor (ws := []) (x := (q1, .inr (0, [.null, .null, .null, .int 0, .int 0, .null, .null, .int 0, .int 0, .int 0, .int 0, .int 0]))) (va_runI (As := []) (rest := [.ref q1]) ⟨hx, hb, hml, hown, hts⟩ (c_K_init l D ty (fun _ => 0) _ q1) (cwI 0 hts (kG kS1 m_code_K_init) rfl rfl rfl (hts _ (kS1 _ m_ini_K)) (hts _ (kS1 _ m_L_42)) (hts _ (kS1 _ m_im_K_init)) rfl (by decide +kernel) ⟨Nat.le_of_ble_eq_true rfl, Nat.le_of_ble_eq_true rfl⟩) ⟨kPA_blind, fun U hU hW => ⟨rfl, kP_at hK hPx hDx U hU hW, va_AO.moved hW.alike hAO⟩⟩ rfl rfl hl.1 rfl (lv_room (Nat.le_of_ble_eq_true rfl)) d_L_law_4 ⟨Nat.le_of_ble_eq_true rfl, Nat.le_of_ble_eq_true rfl⟩) hP hD hS hA (fun u H locs hu hP hD hS hz => ?_)
  obtain ⟨q2, q3, q4, q5, q6, q7, q8, q9, q10, rfl⟩ := hu
  have hP : va_P D kCl [(q1, .inr (0, [.ref q2, .ref q3, .ref q4, .int 0, .int 0, .ref q5, .ref q8, .int 0, .int 0, .int 0, .int 0, .int 0])), (q2, .inl (ty 2, 300, .inr (.inr (.inr (.inr (fun _ => none)))))), (q3, .inl (ty 0, 16, .inl (nf 16))), (q4, .inl (ty 0, 300, .inl (fun _ => 0))), (q5, .inr (1, [.ref q6, .ref q7, .int 0])), (q6, .inl (ty 1, 300, .inl (fun _ => 0))), (q7, .inl (ty 0, 300, .inl (fun _ => 0))), (q8, .inr (1, [.ref q9, .ref q10, .int 0])), (q9, .inl (ty 1, 300, .inl (fun _ => 0))), (q10, .inl (ty 0, 300, .inl (fun _ => 0)))] H := hP
  have hD : va_D A [(q1, .inr (0, [.ref q2, .ref q3, .ref q4, .int 0, .int 0, .ref q5, .ref q8, .int 0, .int 0, .int 0, .int 0, .int 0])), (q2, .inl (ty 2, 300, .inr (.inr (.inr (.inr (fun _ => none)))))), (q3, .inl (ty 0, 16, .inl (nf 16))), (q4, .inl (ty 0, 300, .inl (fun _ => 0))), (q5, .inr (1, [.ref q6, .ref q7, .int 0])), (q6, .inl (ty 1, 300, .inl (fun _ => 0))), (q7, .inl (ty 0, 300, .inl (fun _ => 0))), (q8, .inr (1, [.ref q9, .ref q10, .int 0])), (q9, .inl (ty 1, 300, .inl (fun _ => 0))), (q10, .inl (ty 0, 300, .inl (fun _ => 0)))] := hD
  refine lv_astore_n (lv' := [(1, .ref q1), (0, .ref b0)]) hx hb d_L_law_7 rfl hl (by decide) rfl (fun ls hl => ?_)
  refine va_new (ci := 3) (fs := [.int 0, .int 0, .null, .null, .null, .null, .null, .null, .null, .int 0, .null, .int 0, .int 0, .int 0, .null, .null]) (C := R_M) (T := F_M) (N := 16) hx hb hts (fun w h => kS1 w (i_M w h)) tt_M tt_M_ok hown (hts _ (kS1 _ m_L_43)) (hts _ (kS1 _ m_ins_M)) (hts _ (kS1 _ m_ini_M)) hK hP hD hS hA rfl (fun j hj => by rcases (show j = 0 ∨ j = 1 ∨ j = 2 ∨ j = 3 ∨ j = 4 ∨ j = 5 ∨ j = 6 ∨ j = 7 ∨ j = 8 ∨ j = 9 ∨ j = 10 ∨ j = 11 ∨ j = 12 ∨ j = 13 ∨ j = 14 ∨ j = 15 by omega) with rfl | rfl | rfl | rfl | rfl | rfl | rfl | rfl | rfl | rfl | rfl | rfl | rfl | rfl | rfl | rfl <;> rfl) (Nat.le_of_ble_eq_true rfl) (Nat.le_of_ble_eq_true rfl) d_L_law_8 (fun q11 H hP hD hS => ?_)
  refine lv_dup hx hb d_L_law_11 rfl ?_
  have hPx := hP.sub (ws' := [(q11, .inr (3, [.int 0, .int 0, .null, .null, .null, .null, .null, .null, .null, .int 0, .null, .int 0, .int 0, .int 0, .null, .null]))]) [10] rfl
  have hDx := hD.sub (ws' := [(q11, .inr (3, [.int 0, .int 0, .null, .null, .null, .null, .null, .null, .null, .int 0, .null, .int 0, .int 0, .int 0, .null, .null]))]) [10] (by decide) rfl
  refine k_ctor (ws := [(q1, .inr (0, [.ref q2, .ref q3, .ref q4, .int 0, .int 0, .ref q5, .ref q8, .int 0, .int 0, .int 0, .int 0, .int 0])), (q2, .inl (ty 2, 300, .inr (.inr (.inr (.inr (fun _ => none)))))), (q3, .inl (ty 0, 16, .inl (nf 16))), (q4, .inl (ty 0, 300, .inl (fun _ => 0))), (q5, .inr (1, [.ref q6, .ref q7, .int 0])), (q6, .inl (ty 1, 300, .inl (fun _ => 0))), (q7, .inl (ty 0, 300, .inl (fun _ => 0))), (q8, .inr (1, [.ref q9, .ref q10, .int 0])), (q9, .inl (ty 1, 300, .inl (fun _ => 0))), (q10, .inl (ty 0, 300, .inl (fun _ => 0)))]) (x := (q11, .inr (3, [.int 0, .int 0, .null, .null, .null, .null, .null, .null, .null, .int 0, .null, .int 0, .int 0, .int 0, .null, .null]))) (va_runI (As := []) (rest := [.ref q11]) ⟨hx, hb, hml, hown, hts⟩ (c_M_init l D ty (fun _ => 0) _ q11) (cwI 0 hts (kG kS1 m_code_M_init) rfl rfl rfl (hts _ (kS1 _ m_ini_M)) (hts _ (kS1 _ m_L_45)) (hts _ (kS1 _ m_im_M_init)) rfl (by decide +kernel) ⟨Nat.le_of_ble_eq_true rfl, Nat.le_of_ble_eq_true rfl⟩) ⟨kP_blind, fun U hU hW => ⟨rfl, kP_at hK hPx hDx U hU hW⟩⟩ rfl rfl hl.1 rfl (lv_room (Nat.le_of_ble_eq_true rfl)) d_L_law_12 ⟨Nat.le_of_ble_eq_true rfl, Nat.le_of_ble_eq_true rfl⟩) hP hD hS hA (fun u H locs hu hP hD hS hz => ?_)
  obtain ⟨q12, q13, q14, q15, q16, q17, q18, q19, q20, q21, rfl⟩ := hu
  have hP : va_P D kCl [(q1, .inr (0, [.ref q2, .ref q3, .ref q4, .int 0, .int 0, .ref q5, .ref q8, .int 0, .int 0, .int 0, .int 0, .int 0])), (q2, .inl (ty 2, 300, .inr (.inr (.inr (.inr (fun _ => none)))))), (q3, .inl (ty 0, 16, .inl (nf 16))), (q4, .inl (ty 0, 300, .inl (fun _ => 0))), (q5, .inr (1, [.ref q6, .ref q7, .int 0])), (q6, .inl (ty 1, 300, .inl (fun _ => 0))), (q7, .inl (ty 0, 300, .inl (fun _ => 0))), (q8, .inr (1, [.ref q9, .ref q10, .int 0])), (q9, .inl (ty 1, 300, .inl (fun _ => 0))), (q10, .inl (ty 0, 300, .inl (fun _ => 0))), (q11, .inr (3, [.int 0, .int 0, .ref q12, .ref q13, .ref q14, .ref q15, .ref q16, .ref q17, .ref q18, .int 0, .ref q19, .int 0, .int 0, .int 0, .ref q20, .ref q21])), (q12, .inl (ty 1, 300, .inl (fun _ => 0))), (q13, .inl (ty 0, 300, .inl (fun _ => 0))), (q14, .inl (ty 0, 300, .inl (fun _ => 0))), (q15, .inl (ty 0, 3600, .inl (fun _ => 0))), (q16, .inl (ty 0, 300, .inl (fun _ => 0))), (q17, .inl (ty 1, 300, .inl (fun _ => 0))), (q18, .inl (ty 0, 16, .inl (fun _ => 0))), (q19, .inl (ty 0, 300, .inl (fun _ => 0))), (q20, .inl (ty 1, 300, .inl (fun _ => 0))), (q21, .inl (ty 1, 300, .inl (fun _ => 0)))] H := hP
  have hD : va_D A [(q1, .inr (0, [.ref q2, .ref q3, .ref q4, .int 0, .int 0, .ref q5, .ref q8, .int 0, .int 0, .int 0, .int 0, .int 0])), (q2, .inl (ty 2, 300, .inr (.inr (.inr (.inr (fun _ => none)))))), (q3, .inl (ty 0, 16, .inl (nf 16))), (q4, .inl (ty 0, 300, .inl (fun _ => 0))), (q5, .inr (1, [.ref q6, .ref q7, .int 0])), (q6, .inl (ty 1, 300, .inl (fun _ => 0))), (q7, .inl (ty 0, 300, .inl (fun _ => 0))), (q8, .inr (1, [.ref q9, .ref q10, .int 0])), (q9, .inl (ty 1, 300, .inl (fun _ => 0))), (q10, .inl (ty 0, 300, .inl (fun _ => 0))), (q11, .inr (3, [.int 0, .int 0, .ref q12, .ref q13, .ref q14, .ref q15, .ref q16, .ref q17, .ref q18, .int 0, .ref q19, .int 0, .int 0, .int 0, .ref q20, .ref q21])), (q12, .inl (ty 1, 300, .inl (fun _ => 0))), (q13, .inl (ty 0, 300, .inl (fun _ => 0))), (q14, .inl (ty 0, 300, .inl (fun _ => 0))), (q15, .inl (ty 0, 3600, .inl (fun _ => 0))), (q16, .inl (ty 0, 300, .inl (fun _ => 0))), (q17, .inl (ty 1, 300, .inl (fun _ => 0))), (q18, .inl (ty 0, 16, .inl (fun _ => 0))), (q19, .inl (ty 0, 300, .inl (fun _ => 0))), (q20, .inl (ty 1, 300, .inl (fun _ => 0))), (q21, .inl (ty 1, 300, .inl (fun _ => 0)))] := hD
  refine lv_astore_n (lv' := [(2, .ref q11), (1, .ref q1), (0, .ref b0)]) hx hb d_L_law_15 rfl hl (by decide) rfl (fun ls hl => ?_)
  refine lv_iconst (v := 1) hx hb d_L_law_16 (by decide) ?_
  refine k_newa (atype := .long) (a0 := (1, .inr (.inl (fun _ => 0)))) (N' := 1) hx hb (hts _ (kS1 _ m_arr_long)) rfl hK hP hD hS hA 3 rfl (fun _ => rfl) (by decide) (by decide) (by decide) (Nat.le_of_ble_eq_true rfl) (Nat.le_of_ble_eq_true rfl) d_L_law_17 (fun q22 H hP hD hS => ?_)
  refine lv_astore_n (lv' := [(3, .ref q22), (2, .ref q11), (1, .ref q1), (0, .ref b0)]) hx hb d_L_law_19 rfl hl (by decide) rfl (fun ls hl => ?_)
  refine lv_iconst (v := 0) hx hb d_L_law_20 (by decide) ?_
  refine lv_istore (lv' := [(4, .int 0), (3, .ref q22), (2, .ref q11), (1, .ref q1), (0, .ref b0)]) hx hb d_L_law_21 hl (by decide) rfl (fun ls hl => ?_)
  have hP := kw_P gw_0s hP
  have hD := kw_D gw_0s hD
  have hl : lv_has ls 7 [(4, .int (nI (4 * 0))), (3, .ref ((ad_0 q1 q2 q3 q4 q5 q6 q7 q8 q9 q10 q11 q12 q13 q14 q15 q16 q17 q18 q19 q20 q21 q22) 21)), (2, .ref ((ad_0 q1 q2 q3 q4 q5 q6 q7 q8 q9 q10 q11 q12 q13 q14 q15 q16 q17 q18 q19 q20 q21 q22) 10)), (1, .ref ((ad_0 q1 q2 q3 q4 q5 q6 q7 q8 q9 q10 q11 q12 q13 q14 q15 q16 q17 q18 q19 q20 q21 q22) 0)), (0, .ref b0)] := by rw [show nI (4 * 0) = 0 from nI_0]; exact hl
  exact law_loop C hr hlocks hAs 512 0 (by omega) (by omega) (by omega) (by omega) Inv_0 rfl hP hD hS hl
