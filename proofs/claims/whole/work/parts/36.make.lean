/-! Part 36: make, where it answers. -/
theorem va_lastP {D : va_G} {cl : List vw_C} {ws : va_W} {x : Nat × va_E} {H : Heap} (h : va_P D cl (ws ++ [x]) H) : va_P D cl [x] H := fun k q hk => by
  have hk1 : k < 1 := (List.getElem?_eq_some_iff.mp hk).1
  rw [show k = 0 by omega] at hk
  have hk : x = q := by simpa using hk
  subst hk
  exact h ws.length x (by simp)
theorem va_lastD {A : Nat → Prop} {ws : va_W} {x : Nat × va_E} (h : va_D A (ws ++ [x])) : va_D A [x] := by
  refine ⟨fun i j p q hi hj _ => ?_, fun k q hk => ?_⟩
  · have h1 : i < 1 := (List.getElem?_eq_some_iff.mp hi).1
    have h2 : j < 1 := (List.getElem?_eq_some_iff.mp hj).1
    omega
  · have hk1 : k < 1 := (List.getElem?_eq_some_iff.mp hk).1
    rw [show k = 0 by omega] at hk
    have hk : x = q := by simpa using hk
    subst hk
    exact h.2 ws.length x (by simp)
section GR
variable {n : Nat} {ty : Nat → ClassId} {ad : Nat → Nat} {f : Nat → Int32} {th : Nat → Bool} {rt qu : Nat → Int32} {b w : SR} {T : Nat → TH} {g : Nat → Int32} {a : Nat → Nat → Int32} {o : Nat → Int64}
/-- the world is the same over addresses that are the same where it looks -/
theorem gw_ad {ad2 : Nat → Nat} (hn : ∀ k, th k = true → k < n) (h : ∀ i, i < 22 + 2 * n → ad2 i = ad i) : gW n ty ad f th rt qu b w T g a o = gW n ty ad2 f th rt qu b w T g a o := by
  have e : ∀ i, i < 22 + 2 * n → ad i = ad2 i := fun i hi => (h i hi).symm
  refine wl_congr e (fun i hi => ?_)
  by_cases hi2 : i < 22
  · have hth : thf ad th = thf ad2 th := by
      funext k
      unfold thf
      by_cases hk : th k = true
      · rw [if_pos hk, if_pos hk, e _ (by have := hn k hk; omega)]
      · rw [if_neg hk, if_neg hk]
    revert i hi hi2
    have key : ∀ i, i < 22 → gc ty ad f th rt qu b w T g a o i = gc ty ad2 f th rt qu b w T g a o i := by
      refine g22 ?_ ?_ ?_ ?_ ?_ ?_ ?_ ?_ ?_ ?_ ?_ ?_ ?_ ?_ ?_ ?_ ?_ ?_ ?_ ?_ ?_ ?_ <;> simp only [gc, hth] <;> simp [e 1 (by omega), e 2 (by omega), e 3 (by omega), e 4 (by omega), e 5 (by omega), e 6 (by omega), e 7 (by omega), e 8 (by omega), e 9 (by omega), e 11 (by omega), e 12 (by omega), e 13 (by omega), e 14 (by omega), e 15 (by omega), e 16 (by omega), e 17 (by omega), e 18 (by omega), e 19 (by omega), e 20 (by omega)]
    exact fun i _ hi2 => key i hi2
  · obtain ⟨j, rfl⟩ : ∃ j, i = j + 22 := ⟨i - 22, by omega⟩
    show tc ty ad T j = tc ty ad2 T j
    unfold tc
    by_cases h2 : j % 2 = 0
    · rw [if_pos h2, if_pos h2, e (j + 23) (by omega)]
    · rw [if_neg h2, if_neg h2]
theorem gw_pool {T2 : Nat → TH} (h : ∀ k, k < n → T2 k = T k) : gW n ty ad f th rt qu b w T g a o = gW n ty ad f th rt qu b w T2 g a o := by
  refine wl_congr (fun _ _ => rfl) (fun i hi => ?_)
  by_cases hi2 : i < 22
  · revert i hi hi2
    have key : ∀ i, i < 22 → gc ty ad f th rt qu b w T g a o i = gc ty ad f th rt qu b w T2 g a o i := g22 rfl rfl rfl rfl rfl rfl rfl rfl rfl rfl rfl rfl rfl rfl rfl rfl rfl rfl rfl rfl rfl rfl
    exact fun i _ hi2 => key i hi2
  · obtain ⟨j, rfl⟩ : ∃ j, i = j + 22 := ⟨i - 22, by omega⟩
    show tc ty ad T j = tc ty ad T2 j
    unfold tc
    rw [h (j / 2) (by omega)]
/-- a thing more -/
theorem gw_grow {q9 q8 : Nat} {t : TH} (hn : ∀ k, th k = true → k < n) : gW n ty ad f th rt qu b w T g a o ++ [(q9, .inr (2, [.ref q8, .int t.1, .int t.2.1, .int t.2.2.1])), (q8, .inl (ty 0, t.2.2.2.1, .inl t.2.2.2.2))] = gW (n + 1) ty (va_up (va_up ad (22 + 2 * n) q9) (23 + 2 * n) q8) f th rt qu b w (va_up T n t) g a o := by
  have hT : ∀ k, k < n → va_up T n t k = T k := fun k hk => va_up_n (by omega)
  have hA : ∀ i, i < 22 + 2 * n → va_up (va_up ad (22 + 2 * n) q9) (23 + 2 * n) q8 i = ad i := fun i hi => by rw [va_up_n (by omega), va_up_n (by omega)]
  rw [gw_pool hT, gw_ad hn hA]
  generalize hT2 : va_up T n t = T2
  generalize hA2 : va_up (va_up ad (22 + 2 * n) q9) (23 + 2 * n) q8 = ad2
  have e1 : ad2 (22 + 2 * n) = q9 := by rw [← hA2, va_up_n (by omega), va_up_s]
  have e2 : ad2 (23 + 2 * n) = q8 := by rw [← hA2, va_up_s]
  have e3 : T2 n = t := by rw [← hT2, va_up_s]
  have key : ∀ (N : Nat) (ad : Nat → Nat) (c : Nat → va_E), wL (N + 1 + 1) ad c = wL N ad c ++ [(ad N, c N), (ad (N + 1), c (N + 1))] := by
    intro N ad c
    simp only [wL, List.range_succ, List.map_append, List.map_cons, List.map_nil, List.append_assoc, List.cons_append, List.nil_append]
  show _ = wL (22 + 2 * (n + 1)) ad2 _
  rw [show 22 + 2 * (n + 1) = (22 + 2 * n) + 1 + 1 by omega, key, gc_T, show 22 + 2 * n + 1 = 23 + 2 * n by omega, gc_F, e1, e2, e3]
theorem gw_sthS {i : Nat} : (gW n ty ad f th rt qu b w T g a o).set 1 (ad 1, .inl (ty 2, 300, .inr (.inr (.inr (.inr (va_up (thf ad th) i (some (ad (22 + 2 * i))))))))) = gW n ty ad f (va_up th i true) rt qu b w T g a o := by
  have h : va_up (thf ad th) i (some (ad (22 + 2 * i))) = thf ad (va_up th i true) := by
    funext k; by_cases hk : k = i <;> simp [va_up, thf, hk]
  rw [h]; rw [wl_set]; congr 1; exact gx (g22 (P := fun i => va_up _ _ _ i = gc _ _ _ _ _ _ _ _ _ _ _ _ i) rfl rfl rfl rfl rfl rfl rfl rfl rfl rfl rfl rfl rfl rfl rfl rfl rfl rfl rfl rfl rfl rfl) (fun i => by rw [va_up_n (by omega)]; rfl)
end GR
set_option maxHeartbeats 4000000 in
set_option maxRecDepth 100000 in
/-- make(kd, q), all good -/
theorem c_K_make (l : Launch) (D : va_G) (ty : Nat → ClassId) (ad : Nat → Nat) (sz : Nat) (n : Nat) (f : Nat → Int32) (th : Nat → Bool) (rt qu : Nat → Int32) (b w : SR) (T : Nat → TH) (g : Nat → Int32) (a : Nat → Nat → Int32) (o : Nat → Int64) (hn : ∀ k, th k = true → k < n) (hn3 : n < 300) (hf7 : f 7 = nI n) (kd : Int32) (q : Nat) (h1 : ¬ kd < 0) (h2 : kd ≤ 2) (hq : q ≤ 12) (h5 : ¬ (kd = 1 ∧ nI q = 0)) : Met l y_K_make w_K_make ({ frames := 2, cells := 2, slots := 16, locals := 35 }) (va_Pc [.ref (ad 0), .int kd, .int (nI q)] (kP D kCl (kTy ty) (gW n ty ad f th rt qu b w T g a o) sz)) (va_Qi (fun (r9 : Int32) (u9 : va_W) => r9 = nI n ∧ ∃ ad2 : Nat → Nat, (∀ i, i < 22 → ad2 i = ad i) ∧ u9 = gW (n + 1) ty ad2 (upd (upd f 7 (f 7 + 1)) 8 (f 8 + 1)) (va_up th n true) rt qu b w (va_up T n (kd, 0, -1, q, nf q)) g a o) (kB D kCl (kTy ty) (va_A (gW n ty ad f th rt qu b w T g a o) sz)) (va_A (gW n ty ad f th rt qu b w T g a o) sz)) 2 16 (va_A (gW n ty ad f th rt qu b w T g a o) sz) := by
  refine Met.ofW (cc := b_K_make) (maxL := 4) (ret := (some .int)) (by decide) rfl ?_
  intro p e s m args below meth cd s₁ B hml hv
  obtain ⟨rfl, hsz, hP, hK, hD0⟩ := hv
  have hx := B.exec
  have hb := B.bytes
  have hr := B.returns
  have hts := atoms_spec (ws := w_K_make) B.pre
  have hown : s.vm.findClass R_K = some m.cls := findClass_of_methodNamed B.named
  have hlocks := B.notSynchronized
  subst hsz
  have hD := hD0.self (sz := s.heap.size)
  generalize hAe : va_A (gW n ty ad f th rt qu b w T g a o) s.heap.size = A at hD ⊢
  have hA : ∀ q : Nat, s.heap.size ≤ q → A q := fun q h => by rw [← hAe]; exact Or.inr h
  have hS : va_S A s.heap s.heap [] := va_S.rf
  have hl := lv_entry ([.ref (ad 0), .int kd, .int (nI q)]) (n := 4) (Nat.le_of_ble_eq_true rfl)
  rw [lg_entry_eq]
  generalize (lg_sl ([.ref (ad 0), .int kd, .int (nI q)]) ++ List.replicate (4 - (lg_sl ([.ref (ad 0), .int kd, .int (nI q)])).length) Slot.unset).toArray = ls at hl ⊢
  have hl : lv_has ls 4 [(0, .ref (ad 0)), (1, .int kd), (2, .int (nI q))] := hl
  refine lv_iload_n hx hb d_K_make_0 rfl (lv_at hl 1 rfl) ?_
  refine lv_if_lt (tgt := 9) hx hb d_K_make_1 (by decide) (fun c_1 => absurd c_1 h1) (fun c_1 => ?_)
  refine lv_iload_n hx hb d_K_make_4 rfl (lv_at hl 1 rfl) ?_
  refine lv_iconst (v := 2) hx hb d_K_make_5 (by decide) ?_
  refine lv_icmp_le (tgt := 19) hx hb d_K_make_6 (by decide) (fun c_6 => ?_) (fun c_6 => absurd h2 c_6)
  refine lv_iload_n hx hb d_K_make_19 rfl (lv_at hl 2 rfl) ?_
  refine lv_if_lt (tgt := 29) hx hb d_K_make_20 (by decide) (fun c_20 => absurd c_20 (nI_pos (by omega))) (fun c_20 => ?_)
  refine lv_iload_n hx hb d_K_make_23 rfl (lv_at hl 2 rfl) ?_
  refine lv_bipush (v := 12) hx hb d_K_make_24 (by decide) ?_
  refine lv_icmp_le (tgt := 39) hx hb d_K_make_26 (by decide) (fun c_26 => ?_) (fun c_26 => absurd (nI_le (b := 12) hq (by omega)) c_26)
  refine lv_iload_n hx hb d_K_make_39 rfl (lv_at hl 1 rfl) ?_
  refine lv_iconst (v := 1) hx hb d_K_make_40 (by decide) ?_
  refine lv_icmp_ne (tgt := 58) hx hb d_K_make_41 (by decide) (fun c_41 => ?_) (fun c_41 => ?_)
  · refine lv_aload_n hx hb d_K_make_58 rfl (lv_at hl 0 rfl) ?_
    refine va_get (D := D) (ci := 0) (v := .int (f 7)) (C := R_K) (T := F_K) (N := 12) hx hb hts (fun w h => kS1 w (i_K w h)) hown hK hP 0 gw_0 rfl 7 (by decide) (hts _ (kS1 _ m_K_43)) (fun _ h9 => h9) rfl d_K_make_59 ?_
    refine lv_if_lt (tgt := 77) hx hb d_K_make_62 (by decide) (fun c_62 => absurd c_62 (by rw [hf7]; exact nI_pos (by omega))) (fun c_62 => ?_)
    refine lv_aload_n hx hb d_K_make_65 rfl (lv_at hl 0 rfl) ?_
    refine va_get (D := D) (ci := 0) (v := .int (f 7)) (C := R_K) (T := F_K) (N := 12) hx hb hts (fun w h => kS1 w (i_K w h)) hown hK hP 0 gw_0 rfl 7 (by decide) (hts _ (kS1 _ m_K_43)) (fun _ h9 => h9) rfl d_K_make_66 ?_
    refine lv_aload_n hx hb d_K_make_69 rfl (lv_at hl 0 rfl) ?_
    refine va_get (D := D) (ci := 0) (v := .ref (ad 1)) (C := R_K) (T := F_K) (N := 12) hx hb hts (fun w h => kS1 w (i_K w h)) hown hK hP 0 gw_0 rfl 0 (by decide) (hts _ (kS1 _ m_K_11)) (fun _ h9 => h9) rfl d_K_make_70 ?_
    refine va_alen (v := 300) hx hb hK hP 1 2 gw_1 rfl rfl d_K_make_73 ?_
    refine lv_icmp_lt (tgt := 87) hx hb d_K_make_74 (by decide) (fun c_74 => ?_) (fun c_74 => absurd (by rw [hf7]; exact l300 hn3) c_74)
    refine lv_aload_n hx hb d_K_make_87 rfl (lv_at hl 0 rfl) ?_
    refine va_get (D := D) (ci := 0) (v := .int (f 7)) (C := R_K) (T := F_K) (N := 12) hx hb hts (fun w h => kS1 w (i_K w h)) hown hK hP 0 gw_0 rfl 7 (by decide) (hts _ (kS1 _ m_K_43)) (fun _ h9 => h9) rfl d_K_make_88 ?_
    refine lv_istore_n (lv' := [(3, .int (f 7)), (0, .ref (ad 0)), (1, .int kd), (2, .int (nI q))]) hx hb d_K_make_91 rfl hl (by decide) rfl (fun ls hl => ?_)
    refine lv_aload_n hx hb d_K_make_92 rfl (lv_at hl 1 rfl) ?_
    refine va_get (D := D) (ci := 0) (v := .ref (ad 1)) (C := R_K) (T := F_K) (N := 12) hx hb hts (fun w h => kS1 w (i_K w h)) hown hK hP 0 gw_0 rfl 0 (by decide) (hts _ (kS1 _ m_K_11)) (fun _ h9 => h9) rfl d_K_make_93 ?_
    refine lv_iload_n hx hb d_K_make_96 rfl (lv_at hl 0 rfl) ?_
    refine va_new (ci := 2) (fs := [.null, .int 0, .int 0, .int 0]) (C := R_T) (T := F_T) (N := 4) hx hb hts (fun w h => kS1 w (i_T w h)) tt_T tt_T_ok hown (hts _ (kS1 _ m_K_9)) (hts _ (kS1 _ m_ins_T)) (hts _ (kS1 _ m_ini_T)) hK hP hD hS hA rfl (fun j hj => by rcases (show j = 0 ∨ j = 1 ∨ j = 2 ∨ j = 3 by omega) with rfl | rfl | rfl | rfl <;> rfl) (Nat.le_of_ble_eq_true rfl) (Nat.le_of_ble_eq_true rfl) d_K_make_97 (fun q9 H hP hD hS => ?_)
    refine lv_dup hx hb d_K_make_100 rfl ?_
    refine lv_iload_n hx hb d_K_make_101 rfl (lv_at hl 2 rfl) ?_
    refine lv_iload_n hx hb d_K_make_102 rfl (lv_at hl 3 rfl) ?_
    have hPx := va_lastP hP
    have hDx := va_lastD hD
    refine k_ctor (ws := gW n ty ad f th rt qu b w T g a o) (x := (q9, .inr (2, [.null, .int 0, .int 0, .int 0]))) (va_runI (As := [.int kd, .int (nI q)]) (rest := [.ref q9, .int (f 7), .ref (ad 1)]) ⟨hx, hb, hml, hown, hts⟩ (c_T_init l D ty ad _ q9 kd q hq) (cwI 2 hts (kG kS1 m_code_T_init) rfl rfl rfl (hts _ (kS1 _ m_ini_T)) (hts _ (kS1 _ m_K_52)) (hts _ (kS1 _ m_im_T_init)) rfl (by decide +kernel) ⟨Nat.le_of_ble_eq_true rfl, Nat.le_of_ble_eq_true rfl⟩) ⟨kP_blind, fun U hU hW => ⟨rfl, kP_at hK hPx hDx U hU hW⟩⟩ rfl rfl hl.1 rfl (lv_room (Nat.le_of_ble_eq_true rfl)) d_K_make_103 ⟨Nat.le_of_ble_eq_true rfl, Nat.le_of_ble_eq_true rfl⟩) hP hD hS hA (fun u H locs hu hP hD hS hz => ?_)
    obtain ⟨q8, rfl⟩ := hu
    have hP := kw_P (gw_grow (t := (kd, 0, -1, q, nf q)) hn) hP
    have hD := kw_D (gw_grow (t := (kd, 0, -1, q, nf q)) hn) hD
    obtain ⟨ad2, hA2⟩ : ∃ z, z = va_up (va_up ad (22 + 2 * n) q9) (23 + 2 * n) q8 := ⟨_, rfl⟩
    rw [← hA2] at hP hD
    have hA22 : ∀ i, i < 22 → ad2 i = ad i := fun i hi => by rw [hA2, va_up_n (by omega), va_up_n (by omega)]
    have e9 : ad2 (22 + 2 * n) = q9 := by rw [hA2, va_up_n (by omega), va_up_s]
    rw [← hA22 1 (by omega), ← e9]
    rw [← hA22 0 (by omega)] at hl
    refine va_astq hx hb hK hP hD hS 1 2 (22 + 2 * n) 2 gw_1 rfl (gw_T (k := n) (by omega)) rfl (by rw [hf7]; exact vp_in_nI hn3 (by omega)) d_K_make_106 (fun H locs hP hD hS => ?_)
    rw [hf7, nI_clamp (by omega)] at hP hD
    have hP := kw_P (gw_sthS (i := n)) hP
    have hD := kw_D (gw_sthS (i := n)) hD
    refine lv_aload_n hx hb d_K_make_107 rfl (lv_at hl 1 rfl) ?_
    refine lv_dup hx hb d_K_make_108 rfl ?_
    refine va_get (D := D) (ci := 0) (v := .int (f 7)) (C := R_K) (T := F_K) (N := 12) hx hb hts (fun w h => kS1 w (i_K w h)) hown hK hP 0 gw_0 rfl 7 (by decide) (hts _ (kS1 _ m_K_43)) (fun _ h9 => h9) rfl d_K_make_109 ?_
    refine lv_iconst (v := 1) hx hb d_K_make_112 (by decide) ?_
    refine lv_iadd hx hb d_K_make_113 ?_
    refine va_put (D := D) (ci := 0) (v := .int ((f 7) + 1)) (ty := .int) (C := R_K) (T := F_K) (N := 12) hx hb hts (fun w h => kS1 w (i_K w h)) tt_K tt_K_ok n_K hown hK hP hD hS 0 gw_0 rfl 7 (by decide) (hts _ (kS1 _ m_K_43)) (fun _ h9 => h9) rfl (by decide +kernel) rfl rfl (Nat.le_of_ble_eq_true rfl) d_K_make_114 (fun H locs hP hD hS => ?_)
    have hP := kw_P (gw_sK7 (v := (f 7) + 1)) hP
    have hD := kw_D (gw_sK7 (v := (f 7) + 1)) hD
    refine lv_aload_n hx hb d_K_make_117 rfl (lv_at hl 1 rfl) ?_
    refine lv_dup hx hb d_K_make_118 rfl ?_
    refine va_get (D := D) (ci := 0) (v := .int (f 8)) (C := R_K) (T := F_K) (N := 12) hx hb hts (fun w h => kS1 w (i_K w h)) hown hK hP 0 gw_0 rfl 8 (by decide) (hts _ (kS1 _ m_K_55)) (fun _ h9 => h9) rfl d_K_make_119 ?_
    refine lv_iconst (v := 1) hx hb d_K_make_122 (by decide) ?_
    refine lv_iadd hx hb d_K_make_123 ?_
    refine va_put (D := D) (ci := 0) (v := .int ((f 8) + 1)) (ty := .int) (C := R_K) (T := F_K) (N := 12) hx hb hts (fun w h => kS1 w (i_K w h)) tt_K tt_K_ok n_K hown hK hP hD hS 0 gw_0 rfl 8 (by decide) (hts _ (kS1 _ m_K_55)) (fun _ h9 => h9) rfl (by decide +kernel) rfl rfl (Nat.le_of_ble_eq_true rfl) d_K_make_124 (fun H locs hP hD hS => ?_)
    have hP := kw_P (gw_sK8 (v := (f 8) + 1)) hP
    have hD := kw_D (gw_sK8 (v := (f 8) + 1)) hD
    refine lv_iload_n hx hb d_K_make_127 rfl (lv_at hl 0 rfl) ?_
    have hu : (gW (n + 1) ty ad2 (upd (upd f 7 ((f 7) + 1)) 8 ((f 8) + 1)) (va_up th n true) rt qu b w (va_up T n (kd, 0, -1, q, nf q)) g a o : va_W) = gW (n + 1) ty ad2 (upd (upd f 7 (f 7 + 1)) 8 (f 8 + 1)) (va_up th n true) rt qu b w (va_up T n (kd, 0, -1, q, nf q)) g a o := rfl
    exact W.iret (v := f 7) hx hb hr (fun t ht hW => ⟨⟨_, _, rfl, ⟨hf7, ad2, hA22, hu⟩, by rw [ht]; exact hP, va_K.moved hW.alike hK, hD⟩, hS.F ht⟩) hS.2.2 d_K_make_128
  · refine lv_iload_n hx hb d_K_make_44 rfl (lv_at hl 2 rfl) ?_
    refine lv_if_ne (tgt := 58) hx hb d_K_make_45 (by decide) (fun c_45 => ?_) (fun c_45 => absurd c_45 (fun h9 => h5 ⟨c_41, h9⟩))
    refine lv_aload_n hx hb d_K_make_58 rfl (lv_at hl 0 rfl) ?_
    refine va_get (D := D) (ci := 0) (v := .int (f 7)) (C := R_K) (T := F_K) (N := 12) hx hb hts (fun w h => kS1 w (i_K w h)) hown hK hP 0 gw_0 rfl 7 (by decide) (hts _ (kS1 _ m_K_43)) (fun _ h9 => h9) rfl d_K_make_59 ?_
    refine lv_if_lt (tgt := 77) hx hb d_K_make_62 (by decide) (fun c_62 => absurd c_62 (by rw [hf7]; exact nI_pos (by omega))) (fun c_62 => ?_)
    refine lv_aload_n hx hb d_K_make_65 rfl (lv_at hl 0 rfl) ?_
    refine va_get (D := D) (ci := 0) (v := .int (f 7)) (C := R_K) (T := F_K) (N := 12) hx hb hts (fun w h => kS1 w (i_K w h)) hown hK hP 0 gw_0 rfl 7 (by decide) (hts _ (kS1 _ m_K_43)) (fun _ h9 => h9) rfl d_K_make_66 ?_
    refine lv_aload_n hx hb d_K_make_69 rfl (lv_at hl 0 rfl) ?_
    refine va_get (D := D) (ci := 0) (v := .ref (ad 1)) (C := R_K) (T := F_K) (N := 12) hx hb hts (fun w h => kS1 w (i_K w h)) hown hK hP 0 gw_0 rfl 0 (by decide) (hts _ (kS1 _ m_K_11)) (fun _ h9 => h9) rfl d_K_make_70 ?_
    refine va_alen (v := 300) hx hb hK hP 1 2 gw_1 rfl rfl d_K_make_73 ?_
    refine lv_icmp_lt (tgt := 87) hx hb d_K_make_74 (by decide) (fun c_74 => ?_) (fun c_74 => absurd (by rw [hf7]; exact l300 hn3) c_74)
    refine lv_aload_n hx hb d_K_make_87 rfl (lv_at hl 0 rfl) ?_
    refine va_get (D := D) (ci := 0) (v := .int (f 7)) (C := R_K) (T := F_K) (N := 12) hx hb hts (fun w h => kS1 w (i_K w h)) hown hK hP 0 gw_0 rfl 7 (by decide) (hts _ (kS1 _ m_K_43)) (fun _ h9 => h9) rfl d_K_make_88 ?_
    refine lv_istore_n (lv' := [(3, .int (f 7)), (0, .ref (ad 0)), (1, .int kd), (2, .int (nI q))]) hx hb d_K_make_91 rfl hl (by decide) rfl (fun ls hl => ?_)
    refine lv_aload_n hx hb d_K_make_92 rfl (lv_at hl 1 rfl) ?_
    refine va_get (D := D) (ci := 0) (v := .ref (ad 1)) (C := R_K) (T := F_K) (N := 12) hx hb hts (fun w h => kS1 w (i_K w h)) hown hK hP 0 gw_0 rfl 0 (by decide) (hts _ (kS1 _ m_K_11)) (fun _ h9 => h9) rfl d_K_make_93 ?_
    refine lv_iload_n hx hb d_K_make_96 rfl (lv_at hl 0 rfl) ?_
    refine va_new (ci := 2) (fs := [.null, .int 0, .int 0, .int 0]) (C := R_T) (T := F_T) (N := 4) hx hb hts (fun w h => kS1 w (i_T w h)) tt_T tt_T_ok hown (hts _ (kS1 _ m_K_9)) (hts _ (kS1 _ m_ins_T)) (hts _ (kS1 _ m_ini_T)) hK hP hD hS hA rfl (fun j hj => by rcases (show j = 0 ∨ j = 1 ∨ j = 2 ∨ j = 3 by omega) with rfl | rfl | rfl | rfl <;> rfl) (Nat.le_of_ble_eq_true rfl) (Nat.le_of_ble_eq_true rfl) d_K_make_97 (fun q9 H hP hD hS => ?_)
    refine lv_dup hx hb d_K_make_100 rfl ?_
    refine lv_iload_n hx hb d_K_make_101 rfl (lv_at hl 2 rfl) ?_
    refine lv_iload_n hx hb d_K_make_102 rfl (lv_at hl 3 rfl) ?_
    have hPx := va_lastP hP
    have hDx := va_lastD hD
    refine k_ctor (ws := gW n ty ad f th rt qu b w T g a o) (x := (q9, .inr (2, [.null, .int 0, .int 0, .int 0]))) (va_runI (As := [.int kd, .int (nI q)]) (rest := [.ref q9, .int (f 7), .ref (ad 1)]) ⟨hx, hb, hml, hown, hts⟩ (c_T_init l D ty ad _ q9 kd q hq) (cwI 2 hts (kG kS1 m_code_T_init) rfl rfl rfl (hts _ (kS1 _ m_ini_T)) (hts _ (kS1 _ m_K_52)) (hts _ (kS1 _ m_im_T_init)) rfl (by decide +kernel) ⟨Nat.le_of_ble_eq_true rfl, Nat.le_of_ble_eq_true rfl⟩) ⟨kP_blind, fun U hU hW => ⟨rfl, kP_at hK hPx hDx U hU hW⟩⟩ rfl rfl hl.1 rfl (lv_room (Nat.le_of_ble_eq_true rfl)) d_K_make_103 ⟨Nat.le_of_ble_eq_true rfl, Nat.le_of_ble_eq_true rfl⟩) hP hD hS hA (fun u H locs hu hP hD hS hz => ?_)
    obtain ⟨q8, rfl⟩ := hu
    have hP := kw_P (gw_grow (t := (kd, 0, -1, q, nf q)) hn) hP
    have hD := kw_D (gw_grow (t := (kd, 0, -1, q, nf q)) hn) hD
    obtain ⟨ad2, hA2⟩ : ∃ z, z = va_up (va_up ad (22 + 2 * n) q9) (23 + 2 * n) q8 := ⟨_, rfl⟩
    rw [← hA2] at hP hD
    have hA22 : ∀ i, i < 22 → ad2 i = ad i := fun i hi => by rw [hA2, va_up_n (by omega), va_up_n (by omega)]
    have e9 : ad2 (22 + 2 * n) = q9 := by rw [hA2, va_up_n (by omega), va_up_s]
    rw [← hA22 1 (by omega), ← e9]
    rw [← hA22 0 (by omega)] at hl
    refine va_astq hx hb hK hP hD hS 1 2 (22 + 2 * n) 2 gw_1 rfl (gw_T (k := n) (by omega)) rfl (by rw [hf7]; exact vp_in_nI hn3 (by omega)) d_K_make_106 (fun H locs hP hD hS => ?_)
    rw [hf7, nI_clamp (by omega)] at hP hD
    have hP := kw_P (gw_sthS (i := n)) hP
    have hD := kw_D (gw_sthS (i := n)) hD
    refine lv_aload_n hx hb d_K_make_107 rfl (lv_at hl 1 rfl) ?_
    refine lv_dup hx hb d_K_make_108 rfl ?_
    refine va_get (D := D) (ci := 0) (v := .int (f 7)) (C := R_K) (T := F_K) (N := 12) hx hb hts (fun w h => kS1 w (i_K w h)) hown hK hP 0 gw_0 rfl 7 (by decide) (hts _ (kS1 _ m_K_43)) (fun _ h9 => h9) rfl d_K_make_109 ?_
    refine lv_iconst (v := 1) hx hb d_K_make_112 (by decide) ?_
    refine lv_iadd hx hb d_K_make_113 ?_
    refine va_put (D := D) (ci := 0) (v := .int ((f 7) + 1)) (ty := .int) (C := R_K) (T := F_K) (N := 12) hx hb hts (fun w h => kS1 w (i_K w h)) tt_K tt_K_ok n_K hown hK hP hD hS 0 gw_0 rfl 7 (by decide) (hts _ (kS1 _ m_K_43)) (fun _ h9 => h9) rfl (by decide +kernel) rfl rfl (Nat.le_of_ble_eq_true rfl) d_K_make_114 (fun H locs hP hD hS => ?_)
    have hP := kw_P (gw_sK7 (v := (f 7) + 1)) hP
    have hD := kw_D (gw_sK7 (v := (f 7) + 1)) hD
    refine lv_aload_n hx hb d_K_make_117 rfl (lv_at hl 1 rfl) ?_
    refine lv_dup hx hb d_K_make_118 rfl ?_
    refine va_get (D := D) (ci := 0) (v := .int (f 8)) (C := R_K) (T := F_K) (N := 12) hx hb hts (fun w h => kS1 w (i_K w h)) hown hK hP 0 gw_0 rfl 8 (by decide) (hts _ (kS1 _ m_K_55)) (fun _ h9 => h9) rfl d_K_make_119 ?_
    refine lv_iconst (v := 1) hx hb d_K_make_122 (by decide) ?_
    refine lv_iadd hx hb d_K_make_123 ?_
    refine va_put (D := D) (ci := 0) (v := .int ((f 8) + 1)) (ty := .int) (C := R_K) (T := F_K) (N := 12) hx hb hts (fun w h => kS1 w (i_K w h)) tt_K tt_K_ok n_K hown hK hP hD hS 0 gw_0 rfl 8 (by decide) (hts _ (kS1 _ m_K_55)) (fun _ h9 => h9) rfl (by decide +kernel) rfl rfl (Nat.le_of_ble_eq_true rfl) d_K_make_124 (fun H locs hP hD hS => ?_)
    have hP := kw_P (gw_sK8 (v := (f 8) + 1)) hP
    have hD := kw_D (gw_sK8 (v := (f 8) + 1)) hD
    refine lv_iload_n hx hb d_K_make_127 rfl (lv_at hl 0 rfl) ?_
    have hu : (gW (n + 1) ty ad2 (upd (upd f 7 ((f 7) + 1)) 8 ((f 8) + 1)) (va_up th n true) rt qu b w (va_up T n (kd, 0, -1, q, nf q)) g a o : va_W) = gW (n + 1) ty ad2 (upd (upd f 7 (f 7 + 1)) 8 (f 8 + 1)) (va_up th n true) rt qu b w (va_up T n (kd, 0, -1, q, nf q)) g a o := rfl
    exact W.iret (v := f 7) hx hb hr (fun t ht hW => ⟨⟨_, _, rfl, ⟨hf7, ad2, hA22, hu⟩, by rw [ht]; exact hP, va_K.moved hW.alike hK, hD⟩, hS.F ht⟩) hS.2.2 d_K_make_128
