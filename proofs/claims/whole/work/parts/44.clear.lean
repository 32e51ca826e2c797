/-! Part 44: clear side by side. -/
section INV5
variable {n s e : Nat} {f : Nat → Int32} {th : Nat → Bool} {rt qu : Nat → Int32} {T : Nat → TH} {g : Nat → Int32} {a : Nat → Nat → Int32}
/-- one goes into the queue -/
theorem Inv.put (h : Inv n s e f th rt qu T g a) {i : Nat} (hi : th i = true) (h2 : (T i).2.1 = 0) :
    e < 300 ∧ Inv n s (e + 1) (upd f 4 (f 4 + 1)) th rt (upd qu e (nI i)) (va_up T i ((T i).1, 1, (T i).2.2.1, (T i).2.2.2)) (upd g 9 (g 9 + 1)) (va_up (va_up a 7 (upd (a 7) i 1)) 10 (upd (a 10) (e - s) (nI i))) := by
  have hin := h.hn i hi
  have hn3 := h.n3
  have hec := h.ec
  have hse := h.se
  have hlt : cn (fun k => (T k).2.1 != 0) n < n := cn_lt hin (by simp [h2])
  refine ⟨by omega, ?_⟩
  generalize hT2 : va_up T i ((T i).1, 1, (T i).2.2.1, (T i).2.2.2) = T2
  have hs : T2 i = ((T i).1, 1, (T i).2.2.1, (T i).2.2.2) := by rw [← hT2, va_up_s]
  have ho : ∀ k, k ≠ i → T2 k = T k := fun k hk => by rw [← hT2, va_up_n hk]
  have e1 : ∀ k, (T2 k).1 = (T k).1 ∧ (T2 k).2.2 = (T k).2.2 := fun k => by
    by_cases hk : k = i
    · subst hk; rw [hs]; exact ⟨rfl, rfl⟩
    · rw [ho k hk]; exact ⟨rfl, rfl⟩
  refine ⟨h.n3, h.f7, h.g1, h.hn, h.a2, fun k hk => by rw [(e1 k).1]; exact h.a3 k hk, fun k hk => by rw [(e1 k).2]; exact h.a4 k hk, fun k => by rw [(e1 k).2]; exact h.l12 k, fun k hk => by rw [(e1 k).2]; exact h.a5 k hk, h.a5z, h.hF, fun k hk => by rw [(e1 k).2]; exact h.a6 k hk, h.a6z, ?_, ?_, fun k hk => by rw [(e1 k).1, (e1 k).2]; exact h.w1 k hk, h.rts, h.rok, h.f3, ?_, by omega, ?_, ?_, ?_, ?_, fun k hk => by rw [(e1 k).2]; exact h.fok k hk, h.f8, h.f9, h.f11⟩
  · intro k hk
    show upd (a 7) i 1 k = _
    by_cases hki : k = i
    · subst hki; rw [pk_us, hs]
    · rw [pk_un hki, ho k hki]; exact h.a7 k hk
  · intro k hk
    show upd (a 7) i 1 k = 0
    rw [pk_un (by omega)]; exact h.a7z k hk
  · show f 4 + 1 = _
    rw [h.f4, nI_1]
  · have : cn (fun k => (T2 k).2.1 != 0) n = cn (fun k => (T k).2.1 != 0) n + 1 := cn_up (k := i) hin (by simp [h2]) (by rw [hs]; rfl) (fun j _ hj => by rw [ho j hj])
    omega
  · show g 9 + 1 = _
    rw [h.g9, nI_1]
    congr 1; omega
  · intro k hk
    show upd (a 10) (e - s) (nI i) k = upd qu e (nI i) (s + k)
    by_cases hke : k = e - s
    · rw [hke, pk_us, show s + (e - s) = e by omega, pk_us]
    · rw [pk_un hke, pk_un (by omega)]; exact h.a10 k (by omega)
  · intro k hk
    by_cases hke : k = e - s
    · exact ⟨i, hi, by rw [hke, show s + (e - s) = e by omega, pk_us]⟩
    · rw [pk_un (by omega)]; exact h.qok k (by omega)
theorem Inv.forg (h : Inv n s e f th rt qu T g a) : Inv n s e (upd f 9 (f 9 + 1)) th rt qu T (upd g 12 (g 12 + 1)) a :=
  ⟨h.n3, h.f7, h.g1, h.hn, h.a2, h.a3, h.a4, h.l12, h.a5, h.a5z, h.hF, h.a6, h.a6z, h.a7, h.a7z, h.w1, h.rts, h.rok, h.f3, h.f4, h.se, h.ec, h.g9, h.a10, h.qok, h.fok, h.f8, by show f 9 + 1 = g 12 + 1; rw [h.f9], h.f11⟩
/-- the queueing loops, step by step -/
theorem U_step {b : SR} {c : Int32} {A14 : Nat → Int32} {i : Nat} (h : Inv n s e f th rt qu T g a) (hin : i < n) (h14 : a 14 = A14) (hb : ¬ sHas b (nI i) = 0 ↔ ¬ A14 i = 0) :
    ∃ e', e ≤ e' ∧ Inv n s e' (qU th b i (qu, f, T, c)).2.1 th rt (qU th b i (qu, f, T, c)).1 (qU th b i (qu, f, T, c)).2.2.1 (mU i (a, g)).2 (mU i (a, g)).1 ∧ (qU th b i (qu, f, T, c)).2.2.2 = c + nI (e' - e) ∧ (mU i (a, g)).1 14 = A14 ∧ (mU i (a, g)).1 15 = upd (a 15) i (vp_nar .boolean (A14 i)) ∧ (qU th b i (qu, f, T, c)).2.1 10 = f 10 ∧ (mU i (a, g)).2 11 = g 11 := by
  have hsk : qU th b i (qu, f, T, c) = (qu, f, T, c) → mU i (a, g) = (va_up a 15 (upd (a 15) i (vp_nar .boolean (a 14 i))), g) → ∃ e', e ≤ e' ∧ Inv n s e' (qU th b i (qu, f, T, c)).2.1 th rt (qU th b i (qu, f, T, c)).1 (qU th b i (qu, f, T, c)).2.2.1 (mU i (a, g)).2 (mU i (a, g)).1 ∧ (qU th b i (qu, f, T, c)).2.2.2 = c + nI (e' - e) ∧ (mU i (a, g)).1 14 = A14 ∧ (mU i (a, g)).1 15 = upd (a 15) i (vp_nar .boolean (A14 i)) ∧ (qU th b i (qu, f, T, c)).2.1 10 = f 10 ∧ (mU i (a, g)).2 11 = g 11 := by
    intro q1 q2
    rw [q1, q2]
    refine ⟨e, Nat.le_refl _, h, ?_, h14, ?_, rfl, rfl⟩
    · show c = c + nI (e - e)
      rw [Nat.sub_self, nI_0, Int32.add_zero]
    · show va_up a 15 (upd (a 15) i (vp_nar .boolean (a 14 i))) 15 = upd (a 15) i (vp_nar .boolean (A14 i))
      rw [va_up_s, h14]
  have ha2 := h.a2t hin
  have ha3 := h.a3 i hin
  have ha7 := h.a7 i hin
  by_cases t1 : th i = true
  · have t2 : ¬ a 2 i = 0 := ha2.mpr t1
    by_cases t3 : (T i).1 = 2
    · by_cases t4 : (T i).2.1 = 0
      · have hw : ¬ tWait (T i).1 (T i).2.1 = 0 := by unfold tWait; rw [if_pos t3, if_pos t4]; decide
        by_cases t5 : sHas b (nI i) = 0
        · have t6 : a 14 i = 0 := by rw [h14]; exact Classical.byContradiction (fun z => hb.mpr z t5)
          obtain ⟨he3, hI⟩ := h.put t1 t4
          have q1 : qU th b i (qu, f, T, c) = (upd qu e (nI i), upd f 4 (f 4 + 1), va_up T i ((T i).1, 1, (T i).2.2.1, (T i).2.2.2), c + 1) := by
            have hk : kPut qu f T i (nI i) = (upd qu e (nI i), upd f 4 (f 4 + 1), va_up T i ((T i).1, 1, (T i).2.2.1, (T i).2.2.2)) := by
              unfold kPut
              rw [h.f4, if_neg (nI_pos (by omega)), if_pos (l300 he3), nI_clamp (by omega)]
            unfold qU
            simp only [hk]
            rw [if_pos t1, if_neg hw, if_pos t5]
          have q2 : mU i (a, g) = (va_up (va_up (va_up a 15 (upd (a 15) i (vp_nar .boolean (a 14 i)))) 7 (upd (a 7) i 1)) 10 (upd (a 10) (e - s) (nI i)), upd g 9 (g 9 + 1)) := by
            unfold mU
            dsimp only
            rw [if_neg t2, if_pos (by rw [ha3]; exact t3), if_pos (by rw [ha7]; exact t4), if_pos t6, h.g9, nI_clamp (by omega)]
          rw [q1, q2]
          refine ⟨e + 1, by omega, hI, ?_, h14, ?_, rfl, rfl⟩
          · show c + 1 = c + nI (e + 1 - e)
            rw [show e + 1 - e = 1 by omega]; rfl
          · show upd (a 15) i (vp_nar .boolean (a 14 i)) = _
            rw [h14]
        · have t6 : ¬ a 14 i = 0 := by rw [h14]; exact hb.mp t5
          exact hsk (by unfold qU; dsimp only; rw [if_pos t1, if_neg hw, if_neg t5]) (by unfold mU; dsimp only; rw [if_neg t2, if_pos (by rw [ha3]; exact t3), if_pos (by rw [ha7]; exact t4), if_neg t6])
      · exact hsk (by unfold qU tWait; dsimp only; rw [if_pos t1, if_pos t3, if_neg t4, if_pos rfl]) (by unfold mU; dsimp only; rw [if_neg t2, if_pos (by rw [ha3]; exact t3), if_neg (by rw [ha7]; exact t4)])
    · exact hsk (by unfold qU tWait; dsimp only; rw [if_pos t1, if_neg t3, if_pos rfl]) (by unfold mU; dsimp only; rw [if_neg t2, if_neg (by rw [ha3]; exact t3)])
  · have t2 : a 2 i = 0 := Classical.byContradiction (fun z => t1 (ha2.mp z))
    exact hsk (by unfold qU; dsimp only; rw [if_neg t1]) (by unfold mU; dsimp only; rw [if_pos t2])
theorem U_loop {b : SR} {A14 : Nat → Int32} (h : Inv n s e f th rt qu T g a) (h14 : a 14 = A14) (hb : ∀ i, i < n → (¬ sHas b (nI i) = 0 ↔ ¬ A14 i = 0)) : ∀ m, m ≤ n →
    ∃ e', e ≤ e' ∧ Inv n s e' (it (qU th b) m (qu, f, T, 0)).2.1 th rt (it (qU th b) m (qu, f, T, 0)).1 (it (qU th b) m (qu, f, T, 0)).2.2.1 (it mU m (a, g)).2 (it mU m (a, g)).1 ∧ (it (qU th b) m (qu, f, T, 0)).2.2.2 = nI (e' - e) ∧ (it mU m (a, g)).1 14 = A14 ∧ (∀ j, j < m → (it mU m (a, g)).1 15 j = vp_nar .boolean (A14 j)) ∧ (it (qU th b) m (qu, f, T, 0)).2.1 10 = f 10 ∧ (it mU m (a, g)).2 11 = g 11 := by
  intro m
  induction m with
  | zero => intro _; exact ⟨e, Nat.le_refl _, h, by show (0 : Int32) = nI (e - e); rw [Nat.sub_self, nI_0], h14, fun j hj => absurd hj (by omega), rfl, rfl⟩
  | succ m ih =>
    intro hm
    obtain ⟨e1, he1, hI, hc, i14, i15, i10, i11⟩ := ih (by omega)
    rw [it_s, it_s]
    generalize it (qU th b) m (qu, f, T, 0) = X at hI hc i10 ⊢
    generalize it mU m (a, g) = Y at hI i14 i15 i11 ⊢
    obtain ⟨x1, x2, x3, x4⟩ := X
    obtain ⟨y1, y2⟩ := Y
    obtain ⟨e2, he2, hI2, hc2, j14, j15, j10, j11⟩ := U_step (b := b) (c := x4) hI (show m < n by omega) i14 (hb m (by omega))
    refine ⟨e2, by omega, hI2, ?_, j14, ?_, j10.trans i10, j11.trans i11⟩
    · rw [hc2, show x4 = nI (e1 - e) from hc, nI_add]
      congr 1; omega
    · intro j hj
      rw [j15]
      by_cases hjm : j = m
      · subst hjm; rw [pk_us]
      · rw [pk_un hjm]; exact i15 j (by omega)
/-- the forgetting loops, step by step -/
theorem V_step {b w : SR} {A14 A15 : Nat → Int32} {i : Nat} (h : Inv n s e f th rt qu T g a) (hin : i < n) (h14 : a 14 = A14) (h15 : a 15 = A15) (hw : ¬ sHas w (nI i) = 0 ↔ ¬ A14 i = 0) (hwt : ¬ sHas w (nI i) = 0 → th i = true) (hb : ∀ o, o < n → (¬ sHas b (nI o) = 0 ↔ ¬ A15 o = 0)) :
    Inv n s e (fU th b w i (T, f)).2 th rt qu (fU th b w i (T, f)).1 (mV i (a, g)).2 (mV i (a, g)).1 ∧ (mV i (a, g)).1 14 = A14 ∧ (mV i (a, g)).1 15 = A15 ∧ (fU th b w i (T, f)).2 10 = f 10 ∧ (mV i (a, g)).2 11 = g 11 ∧ (mV i (a, g)).2 9 = g 9 := by
  have hsk : fU th b w i (T, f) = (T, f) → mV i (a, g) = (a, g) → Inv n s e (fU th b w i (T, f)).2 th rt qu (fU th b w i (T, f)).1 (mV i (a, g)).2 (mV i (a, g)).1 ∧ (mV i (a, g)).1 14 = A14 ∧ (mV i (a, g)).1 15 = A15 ∧ (fU th b w i (T, f)).2 10 = f 10 ∧ (mV i (a, g)).2 11 = g 11 ∧ (mV i (a, g)).2 9 = g 9 := by
    intro q1 q2
    rw [q1, q2]
    exact ⟨h, h14, h15, rfl, rfl, rfl⟩
  have hn3 := h.n3
  by_cases t1 : sHas w (nI i) = 0
  · have t2 : a 14 i = 0 := by rw [h14]; exact Classical.byContradiction (fun z => hw.mpr z t1)
    refine hsk ?_ (by unfold mV; dsimp only; rw [if_pos t2])
    unfold fU
    dsimp only
    by_cases q1 : th i = true
    · rw [if_pos q1]
      by_cases q2 : tHasW (T i).1 (T i).2.2.2.1 = 0
      · rw [if_pos q2]
      · rw [if_neg q2, if_pos t1]
    · rw [if_neg q1]
  · have t2 : ¬ a 14 i = 0 := by rw [h14]; exact hw.mp t1
    have t3 := hwt t1
    have ha3 := h.a3 i hin
    by_cases t4 : (T i).1 = 1
    · have hl := h.w1 i hin t4
      have h12 := h.l12 i
      have q2 : ¬ tHasW (T i).1 (T i).2.2.2.1 = 0 := by
        unfold tHasW
        rw [if_pos t4, show (0 : Int32) = nI 0 from nI_0.symm, tHasF_t hl (by omega)]
        decide
      have h5 := h.a5 i hin 0 hl
      rw [Nat.add_zero] at h5
      rcases h.fok i t3 0 hl with t5 | ⟨o, ho, t5⟩
      · refine hsk (by unfold fU; dsimp only; rw [if_pos t3, if_neg q2, if_neg t1, if_pos t5]) ?_
        unfold mV; dsimp only
        rw [if_neg t2, if_pos (by rw [ha3]; exact t4), if_pos (by rw [h5, t5]; decide)]
      · have ho3 := h.th3 ho
        have q3 : ¬ (T i).2.2.2.2 0 = -1 := by rw [t5]; exact nI_m1 (by omega)
        have q4 : ¬ a 5 (12 * i) ≤ 0 := by rw [h5, t5, nI_1]; exact nI_nle (by omega) (by omega)
        have q5 : (a 5 (12 * i) - 1).toNatClampNeg = o := by rw [h5, p_as, t5, nI_clamp (by omega)]
        by_cases t6 : sHas b (nI o) = 0
        · have t7 : a 15 o = 0 := by rw [h15]; exact Classical.byContradiction (fun z => (hb o (h.hn o ho)).mpr z t6)
          have e1 : fU th b w i (T, f) = (va_up T i ((T i).1, (T i).2.1, (T i).2.2.1, (T i).2.2.2.1, upd (T i).2.2.2.2 0 (-1)), upd f 9 (f 9 + 1)) := by
            unfold fU; dsimp only
            rw [if_pos t3, if_neg q2, if_neg t1, if_neg q3, t5, if_pos t6]
          have e2 : mV i (a, g) = (va_up a 5 (upd (a 5) (12 * i) 0), upd g 12 (g 12 + 1)) := by
            unfold mV; dsimp only
            rw [if_neg t2, if_pos (by rw [ha3]; exact t4), if_neg q4, q5, if_pos t7]
          rw [e1, e2]
          have hI := (h.setF (j := 0) (x := -1) t3 hl (Or.inl rfl) (g 0)).forg
          rw [p_m1, Nat.add_zero] at hI
          exact ⟨hI, h14, h15, rfl, rfl, rfl⟩
        · have t7 : ¬ a 15 o = 0 := by rw [h15]; exact (hb o (h.hn o ho)).mp t6
          refine hsk (by unfold fU; dsimp only; rw [if_pos t3, if_neg q2, if_neg t1, if_neg q3, t5, if_neg t6]) ?_
          unfold mV; dsimp only
          rw [if_neg t2, if_pos (by rw [ha3]; exact t4), if_neg q4, q5, if_neg t7]
    · refine hsk ?_ (by unfold mV; dsimp only; rw [if_neg t2, if_neg (by rw [ha3]; exact t4)])
      unfold fU tHasW; dsimp only
      rw [if_pos t3, if_neg t4, if_pos rfl]
theorem V_loop {b w : SR} {A14 A15 : Nat → Int32} (h : Inv n s e f th rt qu T g a) (h14 : a 14 = A14) (h15 : a 15 = A15) (hw : ∀ i, i < n → (¬ sHas w (nI i) = 0 ↔ ¬ A14 i = 0)) (hwt : ∀ i, i < n → ¬ sHas w (nI i) = 0 → th i = true) (hb : ∀ o, o < n → (¬ sHas b (nI o) = 0 ↔ ¬ A15 o = 0)) : ∀ m, m ≤ n →
    Inv n s e (it (fU th b w) m (T, f)).2 th rt qu (it (fU th b w) m (T, f)).1 (it mV m (a, g)).2 (it mV m (a, g)).1 ∧ (it mV m (a, g)).1 14 = A14 ∧ (it mV m (a, g)).1 15 = A15 ∧ (it (fU th b w) m (T, f)).2 10 = f 10 ∧ (it mV m (a, g)).2 11 = g 11 ∧ (it mV m (a, g)).2 9 = g 9 := by
  intro m
  induction m with
  | zero => intro _; exact ⟨h, h14, h15, rfl, rfl, rfl⟩
  | succ m ih =>
    intro hm
    obtain ⟨hI, i14, i15, i10, i11, i9⟩ := ih (by omega)
    rw [it_s, it_s]
    generalize it (fU th b w) m (T, f) = X at hI i10 ⊢
    generalize it mV m (a, g) = Y at hI i14 i15 i11 i9 ⊢
    obtain ⟨x1, x2⟩ := X
    obtain ⟨y1, y2⟩ := Y
    obtain ⟨hI2, j14, j15, j10, j11, j9⟩ := V_step (b := b) (w := w) hI (show m < n by omega) i14 i15 (hw m (by omega)) (hwt m (by omega)) hb
    exact ⟨hI2, j14, j15, j10.trans i10, j11.trans i11, j9.trans i9⟩
theorem qU_stop {b : SR} (h : ∀ k, th k = true → k < n) (hn3 : n ≤ 300) (X : (Nat → Int32) × (Nat → Int32) × (Nat → TH) × Int32) : it (qU th b) 300 X = it (qU th b) n X :=
  it_stop (fun i y hi => by
    unfold qU
    rw [if_neg (fun z => by have := h i z; omega)]) 300 hn3
theorem fU_stop {b w : SR} (h : ∀ k, th k = true → k < n) (hn3 : n ≤ 300) (X : (Nat → TH) × (Nat → Int32)) : it (fU th b w) 300 X = it (fU th b w) n X :=
  it_stop (fun i y hi => by
    unfold fU
    rw [if_neg (fun z => by have := h i z; omega)]) 300 hn3
theorem Inv.clear (h : Inv n s e f th rt qu T g a) (hc : f 10 = g 11) (b w : SR) {B W : SR} {X : (Nat → Int32) × (Nat → Int32) × (Nat → TH) × Int32} {Y : (Nat → TH) × (Nat → Int32)} {X0 YN : MX} (hB : B = sReach f th rt qu T b) (hX : X = it (qU th B) 300 (qu, f, T, 0)) (hW : W = sReach X.2.1 th rt X.1 X.2.2.1 w) (hY : Y = it (fU th B W) 300 (X.2.2.1, X.2.1))
    (hX0 : X0 = it mU n (va_up a 14 (mD 0 a n (e - s) (a 14)), upd (upd g 0 0) 11 (g 11 + 1))) (hYN : YN = it mV n (va_up X0.1 14 (mD 0 X0.1 n (X0.2 9).toNatClampNeg (X0.1 14)), X0.2)) :
    X.2.2.2 = YN.2 9 - g 9 ∧ ∃ e', Inv n s e' (upd Y.2 10 (Y.2 10 + 1)) th rt X.1 Y.1 YN.2 YN.1 ∧ Y.2 10 + 1 = YN.2 11 := by
  have hn3 := h.n3
  obtain ⟨z1, hS1, hc1⟩ := h.reach b
  rw [← hB] at hS1 hc1
  obtain ⟨m1, -, -, -, -⟩ := h.same hS1 hc1 (a 14)
  have hD := b01_D (kp := 0) (a := a) (n := n) (q := e - s) (fd := a 14)
  generalize mD 0 a n (e - s) (a 14) = FD at m1 hD hX0
  have h' : Inv n s e f th rt qu T (upd (upd g 0 0) 11 (g 11 + 1)) (va_up a 14 FD) := h
  obtain ⟨e1, he1, hI, hcc, i14, i15, i10, i11⟩ := U_loop (b := B) (A14 := FD) h' va_up_s m1 n (Nat.le_refl _)
  rw [qU_stop h.hn hn3] at hX
  rw [← hX, ← hX0] at hI
  rw [← hX] at hcc i10
  rw [← hX0] at i14 i15 i11
  obtain ⟨z2, hS2, hc2⟩ := hI.reach w
  rw [← hW] at hS2 hc2
  obtain ⟨m2, t2, -, -, -⟩ := hI.same hS2 hc2 (X0.1 14)
  have hq : (X0.2 9).toNatClampNeg = e1 - s := by rw [hI.g9, nI_clamp (by have := hI.e3; omega)]
  rw [hq] at hYN
  generalize mD 0 X0.1 n (e1 - s) (X0.1 14) = FD2 at m2 hYN
  have h'' : Inv n s e1 X.2.1 th rt X.1 X.2.2.1 X0.2 (va_up X0.1 14 FD2) := hI
  obtain ⟨hI3, -, -, j10, j11, j9⟩ := V_loop (b := B) (w := W) (A14 := FD2) (A15 := X0.1 15) h'' va_up_s rfl m2 (fun i hi => t2 i (by omega)) (fun o ho => by
    rw [m1 o ho, i15 o ho, nar01 (hD o ho)]) n (Nat.le_refl _)
  rw [fU_stop h.hn hn3] at hY
  rw [← hY, ← hYN] at hI3
  rw [← hY] at j10
  rw [← hYN] at j11 j9
  refine ⟨?_, e1, hI3, ?_⟩
  · rw [hcc, j9, hI.g9, h.g9, pk_sub (by omega)]
    congr 1
    have := h.se
    omega
  · rw [j10, i10, j11, i11]
    show f 10 + 1 = g 11 + 1
    rw [hc]
end INV5
