/-! Part 42: what the searches find is the same; the small calls. -/
theorem it_mC {fd : Nat → Int32} (m : Nat) : it (mC fd) m 0 = nI (cn (fun k => fd k != 0) m) := by
  induction m with
  | zero => simp [it, cn, nI_0]
  | succ m ih =>
    rw [it_s, mC, ih, cn]
    by_cases h : fd m = 0
    · simp [h]
    · rw [if_neg h, nI_1]; simp [h]
section INV3
variable {n s e : Nat} {f : Nat → Int32} {th : Nat → Bool} {rt qu : Nat → Int32} {T : Nat → TH} {g : Nat → Int32} {a : Nat → Nat → Int32}
theorem Inv.find (h : Inv n s e f th rt qu T g a) (kp : Int32) (fd : Nat → Int32) : ∀ k, k < n → (¬ mD kp a n (e - s) fd k = 0 ↔ cl th T kp (sdX kp f rt qu th T) k) := by
  have hD2 : ∀ (F : Nat → Int32) (k : Nat), ¬ it (mD2 a) 16 F k = 0 ↔ ¬ F k = 0 ∨ ∃ i, i < 16 ∧ ¬ a 8 i ≤ 0 ∧ (a 8 i - 1).toNatClampNeg = k := fun F k => itu (C := fun i => ¬ a 8 i ≤ 0) (x := fun i => (a 8 i - 1).toNatClampNeg) (fun i fd => by
    unfold mD2
    by_cases q : a 8 i ≤ 0
    · exact Or.inr ⟨fun r => r q, by rw [if_pos q]⟩
    · exact Or.inl ⟨q, by rw [if_neg q]⟩) 16 k
  have hD3 : ∀ (F : Nat → Int32) (k : Nat), ¬ it (mD3 a) (e - s) F k = 0 ↔ ¬ F k = 0 ∨ ∃ i, i < e - s ∧ True ∧ (a 10 i).toNatClampNeg = k := fun F k => itu (C := fun _ => True) (x := fun i => (a 10 i).toNatClampNeg) (fun i fd => Or.inl ⟨trivial, rfl⟩) (e - s) k
  have hseed : ∀ k, k < n → (¬ it (mD3 a) (e - s) (it (mD2 a) 16 (it (mD1 kp a) n fd)) k = 0 ↔ sdX kp f rt qu th T k) := by
    intro k hk
    have hn3 := h.n3
    rw [hD3, hD2, it_D1, if_pos hk, h.m1w hk]
    constructor
    · rintro ((⟨q1, q2, q3⟩ | ⟨r, hr, q1, q2⟩) | ⟨i, hi, -, q⟩)
      · exact Or.inr ⟨q1, by omega, q2, q3⟩
      · left
        rw [h.rts r hr] at q1 q2
        rcases h.rok r hr with q | ⟨k', hk', q⟩
        · rw [q] at q1; exact absurd (by decide) q1
        · rw [q, nI_1, nI_pred, nI_clamp (by have := h.th3 hk'; omega)] at q2
          subst q2
          exact ⟨by omega, Or.inl ⟨r, hr, q⟩⟩
      · left
        obtain ⟨k', hk', q'⟩ := h.qok i hi
        rw [h.a10 i hi, q', nI_clamp (by have := h.th3 hk'; omega)] at q
        subst q
        exact ⟨by omega, Or.inr ⟨i, by rw [h.sz]; exact hi, by rw [h.qp hi]; exact q'⟩⟩
    · rintro (⟨hk3, ⟨r, hr, q⟩ | ⟨i, hi, q⟩⟩ | ⟨q1, -, q2, q3⟩)
      · left; right
        refine ⟨r, hr, ?_, ?_⟩
        · rw [h.rts r hr, q, nI_1]; exact nI_nle (by omega) (by omega)
        · rw [h.rts r hr, q, nI_1, nI_pred, nI_clamp (by omega)]
      · right
        rw [h.sz] at hi
        rw [h.qp hi] at q
        exact ⟨i, hi, trivial, by rw [h.a10 i hi, q, nI_clamp (by omega)]⟩
      · exact Or.inl (Or.inl ⟨q1, q2, q3⟩)
  intro k hk
  unfold mD
  generalize it (mD3 a) (e - s) (it (mD2 a) 16 (it (mD1 kp a) n fd)) = F3 at hseed ⊢
  obtain ⟨w1, w2, w3⟩ := mW_ok (kp := kp) h.hF h.hL h.n3 301 F3 (by omega)
  constructor
  · intro hR
    exact w2 (fun k => k < n → cl th T kp (sdX kp f rt qu th T) k) (fun k q hk => cl_in ((hseed k hk).mp q)) (fun k o hP hm ho => by
      have hc := hP hm.1
      exact cl_sc hc ((h.ms_sc (h.cl_th hc)).mp hm)) k hR hk
  · intro hc
    exact (hc (fun k => th k = true ∧ ¬ mW kp a n 301 F3 k = 0) (fun k q => ⟨h.sdX_th q, w1 k ((hseed k (h.hn k (h.sdX_th q))).mpr q)⟩) (fun k o ⟨q1, q2⟩ hs => ⟨h.sc_th hs, w3 k o q2 ((h.ms_sc q1).mpr hs)⟩)).2
theorem sHas_k {S : SR} {z k : Nat} (hS : Sv S z) (hk : k < 300) : ¬ sHas S (nI k) = 0 ↔ S.1 k = 1 := by
  unfold sHas
  rw [if_neg (nI_pos (by omega)), if_neg (k300 hk), nI_clamp (by omega)]
  rcases hS.2.2.1 k hk with q | q <;> simp [q]
/-- a search of the keeper and one of the model -/
theorem Inv.same (h : Inv n s e f th rt qu T g a) {S : SR} {z : Nat} {kp : Int32} (hS : Sv S z) (hc : ∀ k, k < 300 → (S.1 k = 1 ↔ cl th T kp (sdX kp f rt qu th T) k)) (fd : Nat → Int32) :
    (∀ k, k < n → (¬ sHas S (nI k) = 0 ↔ ¬ mD kp a n (e - s) fd k = 0)) ∧ (∀ k, k < 300 → ¬ sHas S (nI k) = 0 → th k = true) ∧ S.2.2 = it (mC (mD kp a n (e - s) fd)) n 0 ∧ (∀ k o, k < 300 → ¬ sHas S (nI k) = 0 → sc th T kp k o → ¬ sHas S (nI o) = 0) ∧ ∀ k, k < 300 → sdX kp f rt qu th T k → ¬ sHas S (nI k) = 0 := by
  have hn3 := h.n3
  have h1 : ∀ k, k < n → (¬ sHas S (nI k) = 0 ↔ ¬ mD kp a n (e - s) fd k = 0) := fun k hk => (sHas_k hS (by omega)).trans ((hc k (by omega)).trans (h.find kp fd k hk).symm)
  refine ⟨h1, fun k hk q => h.cl_th ((hc k hk).mp ((sHas_k hS hk).mp q)), ?_, fun k o hk q hs => (sHas_k hS hs.2.1).mpr ((hc o hs.2.1).mpr (cl_sc ((hc k hk).mp ((sHas_k hS hk).mp q)) hs)), fun k hk q => (sHas_k hS hk).mpr ((hc k hk).mpr (cl_in q))⟩
  rw [hS.1, it_mC, hS.2.1]
  congr 1
  rw [cn_ext (n := n) hn3 (fun k hk hk3 => by
    by_cases q : S.1 k = 1
    · have := h.hn k (h.cl_th ((hc k hk3).mp q)); omega
    · simp [q])]
  refine cn_congr (fun k hk => ?_)
  have h2 := (h1 k hk)
  rw [sHas_k hS (by omega)] at h2
  by_cases q : S.1 k = 1
  · have := h2.mp q; simp [q, this]
  · have : mD kp a n (e - s) fd k = 0 := Classical.byContradiction (fun r => q (h2.mpr r))
    simp [q, this]
theorem Inv.reach (h : Inv n s e f th rt qu T g a) (S : SR) : ∃ z, Sv (sReach f th rt qu T S) z ∧ ∀ k, k < 300 → ((sReach f th rt qu T S).1 k = 1 ↔ cl th T 0 (sdX 0 f rt qu th T) k) := by
  obtain ⟨z, h1, h2⟩ := sReach_ok h.fO h.hr h.hq S
  exact ⟨z, h1, fun k hk => (h2 k hk).trans (cl_congr (fun j => ⟨Or.inl, fun q => q.resolve_right (fun r => r.1 rfl)⟩) k)⟩
theorem Inv.kept (h : Inv n s e f th rt qu T g a) (S : SR) : ∃ z, Sv (sKept f th rt qu T S) z ∧ ∀ k, k < 300 → ((sKept f th rt qu T S).1 k = 1 ↔ cl th T 1 (sdX 1 f rt qu th T) k) := by
  obtain ⟨z, h1, h2⟩ := sKept_ok h.fO h.hr h.hq S
  exact ⟨z, h1, fun k hk => (h2 k hk).trans (cl_congr (fun j => ⟨fun q => q.elim Or.inl (fun r => Or.inr ⟨by decide, r⟩), fun q => q.elim Or.inl (fun r => Or.inr r.2)⟩) k)⟩
-- ===== counts =====
theorem kWt_cn (m : Nat) : it (kWt th T) m 0 = nI (cn (fun k => th k && (tWait (T k).1 (T k).2.1 != 0)) m) := by
  induction m with
  | zero => simp [it, cn, nI_0]
  | succ m ih =>
    rw [it_s, kWt, ih, cn]
    by_cases h1 : th m = true
    · by_cases h2 : tWait (T m).1 (T m).2.1 = 0
      · simp [h1, h2]
      · rw [if_pos h1, if_neg h2, nI_1]; simp [h1, h2]
    · simp [h1]
theorem mWt_cn (m : Nat) : it (mWt a) m 0 = nI (cn (fun k => a 2 k != 0 && (tWait (a 3 k) (a 7 k) != 0)) m) := by
  induction m with
  | zero => simp [it, cn, nI_0]
  | succ m ih =>
    rw [it_s, mWt, ih, cn]
    unfold tWait
    by_cases h1 : a 2 m = 0
    · simp [h1]
    · by_cases h2 : a 3 m = 2
      · by_cases h3 : a 7 m = 0
        · rw [if_neg h1, if_pos h2, if_pos h3, nI_1]; simp [h1, h2, h3]
        · simp [h1, h2, h3]
      · simp [h1, h2]
theorem Inv.waiting (h : Inv n s e f th rt qu T g a) : it (kWt th T) 300 0 = it (mWt a) n 0 := by
  rw [kWt_cn, mWt_cn]
  congr 1
  rw [cn_ext (n := n) h.n3 (fun k hk _ => by
    by_cases q : th k = true
    · have := h.hn k q; omega
    · simp [q])]
  refine cn_congr (fun k hk => ?_)
  rw [h.a3 k hk, h.a7 k hk, h.a2 k hk]
  by_cases q : th k = true <;> simp [q]
theorem Inv.many (h : Inv n s e f th rt qu T g a) : f 8 = it (mC (a 2)) n 0 := by
  rw [h.f8, it_mC]
  congr 1
  refine cn_congr (fun k hk => ?_)
  rw [h.a2 k hk]
  by_cases q : th k = true <;> simp [q]
-- ===== the tests =====
theorem Inv.tI (h : Inv n s e f th rt qu T g a) (x : Int32) : ¬ mI g a x = 0 ↔ tOk th x = true := by
  unfold mI
  constructor
  · intro q
    split at q
    · exact absurd rfl q
    · rename_i h0
      split at q
      · exact absurd rfl q
      · rename_i h1
        split at q
        · exact absurd rfl q
        · rename_i h2
          obtain ⟨j, hj, rfl⟩ := nI_of h0
          rw [h.g1] at h1
          have hjn : j < n := by
            rcases Nat.lt_or_ge j n with r | r
            · exact r
            · exact absurd (nI_le r hj) h1
          rw [nI_clamp hj] at h2
          have hn3 := h.n3
          exact tOk_i (by omega) ((h.a2t hjn).mp h2)
  · intro q
    obtain ⟨k, hk, rfl, ht⟩ := tOk_k q
    have hkn := h.hn k ht
    rw [if_neg (nI_pos (by omega)), h.g1, if_neg (nI_ge hkn (by have := h.n3; omega)), nI_clamp (by omega), if_neg ((h.a2t hkn).mpr ht)]
    decide
theorem Inv.tO (h : Inv n s e f th rt qu T g a) (x : Int32) : ¬ mO g a x = 0 ↔ (x = -1 ∨ tOk th x = true) := by
  unfold mO
  by_cases q : x = -1
  · simp [q]
  · rw [if_neg q]
    by_cases r : mI g a x = 0
    · rw [if_pos r]
      exact ⟨fun z => absurd rfl z, fun z => z.elim (fun z => absurd z q) (fun z => absurd r ((h.tI x).mpr z))⟩
    · rw [if_neg r]
      exact ⟨fun _ => Or.inr ((h.tI x).mp r), fun _ => by decide⟩
theorem Inv.tF (h : Inv n s e f th rt qu T g a) (x y : Int32) : ¬ mF g a x y = 0 ↔ (∃ k j, x = nI k ∧ th k = true ∧ y = nI j ∧ j < (T k).2.2.2.1) := by
  unfold mF
  constructor
  · intro q
    split at q
    · exact absurd rfl q
    · rename_i h0
      split at q
      · exact absurd rfl q
      · rename_i h1
        split at q
        · exact absurd rfl q
        · rename_i h2
          obtain ⟨k, hk, rfl, ht⟩ := tOk_k ((h.tI x).mp h0)
          obtain ⟨j, hj, rfl⟩ := nI_of h1
          rw [nI_clamp (by omega), h.a4 k (h.hn k ht)] at h2
          refine ⟨k, j, rfl, ht, rfl, ?_⟩
          rcases Nat.lt_or_ge j (T k).2.2.2.1 with r | r
          · exact r
          · exact absurd (nI_le r hj) h2
  · rintro ⟨k, j, rfl, ht, rfl, hj⟩
    have h12 := h.l12 k
    have hk := h.th3 ht
    rw [if_neg ((h.tI (nI k)).mpr (tOk_i hk ht)), if_neg (nI_pos (by omega)), nI_clamp (by omega), h.a4 k (h.hn k ht), if_neg (nI_ge hj (by omega))]
    decide
theorem tHasF_0 {len : Nat} {y : Int32} (hl : len < 2 ^ 31) : tHasF len y = 0 ↔ ¬ ∃ j, y = nI j ∧ j < len := by
  constructor
  · rintro q ⟨j, rfl, hj⟩
    rw [tHasF_t hj hl] at q
    exact absurd q (by decide)
  · intro q
    unfold tHasF
    split
    · rfl
    · rename_i h0
      split
      · rfl
      · rename_i h1
        obtain ⟨j, hj, rfl⟩ := nI_of h0
        refine absurd ⟨j, rfl, ?_⟩ q
        rcases Nat.lt_or_ge j len with r | r
        · exact r
        · exact absurd (nI_le r hj) h1
-- ===== what the small calls leave =====
theorem Inv.g0 (h : Inv n s e f th rt qu T g a) (t : Int32) : Inv n s e f th rt qu T (upd g 0 t) a := h
theorem Inv.fd (h : Inv n s e f th rt qu T g a) (x : Nat → Int32) : Inv n s e f th rt qu T g (va_up a 14 x) := h
theorem Inv.make (h : Inv n s e f th rt qu T g a) (hn3 : n < 300) {kd : Int32} {q : Nat} (hq : q ≤ 12) (h5 : ¬ (kd = 1 ∧ nI q = 0)) (t : Int32) :
    Inv (n + 1) s e (upd (upd f 7 (f 7 + 1)) 8 (f 8 + 1)) (va_up th n true) rt qu (va_up T n (kd, 0, -1, q, nf q)) (upd (upd g 0 t) 1 (g 1 + 1)) (va_up (va_up (va_up a 2 (upd (a 2) n 1)) 3 (upd (a 3) n kd)) 4 (upd (a 4) n (nI q))) := by
  have hth : ∀ k, th k = true → va_up th n true k = true := fun k hk => by
    rw [va_up_n (by have := h.hn k hk; omega)]; exact hk
  have hTn : ∀ k, k ≠ n → va_up T n (kd, 0, -1, q, nf q) k = T k := fun k hk => va_up_n hk
  have hTs : va_up T n (kd, 0, -1, q, nf q) n = (kd, 0, -1, q, nf q) := va_up_s
  refine ⟨by omega, by show f 7 + 1 = _; rw [h.f7, nI_1], by show g 1 + 1 = _; rw [h.g1, nI_1], ?_, ?_, ?_, ?_, ?_, ?_, ?_, h.hF, ?_, ?_, ?_, ?_, ?_, h.rts, ?_, h.f3, h.f4, h.se, ?_, h.g9, h.a10, ?_, ?_, ?_, h.f9, h.f11⟩
  · intro k hk
    by_cases hkn : k = n
    · omega
    · rw [va_up_n hkn] at hk; have := h.hn k hk; omega
  · intro k hk
    show upd (a 2) n 1 k = _
    by_cases hkn : k = n
    · subst hkn; rw [pk_us, va_up_s]; rfl
    · rw [pk_un hkn, va_up_n hkn]; exact h.a2 k (by omega)
  · intro k hk
    show upd (a 3) n kd k = _
    by_cases hkn : k = n
    · subst hkn; rw [pk_us, hTs]
    · rw [pk_un hkn, hTn k hkn]; exact h.a3 k (by omega)
  · intro k hk
    show upd (a 4) n (nI q) k = _
    by_cases hkn : k = n
    · subst hkn; rw [pk_us, hTs]
    · rw [pk_un hkn, hTn k hkn]; exact h.a4 k (by omega)
  · intro k
    by_cases hkn : k = n
    · subst hkn; rw [hTs]; exact hq
    · rw [hTn k hkn]; exact h.l12 k
  · intro k hk j hj
    by_cases hkn : k = n
    · subst hkn
      rw [hTs] at hj ⊢
      show a 5 (12 * k + j) = nf q j + 1
      rw [h.a5z _ (by omega)]
      have : nf q j = -1 := by unfold nf; rw [if_pos hj]
      rw [this]; decide
    · rw [hTn k hkn] at hj ⊢; exact h.a5 k (by omega) j hj
  · intro i hi; exact h.a5z i (by omega)
  · intro k hk
    by_cases hkn : k = n
    · subst hkn; rw [hTs]; show a 6 k = (-1 : Int32) + 1; rw [h.a6z k (by omega)]; decide
    · rw [hTn k hkn]; exact h.a6 k (by omega)
  · intro k hk; exact h.a6z k (by omega)
  · intro k hk
    by_cases hkn : k = n
    · subst hkn; rw [hTs]; show a 7 k = _; rw [h.a7z k (by omega)]
    · rw [hTn k hkn]; exact h.a7 k (by omega)
  · intro k hk; exact h.a7z k (by omega)
  · intro k hk
    by_cases hkn : k = n
    · subst hkn; rw [hTs]
      intro h1
      show 0 < q
      rcases Nat.eq_zero_or_pos q with r | r
      · exact absurd ⟨h1, by rw [r, nI_0]⟩ h5
      · exact r
    · rw [hTn k hkn]; exact h.w1 k (by omega)
  · intro r hr
    rcases h.rok r hr with q | ⟨k, hk, q⟩
    · exact Or.inl q
    · exact Or.inr ⟨k, hth k hk, q⟩
  · rw [cn]
    have : cn (fun k => (va_up T n (kd, 0, -1, q, nf q) k).2.1 != 0) n = cn (fun k => (T k).2.1 != 0) n := cn_congr (fun k hk => by rw [hTn k (by omega)])
    have := h.ec
    omega
  · intro i hi
    obtain ⟨k, hk, q⟩ := h.qok i hi
    exact ⟨k, hth k hk, q⟩
  · intro k hk j hj
    by_cases hkn : k = n
    · subst hkn
      rw [hTs] at hj ⊢
      left
      show nf q j = -1
      unfold nf; rw [if_pos hj]
    · rw [va_up_n hkn] at hk
      rw [hTn k hkn] at hj ⊢
      rcases h.fok k hk j hj with r | ⟨o, ho, r⟩
      · exact Or.inl r
      · exact Or.inr ⟨o, hth o ho, r⟩
  · show f 8 + 1 = _
    have h1 : cn (va_up th n true) (n + 1) = cn th n + 1 := by
      rw [cn, cn_congr (p := va_up th n true) (q := th) (fun k hk => va_up_n (by omega)), va_up_s]; rfl
    rw [h1, h.f8, nI_1]
theorem Inv.setF (h : Inv n s e f th rt qu T g a) {k j : Nat} {x : Int32} (hk : th k = true) (hj : j < (T k).2.2.2.1) (hx : x = -1 ∨ tOk th x = true) (t : Int32) :
    Inv n s e f th rt qu (va_up T k ((T k).1, (T k).2.1, (T k).2.2.1, (T k).2.2.2.1, upd (T k).2.2.2.2 j x)) (upd g 0 t) (va_up a 5 (upd (a 5) (12 * k + j) (x + 1))) := by
  have hkn := h.hn k hk
  have h12 := h.l12 k
  have hn3 := h.n3
  generalize hT2 : va_up T k ((T k).1, (T k).2.1, (T k).2.2.1, (T k).2.2.2.1, upd (T k).2.2.2.2 j x) = T2
  have hs : T2 k = ((T k).1, (T k).2.1, (T k).2.2.1, (T k).2.2.2.1, upd (T k).2.2.2.2 j x) := by rw [← hT2, va_up_s]
  have ho : ∀ i, i ≠ k → T2 i = T i := fun i hi => by rw [← hT2, va_up_n hi]
  have e1 : ∀ i, (T2 i).1 = (T i).1 ∧ (T2 i).2.1 = (T i).2.1 ∧ (T2 i).2.2.1 = (T i).2.2.1 ∧ (T2 i).2.2.2.1 = (T i).2.2.2.1 := fun i => by
    by_cases hi : i = k
    · subst hi; rw [hs]; exact ⟨rfl, rfl, rfl, rfl⟩
    · rw [ho i hi]; exact ⟨rfl, rfl, rfl, rfl⟩
  have hv : ∃ v, v ≤ 300 ∧ x + 1 = nI v := by
    rcases hx with rfl | hx
    · exact ⟨0, by omega, by decide⟩
    · obtain ⟨o, ho3, rfl, -⟩ := tOk_k hx
      exact ⟨o + 1, by omega, by rw [nI_1]⟩
  refine ⟨h.n3, h.f7, h.g1, h.hn, h.a2, fun i hi => by rw [(e1 i).1]; exact h.a3 i hi, fun i hi => by rw [(e1 i).2.2.2]; exact h.a4 i hi, fun i => by rw [(e1 i).2.2.2]; exact h.l12 i, ?_, ?_, ?_, fun i hi => by rw [(e1 i).2.2.1]; exact h.a6 i hi, h.a6z, fun i hi => by rw [(e1 i).2.1]; exact h.a7 i hi, h.a7z, fun i hi => by rw [(e1 i).1, (e1 i).2.2.2]; exact h.w1 i hi, h.rts, h.rok, h.f3, h.f4, h.se, ?_, h.g9, h.a10, h.qok, ?_, h.f8, h.f9, h.f11⟩
  · intro i hi jj hjj
    rw [(e1 i).2.2.2] at hjj
    show upd (a 5) (12 * k + j) (x + 1) (12 * i + jj) = _
    have hl := h.l12 i
    by_cases hik : i = k
    · subst hik
      rw [hs]
      show _ = upd (T i).2.2.2.2 j x jj + 1
      by_cases hjk : jj = j
      · subst hjk; rw [pk_us, pk_us]
      · rw [pk_un (by omega), pk_un hjk]; exact h.a5 i hi jj hjj
    · rw [pk_un (by omega), ho i hik]; exact h.a5 i hi jj hjj
  · intro i hi
    show upd (a 5) (12 * k + j) (x + 1) i = 0
    rw [pk_un (by omega)]; exact h.a5z i hi
  · intro i hi
    show ∃ v, v ≤ 300 ∧ upd (a 5) (12 * k + j) (x + 1) i = nI v
    by_cases hik : i = 12 * k + j
    · rw [hik, pk_us]; exact hv
    · rw [pk_un hik]; exact h.hF i hi
  · have : cn (fun i => (T2 i).2.1 != 0) n = cn (fun i => (T i).2.1 != 0) n := cn_congr (fun i _ => by rw [(e1 i).2.1])
    rw [this]; exact h.ec
  · intro i hi jj hjj
    rw [(e1 i).2.2.2] at hjj
    by_cases hik : i = k
    · subst hik
      rw [hs]
      show upd (T i).2.2.2.2 j x jj = -1 ∨ ∃ o, th o = true ∧ upd (T i).2.2.2.2 j x jj = nI o
      by_cases hjk : jj = j
      · subst hjk; rw [pk_us]
        rcases hx with hx | hx
        · exact Or.inl hx
        · obtain ⟨o, -, e2, ho2⟩ := tOk_k hx
          exact Or.inr ⟨o, ho2, e2⟩
      · rw [pk_un hjk]; exact h.fok i hi jj hjj
    · rw [ho i hik]; exact h.fok i hi jj hjj
theorem Inv.setR (h : Inv n s e f th rt qu T g a) {r : Nat} {x : Int32} (hx : x = -1 ∨ tOk th x = true) (t : Int32) :
    Inv n s e f th (upd rt r x) qu T (upd g 0 t) (va_up a 8 (upd (a 8) r (x + 1))) := by
  refine ⟨h.n3, h.f7, h.g1, h.hn, h.a2, h.a3, h.a4, h.l12, h.a5, h.a5z, h.hF, h.a6, h.a6z, h.a7, h.a7z, h.w1, ?_, ?_, h.f3, h.f4, h.se, h.ec, h.g9, h.a10, h.qok, h.fok, h.f8, h.f9, h.f11⟩
  · intro i hi
    show upd (a 8) r (x + 1) i = upd rt r x i + 1
    by_cases hir : i = r
    · subst hir; rw [pk_us, pk_us]
    · rw [pk_un hir, pk_un hir]; exact h.rts i hi
  · intro i hi
    by_cases hir : i = r
    · subst hir; rw [pk_us]
      rcases hx with hx | hx
      · exact Or.inl hx
      · obtain ⟨o, -, e2, ho2⟩ := tOk_k hx
        exact Or.inr ⟨o, ho2, e2⟩
    · rw [pk_un hir]; exact h.rok i hi
theorem Inv.ident (h : Inv n s e f th rt qu T g a) {k : Nat} (hk : th k = true) (t : Int32) :
    Inv n s e (upd f 11 (f 11 + 1)) th rt qu (va_up T k ((T k).1, (T k).2.1, f 11, (T k).2.2.2)) (upd (upd g 0 t) 13 (g 13 + 1)) (va_up a 6 (upd (a 6) k (g 13 + 1))) := by
  have hkn := h.hn k hk
  generalize hT2 : va_up T k ((T k).1, (T k).2.1, f 11, (T k).2.2.2) = T2
  have hs : T2 k = ((T k).1, (T k).2.1, f 11, (T k).2.2.2) := by rw [← hT2, va_up_s]
  have ho : ∀ i, i ≠ k → T2 i = T i := fun i hi => by rw [← hT2, va_up_n hi]
  have e1 : ∀ i, (T2 i).1 = (T i).1 ∧ (T2 i).2.1 = (T i).2.1 ∧ (T2 i).2.2.2 = (T i).2.2.2 := fun i => by
    by_cases hi : i = k
    · subst hi; rw [hs]; exact ⟨rfl, rfl, rfl⟩
    · rw [ho i hi]; exact ⟨rfl, rfl, rfl⟩
  refine ⟨h.n3, h.f7, h.g1, h.hn, h.a2, fun i hi => by rw [(e1 i).1]; exact h.a3 i hi, fun i hi => by rw [(e1 i).2.2]; exact h.a4 i hi, fun i => by rw [(e1 i).2.2]; exact h.l12 i, fun i hi => by rw [(e1 i).2.2]; exact h.a5 i hi, h.a5z, h.hF, ?_, ?_, fun i hi => by rw [(e1 i).2.1]; exact h.a7 i hi, h.a7z, fun i hi => by rw [(e1 i).1, (e1 i).2.2]; exact h.w1 i hi, h.rts, h.rok, h.f3, h.f4, h.se, ?_, h.g9, h.a10, h.qok, fun i hi => by rw [(e1 i).2.2]; exact h.fok i hi, h.f8, h.f9, ?_⟩
  · intro i hi
    show upd (a 6) k (g 13 + 1) i = _
    by_cases hik : i = k
    · subst hik; rw [pk_us, hs, ← h.f11]
    · rw [pk_un hik, ho i hik]; exact h.a6 i hi
  · intro i hi
    show upd (a 6) k (g 13 + 1) i = 0
    rw [pk_un (by omega)]; exact h.a6z i hi
  · have : cn (fun i => (T2 i).2.1 != 0) n = cn (fun i => (T i).2.1 != 0) n := cn_congr (fun i _ => by rw [(e1 i).2.1])
    rw [this]; exact h.ec
  · show f 11 + 1 = g 13 + 1
    rw [h.f11]
end INV3
