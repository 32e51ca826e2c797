/-! Part 41: the keeper and the model side by side. -/
theorem p_as (x : Int32) : x + 1 - 1 = x := Int32.add_sub_cancel x 1
theorem p_m1 : (-1 : Int32) + 1 = 0 := by decide
theorem p_a0 {x : Int32} (h : x + 1 = 0) : x = -1 := by
  have := p_as x
  rw [h] at this
  rw [← this]; decide
/-- what holds between two calls -/
def Inv (n s e : Nat) (f : Nat → Int32) (th : Nat → Bool) (rt qu : Nat → Int32) (T : Nat → TH) (g : Nat → Int32) (a : Nat → Nat → Int32) : Prop :=
  (n ≤ 300) ∧
  (f 7 = nI n) ∧
  (g 1 = nI n) ∧
  (∀ k, th k = true → k < n) ∧
  (∀ k, k < n → a 2 k = if th k = true then 1 else 0) ∧
  (∀ k, k < n → a 3 k = (T k).1) ∧
  (∀ k, k < n → a 4 k = nI (T k).2.2.2.1) ∧
  (∀ k, (T k).2.2.2.1 ≤ 12) ∧
  (∀ k, k < n → ∀ j, j < (T k).2.2.2.1 → a 5 (12 * k + j) = (T k).2.2.2.2 j + 1) ∧
  (∀ i, 12 * n ≤ i → a 5 i = 0) ∧
  (∀ i, i < 3600 → ∃ v, v ≤ 300 ∧ a 5 i = nI v) ∧
  (∀ k, k < n → a 6 k = (T k).2.2.1 + 1) ∧
  (∀ k, n ≤ k → a 6 k = 0) ∧
  (∀ k, k < n → a 7 k = (T k).2.1) ∧
  (∀ k, n ≤ k → a 7 k = 0) ∧
  (∀ k, k < n → (T k).1 = 1 → 0 < (T k).2.2.2.1) ∧
  (∀ r, r < 16 → a 8 r = rt r + 1) ∧
  (∀ r, r < 16 → rt r = -1 ∨ ∃ k, th k = true ∧ rt r = nI k) ∧
  (f 3 = nI s) ∧
  (f 4 = nI e) ∧
  (s ≤ e) ∧
  (e ≤ cn (fun k => (T k).2.1 != 0) n) ∧
  (g 9 = nI (e - s)) ∧
  (∀ i, i < e - s → a 10 i = qu (s + i)) ∧
  (∀ i, i < e - s → ∃ k, th k = true ∧ qu (s + i) = nI k) ∧
  (∀ k, th k = true → ∀ j, j < (T k).2.2.2.1 → (T k).2.2.2.2 j = -1 ∨ ∃ o, th o = true ∧ (T k).2.2.2.2 j = nI o) ∧
  (f 8 = nI (cn th n)) ∧
  (f 9 = g 12) ∧
  (f 11 = g 13)
theorem Inv.n3 {n s e : Nat} {f : Nat → Int32} {th : Nat → Bool} {rt qu : Nat → Int32} {T : Nat → TH} {g : Nat → Int32} {a : Nat → Nat → Int32} (h : Inv n s e f th rt qu T g a) : n ≤ 300 := h.1
theorem Inv.f7 {n s e : Nat} {f : Nat → Int32} {th : Nat → Bool} {rt qu : Nat → Int32} {T : Nat → TH} {g : Nat → Int32} {a : Nat → Nat → Int32} (h : Inv n s e f th rt qu T g a) : f 7 = nI n := h.2.1
theorem Inv.g1 {n s e : Nat} {f : Nat → Int32} {th : Nat → Bool} {rt qu : Nat → Int32} {T : Nat → TH} {g : Nat → Int32} {a : Nat → Nat → Int32} (h : Inv n s e f th rt qu T g a) : g 1 = nI n := h.2.2.1
theorem Inv.hn {n s e : Nat} {f : Nat → Int32} {th : Nat → Bool} {rt qu : Nat → Int32} {T : Nat → TH} {g : Nat → Int32} {a : Nat → Nat → Int32} (h : Inv n s e f th rt qu T g a) : ∀ k, th k = true → k < n := h.2.2.2.1
theorem Inv.a2 {n s e : Nat} {f : Nat → Int32} {th : Nat → Bool} {rt qu : Nat → Int32} {T : Nat → TH} {g : Nat → Int32} {a : Nat → Nat → Int32} (h : Inv n s e f th rt qu T g a) : ∀ k, k < n → a 2 k = if th k = true then 1 else 0 := h.2.2.2.2.1
theorem Inv.a3 {n s e : Nat} {f : Nat → Int32} {th : Nat → Bool} {rt qu : Nat → Int32} {T : Nat → TH} {g : Nat → Int32} {a : Nat → Nat → Int32} (h : Inv n s e f th rt qu T g a) : ∀ k, k < n → a 3 k = (T k).1 := h.2.2.2.2.2.1
theorem Inv.a4 {n s e : Nat} {f : Nat → Int32} {th : Nat → Bool} {rt qu : Nat → Int32} {T : Nat → TH} {g : Nat → Int32} {a : Nat → Nat → Int32} (h : Inv n s e f th rt qu T g a) : ∀ k, k < n → a 4 k = nI (T k).2.2.2.1 := h.2.2.2.2.2.2.1
theorem Inv.l12 {n s e : Nat} {f : Nat → Int32} {th : Nat → Bool} {rt qu : Nat → Int32} {T : Nat → TH} {g : Nat → Int32} {a : Nat → Nat → Int32} (h : Inv n s e f th rt qu T g a) : ∀ k, (T k).2.2.2.1 ≤ 12 := h.2.2.2.2.2.2.2.1
theorem Inv.a5 {n s e : Nat} {f : Nat → Int32} {th : Nat → Bool} {rt qu : Nat → Int32} {T : Nat → TH} {g : Nat → Int32} {a : Nat → Nat → Int32} (h : Inv n s e f th rt qu T g a) : ∀ k, k < n → ∀ j, j < (T k).2.2.2.1 → a 5 (12 * k + j) = (T k).2.2.2.2 j + 1 := h.2.2.2.2.2.2.2.2.1
theorem Inv.a5z {n s e : Nat} {f : Nat → Int32} {th : Nat → Bool} {rt qu : Nat → Int32} {T : Nat → TH} {g : Nat → Int32} {a : Nat → Nat → Int32} (h : Inv n s e f th rt qu T g a) : ∀ i, 12 * n ≤ i → a 5 i = 0 := h.2.2.2.2.2.2.2.2.2.1
theorem Inv.hF {n s e : Nat} {f : Nat → Int32} {th : Nat → Bool} {rt qu : Nat → Int32} {T : Nat → TH} {g : Nat → Int32} {a : Nat → Nat → Int32} (h : Inv n s e f th rt qu T g a) : ∀ i, i < 3600 → ∃ v, v ≤ 300 ∧ a 5 i = nI v := h.2.2.2.2.2.2.2.2.2.2.1
theorem Inv.a6 {n s e : Nat} {f : Nat → Int32} {th : Nat → Bool} {rt qu : Nat → Int32} {T : Nat → TH} {g : Nat → Int32} {a : Nat → Nat → Int32} (h : Inv n s e f th rt qu T g a) : ∀ k, k < n → a 6 k = (T k).2.2.1 + 1 := h.2.2.2.2.2.2.2.2.2.2.2.1
theorem Inv.a6z {n s e : Nat} {f : Nat → Int32} {th : Nat → Bool} {rt qu : Nat → Int32} {T : Nat → TH} {g : Nat → Int32} {a : Nat → Nat → Int32} (h : Inv n s e f th rt qu T g a) : ∀ k, n ≤ k → a 6 k = 0 := h.2.2.2.2.2.2.2.2.2.2.2.2.1
theorem Inv.a7 {n s e : Nat} {f : Nat → Int32} {th : Nat → Bool} {rt qu : Nat → Int32} {T : Nat → TH} {g : Nat → Int32} {a : Nat → Nat → Int32} (h : Inv n s e f th rt qu T g a) : ∀ k, k < n → a 7 k = (T k).2.1 := h.2.2.2.2.2.2.2.2.2.2.2.2.2.1
theorem Inv.a7z {n s e : Nat} {f : Nat → Int32} {th : Nat → Bool} {rt qu : Nat → Int32} {T : Nat → TH} {g : Nat → Int32} {a : Nat → Nat → Int32} (h : Inv n s e f th rt qu T g a) : ∀ k, n ≤ k → a 7 k = 0 := h.2.2.2.2.2.2.2.2.2.2.2.2.2.2.1
theorem Inv.w1 {n s e : Nat} {f : Nat → Int32} {th : Nat → Bool} {rt qu : Nat → Int32} {T : Nat → TH} {g : Nat → Int32} {a : Nat → Nat → Int32} (h : Inv n s e f th rt qu T g a) : ∀ k, k < n → (T k).1 = 1 → 0 < (T k).2.2.2.1 := h.2.2.2.2.2.2.2.2.2.2.2.2.2.2.2.1
theorem Inv.rts {n s e : Nat} {f : Nat → Int32} {th : Nat → Bool} {rt qu : Nat → Int32} {T : Nat → TH} {g : Nat → Int32} {a : Nat → Nat → Int32} (h : Inv n s e f th rt qu T g a) : ∀ r, r < 16 → a 8 r = rt r + 1 := h.2.2.2.2.2.2.2.2.2.2.2.2.2.2.2.2.1
theorem Inv.rok {n s e : Nat} {f : Nat → Int32} {th : Nat → Bool} {rt qu : Nat → Int32} {T : Nat → TH} {g : Nat → Int32} {a : Nat → Nat → Int32} (h : Inv n s e f th rt qu T g a) : ∀ r, r < 16 → rt r = -1 ∨ ∃ k, th k = true ∧ rt r = nI k := h.2.2.2.2.2.2.2.2.2.2.2.2.2.2.2.2.2.1
theorem Inv.f3 {n s e : Nat} {f : Nat → Int32} {th : Nat → Bool} {rt qu : Nat → Int32} {T : Nat → TH} {g : Nat → Int32} {a : Nat → Nat → Int32} (h : Inv n s e f th rt qu T g a) : f 3 = nI s := h.2.2.2.2.2.2.2.2.2.2.2.2.2.2.2.2.2.2.1
theorem Inv.f4 {n s e : Nat} {f : Nat → Int32} {th : Nat → Bool} {rt qu : Nat → Int32} {T : Nat → TH} {g : Nat → Int32} {a : Nat → Nat → Int32} (h : Inv n s e f th rt qu T g a) : f 4 = nI e := h.2.2.2.2.2.2.2.2.2.2.2.2.2.2.2.2.2.2.2.1
theorem Inv.se {n s e : Nat} {f : Nat → Int32} {th : Nat → Bool} {rt qu : Nat → Int32} {T : Nat → TH} {g : Nat → Int32} {a : Nat → Nat → Int32} (h : Inv n s e f th rt qu T g a) : s ≤ e := h.2.2.2.2.2.2.2.2.2.2.2.2.2.2.2.2.2.2.2.2.1
theorem Inv.ec {n s e : Nat} {f : Nat → Int32} {th : Nat → Bool} {rt qu : Nat → Int32} {T : Nat → TH} {g : Nat → Int32} {a : Nat → Nat → Int32} (h : Inv n s e f th rt qu T g a) : e ≤ cn (fun k => (T k).2.1 != 0) n := h.2.2.2.2.2.2.2.2.2.2.2.2.2.2.2.2.2.2.2.2.2.1
theorem Inv.g9 {n s e : Nat} {f : Nat → Int32} {th : Nat → Bool} {rt qu : Nat → Int32} {T : Nat → TH} {g : Nat → Int32} {a : Nat → Nat → Int32} (h : Inv n s e f th rt qu T g a) : g 9 = nI (e - s) := h.2.2.2.2.2.2.2.2.2.2.2.2.2.2.2.2.2.2.2.2.2.2.1
theorem Inv.a10 {n s e : Nat} {f : Nat → Int32} {th : Nat → Bool} {rt qu : Nat → Int32} {T : Nat → TH} {g : Nat → Int32} {a : Nat → Nat → Int32} (h : Inv n s e f th rt qu T g a) : ∀ i, i < e - s → a 10 i = qu (s + i) := h.2.2.2.2.2.2.2.2.2.2.2.2.2.2.2.2.2.2.2.2.2.2.2.1
theorem Inv.qok {n s e : Nat} {f : Nat → Int32} {th : Nat → Bool} {rt qu : Nat → Int32} {T : Nat → TH} {g : Nat → Int32} {a : Nat → Nat → Int32} (h : Inv n s e f th rt qu T g a) : ∀ i, i < e - s → ∃ k, th k = true ∧ qu (s + i) = nI k := h.2.2.2.2.2.2.2.2.2.2.2.2.2.2.2.2.2.2.2.2.2.2.2.2.1
theorem Inv.fok {n s e : Nat} {f : Nat → Int32} {th : Nat → Bool} {rt qu : Nat → Int32} {T : Nat → TH} {g : Nat → Int32} {a : Nat → Nat → Int32} (h : Inv n s e f th rt qu T g a) : ∀ k, th k = true → ∀ j, j < (T k).2.2.2.1 → (T k).2.2.2.2 j = -1 ∨ ∃ o, th o = true ∧ (T k).2.2.2.2 j = nI o := h.2.2.2.2.2.2.2.2.2.2.2.2.2.2.2.2.2.2.2.2.2.2.2.2.2.1
theorem Inv.f8 {n s e : Nat} {f : Nat → Int32} {th : Nat → Bool} {rt qu : Nat → Int32} {T : Nat → TH} {g : Nat → Int32} {a : Nat → Nat → Int32} (h : Inv n s e f th rt qu T g a) : f 8 = nI (cn th n) := h.2.2.2.2.2.2.2.2.2.2.2.2.2.2.2.2.2.2.2.2.2.2.2.2.2.2.1
theorem Inv.f9 {n s e : Nat} {f : Nat → Int32} {th : Nat → Bool} {rt qu : Nat → Int32} {T : Nat → TH} {g : Nat → Int32} {a : Nat → Nat → Int32} (h : Inv n s e f th rt qu T g a) : f 9 = g 12 := h.2.2.2.2.2.2.2.2.2.2.2.2.2.2.2.2.2.2.2.2.2.2.2.2.2.2.2.1
theorem Inv.f11 {n s e : Nat} {f : Nat → Int32} {th : Nat → Bool} {rt qu : Nat → Int32} {T : Nat → TH} {g : Nat → Int32} {a : Nat → Nat → Int32} (h : Inv n s e f th rt qu T g a) : f 11 = g 13 := h.2.2.2.2.2.2.2.2.2.2.2.2.2.2.2.2.2.2.2.2.2.2.2.2.2.2.2.2
section INV
variable {n s e : Nat} {f : Nat → Int32} {th : Nat → Bool} {rt qu : Nat → Int32} {T : Nat → TH} {g : Nat → Int32} {a : Nat → Nat → Int32}
theorem Inv.e3 (h : Inv n s e f th rt qu T g a) : e ≤ 300 := Nat.le_trans h.ec (Nat.le_trans (cn_le _ _) h.n3)
theorem Inv.th3 (h : Inv n s e f th rt qu T g a) {k : Nat} (hk : th k = true) : k < 300 := Nat.lt_of_lt_of_le (h.hn k hk) h.n3
theorem Inv.size (h : Inv n s e f th rt qu T g a) : f 4 - f 3 = nI (e - s) := by rw [h.f3, h.f4, pk_sub h.se]
theorem Inv.sz (h : Inv n s e f th rt qu T g a) : (f 4 - f 3).toNatClampNeg = e - s := by rw [h.size, nI_clamp (by have := h.e3; omega)]
theorem Inv.qp (h : Inv n s e f th rt qu T g a) {i : Nat} (hi : i < e - s) : kQp f qu (nI i) = qu (s + i) := by
  have := h.e3
  unfold kQp
  rw [if_neg (nI_pos (by omega)), h.size, if_pos (nI_lt hi (by omega)), h.f3, nI_add, if_neg (nI_pos (by omega)), if_neg (k300 (by omega)), nI_clamp (by omega)]
theorem Inv.qp' (h : Inv n s e f th rt qu T g a) {i : Nat} (hi : ¬ i < e - s) (h3 : i < 2 ^ 31) : kQp f qu (nI i) = -1 := by
  have := h.e3
  unfold kQp
  rw [if_neg (nI_pos h3), h.size, if_neg (nI_nlt (by omega) h3)]
theorem Inv.fO (h : Inv n s e f th rt qu T g a) : fOk th T := fun k hk j hj => by
  rcases h.fok k hk j hj with q | ⟨o, ho, q⟩
  · exact Or.inl q
  · exact Or.inr ⟨o, h.th3 ho, q⟩
theorem Inv.hr (h : Inv n s e f th rt qu T g a) : ∀ r, r < 16 → vOk (rt r) := fun r hr => by
  rcases h.rok r hr with q | ⟨o, ho, q⟩
  · exact Or.inl q
  · exact Or.inr ⟨o, h.th3 ho, q⟩
theorem Inv.hq (h : Inv n s e f th rt qu T g a) : ∀ i, i < (f 4 - f 3).toNatClampNeg → vOk (kQp f qu (nI i)) := fun i hi => by
  rw [h.sz] at hi
  obtain ⟨k, hk, q⟩ := h.qok i hi
  exact Or.inr ⟨k, h.th3 hk, by rw [h.qp hi]; exact q⟩
-- ===== what the model's contracts want =====
theorem Inv.hL (h : Inv n s e f th rt qu T g a) : ∀ k, k < n → ∃ v, v ≤ 12 ∧ a 4 k = nI v := fun k hk => ⟨_, h.l12 k, h.a4 k hk⟩
theorem Inv.hR (h : Inv n s e f th rt qu T g a) : ∀ r, r < 16 → ∃ v, v ≤ 300 ∧ a 8 r = nI v := fun r hr => by
  rw [h.rts r hr]
  rcases h.rok r hr with q | ⟨k, hk, q⟩
  · exact ⟨0, by omega, by rw [q, p_m1, nI_0]⟩
  · exact ⟨k + 1, by have := h.th3 hk; omega, by rw [q, nI_1]⟩
theorem Inv.hQ (h : Inv n s e f th rt qu T g a) : ∀ i, i < e - s → ∃ v, v < 300 ∧ a 10 i = nI v := fun i hi => by
  obtain ⟨k, hk, q⟩ := h.qok i hi
  exact ⟨k, h.th3 hk, by rw [h.a10 i hi]; exact q⟩
theorem Inv.hW1 (h : Inv n s e f th rt qu T g a) : ∀ k, k < n → a 3 k = 1 → 0 < (a 4 k).toNatClampNeg := fun k hk h3 => by
  rw [h.a4 k hk, nI_clamp (by have := h.l12 k; omega)]
  exact h.w1 k hk (by rw [← h.a3 k hk]; exact h3)
theorem Inv.q3 (h : Inv n s e f th rt qu T g a) : e - s ≤ 300 := by have := h.e3; omega
theorem Inv.len (h : Inv n s e f th rt qu T g a) {k : Nat} (hk : k < n) : (a 4 k).toNatClampNeg = (T k).2.2.2.1 := by rw [h.a4 k hk, nI_clamp (by have := h.l12 k; omega)]
theorem Inv.a2t (h : Inv n s e f th rt qu T g a) {k : Nat} (hk : k < n) : ¬ a 2 k = 0 ↔ th k = true := by
  rw [h.a2 k hk]
  by_cases q : th k = true
  · simp [q]
  · simp [q]
theorem Inv.hqc (h : Inv n s e f th rt qu T g a) : e - s ≤ cn (fun k => a 7 k != 0) n := by
  have h1 : cn (fun k => a 7 k != 0) n = cn (fun k => (T k).2.1 != 0) n := cn_congr (fun k hk => by rw [h.a7 k hk])
  have := h.ec
  omega
end INV
-- ===== the model's search =====
theorem itu {F : Nat → (Nat → Int32) → Nat → Int32} {C : Nat → Prop} {x : Nat → Nat} (hF : ∀ i fd, (C i ∧ F i fd = upd fd (x i) 1) ∨ (¬ C i ∧ F i fd = fd)) {fd : Nat → Int32} (m k : Nat) : ¬ it F m fd k = 0 ↔ ¬ fd k = 0 ∨ ∃ i, i < m ∧ C i ∧ x i = k := by
  induction m with
  | zero => exact ⟨Or.inl, fun h => h.elim id (fun ⟨i, hi, _⟩ => absurd hi (by omega))⟩
  | succ m ih =>
    rw [it_s]
    rcases hF m (it F m fd) with ⟨hc, q⟩ | ⟨hc, q⟩
    · rw [q]
      by_cases hk : k = x m
      · subst hk
        exact ⟨fun _ => Or.inr ⟨m, by omega, hc, rfl⟩, fun _ => by simp [upd]⟩
      · rw [pk_un hk, ih]
        constructor
        · rintro (h | ⟨i, hi, h⟩)
          · exact Or.inl h
          · exact Or.inr ⟨i, by omega, h⟩
        · rintro (h | ⟨i, hi, h1, h2⟩)
          · exact Or.inl h
          · refine Or.inr ⟨i, ?_, h1, h2⟩
            rcases Nat.lt_or_ge i m with r | r
            · exact r
            · exfalso; apply hk; rw [← h2, show i = m by omega]
    · rw [q, ih]
      constructor
      · rintro (h | ⟨i, hi, h⟩)
        · exact Or.inl h
        · exact Or.inr ⟨i, by omega, h⟩
      · rintro (h | ⟨i, hi, h1, h2⟩)
        · exact Or.inl h
        · refine Or.inr ⟨i, ?_, h1, h2⟩
          rcases Nat.lt_or_ge i m with r | r
          · exact r
          · exfalso; rw [show i = m by omega] at h1; exact hc h1
theorem it_D1 {kp : Int32} {a : Nat → Nat → Int32} {fd : Nat → Int32} (m k : Nat) : it (mD1 kp a) m fd k = if k < m then m1v kp a k else fd k := by
  induction m with
  | zero => simp [it]
  | succ m ih =>
    rw [it_s, mD1]
    by_cases hk : k = m
    · subst hk; simp [upd]
    · rw [pk_un hk, ih]
      have h2 : (k < m + 1) = (k < m) := by apply propext; omega
      simp [h2]
/-- what the model follows -/
def ms (kp : Int32) (a : Nat → Nat → Int32) (n k o : Nat) : Prop := k < n ∧ ∃ j, j < (a 4 k).toNatClampNeg ∧ ¬ j < mS kp a k ∧ ¬ a 5 (12 * k + j) - 1 < 0 ∧ (a 5 (12 * k + j) - 1).toNatClampNeg = o
theorem pass_in {kp : Int32} {a : Nat → Nat → Int32} {n : Nat} {fd : Nat → Int32} {P : Nat → Prop} (h0 : ∀ k, ¬ fd k = 0 → P k) (hs : ∀ k o, P k → ms kp a n k o → P o) : ∀ m, m ≤ n → ∀ k, ¬ (it (mK kp a) m (fd, 0)).1 k = 0 → P k := by
  intro m
  induction m with
  | zero => intro _ k hk; exact h0 k hk
  | succ m ih =>
    intro hm
    rw [it_s, mK]
    split
    · exact ih (by omega)
    · rename_i hfm
      have hPm : P m := ih (by omega) m hfm
      have key : ∀ j, j ≤ (a 4 m).toNatClampNeg → ∀ k, ¬ (it (mJs kp a m) j (it (mK kp a) m (fd, 0))).1 k = 0 → P k := by
        intro j
        induction j with
        | zero => intro _; exact ih (by omega)
        | succ j ihj =>
          intro hj k
          rw [it_s, mJs]
          split
          · exact ihj (by omega) k
          · rename_i hjs
            unfold mJ
            split
            · exact ihj (by omega) k
            · rename_i h5
              split
              · by_cases hk : k = (a 5 (12 * m + j) - 1).toNatClampNeg
                · intro _; exact hs m k hPm ⟨by omega, j, by omega, hjs, h5, hk.symm⟩
                · intro q
                  have q' : ¬ upd (it (mJs kp a m) j (it (mK kp a) m (fd, 0))).1 (a 5 (12 * m + j) - 1).toNatClampNeg 1 k = 0 := q
                  rw [pk_un hk] at q'
                  exact ihj (by omega) k q'
              · exact ihj (by omega) k
      exact key _ (Nat.le_refl _)
theorem mJs_flag {kp : Int32} {a : Nat → Nat → Int32} {m : Nat} {X : (Nat → Int32) × Int32} : ∀ j, (it (mJs kp a m) j X).2 = 0 → it (mJs kp a m) j X = X ∧ ∀ j', j' < j → ¬ j' < mS kp a m → a 5 (12 * m + j') - 1 < 0 ∨ ¬ X.1 (a 5 (12 * m + j') - 1).toNatClampNeg = 0 := by
  intro j
  induction j with
  | zero => intro _; exact ⟨rfl, fun j' hj' => absurd hj' (by omega)⟩
  | succ j ih =>
    rw [it_s]
    generalize it (mJs kp a m) j X = Y at ih ⊢
    unfold mJs
    split
    · rename_i hjs
      intro h
      obtain ⟨e1, e2⟩ := ih h
      refine ⟨e1, fun j' hj' hs => ?_⟩
      rcases Nat.lt_or_ge j' j with q | q
      · exact e2 j' q hs
      · rw [show j' = j by omega] at hs; exact absurd hjs hs
    · rename_i hjs
      unfold mJ
      split
      · rename_i h5
        intro h
        obtain ⟨e1, e2⟩ := ih h
        refine ⟨e1, fun j' hj' hs => ?_⟩
        rcases Nat.lt_or_ge j' j with q | q
        · exact e2 j' q hs
        · rw [show j' = j by omega]; exact Or.inl h5
      · split
        · intro h; exact absurd (show (1 : Int32) = 0 from h) (by decide)
        · rename_i h5 h6
          intro h
          obtain ⟨e1, e2⟩ := ih h
          refine ⟨e1, fun j' hj' hs => ?_⟩
          rcases Nat.lt_or_ge j' j with q | q
          · exact e2 j' q hs
          · rw [show j' = j by omega]
            right
            rw [e1] at h6
            exact h6
theorem mK_flag {kp : Int32} {a : Nat → Nat → Int32} {fd : Nat → Int32} : ∀ m, (it (mK kp a) m (fd, 0)).2 = 0 → it (mK kp a) m (fd, 0) = (fd, 0) ∧ ∀ k o, ¬ fd k = 0 → ms kp a m k o → ¬ fd o = 0 := by
  intro m
  induction m with
  | zero => intro _; exact ⟨rfl, fun k o _ h => absurd h.1 (by omega)⟩
  | succ m ih =>
    rw [it_s, mK]
    split
    · rename_i hfm
      intro h
      obtain ⟨e1, e2⟩ := ih h
      refine ⟨e1, fun k o hk hs => ?_⟩
      rcases Nat.lt_or_ge k m with q | q
      · exact e2 k o hk ⟨q, hs.2⟩
      · have : k = m := by have := hs.1; omega
        subst this
        rw [e1] at hfm
        exact absurd hfm hk
    · intro h
      obtain ⟨e1, e2⟩ := mJs_flag _ h
      have h' : (it (mK kp a) m (fd, 0)).2 = 0 := by rw [e1] at h; exact h
      obtain ⟨i1, i2⟩ := ih h'
      refine ⟨by rw [e1, i1], fun k o hk hs => ?_⟩
      rcases Nat.lt_or_ge k m with q | q
      · exact i2 k o hk ⟨q, hs.2⟩
      · have : k = m := by have := hs.1; omega
        subst this
        obtain ⟨-, j, hj, hjs, h5, ho⟩ := hs
        rcases e2 j hj hjs with q | q
        · exact absurd q h5
        · rw [i1, ho] at q; exact q
theorem mW_ok {kp : Int32} {a : Nat → Nat → Int32} {n : Nat} (hF : ∀ i, i < 3600 → ∃ v, v ≤ 300 ∧ a 5 i = nI v) (hL : ∀ k, k < n → ∃ v, v ≤ 12 ∧ a 4 k = nI v) (hn3 : n ≤ 300) : ∀ (fu : Nat) (fd : Nat → Int32), 300 < cn (fun k => fd k != 0) 300 + fu →
    (∀ k, ¬ fd k = 0 → ¬ mW kp a n fu fd k = 0) ∧ (∀ P : Nat → Prop, (∀ k, ¬ fd k = 0 → P k) → (∀ k o, P k → ms kp a n k o → P o) → ∀ k, ¬ mW kp a n fu fd k = 0 → P k) ∧ ∀ k o, ¬ mW kp a n fu fd k = 0 → ms kp a n k o → ¬ mW kp a n fu fd o = 0 := by
  intro fu
  induction fu with
  | zero => intro fd h; exact absurd (cn_le (fun k => fd k != 0) 300) (by omega)
  | succ fu ih =>
    intro fd hc
    rw [mW]
    split
    · rename_i h0
      obtain ⟨e1, e2⟩ := mK_flag _ h0
      rw [e1]
      exact ⟨fun _ h => h, fun P h1 _ => h1, e2⟩
    · rename_i h0
      have hg := mP_grow (kp := kp) (fd := fd) hF hL hn3 h0
      obtain ⟨v1, v2, v3⟩ := ih (it (mK kp a) n (fd, 0)).1 (by omega)
      refine ⟨fun k hk => v1 k ((mPs_pass (kp := kp) (fd := fd) hF hL hn3 n (Nat.le_refl _)).1 k hk), fun P h1 h2 => v2 P (pass_in h1 h2 n (Nat.le_refl _)) h2, v3⟩
section INV2
variable {n s e : Nat} {f : Nat → Int32} {th : Nat → Bool} {rt qu : Nat → Int32} {T : Nat → TH} {g : Nat → Int32} {a : Nat → Nat → Int32}
/-- what the two searches begin with -/
def sdX (kp : Int32) (f rt qu : Nat → Int32) (th : Nat → Bool) (T : Nat → TH) (k : Nat) : Prop := sd f rt qu k ∨ (¬ kp = 0 ∧ k < 300 ∧ th k = true ∧ ¬ tWait (T k).1 (T k).2.1 = 0)
theorem Inv.sd_th (h : Inv n s e f th rt qu T g a) {k : Nat} (hs : sd f rt qu k) : th k = true := by
  obtain ⟨hk, ⟨r, hr, q⟩ | ⟨i, hi, q⟩⟩ := hs
  · rcases h.rok r hr with q' | ⟨k', hk', q'⟩
    · rw [q] at q'; exact absurd q' (nI_m1 (by omega))
    · rw [q] at q'; rw [nI_inj (by omega) (by have := h.th3 hk'; omega) q']; exact hk'
  · rw [h.sz] at hi
    rw [h.qp hi] at q
    obtain ⟨k', hk', q'⟩ := h.qok i hi
    rw [q] at q'; rw [nI_inj (by omega) (by have := h.th3 hk'; omega) q']; exact hk'
theorem Inv.sdX_th (h : Inv n s e f th rt qu T g a) {kp : Int32} {k : Nat} (hs : sdX kp f rt qu th T k) : th k = true := hs.elim h.sd_th (fun q => q.2.2.1)
theorem Inv.sc_th (h : Inv n s e f th rt qu T g a) {wk : Int32} {k o : Nat} (hs : sc th T wk k o) : th o = true := by
  obtain ⟨hk, ho, j, hj, -, q⟩ := hs
  rcases h.fok k hk j hj with q' | ⟨o', ho', q'⟩
  · rw [q] at q'; exact absurd q' (nI_m1 (by omega))
  · rw [q] at q'; rw [nI_inj (by omega) (by have := h.th3 ho'; omega) q']; exact ho'
theorem Inv.cl_th (h : Inv n s e f th rt qu T g a) {wk kp : Int32} {k : Nat} (hs : cl th T wk (sdX kp f rt qu th T) k) : th k = true := hs (fun k => th k = true) (fun _ q => h.sdX_th q) (fun _ _ _ q => h.sc_th q)
theorem Inv.mS_fst (h : Inv n s e f th rt qu T g a) {kp : Int32} {k : Nat} (hk : k < n) : mS kp a k = fst (T k) kp := by
  unfold mS fst tHasW
  rw [h.a3 k hk]
  by_cases h1 : (T k).1 = 1
  · rw [if_pos h1, if_pos h1]
    have h2 : tHasF (T k).2.2.2.1 0 = 1 := by rw [← nI_0]; exact tHasF_t (h.w1 k hk h1) (by have := h.l12 k; omega)
    rw [h2]
    by_cases hkp : kp = 0 <;> simp [hkp]
  · rw [if_neg h1, if_neg h1]
    simp
theorem Inv.ms_sc (h : Inv n s e f th rt qu T g a) {kp : Int32} {k o : Nat} (hk : th k = true) : ms kp a n k o ↔ sc th T kp k o := by
  have hkn := h.hn k hk
  constructor
  · rintro ⟨-, j, hj, hjs, h5, ho⟩
    rw [h.len hkn] at hj
    rw [h.a5 k hkn j hj, p_as] at h5 ho
    rw [h.mS_fst hkn] at hjs
    rcases h.fok k hk j hj with q | ⟨o', ho', q⟩
    · rw [q] at h5; exact absurd (by decide) h5
    · have h3 := h.th3 ho'
      rw [q, nI_clamp (by omega)] at ho
      subst ho
      exact ⟨hk, h3, j, hj, hjs, q⟩
  · rintro ⟨-, ho, j, hj, hjs, q⟩
    refine ⟨hkn, j, by rw [h.len hkn]; exact hj, by rw [h.mS_fst hkn]; exact hjs, ?_, ?_⟩
    · rw [h.a5 k hkn j hj, p_as, q]; exact nI_pos (by omega)
    · rw [h.a5 k hkn j hj, p_as, q, nI_clamp (by omega)]
theorem Inv.m1w (h : Inv n s e f th rt qu T g a) {kp : Int32} {k : Nat} (hk : k < n) : ¬ m1v kp a k = 0 ↔ (¬ kp = 0 ∧ th k = true ∧ ¬ tWait (T k).1 (T k).2.1 = 0) := by
  unfold m1v tWait
  rw [h.a3 k hk, h.a7 k hk]
  have h2 := h.a2t hk
  by_cases q1 : kp = 0
  · simp [q1]
  · by_cases q2 : th k = true
    · have q3 := h2.mpr q2
      by_cases q4 : (T k).1 = 2
      · by_cases q5 : (T k).2.1 = 0 <;> simp [q1, q2, q3, q4, q5]
      · simp [q1, q2, q3, q4]
    · have q3 : a 2 k = 0 := Classical.byContradiction (fun r => q2 (h2.mp r))
      simp [q1, q2, q3]
end INV2
