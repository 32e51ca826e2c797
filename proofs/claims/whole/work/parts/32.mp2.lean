/-! Part 32: the model's larger methods as functions. -/
theorem k1c {i : Nat} (h : i + 1 < 2 ^ 31) : (nI i + 1).toNatClampNeg = i + 1 := by rw [nI_1, nI_clamp h]
theorem k1i {i N : Nat} (h : i + 1 < N) (hN : N < 2 ^ 31) : vp_in (nI i + 1) N := by rw [nI_1]; exact vp_in_nI h hN
def mWt (a : Nat → Nat → Int32) (i : Nat) (c : Int32) : Int32 := if a 2 i = 0 then c else if a 3 i = 2 then (if a 7 i = 0 then c + 1 else c) else c
def mQd (g : Nat → Int32) (a : Nat → Nat → Int32) (x : Int32) : Int32 := if g 9 ≤ x then (-1) else a 10 x.toNatClampNeg
def mQp (x : Int32) : Int32 := if x < 0 then 0 else 1
def mAp (x : Int32) : Int32 := if x < 0 then 0 else if 3 < x then 0 else 1
def mCp (x : Int32) : Int32 := if x < 0 then 0 else if 8 < x then 0 else 1
def mTk (i : Nat) (A : Nat → Nat → Int32) : Nat → Nat → Int32 := va_up A 10 (upd (A 10) i (A 10 (i + 1)))
def mSw (i : Nat) (X : (Nat → Nat → Int32) × Int32) : (Nat → Nat → Int32) × Int32 := (va_up X.1 2 (upd (X.1 2) i (if X.1 2 i = 0 then 0 else if X.1 14 i = 0 then 0 else 1)), if X.1 2 i = 0 then X.2 else if X.1 14 i = 0 then X.2 + 1 else X.2)
abbrev MX : Type := (Nat → Nat → Int32) × (Nat → Int32)
def mU (i : Nat) (X : MX) : MX := if X.1 2 i = 0 then (va_up X.1 15 (upd (X.1 15) i (vp_nar .boolean (X.1 14 i))), X.2) else if X.1 3 i = 2 then (if X.1 7 i = 0 then (if X.1 14 i = 0 then (va_up (va_up (va_up X.1 15 (upd (X.1 15) i (vp_nar .boolean (X.1 14 i)))) 7 (upd (X.1 7) i 1)) 10 (upd (X.1 10) (X.2 9).toNatClampNeg (nI i)), upd X.2 9 (X.2 9 + 1)) else (va_up X.1 15 (upd (X.1 15) i (vp_nar .boolean (X.1 14 i))), X.2)) else (va_up X.1 15 (upd (X.1 15) i (vp_nar .boolean (X.1 14 i))), X.2)) else (va_up X.1 15 (upd (X.1 15) i (vp_nar .boolean (X.1 14 i))), X.2)
def mV (i : Nat) (X : MX) : MX := if X.1 14 i = 0 then X else if X.1 3 i = 1 then (if X.1 5 (12 * i) ≤ 0 then X else if X.1 15 (X.1 5 (12 * i) - 1).toNatClampNeg = 0 then (va_up X.1 5 (upd (X.1 5) (12 * i) 0), upd X.2 12 (X.2 12 + 1)) else X) else X
/-- what the queueing loop keeps: made, how long the queue is, and that no more are queued than were ever -/
def mUI (n : Nat) (a : Nat → Nat → Int32) (X : MX) : Prop := X.2 1 = nI n ∧ (∃ q, q ≤ cn (fun k => X.1 7 k != 0) n ∧ X.2 9 = nI q ∧ ∀ i, i < q → ∃ v, v < 300 ∧ X.1 10 i = nI v) ∧ X.1 4 = a 4 ∧ X.1 8 = a 8 ∧ X.1 5 = a 5 ∧ X.1 3 = a 3
theorem mUI_s {n i : Nat} {a : Nat → Nat → Int32} {X : MX} (hn3 : n ≤ 300) (hi : i < n) (h : mUI n a X) : mUI n a (mU i X) := by
  obtain ⟨h1, ⟨q, hq, e, hQ⟩, h4, h8, h5, h3⟩ := h
  have hb : mUI n a (va_up X.1 15 (upd (X.1 15) i (vp_nar .boolean (X.1 14 i))), X.2) := ⟨h1, ⟨q, hq, e, hQ⟩, h4, h8, h5, h3⟩
  unfold mU
  split
  · exact hb
  · split
    · split
      · rename_i h7
        split
        · have hlt : cn (fun k => X.1 7 k != 0) n < n := cn_lt hi (by simp [h7])
          refine ⟨h1, ⟨q + 1, ?_, ?_, ?_⟩, h4, h8, h5, h3⟩
          · have : cn (fun k => upd (X.1 7) i 1 k != 0) n = cn (fun k => X.1 7 k != 0) n + 1 := cn_up (k := i) hi (by simp [h7]) (by simp [upd]) (fun j _ hj => by simp [upd, hj])
            show q + 1 ≤ cn (fun k => upd (X.1 7) i 1 k != 0) n
            omega
          · show X.2 9 + 1 = nI (q + 1)
            rw [e, nI_1]
          · intro j hj
            show ∃ v, v < 300 ∧ upd (X.1 10) (X.2 9).toNatClampNeg (nI i) j = nI v
            rw [e, nI_clamp (by omega)]
            by_cases hjq : j = q
            · exact ⟨i, by omega, by simp [upd, hjq]⟩
            · obtain ⟨v, hv, ev⟩ := hQ j (by omega)
              exact ⟨v, hv, by simpa [upd, hjq] using ev⟩
        · exact hb
      · exact hb
    · exact hb
theorem mUI_it {n : Nat} {a : Nat → Nat → Int32} {X : MX} (hn3 : n ≤ 300) (h : mUI n a X) : ∀ i, i ≤ n → mUI n a (it mU i X) := by
  intro i
  induction i with
  | zero => intro _; exact h
  | succ i ih => intro hi; rw [it_s]; exact mUI_s hn3 (by omega) (ih (by omega))
/-- there is room in the queue for one that never was in it -/
theorem mUI_in {n i : Nat} {a : Nat → Nat → Int32} {X : MX} (hn3 : n ≤ 300) (hi : i < n) (h : mUI n a X) (h7 : X.1 7 i = 0) : vp_in (X.2 9) 300 := by
  obtain ⟨-, ⟨q, hq, e, -⟩, -⟩ := h
  have hlt : cn (fun k => X.1 7 k != 0) n < n := cn_lt hi (by simp [h7])
  rw [e]
  exact vp_in_nI (by omega) (by omega)
/-- what the forgetting loop keeps -/
def mVI (n : Nat) (X : MX) : Prop := X.2 1 = nI n ∧ ∀ i, i < 3600 → ∃ v, v ≤ 300 ∧ X.1 5 i = nI v
theorem mVI_s {n i : Nat} {X : MX} (h : mVI n X) : mVI n (mV i X) := by
  obtain ⟨h1, h5⟩ := h
  unfold mV
  split
  · exact ⟨h1, h5⟩
  · split
    · split
      · exact ⟨h1, h5⟩
      · split
        · refine ⟨h1, fun j hj => ?_⟩
          show ∃ v, v ≤ 300 ∧ upd (X.1 5) (12 * i) 0 j = nI v
          by_cases hji : j = 12 * i
          · exact ⟨0, by omega, by simp [upd, hji, nI_0]⟩
          · obtain ⟨v, hv, e⟩ := h5 j hj
            exact ⟨v, hv, by simpa [upd, hji] using e⟩
        · exact ⟨h1, h5⟩
    · exact ⟨h1, h5⟩
theorem mVI_it {n : Nat} {X : MX} (h : mVI n X) : ∀ i, mVI n (it mV i X) := by
  intro i
  induction i with
  | zero => exact h
  | succ i ih => rw [it_s]; exact mVI_s ih
theorem kinQ {g : Nat → Int32} {q : Nat} {x : Int32} (hq : g 9 = nI q) (hq3 : q ≤ 300) (hc : ¬ mG (mQp x) 1 = 0) (h1 : ¬ g 9 ≤ x) : vp_in x 300 := by
  have h0 : ¬ x < 0 := fun h => mG_1 hc (by unfold mQp; rw [if_pos h])
  obtain ⟨j, hj, rfl⟩ := nI_of h0
  rw [hq] at h1
  refine vp_in_nI ?_ (by omega)
  rcases Nat.lt_or_ge j 300 with q' | q'
  · exact q'
  · exact absurd (nI_le (by omega) hj) h1
