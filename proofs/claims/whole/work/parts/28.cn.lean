/-! Part 28: counting. -/
def cn (p : Nat → Bool) : Nat → Nat
  | 0 => 0
  | n + 1 => cn p n + (if p n then 1 else 0)
theorem cn_le (p : Nat → Bool) (n : Nat) : cn p n ≤ n := by
  induction n with
  | zero => exact Nat.le_refl _
  | succ n ih => simp only [cn]; split <;> omega
theorem cn_lt {p : Nat → Bool} {n k : Nat} (hk : k < n) (h : p k = false) : cn p n < n := by
  induction n with
  | zero => omega
  | succ n ih =>
    simp only [cn]
    by_cases hn : k = n
    · subst hn
      have := cn_le p k
      simp [h]; omega
    · have := ih (by omega)
      split <;> omega
theorem cn_congr {p q : Nat → Bool} {n : Nat} (h : ∀ k, k < n → p k = q k) : cn p n = cn q n := by
  induction n with
  | zero => rfl
  | succ n ih => simp only [cn]; rw [ih (fun k hk => h k (by omega)), h n (by omega)]
theorem cn_up {p q : Nat → Bool} {n k : Nat} (hk : k < n) (hp : p k = false) (hq : q k = true) (h : ∀ j, j < n → j ≠ k → q j = p j) : cn q n = cn p n + 1 := by
  induction n with
  | zero => omega
  | succ n ih =>
    simp only [cn]
    by_cases hn : k = n
    · subst hn
      rw [cn_congr (p := q) (q := p) (fun j hj => h j (by omega) (by omega))]
      simp [hp, hq]
    · rw [ih (by omega) (fun j hj hne => h j (by omega) hne), h n (by omega) (by omega)]
      omega
theorem cn_mono {p q : Nat → Bool} {n : Nat} (h : ∀ k, k < n → p k = true → q k = true) : cn p n ≤ cn q n := by
  induction n with
  | zero => exact Nat.le_refl _
  | succ n ih =>
    simp only [cn]
    have h1 := ih (fun k hk => h k (by omega))
    have h2 := h n (by omega)
    by_cases hp : p n = true
    · simp [hp, h2 hp]; omega
    · simp [hp]; split <;> omega
theorem cn_ext {p : Nat → Bool} {n m : Nat} (hn : n ≤ m) (h : ∀ k, n ≤ k → k < m → p k = false) : cn p m = cn p n := by
  induction m with
  | zero => have : n = 0 := by omega
            subst this; rfl
  | succ m ih =>
    by_cases he : n = m + 1
    · subst he; rfl
    · simp only [cn]
      rw [ih (by omega) (fun k h1 h2 => h k h1 (by omega)), h m (by omega) (by omega)]
      simp
theorem cn_slt {p q : Nat → Bool} {n k : Nat} (h : ∀ j, j < n → p j = true → q j = true) (hk : k < n) (hp : p k = false) (hq : q k = true) : cn p n < cn q n := by
  induction n with
  | zero => omega
  | succ n ih =>
    simp only [cn]
    by_cases hn : k = n
    · subst hn
      have := cn_mono (p := p) (q := q) (n := k) (fun j hj => h j (show j < k + 1 by omega))
      simp [hp, hq]; omega
    · have h1 := ih (fun j hj => h j (by omega)) (by omega)
      have h2 := h n (by omega)
      by_cases e : p n = true
      · simp [e, h2 e]; omega
      · simp [e]; split <;> omega
