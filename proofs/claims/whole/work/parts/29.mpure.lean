/-! Part 29: the model's small methods as functions. -/
theorem va_up_comm {α : Type} {f : Nat → α} {k k2 : Nat} {v w : α} (h : k ≠ k2) : va_up (va_up f k v) k2 w = va_up (va_up f k2 w) k v := by
  funext j
  by_cases h1 : j = k
  · subst h1; simp [va_up, h]
  · simp [va_up, h1]
theorem k12c {k j : Nat} (hk : k < 300) (hj : j < 12) : ((12 : Int32) * nI k + nI j).toNatClampNeg = 12 * k + j := by
  rw [show (12 : Int32) = nI 12 from rfl, pk_mul, nI_add, nI_clamp (by omega)]
theorem k12a {k : Nat} (hk : k < 300) : ((12 : Int32) * nI k).toNatClampNeg = 12 * k := by
  rw [show (12 : Int32) = nI 12 from rfl, pk_mul, nI_clamp (by omega)]
theorem k12i {k j : Nat} (hk : k < 300) (hj : j < 12) : vp_in ((12 : Int32) * nI k + nI j) 3600 := by
  rw [show (12 : Int32) = nI 12 from rfl, pk_mul, nI_add]
  exact vp_in_nI (by omega) (by omega)
theorem k12j {k : Nat} (hk : k < 300) : vp_in ((12 : Int32) * nI k) 3600 := by
  rw [show (12 : Int32) = nI 12 from rfl, pk_mul]
  exact vp_in_nI (by omega) (by omega)
def mI (g : Nat → Int32) (a : Nat → Nat → Int32) (x : Int32) : Int32 := if x < 0 then 0 else if g 1 ≤ x then 0 else if a 2 x.toNatClampNeg = 0 then 0 else 1
def mO (g : Nat → Int32) (a : Nat → Nat → Int32) (x : Int32) : Int32 := if x = -1 then 1 else if mI g a x = 0 then 0 else 1
def mF (g : Nat → Int32) (a : Nat → Nat → Int32) (x y : Int32) : Int32 := if mI g a x = 0 then 0 else if y < 0 then 0 else if a 4 x.toNatClampNeg ≤ y then 0 else 1
def mT (p1 p2 : Int32) : Int32 := if p1 = 0 then 1 else if p2 = 0 then 2 else 0
def mG (p1 p2 : Int32) : Int32 := if p1 = 0 then 0 else if p2 = 0 then 0 else 1
def mkP (kd z : Int32) : Int32 := if kd < 0 then 0 else if 2 < kd then 0 else if z < 0 then 0 else if 12 < z then 0 else if kd = 1 then (if z ≤ 0 then 0 else 1) else 1
def mkQ (g : Nat → Int32) : Int32 := if 300 ≤ g 1 then 0 else 1
def mA (p q : Int32) : Int32 := if p = 0 then 0 else if q = 0 then 0 else 1
def mR (g : Nat → Int32) (a : Nat → Nat → Int32) (x u : Int32) : Int32 := if x < 0 then 0 else if 16 ≤ x then 0 else if mO g a u = 0 then 0 else 1
theorem mG_eq (p1 p2 : Int32) : mG p1 p2 = if mT p1 p2 = 0 then 1 else 0 := by
  unfold mG mT
  split
  · rfl
  · split <;> rfl
theorem mG_1 {p1 p2 : Int32} (h : ¬ mG p1 p2 = 0) : ¬ p1 = 0 := fun e => h (by unfold mG; rw [if_pos e])
theorem mG_2 {p1 p2 : Int32} (h : ¬ mG p1 p2 = 0) : ¬ p2 = 0 := fun e => h (by unfold mG; rw [if_pos e]; split <;> rfl)
theorem mA_1 {p q : Int32} (h : ¬ mA p q = 0) : ¬ p = 0 := fun e => h (by unfold mA; rw [if_pos e])
theorem mA_2 {p q : Int32} (h : ¬ mA p q = 0) : ¬ q = 0 := fun e => h (by unfold mA; rw [if_pos e]; split <;> rfl)
theorem kinM {g : Nat → Int32} {n : Nat} {x : Int32} (hg1 : g 1 = nI n) (hn3 : n ≤ 300) (h0 : ¬ x < 0) (h1 : ¬ g 1 ≤ x) : vp_in x 300 := by
  obtain ⟨j, hj, rfl⟩ := nI_of h0
  rw [hg1] at h1
  refine vp_in_nI ?_ (by omega)
  rcases Nat.lt_or_ge j 300 with q | q
  · exact q
  · exact absurd (nI_le (by omega) hj) h1
/-- isThere: a place below made whose 'there' is set -/
theorem mI_k {g : Nat → Int32} {a : Nat → Nat → Int32} {n : Nat} {x : Int32} (hg1 : g 1 = nI n) (h : ¬ mI g a x = 0) : ∃ k, k < n ∧ x = nI k ∧ ¬ a 2 k = 0 := by
  unfold mI at h
  split at h
  · exact absurd rfl h
  · rename_i h0
    split at h
    · exact absurd rfl h
    · rename_i h1
      split at h
      · exact absurd rfl h
      · rename_i h2
        obtain ⟨j, hj, rfl⟩ := nI_of h0
        rw [nI_clamp hj] at h2
        rw [hg1] at h1
        refine ⟨j, ?_, rfl, h2⟩
        rcases Nat.lt_or_ge j n with q | q
        · exact q
        · exact absurd (nI_le q hj) h1
theorem mI_in {g : Nat → Int32} {a : Nat → Nat → Int32} {n : Nat} {x : Int32} (hg1 : g 1 = nI n) (hn3 : n ≤ 300) (h : ¬ mI g a x = 0) : vp_in x 300 := by
  obtain ⟨k, hk, rfl, -⟩ := mI_k hg1 h
  exact vp_in_nI (by omega) (by omega)
theorem mkQ_lt {g : Nat → Int32} {n : Nat} {p1 : Int32} (hg1 : g 1 = nI n) (hn3 : n ≤ 300) (h : ¬ mG p1 (mkQ g) = 0) : n < 300 := by
  have h2 := mG_2 h
  unfold mkQ at h2
  rcases Nat.lt_or_ge n 300 with q | q
  · exact q
  · exfalso
    apply h2
    rw [if_pos]
    rw [hg1]
    exact nI_le (a := 300) q (by omega)
theorem mF_k {g : Nat → Int32} {a : Nat → Nat → Int32} {n : Nat} {x y : Int32} (hg1 : g 1 = nI n) (hL : ∀ k, k < n → ∃ v, v ≤ 12 ∧ a 4 k = nI v) (hn3 : n ≤ 300) (h : ¬ mF g a x y = 0) : ∃ k j, k < n ∧ x = nI k ∧ ¬ a 2 k = 0 ∧ j < 12 ∧ y = nI j ∧ a 4 k = nI (a 4 k).toNatClampNeg ∧ j < (a 4 k).toNatClampNeg := by
  unfold mF at h
  split at h
  · exact absurd rfl h
  · rename_i h0
    split at h
    · exact absurd rfl h
    · rename_i h1
      split at h
      · exact absurd rfl h
      · rename_i h2
        obtain ⟨k, hk, rfl, e⟩ := mI_k hg1 h0
        obtain ⟨j, hj, rfl⟩ := nI_of h1
        rw [nI_clamp (by omega)] at h2
        obtain ⟨v, hv, e4⟩ := hL k hk
        have hvj : j < v := by
          rcases Nat.lt_or_ge j v with q | q
          · exact q
          · rw [e4] at h2; exact absurd (nI_le q hj) h2
        have e5 : (a 4 k).toNatClampNeg = v := by rw [e4, nI_clamp (by omega)]
        exact ⟨k, j, hk, rfl, e, by omega, rfl, by rw [e5]; exact e4, by rw [e5]; exact hvj⟩
theorem mF_in {g : Nat → Int32} {a : Nat → Nat → Int32} {n : Nat} {x y : Int32} (hg1 : g 1 = nI n) (hn3 : n ≤ 300) (hL : ∀ k, k < n → ∃ v, v ≤ 12 ∧ a 4 k = nI v) (h : ¬ mF g a x y = 0) : vp_in (12 * x + y) 3600 := by
  obtain ⟨k, j, hk, rfl, -, hj, rfl, -, -⟩ := mF_k hg1 hL hn3 h
  rw [show (12 : Int32) = nI 12 from rfl, pk_mul, nI_add]
  exact vp_in_nI (by omega) (by omega)
theorem mR_in {g : Nat → Int32} {a : Nat → Nat → Int32} {x u : Int32} (h : ¬ mR g a x u = 0) : vp_in x 16 := by
  unfold mR at h
  split at h
  · exact absurd rfl h
  · rename_i h0
    split at h
    · exact absurd rfl h
    · rename_i h1
      exact kin h0 h1 rfl
-- ===== find =====
def m1v (kp : Int32) (a : Nat → Nat → Int32) (i : Nat) : Int32 := if kp = 0 then 0 else if a 2 i = 0 then 0 else if a 3 i = 2 then (if a 7 i = 0 then 1 else 0) else 0
def mD1 (kp : Int32) (a : Nat → Nat → Int32) (i : Nat) (fd : Nat → Int32) : Nat → Int32 := upd fd i (m1v kp a i)
def mD2 (a : Nat → Nat → Int32) (i : Nat) (fd : Nat → Int32) : Nat → Int32 := if a 8 i ≤ 0 then fd else upd fd (a 8 i - 1).toNatClampNeg 1
def mD3 (a : Nat → Nat → Int32) (i : Nat) (fd : Nat → Int32) : Nat → Int32 := upd fd (a 10 i).toNatClampNeg 1
def mJ (a : Nat → Nat → Int32) (k j : Nat) (X : (Nat → Int32) × Int32) : (Nat → Int32) × Int32 := if a 5 (12 * k + j) - 1 < 0 then X else if X.1 (a 5 (12 * k + j) - 1).toNatClampNeg = 0 then (upd X.1 (a 5 (12 * k + j) - 1).toNatClampNeg 1, 1) else X
def mS (kp : Int32) (a : Nat → Nat → Int32) (k : Nat) : Nat := if a 3 k = 1 then (if kp = 0 then 1 else 0) else 0
def mJs (kp : Int32) (a : Nat → Nat → Int32) (k j : Nat) (X : (Nat → Int32) × Int32) : (Nat → Int32) × Int32 := if j < mS kp a k then X else mJ a k j X
def mK (kp : Int32) (a : Nat → Nat → Int32) (k : Nat) (X : (Nat → Int32) × Int32) : (Nat → Int32) × Int32 := if X.1 k = 0 then X else it (mJs kp a k) (a 4 k).toNatClampNeg X
def mW (kp : Int32) (a : Nat → Nat → Int32) (n : Nat) : Nat → (Nat → Int32) → Nat → Int32
  | 0, fd => fd
  | m + 1, fd => if (it (mK kp a) n (fd, 0)).2 = 0 then (it (mK kp a) n (fd, 0)).1 else mW kp a n m (it (mK kp a) n (fd, 0)).1
def mD (kp : Int32) (a : Nat → Nat → Int32) (n q : Nat) (fd : Nat → Int32) : Nat → Int32 := mW kp a n 301 (it (mD3 a) q (it (mD2 a) 16 (it (mD1 kp a) n fd)))
def mC (fd : Nat → Int32) (i : Nat) (c : Int32) : Int32 := if fd i = 0 then c else c + 1
theorem mJ_keep {a : Nat → Nat → Int32} {k j i : Nat} {X : (Nat → Int32) × Int32} (h : ¬ X.1 i = 0) : ¬ (mJ a k j X).1 i = 0 := by
  unfold mJ
  split
  · exact h
  · split
    · by_cases e : i = (a 5 (12 * k + j) - 1).toNatClampNeg
      · simp [upd, e]
      · simp only [upd, e, if_false]; exact h
    · exact h
theorem mJs_keep {kp : Int32} {a : Nat → Nat → Int32} {k N i : Nat} {X : (Nat → Int32) × Int32} (h : ¬ X.1 i = 0) : ¬ (it (mJs kp a k) N X).1 i = 0 := by
  induction N with
  | zero => exact h
  | succ N ih =>
    rw [it_s]; unfold mJs
    split
    · exact ih
    · exact mJ_keep ih
theorem kin8 {x : Int32} (h : ∃ v, v ≤ 300 ∧ x = nI v) (h0 : ¬ x ≤ 0) : vp_in (x - 1) 300 := by
  obtain ⟨v, hv, rfl⟩ := h
  have hp : 0 < v := by
    rcases Nat.eq_zero_or_pos v with q | q
    · subst q; exact absurd (by decide) h0
    · exact q
  obtain ⟨w, rfl⟩ : ∃ w, v = w + 1 := ⟨v - 1, by omega⟩
  rw [nI_pred]
  exact vp_in_nI (by omega) (by omega)
theorem kin9 {x : Int32} (h : ∃ v, v < 300 ∧ x = nI v) : vp_in x 300 := by
  obtain ⟨v, hv, rfl⟩ := h
  exact vp_in_nI hv (by omega)
theorem kin5 {x : Int32} (h : ∃ v, v ≤ 300 ∧ x = nI v) (h0 : ¬ x - 1 < 0) : vp_in (x - 1) 300 := by
  refine kin8 h (fun h1 => h0 ?_)
  obtain ⟨v, hv, rfl⟩ := h
  have : v = 0 := by
    rcases Nat.eq_zero_or_pos v with q | q
    · exact q
    · exact absurd h1 (nI_nle q (by omega))
  subst this
  decide
/-- what a pass over the things does: nothing is lost, and something new is found where it says so -/
def mPs (fd : Nat → Int32) (X : (Nat → Int32) × Int32) : Prop := (∀ k, ¬ fd k = 0 → ¬ X.1 k = 0) ∧ (¬ X.2 = 0 → ∃ k, k < 300 ∧ fd k = 0 ∧ ¬ X.1 k = 0)
theorem mPs_J {fd : Nat → Int32} {X : (Nat → Int32) × Int32} {a : Nat → Nat → Int32} {k j : Nat} (h : mPs fd X) (hv : ∃ v, v ≤ 300 ∧ a 5 (12 * k + j) = nI v) : mPs fd (mJ a k j X) := by
  unfold mJ
  split
  · exact h
  · rename_i h0
    split
    · rename_i h1
      have hin := kin5 hv h0
      obtain ⟨t, ht, e⟩ := vp_in_of hin (by omega)
      rw [e, nI_clamp (by omega)] at h1 ⊢
      refine ⟨fun i hi => ?_, fun _ => ⟨t, ht, ?_, by simp [upd]⟩⟩
      · by_cases hit : i = t
        · simp [upd, hit]
        · simp only [upd, hit, if_false]; exact h.1 i hi
      · rcases Classical.em (fd t = 0) with q | q
        · exact q
        · exact absurd h1 (h.1 t q)
    · exact h
theorem mPs_pass {kp : Int32} {a : Nat → Nat → Int32} {n : Nat} {fd : Nat → Int32} (hF : ∀ i, i < 3600 → ∃ v, v ≤ 300 ∧ a 5 i = nI v) (hL : ∀ k, k < n → ∃ v, v ≤ 12 ∧ a 4 k = nI v) (hn3 : n ≤ 300) : ∀ m, m ≤ n → mPs fd (it (mK kp a) m (fd, 0)) := by
  intro m
  induction m with
  | zero => intro _; exact ⟨fun _ h => h, fun h => absurd rfl h⟩
  | succ m ih =>
    intro hm
    rw [it_s, mK]
    split
    · exact ih (by omega)
    · obtain ⟨v, hv, e⟩ := hL m (by omega)
      rw [e, nI_clamp (by omega)]
      have key : ∀ j, j ≤ v → mPs fd (it (mJs kp a m) j (it (mK kp a) m (fd, 0))) := by
        intro j
        induction j with
        | zero => intro _; exact ih (by omega)
        | succ j ihj =>
          intro hj
          rw [it_s, mJs]
          split
          · exact ihj (by omega)
          · exact mPs_J (ihj (by omega)) (hF _ (by omega))
      exact key v (Nat.le_refl _)
theorem mP_grow {kp : Int32} {a : Nat → Nat → Int32} {n : Nat} {fd : Nat → Int32} (hF : ∀ i, i < 3600 → ∃ v, v ≤ 300 ∧ a 5 i = nI v) (hL : ∀ k, k < n → ∃ v, v ≤ 12 ∧ a 4 k = nI v) (hn3 : n ≤ 300) (h : ¬ (it (mK kp a) n (fd, 0)).2 = 0) : cn (fun k => fd k != 0) 300 < cn (fun k => (it (mK kp a) n (fd, 0)).1 k != 0) 300 := by
  obtain ⟨h1, h2⟩ := mPs_pass (kp := kp) (fd := fd) hF hL hn3 n (Nat.le_refl _)
  obtain ⟨k, hk, e1, e2⟩ := h2 h
  exact cn_slt (k := k) (fun j _ hj => by simpa using h1 j (by simpa using hj)) hk (by simp [e1]) (by simpa using e2)
