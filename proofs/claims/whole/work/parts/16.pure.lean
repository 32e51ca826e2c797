/-! Part 04: the methods as functions, in the order of their own tests. -/
def it {α : Type} (F : Nat → α → α) : Nat → α → α
  | 0, x => x
  | n + 1, x => F n (it F n x)
def sHas (S : SR) (x : Int32) : Int32 := if x < 0 then 0 else if 300 ≤ x then 0 else if S.1 x.toNatClampNeg = 0 then 0 else 1
def sAt (S : SR) (x : Int32) : Int32 := if x < 0 then (-1) else if S.2.2 ≤ x then (-1) else if 300 ≤ x then (-1) else S.2.1 x.toNatClampNeg
def sAdd (S : SR) (x : Int32) : SR := if x < 0 then S else if 300 ≤ x then S else if S.1 x.toNatClampNeg = 0 then (if S.2.2 < 0 then S else if S.2.2 < 300 then (upd S.1 x.toNatClampNeg 1, upd S.2.1 S.2.2.toNatClampNeg x, S.2.2 + 1) else S) else S
/-- the first i places are 0 -/
def zf (i : Nat) (f : Nat → Int32) : Nat → Int32 := fun j => if j < i then 0 else f j
theorem zf_s {i : Nat} {f : Nat → Int32} : upd (zf i f) i 0 = zf (i + 1) f := by
  funext j
  by_cases h : j = i
  · subst h; simp [upd, zf]
  · have h2 : (j < i + 1) = (j < i) := by apply propext; omega
    simp [upd, zf, h, h2]
theorem zf_0 {f : Nat → Int32} : zf 0 f = f := by funext j; simp [zf]
def sFg (S : SR) : SR := (zf 300 S.1, S.2.1, 0)
def tHasF (len : Nat) (x : Int32) : Int32 := if x < 0 then 0 else if nI len ≤ x then 0 else 1
def tHasW (v1 : Int32) (len : Nat) : Int32 := if v1 = 1 then (if tHasF len 0 = 0 then 0 else 1) else 0
def tWait (v1 v2 : Int32) : Int32 := if v1 = 2 then (if v2 = 0 then 1 else 0) else 0
theorem kin {x M : Int32} {N : Nat} (h0 : ¬ x < 0) (h1 : ¬ M ≤ x) (hM : M.toInt = N) : vp_in x N := by
  rw [vp_in_iff]
  simp only [Int32.lt_iff_toInt_lt, Int32.le_iff_toInt_le] at h0 h1
  have : (0 : Int32).toInt = 0 := rfl
  omega
theorem kin2 {x M : Int32} {N : Nat} (h0 : ¬ x < 0) (h1 : x < M) (hM : M.toInt = N) : vp_in x N := by
  rw [vp_in_iff]
  simp only [Int32.lt_iff_toInt_lt] at h0 h1
  have : (0 : Int32).toInt = 0 := rfl
  omega
theorem kb1 : vp_nar .boolean 1 = 1 := by decide
theorem kb0 : vp_nar .boolean 0 = 0 := by decide
theorem k300 {k : Nat} (h : k < 300) : ¬ (300 : Int32) ≤ nI k := nI_ge (b := 300) h (by omega)
theorem l300 {k : Nat} (h : k < 300) : nI k < (300 : Int32) := nI_lt (b := 300) h (by omega)
theorem kw_P {D : va_G} {cl : List vw_C} {ws ws' : va_W} {H : Heap} (h : ws = ws') (hP : va_P D cl ws H) : va_P D cl ws' H := h ▸ hP
theorem kw_D {A : Nat → Prop} {ws ws' : va_W} (h : ws = ws') (hD : va_D A ws) : va_D A ws' := h ▸ hD
def tOr (ad : Nat → Nat) (th : Nat → Bool) (x : Int32) : Value := if x < 0 then .null else if 300 ≤ x then .null else va_rf (thf ad th x.toNatClampNeg)
def kQp (f qu : Nat → Int32) (x : Int32) : Int32 := if x < 0 then (-1) else if x < f 4 - f 3 then (if f 3 + x < 0 then (-1) else if 300 ≤ f 3 + x then (-1) else qu (f 3 + x).toNatClampNeg) else (-1)
def addRQ (f rt qu : Nat → Int32) (S : SR) : SR := it (fun i S => sAdd S (kQp f qu (nI i))) (f 4 - f 3).toNatClampNeg (it (fun i S => sAdd S (rt i)) 16 S)
abbrev kFs (ad : Nat → Nat) (f : Nat → Int32) : List Value := [.ref (ad 1), .ref (ad 2), .ref (ad 3), .int (f 3), .int (f 4), .ref (ad 4), .ref (ad 7), .int (f 7), .int (f 8), .int (f 9), .int (f 10), .int (f 11)]
theorem kth_t {ad : Nat → Nat} {th : Nat → Bool} {i : Nat} (h : th i = true) : va_rf (thf ad th i) = .ref (ad (22 + 2 * i)) := by simp [thf, h, va_rf]
theorem kth_f {ad : Nat → Nat} {th : Nat → Bool} {i : Nat} (h : ¬ th i = true) : va_rf (thf ad th i) = .null := by simp [thf, h, va_rf]
theorem kcl_le {x : Int32} : x ≤ nI x.toNatClampNeg := by
  by_cases h : x < 0
  · exact Int32.le_trans (Int32.le_of_lt h) (nI_pos' (by have := x.toNatClampNeg_lt; omega))
  · obtain ⟨j, hj, rfl⟩ := nI_of h
    rw [nI_clamp hj]
    exact Int32.le_refl _
theorem kcl_lt {x : Int32} {i : Nat} (h : i < x.toNatClampNeg) : ¬ x ≤ nI i := by
  by_cases h0 : x < 0
  · exfalso
    have h1 : x.toInt < 0 := by simpa [Int32.lt_iff_toInt_lt] using h0
    have : x.toNatClampNeg = 0 := by show x.toInt.toNat = 0; omega
    omega
  · obtain ⟨j, hj, rfl⟩ := nI_of h0
    rw [nI_clamp hj] at h
    exact nI_ge h hj
theorem sUp_n {ty : Nat → ClassId} {ad : Nat → Nat} {c : Nat → va_E} {si sj sk x : Nat} {S : SR} {e : va_E} (h1 : x ≠ si) (h2 : x ≠ sj) (h3 : x ≠ sk) (h : c x = e := by rfl) : sUp ty ad c si sj sk S x = e := by simp [sUp, h1, h2, h3, h]
theorem gs_n {ty : Nat → ClassId} {ad : Nat → Nat} {c : Nat → va_E} {N si sj sk x : Nat} {S : SR} {e : va_E} (h1 : x ≠ si) (h2 : x ≠ sj) (h3 : x ≠ sk) (h : (wL N ad c)[x]? = some (ad x, e)) : (wL N ad (sUp ty ad c si sj sk S))[x]? = some (ad x, e) := by
  have hx : x < N := by
    rcases Nat.lt_or_ge x N with q | q
    · exact q
    · rw [wl_none (by omega)] at h; cases h
  rw [wl_get hx] at h ⊢
  simp only [sUp, h1, h2, h3, if_false]
  exact h
theorem gi_T {n k : Nat} (h : k < n) : 22 + 2 * k < 22 + 2 * n := by omega
theorem gi_F {n k : Nat} (h : k < n) : 23 + 2 * k < 22 + 2 * n := by omega
section GC
variable {ty : Nat → ClassId} {ad : Nat → Nat} {f : Nat → Int32} {th : Nat → Bool} {rt qu : Nat → Int32} {b w : SR} {T : Nat → TH} {g : Nat → Int32} {a : Nat → Nat → Int32} {o : Nat → Int64}
theorem gc_T {k : Nat} : gc ty ad f th rt qu b w T g a o (22 + 2 * k) = .inr (2, [.ref (ad (23 + 2 * k)), .int (T k).1, .int (T k).2.1, .int (T k).2.2.1]) := by
  rw [Nat.add_comm 22 (2 * k)]; show tc ty ad T (2 * k) = _; simp [tc, show 2 * k % 2 = 0 by omega, show 2 * k / 2 = k by omega, Nat.add_comm]
theorem gc_F {k : Nat} : gc ty ad f th rt qu b w T g a o (23 + 2 * k) = .inl (ty 0, (T k).2.2.2.1, .inl (T k).2.2.2.2) := by
  rw [show 23 + 2 * k = (2 * k + 1) + 22 by omega]; show tc ty ad T (2 * k + 1) = _; simp [tc, show (2 * k + 1) % 2 = 1 by omega, show (2 * k + 1) / 2 = k by omega]
end GC
theorem it_s {α : Type} {F : Nat → α → α} {i : Nat} {x : α} : it F (i + 1) x = F i (it F i x) := rfl
def tOk (th : Nat → Bool) (x : Int32) : Bool := if x < 0 then false else if 300 ≤ x then false else th x.toNatClampNeg
theorem tOk_k {th : Nat → Bool} {x : Int32} (h : tOk th x = true) : ∃ k : Nat, k < 300 ∧ x = nI k ∧ th k = true := by
  unfold tOk at h
  split at h
  · cases h
  · split at h
    · cases h
    · rename_i h0 h1
      obtain ⟨j, hj, rfl⟩ := nI_of h0
      rw [nI_clamp hj] at h
      refine ⟨j, ?_, rfl, h⟩
      rcases Nat.lt_or_ge j 300 with q | q
      · exact q
      · exact absurd (nI_le (a := 300) q hj) h1
theorem tOk_i {th : Nat → Bool} {k : Nat} (hk : k < 300) (h : th k = true) : tOk th (nI k) = true := by
  unfold tOk
  rw [if_neg (nI_pos (by omega)), if_neg (k300 hk), nI_clamp (by omega)]
  exact h
theorem tOr_t {ad : Nat → Nat} {th : Nat → Bool} {k : Nat} (hk : k < 300) (h : th k = true) : tOr ad th (nI k) = .ref (ad (22 + 2 * k)) := by
  unfold tOr
  rw [if_neg (nI_pos (by omega)), if_neg (k300 hk), nI_clamp (by omega)]
  exact kth_t h
theorem tOr_tt {ad : Nat → Nat} {th : Nat → Bool} {k : Nat} {x : Int32} (he : x = nI k) (hk : k < 300) (h : th k = true) : tOr ad th x = .ref (ad (22 + 2 * k)) := by rw [he]; exact tOr_t hk h
theorem sHas_1 {S : SR} {x : Int32} (h : ¬ sHas S x = 0) : sHas S x = 1 := by
  unfold sHas at h ⊢
  split
  · rename_i q; exact absurd (by rw [if_pos q]) h
  · rename_i q; rw [if_neg q] at h
    split
    · rename_i q; exact absurd (by rw [if_pos q]) h
    · rename_i q; rw [if_neg q] at h
      split
      · rename_i q; exact absurd (by rw [if_pos q]) h
      · rfl
theorem tOr_f {ad : Nat → Nat} {th : Nat → Bool} {x : Int32} (h : ¬ tOk th x = true) : tOr ad th x = .null := by
  unfold tOk at h
  unfold tOr
  split
  · rfl
  · rw [if_neg (by assumption)] at h
    split
    · rfl
    · rw [if_neg (by assumption)] at h
      exact kth_f h
def fst (t : TH) (wk : Int32) : Nat := if wk = 0 then (if tHasW t.1 t.2.2.2.1 = 0 then 0 else 1) else 0
def fJ (t : TH) (wk : Int32) (j : Nat) (S : SR) : SR := if j < fst t wk then S else sAdd S (t.2.2.2.2 j)
def fB (th : Nat → Bool) (T : Nat → TH) (wk : Int32) (S : SR) (x : Int32) : SR := if tOk th x = true then it (fJ (T x.toNatClampNeg) wk) (T x.toNatClampNeg).2.2.2.1 S else S
def fO (th : Nat → Bool) (T : Nat → TH) (wk : Int32) (i : Nat) (S : SR) : SR := if S.2.2 ≤ nI i then S else fB th T wk S (sAt S (nI i))
def fF (th : Nat → Bool) (T : Nat → TH) (wk : Int32) (S : SR) : SR := it (fO th T wk) 300 S
theorem fO_stay {th : Nat → Bool} {T : Nat → TH} {wk : Int32} {S : SR} {i : Nat} (h : (it (fO th T wk) i S).2.2 ≤ nI i) (hi : i ≤ 300) : it (fO th T wk) i S = it (fO th T wk) 300 S := by
  have key : ∀ d, i + d ≤ 300 → it (fO th T wk) (i + d) S = it (fO th T wk) i S := by
    intro d
    induction d with
    | zero => intro _; rfl
    | succ d ih =>
      intro hd
      rw [show i + (d + 1) = (i + d) + 1 by omega, it_s, ih (by omega), fO, if_pos]
      exact Int32.le_trans h (nI_le (by omega) (by omega))
  have := key (300 - i) (by omega)
  rw [show i + (300 - i) = 300 by omega] at this
  exact this.symm
def kA (th : Nat → Bool) (T : Nat → TH) (i : Nat) (S : SR) : SR := if th i = true then (if tWait (T i).1 (T i).2.1 = 0 then S else sAdd S (nI i)) else S
def sReach (f : Nat → Int32) (th : Nat → Bool) (rt qu : Nat → Int32) (T : Nat → TH) (S : SR) : SR := fF th T 0 (addRQ f rt qu (sFg S))
def sKept (f : Nat → Int32) (th : Nat → Bool) (rt qu : Nat → Int32) (T : Nat → TH) (S : SR) : SR := fF th T 1 (it (kA th T) 300 (addRQ f rt qu (sFg S)))
theorem tHasF_t {len j : Nat} (h : j < len) (hl : len < 2 ^ 31) : tHasF len (nI j) = 1 := by
  unfold tHasF
  rw [if_neg (nI_pos (by omega)), if_neg (nI_ge h hl)]
theorem tHasW_pos {v : Int32} {len : Nat} (h : ¬ tHasW v len = 0) : 0 < len := by
  rcases Nat.eq_zero_or_pos len with q | q
  · subst q
    exfalso; apply h; unfold tHasW tHasF; split
    · decide
    · rfl
  · exact q
theorem kin0 {v : Int32} {len : Nat} (h : ¬ tHasW v len = 0) : vp_in 0 len := by
  have h0 : 0 < len := by
    rcases Nat.eq_zero_or_pos len with q | q
    · subst q
      exfalso; apply h; unfold tHasW tHasF; split
      · decide
      · rfl
    · exact q
  unfold vp_in
  rw [sb_cl0]
  intro q
  rcases q with q | q
  · exact absurd q (by decide)
  · omega
def kWt (th : Nat → Bool) (T : Nat → TH) (i : Nat) (c : Int32) : Int32 := if th i = true then (if tWait (T i).1 (T i).2.1 = 0 then c else c + 1) else c
def kPut (qu f : Nat → Int32) (T : Nat → TH) (k : Nat) (x : Int32) : (Nat → Int32) × (Nat → Int32) × (Nat → TH) := if f 4 < 0 then (qu, f, T) else if f 4 < 300 then (upd qu (f 4).toNatClampNeg x, upd f 4 (f 4 + 1), va_up T k ((T k).1, 1, (T k).2.2.1, (T k).2.2.2)) else (qu, f, T)
def qU (th : Nat → Bool) (b : SR) (i : Nat) (X : (Nat → Int32) × (Nat → Int32) × (Nat → TH) × Int32) : (Nat → Int32) × (Nat → Int32) × (Nat → TH) × Int32 := if th i = true then (if tWait (X.2.2.1 i).1 (X.2.2.1 i).2.1 = 0 then X else if sHas b (nI i) = 0 then ((kPut X.1 X.2.1 X.2.2.1 i (nI i)).1, (kPut X.1 X.2.1 X.2.2.1 i (nI i)).2.1, (kPut X.1 X.2.1 X.2.2.1 i (nI i)).2.2, X.2.2.2 + 1) else X) else X
def fU (th : Nat → Bool) (b w : SR) (i : Nat) (Y : (Nat → TH) × (Nat → Int32)) : (Nat → TH) × (Nat → Int32) := if th i = true then (if tHasW (Y.1 i).1 (Y.1 i).2.2.2.1 = 0 then Y else if sHas w (nI i) = 0 then Y else if (Y.1 i).2.2.2.2 0 = -1 then Y else if sHas b ((Y.1 i).2.2.2.2 0) = 0 then (va_up Y.1 i ((Y.1 i).1, (Y.1 i).2.1, (Y.1 i).2.2.1, (Y.1 i).2.2.2.1, upd (Y.1 i).2.2.2.2 0 (-1)), upd Y.2 9 (Y.2 9 + 1)) else Y) else Y
def sW (w : SR) (i : Nat) (V : (Nat → Bool) × Int32) : (Nat → Bool) × Int32 := if V.1 i = true then (if sHas w (nI i) = 0 then (va_up V.1 i false, V.2 + 1) else V) else V
theorem sHas_01 (S : SR) (x : Int32) : sHas S x = if sHas S x = 0 then 0 else 1 := by
  unfold sHas
  split
  · rfl
  · split
    · rfl
    · split <;> simp
theorem kPut_12 {qu f : Nat → Int32} {T : Nat → TH} {k : Nat} {x : Int32} (h : ∀ k, (T k).2.2.2.1 ≤ 12) : ∀ j, ((kPut qu f T k x).2.2 j).2.2.2.1 ≤ 12 := by
  intro j
  unfold kPut
  split
  · exact h j
  · split
    · by_cases hj : j = k
      · subst hj; simp only [va_up_s]; exact h j
      · simp only [va_up_n hj]; exact h j
    · exact h j
theorem qU_12 {th : Nat → Bool} {b : SR} {n : Nat} {X : (Nat → Int32) × (Nat → Int32) × (Nat → TH) × Int32} (h : ∀ k, (X.2.2.1 k).2.2.2.1 ≤ 12) : ∀ j, ((it (qU th b) n X).2.2.1 j).2.2.2.1 ≤ 12 := by
  induction n with
  | zero => exact h
  | succ n ih =>
    rw [it_s]
    unfold qU
    split
    · split
      · exact ih
      · split
        · exact kPut_12 ih
        · exact ih
    · exact ih
