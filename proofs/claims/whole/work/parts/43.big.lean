/-! Part 43: take, sweep, clear side by side. -/
theorem it_mTk {a : Nat → Nat → Int32} (m : Nat) : it mTk m a = va_up a 10 (fun i => if i < m then a 10 (i + 1) else a 10 i) := by
  induction m with
  | zero =>
    show a = _
    rw [va_up_same]
    funext i
    rw [if_neg (by omega)]
  | succ m ih =>
    rw [it_s, ih, mTk, bx_uu]
    congr 1
    rw [va_up_s]
    funext i
    by_cases h : i = m
    · subst h
      rw [pk_us, if_neg (by omega), if_pos (by omega)]
    · rw [pk_un h]
      by_cases h2 : i < m
      · rw [if_pos h2, if_pos (by omega)]
      · rw [if_neg h2, if_neg (by omega)]
theorem it_stop {α : Type} {F : Nat → α → α} {n : Nat} {x : α} (h : ∀ i y, n ≤ i → F i y = y) (m : Nat) (hm : n ≤ m) : it F m x = it F n x := by
  induction m with
  | zero => rw [show n = 0 by omega]
  | succ m ih =>
    by_cases hn : n = m + 1
    · rw [hn]
    · rw [it_s, h m _ (by omega)]; exact ih (by omega)
theorem cn_split {p q : Nat → Bool} (n : Nat) : cn p n = cn (fun k => p k && q k) n + cn (fun k => p k && !q k) n := by
  induction n with
  | zero => rfl
  | succ n ih =>
    simp only [cn]
    rw [ih]
    by_cases hp : p n = true <;> by_cases hq : q n = true <;> simp [hp, hq] <;> omega
theorem it_pres {α : Type} {F : Nat → α → α} {P : α → Prop} (h : ∀ i x, P x → P (F i x)) {x : α} (hx : P x) (m : Nat) : P (it F m x) := by
  induction m with
  | zero => exact hx
  | succ m ih => rw [it_s]; exact h m _ ih
/-- what is found is 0 or 1 -/
def b01 (n : Nat) (fd : Nat → Int32) : Prop := ∀ k, k < n → fd k = 0 ∨ fd k = 1
theorem b01_up {n : Nat} {fd : Nat → Int32} {j : Nat} (h : b01 n fd) : b01 n (upd fd j 1) := fun k hk => by
  by_cases q : k = j
  · subst q; right; exact pk_us
  · rw [pk_un q]; exact h k hk
theorem b01_K {kp : Int32} {a : Nat → Nat → Int32} {n k : Nat} {X : (Nat → Int32) × Int32} (h : b01 n X.1) : b01 n (mK kp a k X).1 := by
  unfold mK
  split
  · exact h
  · refine it_pres (P := fun Y : (Nat → Int32) × Int32 => b01 n Y.1) (fun j Y hY => ?_) h _
    unfold mJs
    split
    · exact hY
    · unfold mJ
      split
      · exact hY
      · split
        · exact b01_up hY
        · exact hY
theorem b01_W {kp : Int32} {a : Nat → Nat → Int32} {n : Nat} : ∀ (fu : Nat) (fd : Nat → Int32), b01 n fd → b01 n (mW kp a n fu fd) := by
  intro fu
  induction fu with
  | zero => intro fd h; exact h
  | succ fu ih =>
    intro fd h
    have h1 : b01 n (it (mK kp a) n (fd, 0)).1 := it_pres (P := fun Y : (Nat → Int32) × Int32 => b01 n Y.1) (fun _ _ hY => b01_K hY) h n
    rw [mW]
    split
    · exact h1
    · exact ih _ h1
theorem b01_D {kp : Int32} {a : Nat → Nat → Int32} {n q : Nat} {fd : Nat → Int32} : b01 n (mD kp a n q fd) := by
  unfold mD
  refine b01_W 301 _ (it_pres (fun i x hx => b01_up hx) (it_pres (fun i x hx => ?_) (fun k hk => ?_) 16) q)
  · unfold mD2
    split
    · exact hx
    · exact b01_up hx
  · rw [it_D1, if_pos hk]
    unfold m1v
    split
    · exact Or.inl rfl
    · split
      · exact Or.inl rfl
      · split
        · split
          · exact Or.inr rfl
          · exact Or.inl rfl
        · exact Or.inl rfl
theorem nar01 {x : Int32} (h : x = 0 ∨ x = 1) : vp_nar .boolean x = 0 ↔ x = 0 := by
  rcases h with rfl | rfl
  · rw [kb0]
  · rw [kb1]
section INV4
variable {n s e : Nat} {f : Nat → Int32} {th : Nat → Bool} {rt qu : Nat → Int32} {T : Nat → TH} {g : Nat → Int32} {a : Nat → Nat → Int32}
theorem Inv.take (h : Inv n s e f th rt qu T g a) {q : Nat} (hq : e - s = q + 1) : ∃ k, k < 300 ∧ th k = true ∧ kQp f qu 0 = nI k ∧ a 10 0 = nI k ∧
    Inv n (s + 1) e (upd f 3 (f 3 + 1)) th rt qu (va_up T k (0, (T k).2)) (upd (upd g 0 0) 9 (g 9 - 1)) (va_up (it mTk q a) 3 (upd ((it mTk q a) 3) k 0)) := by
  obtain ⟨k, hk, e0⟩ := h.qok 0 (by omega)
  have e1 := h.qp (i := 0) (by omega)
  rw [nI_0] at e1
  have e2 := h.a10 0 (by omega)
  refine ⟨k, h.th3 hk, hk, by rw [e1, e0], by rw [e2, e0], ?_⟩
  rw [it_mTk]
  have hkn := h.hn k hk
  generalize hT2 : va_up T k (0, (T k).2) = T2
  have hs : T2 k = (0, (T k).2) := by rw [← hT2, va_up_s]
  have ho : ∀ i, i ≠ k → T2 i = T i := fun i hi => by rw [← hT2, va_up_n hi]
  have e3 : ∀ i, (T2 i).2 = (T i).2 := fun i => by
    by_cases hi : i = k
    · subst hi; rw [hs]
    · rw [ho i hi]
  refine ⟨h.n3, h.f7, h.g1, h.hn, h.a2, ?_, fun i hi => by rw [e3]; exact h.a4 i hi, fun i => by rw [e3]; exact h.l12 i, fun i hi => by rw [e3]; exact h.a5 i hi, h.a5z, h.hF, fun i hi => by rw [e3]; exact h.a6 i hi, h.a6z, fun i hi => by rw [e3]; exact h.a7 i hi, h.a7z, ?_, h.rts, h.rok, ?_, h.f4, by omega, ?_, ?_, ?_, ?_, fun i hi => by rw [e3]; exact h.fok i hi, h.f8, h.f9, h.f11⟩
  · intro i hi
    show upd (a 3) k 0 i = _
    by_cases hik : i = k
    · subst hik; rw [pk_us, hs]
    · rw [pk_un hik, ho i hik]; exact h.a3 i hi
  · intro i hi
    by_cases hik : i = k
    · subst hik; rw [hs]; intro z; exact absurd (show (0 : Int32) = 1 from z) (by decide)
    · rw [ho i hik]; exact h.w1 i hi
  · show f 3 + 1 = _
    rw [h.f3, nI_1]
  · have : cn (fun i => (T2 i).2.1 != 0) n = cn (fun i => (T i).2.1 != 0) n := cn_congr (fun i _ => by rw [e3])
    rw [this]; exact h.ec
  · show g 9 - 1 = _
    rw [h.g9, hq, nI_pred]
    congr 1; omega
  · intro i hi
    show (if i < q then a 10 (i + 1) else a 10 i) = _
    rw [if_pos (by omega), h.a10 (i + 1) (by omega)]
    congr 1; omega
  · intro i hi
    obtain ⟨k', hk', z⟩ := h.qok (i + 1) (by omega)
    exact ⟨k', hk', by rw [show s + 1 + i = s + (i + 1) by omega]; exact z⟩
-- ===== sweep =====
theorem it_sW {W : SR} (m : Nat) : it (sW W) m (th, 0) = ((fun k => if k < m then (th k && (sHas W (nI k) != 0)) else th k), nI (cn (fun k => th k && !(sHas W (nI k) != 0)) m)) := by
  induction m with
  | zero =>
    show (th, (0 : Int32)) = _
    exact Prod.ext (funext fun k => by simp) (show (0 : Int32) = nI 0 from nI_0.symm)
  | succ m ih =>
    rw [it_s, ih]
    unfold sW
    have h1 : (fun k => if k < m then (th k && (sHas W (nI k) != 0)) else th k) m = th m := if_neg (by omega)
    simp only [Nat.lt_irrefl, if_false]
    have hst : ∀ v : Bool, v = (th m && (sHas W (nI m) != 0)) → va_up (fun k => if k < m then (th k && (sHas W (nI k) != 0)) else th k) m v = fun k => if k < m + 1 then (th k && (sHas W (nI k) != 0)) else th k := by
      intro v hv
      funext k
      by_cases hk : k = m
      · subst hk; rw [va_up_s, if_pos (by omega), hv]
      · rw [va_up_n hk]
        by_cases h2 : k < m
        · rw [if_pos h2, if_pos (by omega)]
        · rw [if_neg h2, if_neg (by omega)]
    have hsame : th m = (th m && (sHas W (nI m) != 0)) → (fun k => if k < m then (th k && (sHas W (nI k) != 0)) else th k) = fun k => if k < m + 1 then (th k && (sHas W (nI k) != 0)) else th k := by
      intro hv
      rw [← hst (th m) hv, va_up_same h1]
    by_cases ht : th m = true
    · rw [if_pos ht]
      by_cases hw : sHas W (nI m) = 0
      · rw [if_pos hw, hst false (by simp [ht, hw]), cn]
        simp [ht, hw, nI_1]
      · rw [if_neg hw, hsame (by simp [ht, hw]), cn]
        simp [ht, hw]
    · rw [if_neg ht, hsame (by simp [ht]), cn]
      simp [ht]
theorem it_mSw {fd : Nat → Int32} {A : Nat → Nat → Int32} (hA : A 14 = fd) (m : Nat) : it mSw m (A, 0) = (va_up A 2 (fun k => if k < m then (if A 2 k = 0 then 0 else if fd k = 0 then 0 else 1) else A 2 k), nI (cn (fun k => A 2 k != 0 && !(fd k != 0)) m)) := by
  induction m with
  | zero =>
    show (A, (0 : Int32)) = _
    exact Prod.ext (va_up_same (funext fun k => (if_neg (by omega)).symm)).symm (show (0 : Int32) = nI 0 from nI_0.symm)
  | succ m ih =>
    rw [it_s, ih]
    unfold mSw
    have e14 : ∀ z : Nat → Int32, va_up A 2 z 14 = fd := fun z => by rw [va_up_n (by decide), hA]
    simp only [va_up_s, e14, bx_uu, Nat.lt_irrefl, if_false]
    refine Prod.ext ?_ ?_
    · refine congrArg (va_up A 2) (funext fun k => ?_)
      by_cases hk : k = m
      · subst hk; rw [pk_us, if_pos (show k < k + 1 by omega)]
      · rw [pk_un hk]
        by_cases h2 : k < m
        · rw [if_pos h2, if_pos (show k < m + 1 by omega)]
        · rw [if_neg h2, if_neg (show ¬ k < m + 1 by omega)]
    · show (if A 2 m = 0 then _ else if fd m = 0 then _ else _) = nI (cn _ (m + 1))
      rw [cn]
      by_cases h1 : A 2 m = 0
      · simp [h1]
      · by_cases h2 : fd m = 0
        · rw [if_neg h1, if_pos h2, nI_1]; simp [h1, h2]
        · simp [h1, h2]
theorem Inv.sweep (h : Inv n s e f th rt qu T g a) (w : SR) : 
    (it (sW (sKept f th rt qu T w)) 300 (th, 0)).2 = (it mSw n (va_up a 14 (mD 1 a n (e - s) (a 14)), 0)).2 ∧
    Inv n s e (upd f 8 (f 8 - (it (sW (sKept f th rt qu T w)) 300 (th, 0)).2)) (it (sW (sKept f th rt qu T w)) 300 (th, 0)).1 rt qu T (upd g 0 0) (it mSw n (va_up a 14 (mD 1 a n (e - s) (a 14)), 0)).1 := by
  have hn3 := h.n3
  obtain ⟨z, hS, hc⟩ := h.kept w
  obtain ⟨c1, c2, -, c4, c5⟩ := h.same hS hc (a 14)
  generalize sKept f th rt qu T w = W at hS hc c1 c2 c4 c5 ⊢
  generalize hfd : mD 1 a n (e - s) (a 14) = fd at c1 ⊢
  rw [it_sW, it_mSw (fd := fd) va_up_s]
  generalize hth2 : (fun k => if k < 300 then (th k && (sHas W (nI k) != 0)) else th k) = th2
  have ht2 : ∀ k, th2 k = true ↔ (th k = true ∧ ¬ sHas W (nI k) = 0) := fun k => by
    rw [← hth2]
    by_cases hk : k < 300
    · simp [hk]
    · simp only [hk, if_false]
      exact ⟨fun q => absurd (h.th3 q) hk, fun q => q.1⟩
  have hgone : cn (fun k => th k && !(sHas W (nI k) != 0)) 300 = cn (fun k => th k && !(sHas W (nI k) != 0)) n := cn_ext hn3 (fun k hk _ => by
    by_cases q : th k = true
    · have := h.hn k q; omega
    · simp [q])
  have hth2n : cn th2 n = cn (fun k => th k && (sHas W (nI k) != 0)) n := cn_congr (fun k hk => by
    rw [← hth2]; simp [show k < 300 by omega])
  have hsp := cn_split (p := th) (q := fun k => sHas W (nI k) != 0) n
  refine ⟨?_, h.n3, h.f7, h.g1, fun k hk => h.hn k ((ht2 k).mp hk).1, ?_, h.a3, h.a4, h.l12, h.a5, h.a5z, h.hF, h.a6, h.a6z, h.a7, h.a7z, h.w1, h.rts, ?_, h.f3, h.f4, h.se, h.ec, h.g9, h.a10, ?_, ?_, ?_, h.f9, h.f11⟩
  · dsimp only
    rw [hgone]
    congr 1
    refine cn_congr (fun k hk => ?_)
    show _ = (a 2 k != 0 && !(fd k != 0))
    rw [h.a2 k hk]
    have := c1 k hk
    by_cases q : th k = true
    · by_cases r : sHas W (nI k) = 0
      · have : fd k = 0 := Classical.byContradiction (fun z => this.mpr z r)
        simp [q, r, this]
      · have r1 : (sHas W (nI k) != 0) = true := by simpa using r
        have r2 : (fd k != 0) = true := by simpa using this.mp r
        rw [r1, r2]; simp
    · simp [q]
  · intro k hk
    show (if k < n then (if a 2 k = 0 then (0 : Int32) else if fd k = 0 then 0 else 1) else a 2 k) = _
    rw [if_pos hk, h.a2 k hk]
    have hc1 := c1 k hk
    have h2 := ht2 k
    by_cases q : th k = true
    · by_cases r : sHas W (nI k) = 0
      · have : fd k = 0 := Classical.byContradiction (fun z => hc1.mpr z r)
        have h3 : ¬ th2 k = true := fun z => (h2.mp z).2 r
        simp [q, this, h3]
      · have h3 := hc1.mp r
        have h4 := h2.mpr ⟨q, r⟩
        simp [q, h3, h4]
    · have h3 : ¬ th2 k = true := fun z => q (h2.mp z).1
      simp [q, h3]
  · intro r hr
    rcases h.rok r hr with q | ⟨k, hk, q⟩
    · exact Or.inl q
    · exact Or.inr ⟨k, (ht2 k).mpr ⟨hk, c5 k (h.th3 hk) (Or.inl ⟨h.th3 hk, Or.inl ⟨r, hr, q⟩⟩)⟩, q⟩
  · intro i hi
    obtain ⟨k, hk, q⟩ := h.qok i hi
    exact ⟨k, (ht2 k).mpr ⟨hk, c5 k (h.th3 hk) (Or.inl ⟨h.th3 hk, Or.inr ⟨i, by rw [h.sz]; exact hi, by rw [h.qp hi]; exact q⟩⟩)⟩, q⟩
  · intro k hk j hj
    obtain ⟨hk1, hk2⟩ := (ht2 k).mp hk
    rcases h.fok k hk1 j hj with q | ⟨o, ho, q⟩
    · exact Or.inl q
    · exact Or.inr ⟨o, (ht2 o).mpr ⟨ho, c4 k o (h.th3 hk1) hk2 ⟨hk1, h.th3 ho, j, hj, by unfold fst; rw [if_neg (by decide)]; omega, q⟩⟩, q⟩
  · show f 8 - _ = _
    dsimp only
    rw [hgone, h.f8, pk_sub (by omega), hth2n]
    congr 1
    omega
end INV4
