/-! Part 40: what a search finds. -/
/-- a search's cells are in order: z objects found -/
def Sv (S : SR) (z : Nat) : Prop := S.2.2 = nI z ∧ z = cn (fun k => S.1 k == 1) 300 ∧ (∀ k, k < 300 → S.1 k = 0 ∨ S.1 k = 1) ∧ (∀ p, p < z → ∃ k, k < 300 ∧ S.2.1 p = nI k ∧ S.1 k = 1) ∧ (∀ k, k < 300 → S.1 k = 1 → ∃ p, p < z ∧ S.2.1 p = nI k)
theorem Sv.le {S : SR} {z : Nat} (h : Sv S z) : z ≤ 300 := by rw [h.2.1]; exact cn_le _ _
theorem sAdd_neg {S : SR} : sAdd S (-1) = S := by unfold sAdd; rw [if_pos (by decide)]
theorem sAdd_in {S : SR} {k : Nat} (hk : k < 300) (h : S.1 k = 1) : sAdd S (nI k) = S := by
  unfold sAdd
  rw [if_neg (nI_pos (by omega)), if_neg (k300 hk), nI_clamp (by omega), h, if_neg (by decide)]
theorem sAdd_new {S : SR} {z k : Nat} (hS : Sv S z) (hk : k < 300) (h : S.1 k = 0) : z < 300 ∧ sAdd S (nI k) = (upd S.1 k 1, upd S.2.1 z (nI k), nI (z + 1)) := by
  have hz : z < 300 := by rw [hS.2.1]; exact cn_lt hk (by simp [h])
  refine ⟨hz, ?_⟩
  unfold sAdd
  rw [if_neg (nI_pos (by omega)), if_neg (k300 hk), nI_clamp (by omega), if_pos h, hS.1, if_neg (nI_pos (by omega)), if_pos (l300 hz), nI_clamp (by omega), nI_1]
theorem Sv_new {S : SR} {z k : Nat} (hS : Sv S z) (hk : k < 300) (h : S.1 k = 0) : Sv (upd S.1 k 1, upd S.2.1 z (nI k), nI (z + 1)) (z + 1) := by
  obtain ⟨h1, h2, h3, h4, h5⟩ := hS
  refine ⟨rfl, ?_, ?_, ?_, ?_⟩
  · rw [cn_up (p := fun j => S.1 j == 1) (k := k) hk (by simp [h]) (by simp [upd]) (fun j _ hj => by simp [upd, hj]), ← h2]
  · intro j hj
    by_cases hjk : j = k
    · right; simp [upd, hjk]
    · have := h3 j hj; simpa [upd, hjk] using this
  · intro p hp
    by_cases hpz : p = z
    · exact ⟨k, hk, by simp [upd, hpz], by simp [upd]⟩
    · obtain ⟨j, hj, e1, e2⟩ := h4 p (by omega)
      refine ⟨j, hj, by simpa [upd, hpz] using e1, ?_⟩
      by_cases hjk : j = k
      · simp [upd, hjk]
      · simpa [upd, hjk] using e2
  · intro j hj e
    by_cases hjk : j = k
    · exact ⟨z, by omega, by simp [upd, hjk]⟩
    · obtain ⟨p, hp, e1⟩ := h5 j hj (by simpa [upd, hjk] using e)
      exact ⟨p, by omega, by simpa [upd, Nat.ne_of_lt hp] using e1⟩
theorem nI_inj {a b : Nat} (ha : a < 2 ^ 31) (hb : b < 2 ^ 31) (h : nI a = nI b) : a = b := (nI_eq ha hb).mp h
theorem nI_m1 {a : Nat} (ha : a < 2 ^ 31) : ¬ nI a = -1 := fun h => by
  have h1 := nI_pos ha
  rw [h] at h1
  exact h1 (by decide)
/-- one add: what is found then, and that the order only grows -/
theorem sAdd_ok {S : SR} {z : Nat} {x : Int32} (hS : Sv S z) (hx : x = -1 ∨ ∃ k, k < 300 ∧ x = nI k) :
    ∃ z', Sv (sAdd S x) z' ∧ z ≤ z' ∧ (∀ k, k < 300 → ((sAdd S x).1 k = 1 ↔ S.1 k = 1 ∨ x = nI k)) ∧ ∀ p, p < z → (sAdd S x).2.1 p = S.2.1 p := by
  rcases hx with rfl | ⟨k, hk, rfl⟩
  · rw [sAdd_neg]
    exact ⟨z, hS, Nat.le_refl _, fun k hk => ⟨Or.inl, fun h => h.resolve_right (fun e => nI_m1 (by omega) e.symm)⟩, fun _ _ => rfl⟩
  · rcases hS.2.2.1 k hk with h | h
    · obtain ⟨hz, e⟩ := sAdd_new hS hk h
      rw [e]
      refine ⟨z + 1, Sv_new hS hk h, by omega, fun j hj => ?_, fun p hp => by simp [upd, Nat.ne_of_lt hp]⟩
      by_cases hjk : j = k
      · subst hjk; simp [upd]
      · have hne : ¬ nI k = nI j := fun e => hjk (nI_inj (by omega) (by omega) e).symm
        simp [upd, hjk, hne]
    · rw [sAdd_in hk h]
      refine ⟨z, hS, Nat.le_refl _, fun j hj => ⟨Or.inl, fun h2 => ?_⟩, fun _ _ => rfl⟩
      rcases h2 with h2 | h2
      · exact h2
      · rw [← nI_inj (by omega) (by omega) h2]; exact h
/-- many adds -/
theorem adds_ok {F : Nat → SR → SR} {x : Nat → Int32} {N : Nat} (hF : ∀ i S, i < N → F i S = S ∨ F i S = sAdd S (x i)) (hx : ∀ i, i < N → x i = -1 ∨ ∃ k, k < 300 ∧ x i = nI k) {S : SR} {z : Nat} (hS : Sv S z) :
    ∃ z', Sv (it F N S) z' ∧ z ≤ z' ∧ (∀ k, k < 300 → S.1 k = 1 → (it F N S).1 k = 1) ∧ (∀ k, k < 300 → (it F N S).1 k = 1 → S.1 k = 1 ∨ ∃ i, i < N ∧ F i (it F i S) = sAdd (it F i S) (x i) ∧ x i = nI k) ∧ (∀ i, i < N → ∀ k, k < 300 → x i = nI k → F i (it F i S) = sAdd (it F i S) (x i) → (it F N S).1 k = 1) ∧ ∀ p, p < z → (it F N S).2.1 p = S.2.1 p := by
  induction N with
  | zero => exact ⟨z, hS, Nat.le_refl _, fun _ _ h => h, fun _ _ h => Or.inl h, fun i hi => absurd hi (by omega), fun _ _ => rfl⟩
  | succ N ih =>
    obtain ⟨z1, v1, v2, v3, v4, v5, v6⟩ := ih (fun i S hi => hF i S (by omega)) (fun i hi => hx i (by omega))
    rw [it_s]
    rcases hF N (it F N S) (by omega) with e | e
    · rw [e]
      refine ⟨z1, v1, v2, v3, fun k hk h => ?_, fun i hi k hk hxi hFi => ?_, v6⟩
      · rcases v4 k hk h with q | ⟨i, hi, q⟩
        · exact Or.inl q
        · exact Or.inr ⟨i, by omega, q⟩
      · by_cases hiN : i = N
        · subst hiN
          rw [← e, hFi]
          obtain ⟨z2, w1, w2, w3, w4⟩ := sAdd_ok v1 (hx i (by omega))
          exact (w3 k hk).mpr (Or.inr hxi)
        · exact v5 i (by omega) k hk hxi hFi
    · rw [e]
      obtain ⟨z2, w1, w2, w3, w4⟩ := sAdd_ok v1 (hx N (by omega))
      refine ⟨z2, w1, by omega, fun k hk h => (w3 k hk).mpr (Or.inl (v3 k hk h)), fun k hk h => ?_, fun i hi k hk hxi hFi => ?_, fun p hp => by rw [w4 p (by omega), v6 p hp]⟩
      · rcases (w3 k hk).mp h with q | q
        · rcases v4 k hk q with q | ⟨i, hi, q⟩
          · exact Or.inl q
          · exact Or.inr ⟨i, by omega, q⟩
        · exact Or.inr ⟨N, by omega, e, q⟩
      · by_cases hiN : i = N
        · subst hiN; exact (w3 k hk).mpr (Or.inr hxi)
        · exact (w3 k hk).mpr (Or.inl (v5 i (by omega) k hk hxi hFi))
/-- an empty search -/
theorem Sv_fg (S : SR) : Sv (sFg S) 0 := by
  refine ⟨nI_0.symm, ?_, fun k hk => Or.inl (by simp [sFg, zf, hk]), fun p hp => absurd hp (by omega), fun k hk h => ?_⟩
  · have : ∀ m, m ≤ 300 → cn (fun k => (sFg S).1 k == 1) m = 0 := by
      intro m
      induction m with
      | zero => intro _; rfl
      | succ m ih =>
        intro hm
        simp only [cn]
        rw [ih (by omega)]
        simp [sFg, zf, show m < 300 by omega]
    exact (this 300 (Nat.le_refl _)).symm
  · simp [sFg, zf, hk] at h
-- ===== the closure =====
/-- o is in a field of k that is followed -/
def sc (th : Nat → Bool) (T : Nat → TH) (wk : Int32) (k o : Nat) : Prop := th k = true ∧ o < 300 ∧ ∃ j, j < (T k).2.2.2.1 ∧ ¬ j < fst (T k) wk ∧ (T k).2.2.2.2 j = nI o
/-- what comes from A by followed fields -/
def cl (th : Nat → Bool) (T : Nat → TH) (wk : Int32) (A : Nat → Prop) (k : Nat) : Prop := ∀ P : Nat → Prop, (∀ k, A k → P k) → (∀ k o, P k → sc th T wk k o → P o) → P k
theorem cl_in {th : Nat → Bool} {T : Nat → TH} {wk : Int32} {A : Nat → Prop} {k : Nat} (h : A k) : cl th T wk A k := fun P h1 _ => h1 k h
theorem cl_sc {th : Nat → Bool} {T : Nat → TH} {wk : Int32} {A : Nat → Prop} {k o : Nat} (h : cl th T wk A k) (hs : sc th T wk k o) : cl th T wk A o := fun P h1 h2 => h2 k o (h P h1 h2) hs
/-- every field of a thing that is there holds nothing or a thing's number -/
def fOk (th : Nat → Bool) (T : Nat → TH) : Prop := ∀ k, th k = true → ∀ j, j < (T k).2.2.2.1 → (T k).2.2.2.2 j = -1 ∨ ∃ o, o < 300 ∧ (T k).2.2.2.2 j = nI o
theorem fB_ok {th : Nat → Bool} {T : Nat → TH} {wk : Int32} (hf : fOk th T) {S : SR} {z k : Nat} (hS : Sv S z) (hk : k < 300) : ∃ z', Sv (fB th T wk S (nI k)) z' ∧ z ≤ z' ∧ (∀ o, o < 300 → ((fB th T wk S (nI k)).1 o = 1 ↔ S.1 o = 1 ∨ sc th T wk k o)) ∧ ∀ p, p < z → (fB th T wk S (nI k)).2.1 p = S.2.1 p := by
  unfold fB
  by_cases ht : tOk th (nI k) = true
  · rw [if_pos ht, nI_clamp (by omega)]
    have hth : th k = true := by
      obtain ⟨k', hk', e, h⟩ := tOk_k ht
      rw [nI_inj (by omega) (by omega) e]; exact h
    obtain ⟨z', v1, v2, v3, v4, v5, v6⟩ := adds_ok (F := fJ (T k) wk) (x := (T k).2.2.2.2) (N := (T k).2.2.2.1) (fun i S _ => by unfold fJ; split; exact Or.inl rfl; exact Or.inr rfl) (fun i hi => hf k hth i hi) hS
    refine ⟨z', v1, v2, fun o ho => ⟨fun h => ?_, fun h => ?_⟩, v6⟩
    · rcases v4 o ho h with q | ⟨i, hi, e1, e2⟩
      · exact Or.inl q
      · by_cases hfi : i < fst (T k) wk
        · have e3 : fJ (T k) wk i (it (fJ (T k) wk) i S) = it (fJ (T k) wk) i S := by unfold fJ; rw [if_pos hfi]
          left
          obtain ⟨zi, u1, u2, u3, u4, u5, u6⟩ := adds_ok (F := fJ (T k) wk) (x := (T k).2.2.2.2) (N := i) (fun i S _ => by unfold fJ; split; exact Or.inl rfl; exact Or.inr rfl) (fun i' hi' => hf k hth i' (by omega)) hS
          have h5 : (it (fJ (T k) wk) i S).1 o = 1 := by
            rw [← e3, e1]
            obtain ⟨_, _, _, w3, _⟩ := sAdd_ok u1 (hf k hth i hi)
            exact (w3 o ho).mpr (Or.inr e2)
          have hskip : ∀ m, m ≤ fst (T k) wk → it (fJ (T k) wk) m S = S := by
            intro m
            induction m with
            | zero => intro _; rfl
            | succ m ih => intro hm; rw [it_s, ih (by omega)]; unfold fJ; rw [if_pos (by omega)]
          rw [hskip i (by omega)] at h5
          exact h5
        · exact Or.inr ⟨hth, ho, i, hi, hfi, e2⟩
    · rcases h with h | ⟨-, -, j, hj, hnf, e⟩
      · exact v3 o ho h
      · exact v5 j hj o ho e (by unfold fJ; rw [if_neg hnf])
  · rw [if_neg ht]
    have hth : ¬ th k = true := fun h => ht (tOk_i hk h)
    exact ⟨z, hS, Nat.le_refl _, fun o _ => ⟨Or.inl, fun h => h.resolve_right (fun q => hth q.1)⟩, fun _ _ => rfl⟩
/-- followFields: what it finds is the closure of what was found -/
theorem fN_ok {th : Nat → Bool} {T : Nat → TH} {wk : Int32} (hf : fOk th T) {S : SR} {z N : Nat} (hN : N = 300) (hS : Sv S z) : ∃ z', Sv (it (fO th T wk) N S) z' ∧ ∀ o, o < 300 → ((it (fO th T wk) N S).1 o = 1 ↔ cl th T wk (fun k => k < 300 ∧ S.1 k = 1) o) := by
  have key : ∀ i, i ≤ N → ∃ zi, Sv (it (fO th T wk) i S) zi ∧ (∀ o, o < 300 → S.1 o = 1 → (it (fO th T wk) i S).1 o = 1) ∧ (∀ o, o < 300 → (it (fO th T wk) i S).1 o = 1 → cl th T wk (fun k => k < 300 ∧ S.1 k = 1) o) ∧
      (∀ p, p < i → p < zi → ∀ k, k < 300 → (it (fO th T wk) i S).2.1 p = nI k → ∀ o, sc th T wk k o → (it (fO th T wk) i S).1 o = 1) := by
    intro i
    induction i with
    | zero => intro _; exact ⟨z, hS, fun _ _ h => h, fun o ho h => cl_in ⟨ho, h⟩, fun p hp => absurd hp (by omega)⟩
    | succ i ih =>
      intro hi
      obtain ⟨zi, v1, v2, v3, v4⟩ := ih (by omega)
      rw [it_s]
      generalize it (fO th T wk) i S = Si at v1 v2 v3 v4
      unfold fO
      have hzi := v1.le
      by_cases hc : Si.2.2 ≤ nI i
      · rw [if_pos hc]
        rw [v1.1] at hc
        have hle : zi ≤ i := (nI_leI (by omega) (by omega)).mp hc
        exact ⟨zi, v1, v2, v3, fun p hp hpz => v4 p (by omega) hpz⟩
      · rw [if_neg hc]
        rw [v1.1] at hc
        have hlt : i < zi := by
          rcases Nat.lt_or_ge i zi with q | q
          · exact q
          · exact absurd (nI_le q (by omega)) hc
        obtain ⟨k, hk, e1, e2⟩ := v1.2.2.2.1 i hlt
        have hat : sAt Si (nI i) = nI k := by
          unfold sAt
          rw [if_neg (nI_pos (by omega)), v1.1, if_neg hc, if_neg (k300 (by omega)), nI_clamp (by omega)]
          exact e1
        rw [hat]
        obtain ⟨z', w1, w2, w3, w4⟩ := fB_ok (wk := wk) hf v1 hk
        refine ⟨z', w1, fun o ho h => (w3 o ho).mpr (Or.inl (v2 o ho h)), fun o ho h => ?_, fun p hp hpz k' hk' e o hs => ?_⟩
        · rcases (w3 o ho).mp h with q | q
          · exact v3 o ho q
          · exact cl_sc (v3 k hk e2) q
        · by_cases hpi : p = i
          · subst hpi
            rw [w4 p hlt, e1] at e
            have := nI_inj (by omega) (by omega) e
            subst this
            exact (w3 o hs.2.1).mpr (Or.inr hs)
          · rcases Nat.lt_or_ge p zi with q | q
            · rw [w4 p q] at e
              exact (w3 o hs.2.1).mpr (Or.inl (v4 p (by omega) q k' hk' e o hs))
            · omega
  obtain ⟨z', v1, v2, v3, v4⟩ := key N (Nat.le_refl _)
  refine ⟨z', v1, fun o ho => ⟨v3 o ho, fun h => ?_⟩⟩
  have hP := h (fun o => o < 300 ∧ (it (fO th T wk) N S).1 o = 1) (fun k hk => ⟨hk.1, v2 k hk.1 hk.2⟩) (fun k o hk hs => by
    refine ⟨hs.2.1, ?_⟩
    obtain ⟨p, hp, e⟩ := v1.2.2.2.2 k hk.1 hk.2
    have := v1.le
    exact v4 p (by omega) hp k hk.1 e o hs)
  exact hP.2
set_option maxRecDepth 100000 in
theorem fF_ok {th : Nat → Bool} {T : Nat → TH} {wk : Int32} (hf : fOk th T) {S : SR} {z : Nat} (hS : Sv S z) : ∃ z', Sv (fF th T wk S) z' ∧ ∀ o, o < 300 → ((fF th T wk S).1 o = 1 ↔ cl th T wk (fun k => k < 300 ∧ S.1 k = 1) o) := by
  unfold fF
  exact fN_ok hf rfl hS
theorem cl_congr {th : Nat → Bool} {T : Nat → TH} {wk : Int32} {A B : Nat → Prop} (h : ∀ k, A k ↔ B k) (o : Nat) : cl th T wk A o ↔ cl th T wk B o := ⟨fun q P h1 h2 => q P (fun k hk => h1 k ((h k).mp hk)) h2, fun q P h1 h2 => q P (fun k hk => h1 k ((h k).mpr hk)) h2⟩
/-- nothing, or a place among the 300 -/
def vOk (x : Int32) : Prop := x = -1 ∨ ∃ k, k < 300 ∧ x = nI k
/-- in a root, or in the queue -/
def sd (f rt qu : Nat → Int32) (k : Nat) : Prop := k < 300 ∧ ((∃ r, r < 16 ∧ rt r = nI k) ∨ ∃ i, i < (f 4 - f 3).toNatClampNeg ∧ kQp f qu (nI i) = nI k)
theorem addRQ_ok {f rt qu : Nat → Int32} (hr : ∀ r, r < 16 → vOk (rt r)) (hq : ∀ i, i < (f 4 - f 3).toNatClampNeg → vOk (kQp f qu (nI i))) (S : SR) : ∃ z, Sv (addRQ f rt qu (sFg S)) z ∧ ∀ k, k < 300 → ((addRQ f rt qu (sFg S)).1 k = 1 ↔ sd f rt qu k) := by
  obtain ⟨z1, u1, u2, u3, u4, u5, u6⟩ := adds_ok (F := fun i S => sAdd S (rt i)) (x := rt) (N := 16) (fun i S _ => Or.inr rfl) hr (Sv_fg S)
  obtain ⟨z2, v1, v2, v3, v4, v5, v6⟩ := adds_ok (F := fun i S => sAdd S (kQp f qu (nI i))) (x := fun i => kQp f qu (nI i)) (N := (f 4 - f 3).toNatClampNeg) (fun i S _ => Or.inr rfl) hq u1
  refine ⟨z2, v1, fun k hk => ⟨fun h => ⟨hk, ?_⟩, fun h => ?_⟩⟩
  · rcases v4 k hk h with q | ⟨i, hi, -, e⟩
    · rcases u4 k hk q with q | ⟨i, hi, -, e⟩
      · simp [sFg, zf, hk] at q
      · exact Or.inl ⟨i, hi, e⟩
    · exact Or.inr ⟨i, hi, e⟩
  · rcases h.2 with ⟨r, hr', e⟩ | ⟨i, hi, e⟩
    · exact v3 k hk (u5 r hr' k hk e rfl)
    · exact v5 i hi k hk e rfl
set_option maxRecDepth 100000 in
theorem sReach_ok {f rt qu : Nat → Int32} {th : Nat → Bool} {T : Nat → TH} (hf : fOk th T) (hr : ∀ r, r < 16 → vOk (rt r)) (hq : ∀ i, i < (f 4 - f 3).toNatClampNeg → vOk (kQp f qu (nI i))) (S : SR) : ∃ z, Sv (sReach f th rt qu T S) z ∧ ∀ k, k < 300 → ((sReach f th rt qu T S).1 k = 1 ↔ cl th T 0 (sd f rt qu) k) := by
  obtain ⟨z, h1, h2⟩ := addRQ_ok hr hq S
  obtain ⟨z', h3, h4⟩ := fF_ok (wk := 0) hf h1
  unfold sReach
  refine ⟨z', h3, fun k hk => (h4 k hk).trans (cl_congr (fun j => ?_) k)⟩
  exact ⟨fun q => (h2 j q.1).mp q.2, fun q => ⟨q.1, (h2 j q.1).mpr q⟩⟩
/-- .. or waits for the queue -/
def sdK (f rt qu : Nat → Int32) (th : Nat → Bool) (T : Nat → TH) (k : Nat) : Prop := sd f rt qu k ∨ (k < 300 ∧ th k = true ∧ ¬ tWait (T k).1 (T k).2.1 = 0)
set_option maxRecDepth 100000 in
theorem sKept_ok {f rt qu : Nat → Int32} {th : Nat → Bool} {T : Nat → TH} (hf : fOk th T) (hr : ∀ r, r < 16 → vOk (rt r)) (hq : ∀ i, i < (f 4 - f 3).toNatClampNeg → vOk (kQp f qu (nI i))) (S : SR) : ∃ z, Sv (sKept f th rt qu T S) z ∧ ∀ k, k < 300 → ((sKept f th rt qu T S).1 k = 1 ↔ cl th T 1 (sdK f rt qu th T) k) := by
  obtain ⟨z, h1, h2⟩ := addRQ_ok hr hq S
  obtain ⟨z1, v1, v2, v3, v4, v5, v6⟩ := adds_ok (F := kA th T) (x := fun i => nI i) (N := 300) (fun i S _ => by unfold kA; split; split; exact Or.inl rfl; exact Or.inr rfl; exact Or.inl rfl) (fun i hi => Or.inr ⟨i, hi, rfl⟩) h1
  obtain ⟨z', h3, h4⟩ := fF_ok (wk := 1) hf v1
  unfold sKept
  refine ⟨z', h3, fun k hk => (h4 k hk).trans (cl_congr (fun j => ?_) k)⟩
  constructor
  · rintro ⟨hj, h⟩
    by_cases hw : th j = true ∧ ¬ tWait (T j).1 (T j).2.1 = 0
    · exact Or.inr ⟨hj, hw⟩
    · rcases v4 j hj h with q | ⟨i, hi, e1, e2⟩
      · exact Or.inl ((h2 j hj).mp q)
      · have := nI_inj (by omega) (by omega) e2
        subst this
        have e3 : kA th T i (it (kA th T) i (addRQ f rt qu (sFg S))) = it (kA th T) i (addRQ f rt qu (sFg S)) := by
          unfold kA
          split
          · split
            · rfl
            · rename_i a b; exact absurd ⟨a, b⟩ hw
          · rfl
        obtain ⟨zi, w1, w2, w3, w4, w5, w6⟩ := adds_ok (F := kA th T) (x := fun i => nI i) (N := i) (fun i S _ => by unfold kA; split; split; exact Or.inl rfl; exact Or.inr rfl; exact Or.inl rfl) (fun i' hi' => Or.inr ⟨i', by omega, rfl⟩) h1
        obtain ⟨_, _, _, x3, _⟩ := sAdd_ok w1 (Or.inr ⟨i, hi, rfl⟩)
        have h6 : (it (kA th T) i (addRQ f rt qu (sFg S))).1 i = 1 := by
          rw [← e3, e1]
          exact (x3 i hi).mpr (Or.inr rfl)
        rcases w4 i hi h6 with q | ⟨i', hi', -, e4⟩
        · exact Or.inl ((h2 i hi).mp q)
        · exact absurd (nI_inj (by omega) (by omega) e4) (by omega)
  · rintro (h | ⟨hj, ht, hw⟩)
    · exact ⟨h.1, v3 j h.1 ((h2 j h.1).mpr h)⟩
    · refine ⟨hj, v5 j hj j hj rfl ?_⟩
      unfold kA
      rw [if_pos ht, if_neg hw]
