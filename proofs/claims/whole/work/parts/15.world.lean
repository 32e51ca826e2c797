/-! Part 03: the world. Cells 0-9: the keeper, its arrays, its two searches; 10-20: the model and its arrays; 21: the law's out; from 22 on: thing k at 22 + 2k, its fields at 23 + 2k. -/
abbrev SR : Type := (Nat → Int32) × (Nat → Int32) × Int32
abbrev TH : Type := Int32 × Int32 × Int32 × Nat × (Nat → Int32)
def wL (N : Nat) (ad : Nat → Nat) (c : Nat → va_E) : va_W := (List.range N).map (fun i => (ad i, c i))
theorem wl_len {N : Nat} {ad : Nat → Nat} {c : Nat → va_E} : (wL N ad c).length = N := by simp [wL]
theorem wl_get {N : Nat} {ad : Nat → Nat} {c : Nat → va_E} {i : Nat} (h : i < N) : (wL N ad c)[i]? = some (ad i, c i) := by simp [wL, h]
theorem wl_at {N : Nat} {ad : Nat → Nat} {c : Nat → va_E} {i : Nat} {e : va_E} (h : i < N) (hc : c i = e) : (wL N ad c)[i]? = some (ad i, e) := by rw [wl_get h, hc]
theorem wl_none {N : Nat} {ad : Nat → Nat} {c : Nat → va_E} {i : Nat} (h : ¬ i < N) : (wL N ad c)[i]? = none := by simp [wL]; omega
theorem wl_set {N : Nat} {ad : Nat → Nat} {c : Nat → va_E} {i : Nat} {e : va_E} : (wL N ad c).set i (ad i, e) = wL N ad (va_up c i e) := by
  apply List.ext_getElem?
  intro j
  by_cases hj : j < N
  · rw [wl_get hj]
    by_cases hji : j = i
    · subst hji
      rw [List.getElem?_set_self (by rw [wl_len]; exact hj)]
      simp [va_up]
    · rw [List.getElem?_set_ne (fun h => hji h.symm), wl_get hj]
      simp [va_up, hji]
  · rw [wl_none hj]
    by_cases hji : j = i
    · subst hji
      rw [List.getElem?_eq_none (by rw [List.length_set, wl_len]; omega)]
    · rw [List.getElem?_set_ne (fun h => hji h.symm), wl_none hj]
theorem wl_push {N : Nat} {ad : Nat → Nat} {c : Nat → va_E} {q : Nat} {e : va_E} : wL N ad c ++ [(q, e)] = wL (N + 1) (va_up ad N q) (va_up c N e) := by
  apply List.ext_getElem?
  intro j
  by_cases hj : j < N
  · rw [List.getElem?_append_left (by rw [wl_len]; exact hj), wl_get hj, wl_get (by omega)]
    simp [va_up, Nat.ne_of_lt hj]
  · rw [List.getElem?_append_right (by rw [wl_len]; omega), wl_len]
    by_cases hjn : j = N
    · subst hjn
      rw [wl_get (by omega)]
      simp [va_up]
    · rw [wl_none (by omega), List.getElem?_eq_none (by simp; omega)]
theorem wl_congr {N : Nat} {ad ad' : Nat → Nat} {c c' : Nat → va_E} (ha : ∀ i, i < N → ad i = ad' i) (hc : ∀ i, i < N → c i = c' i) : wL N ad c = wL N ad' c' := by
  apply List.ext_getElem?
  intro j
  by_cases hj : j < N
  · rw [wl_get hj, wl_get hj, ha j hj, hc j hj]
  · rw [wl_none hj, wl_none hj]
theorem va_up_s {α : Type} {f : Nat → α} {k : Nat} {v : α} : va_up f k v k = v := by simp [va_up]
theorem va_up_n {α : Type} {f : Nat → α} {k j : Nat} {v : α} (h : j ≠ k) : va_up f k v j = f j := by simp [va_up, h]
theorem va_up_same {α : Type} {f : Nat → α} {k : Nat} {v : α} (h : f k = v) : va_up f k v = f := by
  funext j
  by_cases hj : j = k
  · subst hj; rw [va_up_s, h]
  · rw [va_up_n hj]

/-- a search's three cells laid over c -/
def sUp (ty : Nat → ClassId) (ad : Nat → Nat) (c : Nat → va_E) (i j k : Nat) (S : SR) : Nat → va_E := fun x => if x = i then .inr (1, [.ref (ad j), .ref (ad k), .int S.2.2]) else if x = j then .inl (ty 1, 300, .inl S.1) else if x = k then .inl (ty 0, 300, .inl S.2.1) else c x
section SW
variable {ty : Nat → ClassId} {ad : Nat → Nat} {c : Nat → va_E} {i j k N : Nat} {S : SR}
theorem sw_o (hi : i < N) : (wL N ad (sUp ty ad c i j k S))[i]? = some (ad i, .inr (1, [.ref (ad j), .ref (ad k), .int S.2.2])) := wl_at hi (by simp [sUp])
theorem sw_f (hj : j < N) (hji : j ≠ i) : (wL N ad (sUp ty ad c i j k S))[j]? = some (ad j, .inl (ty 1, 300, .inl S.1)) := wl_at hj (by simp [sUp, hji])
theorem sw_r (hk : k < N) (hki : k ≠ i) (hkj : k ≠ j) : (wL N ad (sUp ty ad c i j k S))[k]? = some (ad k, .inl (ty 0, 300, .inl S.2.1)) := wl_at hk (by simp [sUp, hki, hkj])
theorem sw_so {v : Int32} : (wL N ad (sUp ty ad c i j k S)).set i (ad i, .inr (1, [.ref (ad j), .ref (ad k), .int v])) = wL N ad (sUp ty ad c i j k (S.1, S.2.1, v)) := by
  rw [wl_set]; congr 1; funext x; by_cases h1 : x = i <;> simp [va_up, sUp, h1]
theorem sw_sf {f : Nat → Int32} (hji : j ≠ i) : (wL N ad (sUp ty ad c i j k S)).set j (ad j, .inl (ty 1, 300, .inl f)) = wL N ad (sUp ty ad c i j k (f, S.2.1, S.2.2)) := by
  rw [wl_set]; congr 1; funext x; by_cases h1 : x = j
  · subst h1; simp [va_up, sUp, hji]
  · simp [va_up, sUp, h1]
theorem sw_sr {f : Nat → Int32} (hki : k ≠ i) (hkj : k ≠ j) : (wL N ad (sUp ty ad c i j k S)).set k (ad k, .inl (ty 0, 300, .inl f)) = wL N ad (sUp ty ad c i j k (S.1, f, S.2.2)) := by
  rw [wl_set]; congr 1; funext x; by_cases h1 : x = k
  · subst h1; simp [va_up, sUp, hki, hkj]
  · simp [va_up, sUp, h1]
theorem sUp_up {S' : SR} : sUp ty ad (sUp ty ad c i j k S) i j k S' = sUp ty ad c i j k S' := by
  funext x; simp only [sUp]; split
  · rfl
  · split
    · rfl
    · split <;> rfl
theorem sUp_same (hi : c i = .inr (1, [.ref (ad j), .ref (ad k), .int S.2.2])) (hj : c j = .inl (ty 1, 300, .inl S.1)) (hk : c k = .inl (ty 0, 300, .inl S.2.1)) : sUp ty ad c i j k S = c := by
  funext x; simp only [sUp]; split
  · rename_i h; subst h; exact hi.symm
  · split
    · rename_i h; subst h; exact hj.symm
    · split
      · rename_i h; subst h; exact hk.symm
      · rfl
end SW
def thf (ad : Nat → Nat) (th : Nat → Bool) : Nat → Option Nat := fun k => if th k then some (ad (22 + 2 * k)) else none
/-- thing k's two cells -/
def tc (ty : Nat → ClassId) (ad : Nat → Nat) (T : Nat → TH) (i : Nat) : va_E := if i % 2 = 0 then .inr (2, [.ref (ad (i + 23)), .int (T (i / 2)).1, .int (T (i / 2)).2.1, .int (T (i / 2)).2.2.1]) else .inl (ty 0, (T (i / 2)).2.2.2.1, .inl (T (i / 2)).2.2.2.2)

def gc (ty : Nat → ClassId) (ad : Nat → Nat) (f : Nat → Int32) (th : Nat → Bool) (rt qu : Nat → Int32) (b w : SR) (T : Nat → TH) (g : Nat → Int32) (a : Nat → Nat → Int32) (o : Nat → Int64) : Nat → va_E
  | 0 => .inr (0, [.ref (ad 1), .ref (ad 2), .ref (ad 3), .int (f 3), .int (f 4), .ref (ad 4), .ref (ad 7), .int (f 7), .int (f 8), .int (f 9), .int (f 10), .int (f 11)])
  | 1 => .inl (ty 2, 300, .inr (.inr (.inr (.inr (thf ad th)))))
  | 2 => .inl (ty 0, 16, .inl rt)
  | 3 => .inl (ty 0, 300, .inl qu)
  | 4 => .inr (1, [.ref (ad 5), .ref (ad 6), .int b.2.2])
  | 5 => .inl (ty 1, 300, .inl b.1)
  | 6 => .inl (ty 0, 300, .inl b.2.1)
  | 7 => .inr (1, [.ref (ad 8), .ref (ad 9), .int w.2.2])
  | 8 => .inl (ty 1, 300, .inl w.1)
  | 9 => .inl (ty 0, 300, .inl w.2.1)
  | 10 => .inr (3, [.int (g 0), .int (g 1), .ref (ad 11), .ref (ad 12), .ref (ad 13), .ref (ad 14), .ref (ad 15), .ref (ad 16), .ref (ad 17), .int (g 9), .ref (ad 18), .int (g 11), .int (g 12), .int (g 13), .ref (ad 19), .ref (ad 20)])
  | 11 => .inl (ty 1, 300, .inl (a 2))
  | 12 => .inl (ty 0, 300, .inl (a 3))
  | 13 => .inl (ty 0, 300, .inl (a 4))
  | 14 => .inl (ty 0, 3600, .inl (a 5))
  | 15 => .inl (ty 0, 300, .inl (a 6))
  | 16 => .inl (ty 1, 300, .inl (a 7))
  | 17 => .inl (ty 0, 16, .inl (a 8))
  | 18 => .inl (ty 0, 300, .inl (a 10))
  | 19 => .inl (ty 1, 300, .inl (a 14))
  | 20 => .inl (ty 1, 300, .inl (a 15))
  | 21 => .inl (ty 3, 1, .inr (.inl o))
  | i + 22 => tc ty ad T i
abbrev gW (n : Nat) (ty : Nat → ClassId) (ad : Nat → Nat) (f : Nat → Int32) (th : Nat → Bool) (rt qu : Nat → Int32) (b w : SR) (T : Nat → TH) (g : Nat → Int32) (a : Nat → Nat → Int32) (o : Nat → Int64) : va_W := wL (22 + 2 * n) ad (gc ty ad f th rt qu b w T g a o)
theorem gx {c c' : Nat → va_E} (h : ∀ i, i < 22 → c i = c' i) (hp : ∀ i, c (i + 22) = c' (i + 22)) : c = c' := by
  funext i
  by_cases hi : i < 22
  · exact h i hi
  · obtain ⟨j, rfl⟩ : ∃ j, i = j + 22 := ⟨i - 22, by omega⟩
    exact hp j
theorem g22 {P : Nat → Prop} (h0 : P 0) (h1 : P 1) (h2 : P 2) (h3 : P 3) (h4 : P 4) (h5 : P 5) (h6 : P 6) (h7 : P 7) (h8 : P 8) (h9 : P 9) (h10 : P 10) (h11 : P 11) (h12 : P 12) (h13 : P 13) (h14 : P 14) (h15 : P 15) (h16 : P 16) (h17 : P 17) (h18 : P 18) (h19 : P 19) (h20 : P 20) (h21 : P 21) : ∀ i, i < 22 → P i := by
  intro i hi
  match i, hi with
  | 0, _ => exact h0
  | 1, _ => exact h1
  | 2, _ => exact h2
  | 3, _ => exact h3
  | 4, _ => exact h4
  | 5, _ => exact h5
  | 6, _ => exact h6
  | 7, _ => exact h7
  | 8, _ => exact h8
  | 9, _ => exact h9
  | 10, _ => exact h10
  | 11, _ => exact h11
  | 12, _ => exact h12
  | 13, _ => exact h13
  | 14, _ => exact h14
  | 15, _ => exact h15
  | 16, _ => exact h16
  | 17, _ => exact h17
  | 18, _ => exact h18
  | 19, _ => exact h19
  | 20, _ => exact h20
  | 21, _ => exact h21
  | n + 22, h => exact absurd h (by omega)
section GW
variable {n : Nat} {ty : Nat → ClassId} {ad : Nat → Nat} {f : Nat → Int32} {th : Nat → Bool} {rt qu : Nat → Int32} {b w : SR} {T : Nat → TH} {g : Nat → Int32} {a : Nat → Nat → Int32} {o : Nat → Int64}
theorem gw_0 : (gW n ty ad f th rt qu b w T g a o)[0]? = some (ad 0, .inr (0, [.ref (ad 1), .ref (ad 2), .ref (ad 3), .int (f 3), .int (f 4), .ref (ad 4), .ref (ad 7), .int (f 7), .int (f 8), .int (f 9), .int (f 10), .int (f 11)])) := wl_at (by omega) rfl
theorem gw_1 : (gW n ty ad f th rt qu b w T g a o)[1]? = some (ad 1, .inl (ty 2, 300, .inr (.inr (.inr (.inr (thf ad th)))))) := wl_at (by omega) rfl
theorem gw_2 : (gW n ty ad f th rt qu b w T g a o)[2]? = some (ad 2, .inl (ty 0, 16, .inl rt)) := wl_at (by omega) rfl
theorem gw_3 : (gW n ty ad f th rt qu b w T g a o)[3]? = some (ad 3, .inl (ty 0, 300, .inl qu)) := wl_at (by omega) rfl
theorem gw_4 : (gW n ty ad f th rt qu b w T g a o)[4]? = some (ad 4, .inr (1, [.ref (ad 5), .ref (ad 6), .int b.2.2])) := wl_at (by omega) rfl
theorem gw_5 : (gW n ty ad f th rt qu b w T g a o)[5]? = some (ad 5, .inl (ty 1, 300, .inl b.1)) := wl_at (by omega) rfl
theorem gw_6 : (gW n ty ad f th rt qu b w T g a o)[6]? = some (ad 6, .inl (ty 0, 300, .inl b.2.1)) := wl_at (by omega) rfl
theorem gw_7 : (gW n ty ad f th rt qu b w T g a o)[7]? = some (ad 7, .inr (1, [.ref (ad 8), .ref (ad 9), .int w.2.2])) := wl_at (by omega) rfl
theorem gw_8 : (gW n ty ad f th rt qu b w T g a o)[8]? = some (ad 8, .inl (ty 1, 300, .inl w.1)) := wl_at (by omega) rfl
theorem gw_9 : (gW n ty ad f th rt qu b w T g a o)[9]? = some (ad 9, .inl (ty 0, 300, .inl w.2.1)) := wl_at (by omega) rfl
theorem gw_10 : (gW n ty ad f th rt qu b w T g a o)[10]? = some (ad 10, .inr (3, [.int (g 0), .int (g 1), .ref (ad 11), .ref (ad 12), .ref (ad 13), .ref (ad 14), .ref (ad 15), .ref (ad 16), .ref (ad 17), .int (g 9), .ref (ad 18), .int (g 11), .int (g 12), .int (g 13), .ref (ad 19), .ref (ad 20)])) := wl_at (by omega) rfl
theorem gw_11 : (gW n ty ad f th rt qu b w T g a o)[11]? = some (ad 11, .inl (ty 1, 300, .inl (a 2))) := wl_at (by omega) rfl
theorem gw_12 : (gW n ty ad f th rt qu b w T g a o)[12]? = some (ad 12, .inl (ty 0, 300, .inl (a 3))) := wl_at (by omega) rfl
theorem gw_13 : (gW n ty ad f th rt qu b w T g a o)[13]? = some (ad 13, .inl (ty 0, 300, .inl (a 4))) := wl_at (by omega) rfl
theorem gw_14 : (gW n ty ad f th rt qu b w T g a o)[14]? = some (ad 14, .inl (ty 0, 3600, .inl (a 5))) := wl_at (by omega) rfl
theorem gw_15 : (gW n ty ad f th rt qu b w T g a o)[15]? = some (ad 15, .inl (ty 0, 300, .inl (a 6))) := wl_at (by omega) rfl
theorem gw_16 : (gW n ty ad f th rt qu b w T g a o)[16]? = some (ad 16, .inl (ty 1, 300, .inl (a 7))) := wl_at (by omega) rfl
theorem gw_17 : (gW n ty ad f th rt qu b w T g a o)[17]? = some (ad 17, .inl (ty 0, 16, .inl (a 8))) := wl_at (by omega) rfl
theorem gw_18 : (gW n ty ad f th rt qu b w T g a o)[18]? = some (ad 18, .inl (ty 0, 300, .inl (a 10))) := wl_at (by omega) rfl
theorem gw_19 : (gW n ty ad f th rt qu b w T g a o)[19]? = some (ad 19, .inl (ty 1, 300, .inl (a 14))) := wl_at (by omega) rfl
theorem gw_20 : (gW n ty ad f th rt qu b w T g a o)[20]? = some (ad 20, .inl (ty 1, 300, .inl (a 15))) := wl_at (by omega) rfl
theorem gw_21 : (gW n ty ad f th rt qu b w T g a o)[21]? = some (ad 21, .inl (ty 3, 1, .inr (.inl o))) := wl_at (by omega) rfl
theorem gw_T {k : Nat} (hk : k < n) : (gW n ty ad f th rt qu b w T g a o)[22 + 2 * k]? = some (ad (22 + 2 * k), .inr (2, [.ref (ad (23 + 2 * k)), .int (T k).1, .int (T k).2.1, .int (T k).2.2.1])) := wl_at (by omega) (by rw [Nat.add_comm 22 (2 * k)]; show tc ty ad T (2 * k) = _; simp [tc, show 2 * k % 2 = 0 by omega, show 2 * k / 2 = k by omega, Nat.add_comm])
theorem gw_F {k : Nat} (hk : k < n) : (gW n ty ad f th rt qu b w T g a o)[23 + 2 * k]? = some (ad (23 + 2 * k), .inl (ty 0, (T k).2.2.2.1, .inl (T k).2.2.2.2)) := wl_at (by omega) (by rw [show 23 + 2 * k = (2 * k + 1) + 22 by omega]; show tc ty ad T (2 * k + 1) = _; simp [tc, show (2 * k + 1) % 2 = 1 by omega, show (2 * k + 1) / 2 = k by omega])
theorem gw_sK3 {v : Int32} : (gW n ty ad f th rt qu b w T g a o).set 0 (ad 0, .inr (0, [.ref (ad 1), .ref (ad 2), .ref (ad 3), .int v, .int (f 4), .ref (ad 4), .ref (ad 7), .int (f 7), .int (f 8), .int (f 9), .int (f 10), .int (f 11)])) = gW n ty ad (upd f 3 v) th rt qu b w T g a o := by rw [wl_set]; congr 1; exact gx (g22 (P := fun i => va_up _ _ _ i = gc _ _ _ _ _ _ _ _ _ _ _ _ i) rfl rfl rfl rfl rfl rfl rfl rfl rfl rfl rfl rfl rfl rfl rfl rfl rfl rfl rfl rfl rfl rfl) (fun i => by rw [va_up_n (by omega)]; rfl)
theorem gw_sK4 {v : Int32} : (gW n ty ad f th rt qu b w T g a o).set 0 (ad 0, .inr (0, [.ref (ad 1), .ref (ad 2), .ref (ad 3), .int (f 3), .int v, .ref (ad 4), .ref (ad 7), .int (f 7), .int (f 8), .int (f 9), .int (f 10), .int (f 11)])) = gW n ty ad (upd f 4 v) th rt qu b w T g a o := by rw [wl_set]; congr 1; exact gx (g22 (P := fun i => va_up _ _ _ i = gc _ _ _ _ _ _ _ _ _ _ _ _ i) rfl rfl rfl rfl rfl rfl rfl rfl rfl rfl rfl rfl rfl rfl rfl rfl rfl rfl rfl rfl rfl rfl) (fun i => by rw [va_up_n (by omega)]; rfl)
theorem gw_sK7 {v : Int32} : (gW n ty ad f th rt qu b w T g a o).set 0 (ad 0, .inr (0, [.ref (ad 1), .ref (ad 2), .ref (ad 3), .int (f 3), .int (f 4), .ref (ad 4), .ref (ad 7), .int v, .int (f 8), .int (f 9), .int (f 10), .int (f 11)])) = gW n ty ad (upd f 7 v) th rt qu b w T g a o := by rw [wl_set]; congr 1; exact gx (g22 (P := fun i => va_up _ _ _ i = gc _ _ _ _ _ _ _ _ _ _ _ _ i) rfl rfl rfl rfl rfl rfl rfl rfl rfl rfl rfl rfl rfl rfl rfl rfl rfl rfl rfl rfl rfl rfl) (fun i => by rw [va_up_n (by omega)]; rfl)
theorem gw_sK8 {v : Int32} : (gW n ty ad f th rt qu b w T g a o).set 0 (ad 0, .inr (0, [.ref (ad 1), .ref (ad 2), .ref (ad 3), .int (f 3), .int (f 4), .ref (ad 4), .ref (ad 7), .int (f 7), .int v, .int (f 9), .int (f 10), .int (f 11)])) = gW n ty ad (upd f 8 v) th rt qu b w T g a o := by rw [wl_set]; congr 1; exact gx (g22 (P := fun i => va_up _ _ _ i = gc _ _ _ _ _ _ _ _ _ _ _ _ i) rfl rfl rfl rfl rfl rfl rfl rfl rfl rfl rfl rfl rfl rfl rfl rfl rfl rfl rfl rfl rfl rfl) (fun i => by rw [va_up_n (by omega)]; rfl)
theorem gw_sK9 {v : Int32} : (gW n ty ad f th rt qu b w T g a o).set 0 (ad 0, .inr (0, [.ref (ad 1), .ref (ad 2), .ref (ad 3), .int (f 3), .int (f 4), .ref (ad 4), .ref (ad 7), .int (f 7), .int (f 8), .int v, .int (f 10), .int (f 11)])) = gW n ty ad (upd f 9 v) th rt qu b w T g a o := by rw [wl_set]; congr 1; exact gx (g22 (P := fun i => va_up _ _ _ i = gc _ _ _ _ _ _ _ _ _ _ _ _ i) rfl rfl rfl rfl rfl rfl rfl rfl rfl rfl rfl rfl rfl rfl rfl rfl rfl rfl rfl rfl rfl rfl) (fun i => by rw [va_up_n (by omega)]; rfl)
theorem gw_sK10 {v : Int32} : (gW n ty ad f th rt qu b w T g a o).set 0 (ad 0, .inr (0, [.ref (ad 1), .ref (ad 2), .ref (ad 3), .int (f 3), .int (f 4), .ref (ad 4), .ref (ad 7), .int (f 7), .int (f 8), .int (f 9), .int v, .int (f 11)])) = gW n ty ad (upd f 10 v) th rt qu b w T g a o := by rw [wl_set]; congr 1; exact gx (g22 (P := fun i => va_up _ _ _ i = gc _ _ _ _ _ _ _ _ _ _ _ _ i) rfl rfl rfl rfl rfl rfl rfl rfl rfl rfl rfl rfl rfl rfl rfl rfl rfl rfl rfl rfl rfl rfl) (fun i => by rw [va_up_n (by omega)]; rfl)
theorem gw_sK11 {v : Int32} : (gW n ty ad f th rt qu b w T g a o).set 0 (ad 0, .inr (0, [.ref (ad 1), .ref (ad 2), .ref (ad 3), .int (f 3), .int (f 4), .ref (ad 4), .ref (ad 7), .int (f 7), .int (f 8), .int (f 9), .int (f 10), .int v])) = gW n ty ad (upd f 11 v) th rt qu b w T g a o := by rw [wl_set]; congr 1; exact gx (g22 (P := fun i => va_up _ _ _ i = gc _ _ _ _ _ _ _ _ _ _ _ _ i) rfl rfl rfl rfl rfl rfl rfl rfl rfl rfl rfl rfl rfl rfl rfl rfl rfl rfl rfl rfl rfl rfl) (fun i => by rw [va_up_n (by omega)]; rfl)
theorem gw_sth {i : Nat} : (gW n ty ad f th rt qu b w T g a o).set 1 (ad 1, .inl (ty 2, 300, .inr (.inr (.inr (.inr (va_up (thf ad th) i none)))))) = gW n ty ad f (va_up th i false) rt qu b w T g a o := by
  have h : va_up (thf ad th) i none = thf ad (va_up th i false) := by
    funext k; by_cases hk : k = i <;> simp [va_up, thf, hk]
  rw [h]; rw [wl_set]; congr 1; exact gx (g22 (P := fun i => va_up _ _ _ i = gc _ _ _ _ _ _ _ _ _ _ _ _ i) rfl rfl rfl rfl rfl rfl rfl rfl rfl rfl rfl rfl rfl rfl rfl rfl rfl rfl rfl rfl rfl rfl) (fun i => by rw [va_up_n (by omega)]; rfl)
theorem gw_srt {r : Nat → Int32} : (gW n ty ad f th rt qu b w T g a o).set 2 (ad 2, .inl (ty 0, 16, .inl r)) = gW n ty ad f th r qu b w T g a o := by rw [wl_set]; congr 1; exact gx (g22 (P := fun i => va_up _ _ _ i = gc _ _ _ _ _ _ _ _ _ _ _ _ i) rfl rfl rfl rfl rfl rfl rfl rfl rfl rfl rfl rfl rfl rfl rfl rfl rfl rfl rfl rfl rfl rfl) (fun i => by rw [va_up_n (by omega)]; rfl)
theorem gw_squ {r : Nat → Int32} : (gW n ty ad f th rt qu b w T g a o).set 3 (ad 3, .inl (ty 0, 300, .inl r)) = gW n ty ad f th rt r b w T g a o := by rw [wl_set]; congr 1; exact gx (g22 (P := fun i => va_up _ _ _ i = gc _ _ _ _ _ _ _ _ _ _ _ _ i) rfl rfl rfl rfl rfl rfl rfl rfl rfl rfl rfl rfl rfl rfl rfl rfl rfl rfl rfl rfl rfl rfl) (fun i => by rw [va_up_n (by omega)]; rfl)
theorem gw_sb {S : SR} : sUp ty ad (gc ty ad f th rt qu b w T g a o) 4 5 6 S = gc ty ad f th rt qu S w T g a o := gx (g22 (P := fun i => sUp _ _ _ _ _ _ _ i = gc _ _ _ _ _ _ _ _ _ _ _ _ i) rfl rfl rfl rfl rfl rfl rfl rfl rfl rfl rfl rfl rfl rfl rfl rfl rfl rfl rfl rfl rfl rfl) (fun i => by simp only [sUp]; rw [if_neg (by omega), if_neg (by omega), if_neg (by omega)]; rfl)
theorem gw_sw {S : SR} : sUp ty ad (gc ty ad f th rt qu b w T g a o) 7 8 9 S = gc ty ad f th rt qu b S T g a o := gx (g22 (P := fun i => sUp _ _ _ _ _ _ _ i = gc _ _ _ _ _ _ _ _ _ _ _ _ i) rfl rfl rfl rfl rfl rfl rfl rfl rfl rfl rfl rfl rfl rfl rfl rfl rfl rfl rfl rfl rfl rfl) (fun i => by simp only [sUp]; rw [if_neg (by omega), if_neg (by omega), if_neg (by omega)]; rfl)
theorem tp_T {k : Nat} {v1 v2 v3 : Int32} (i : Nat) : va_up (gc ty ad f th rt qu b w T g a o) (22 + 2 * k) (.inr (2, [.ref (ad (23 + 2 * k)), .int v1, .int v2, .int v3])) (i + 22) = gc ty ad f th rt qu b w (va_up T k (v1, v2, v3, (T k).2.2.2)) g a o (i + 22) := by
  show va_up _ _ _ _ = tc ty ad (va_up T k (v1, v2, v3, (T k).2.2.2)) i
  by_cases hi : i = 2 * k
  · subst hi
    rw [Nat.add_comm 22 (2 * k), va_up_s]
    simp [tc, va_up, show 2 * k % 2 = 0 by omega, show 2 * k / 2 = k by omega, Nat.add_comm]
  · rw [va_up_n (by omega)]
    show tc ty ad T i = _
    unfold tc
    by_cases h2 : i % 2 = 0
    · rw [if_pos h2, if_pos h2, va_up_n (by omega)]
    · rw [if_neg h2, if_neg h2]
      by_cases hk : i / 2 = k
      · rw [hk, va_up_s]
      · rw [va_up_n hk]
theorem tp_F {k N : Nat} {r : Nat → Int32} (i : Nat) : va_up (gc ty ad f th rt qu b w T g a o) (23 + 2 * k) (.inl (ty 0, N, .inl r)) (i + 22) = gc ty ad f th rt qu b w (va_up T k ((T k).1, (T k).2.1, (T k).2.2.1, N, r)) g a o (i + 22) := by
  show va_up _ _ _ _ = tc ty ad (va_up T k ((T k).1, (T k).2.1, (T k).2.2.1, N, r)) i
  by_cases hi : i = 2 * k + 1
  · subst hi
    rw [show 2 * k + 1 + 22 = 23 + 2 * k by omega, va_up_s]
    simp [tc, va_up, show (2 * k + 1) % 2 = 1 by omega, show (2 * k + 1) / 2 = k by omega]
  · rw [va_up_n (by omega)]
    show tc ty ad T i = _
    unfold tc
    by_cases h2 : i % 2 = 0
    · rw [if_pos h2, if_pos h2]
      by_cases hk : i / 2 = k
      · rw [hk, va_up_s]
      · rw [va_up_n hk]
    · rw [if_neg h2, if_neg h2, va_up_n (by omega)]
theorem gw_sT {k : Nat} {v1 v2 v3 : Int32} : (gW n ty ad f th rt qu b w T g a o).set (22 + 2 * k) (ad (22 + 2 * k), .inr (2, [.ref (ad (23 + 2 * k)), .int v1, .int v2, .int v3])) = gW n ty ad f th rt qu b w (va_up T k (v1, v2, v3, (T k).2.2.2)) g a o := by rw [wl_set]; congr 1; exact gx (fun i hi => by rw [va_up_n (by omega)]; revert i hi; exact g22 (P := fun i => gc _ _ _ _ _ _ _ _ _ _ _ _ i = gc _ _ _ _ _ _ _ _ _ _ _ _ i) rfl rfl rfl rfl rfl rfl rfl rfl rfl rfl rfl rfl rfl rfl rfl rfl rfl rfl rfl rfl rfl rfl) (fun i => tp_T i)
theorem gw_sF {k N : Nat} {r : Nat → Int32} : (gW n ty ad f th rt qu b w T g a o).set (23 + 2 * k) (ad (23 + 2 * k), .inl (ty 0, N, .inl r)) = gW n ty ad f th rt qu b w (va_up T k ((T k).1, (T k).2.1, (T k).2.2.1, N, r)) g a o := by rw [wl_set]; congr 1; exact gx (fun i hi => by rw [va_up_n (by omega)]; revert i hi; exact g22 (P := fun i => gc _ _ _ _ _ _ _ _ _ _ _ _ i = gc _ _ _ _ _ _ _ _ _ _ _ _ i) rfl rfl rfl rfl rfl rfl rfl rfl rfl rfl rfl rfl rfl rfl rfl rfl rfl rfl rfl rfl rfl rfl) (fun i => tp_F i)
theorem gw_sM0 {v : Int32} : (gW n ty ad f th rt qu b w T g a o).set 10 (ad 10, .inr (3, [.int v, .int (g 1), .ref (ad 11), .ref (ad 12), .ref (ad 13), .ref (ad 14), .ref (ad 15), .ref (ad 16), .ref (ad 17), .int (g 9), .ref (ad 18), .int (g 11), .int (g 12), .int (g 13), .ref (ad 19), .ref (ad 20)])) = gW n ty ad f th rt qu b w T (upd g 0 v) a o := by rw [wl_set]; congr 1; exact gx (g22 (P := fun i => va_up _ _ _ i = gc _ _ _ _ _ _ _ _ _ _ _ _ i) rfl rfl rfl rfl rfl rfl rfl rfl rfl rfl rfl rfl rfl rfl rfl rfl rfl rfl rfl rfl rfl rfl) (fun i => by rw [va_up_n (by omega)]; rfl)
theorem gw_sM1 {v : Int32} : (gW n ty ad f th rt qu b w T g a o).set 10 (ad 10, .inr (3, [.int (g 0), .int v, .ref (ad 11), .ref (ad 12), .ref (ad 13), .ref (ad 14), .ref (ad 15), .ref (ad 16), .ref (ad 17), .int (g 9), .ref (ad 18), .int (g 11), .int (g 12), .int (g 13), .ref (ad 19), .ref (ad 20)])) = gW n ty ad f th rt qu b w T (upd g 1 v) a o := by rw [wl_set]; congr 1; exact gx (g22 (P := fun i => va_up _ _ _ i = gc _ _ _ _ _ _ _ _ _ _ _ _ i) rfl rfl rfl rfl rfl rfl rfl rfl rfl rfl rfl rfl rfl rfl rfl rfl rfl rfl rfl rfl rfl rfl) (fun i => by rw [va_up_n (by omega)]; rfl)
theorem gw_sM9 {v : Int32} : (gW n ty ad f th rt qu b w T g a o).set 10 (ad 10, .inr (3, [.int (g 0), .int (g 1), .ref (ad 11), .ref (ad 12), .ref (ad 13), .ref (ad 14), .ref (ad 15), .ref (ad 16), .ref (ad 17), .int v, .ref (ad 18), .int (g 11), .int (g 12), .int (g 13), .ref (ad 19), .ref (ad 20)])) = gW n ty ad f th rt qu b w T (upd g 9 v) a o := by rw [wl_set]; congr 1; exact gx (g22 (P := fun i => va_up _ _ _ i = gc _ _ _ _ _ _ _ _ _ _ _ _ i) rfl rfl rfl rfl rfl rfl rfl rfl rfl rfl rfl rfl rfl rfl rfl rfl rfl rfl rfl rfl rfl rfl) (fun i => by rw [va_up_n (by omega)]; rfl)
theorem gw_sM11 {v : Int32} : (gW n ty ad f th rt qu b w T g a o).set 10 (ad 10, .inr (3, [.int (g 0), .int (g 1), .ref (ad 11), .ref (ad 12), .ref (ad 13), .ref (ad 14), .ref (ad 15), .ref (ad 16), .ref (ad 17), .int (g 9), .ref (ad 18), .int v, .int (g 12), .int (g 13), .ref (ad 19), .ref (ad 20)])) = gW n ty ad f th rt qu b w T (upd g 11 v) a o := by rw [wl_set]; congr 1; exact gx (g22 (P := fun i => va_up _ _ _ i = gc _ _ _ _ _ _ _ _ _ _ _ _ i) rfl rfl rfl rfl rfl rfl rfl rfl rfl rfl rfl rfl rfl rfl rfl rfl rfl rfl rfl rfl rfl rfl) (fun i => by rw [va_up_n (by omega)]; rfl)
theorem gw_sM12 {v : Int32} : (gW n ty ad f th rt qu b w T g a o).set 10 (ad 10, .inr (3, [.int (g 0), .int (g 1), .ref (ad 11), .ref (ad 12), .ref (ad 13), .ref (ad 14), .ref (ad 15), .ref (ad 16), .ref (ad 17), .int (g 9), .ref (ad 18), .int (g 11), .int v, .int (g 13), .ref (ad 19), .ref (ad 20)])) = gW n ty ad f th rt qu b w T (upd g 12 v) a o := by rw [wl_set]; congr 1; exact gx (g22 (P := fun i => va_up _ _ _ i = gc _ _ _ _ _ _ _ _ _ _ _ _ i) rfl rfl rfl rfl rfl rfl rfl rfl rfl rfl rfl rfl rfl rfl rfl rfl rfl rfl rfl rfl rfl rfl) (fun i => by rw [va_up_n (by omega)]; rfl)
theorem gw_sM13 {v : Int32} : (gW n ty ad f th rt qu b w T g a o).set 10 (ad 10, .inr (3, [.int (g 0), .int (g 1), .ref (ad 11), .ref (ad 12), .ref (ad 13), .ref (ad 14), .ref (ad 15), .ref (ad 16), .ref (ad 17), .int (g 9), .ref (ad 18), .int (g 11), .int (g 12), .int v, .ref (ad 19), .ref (ad 20)])) = gW n ty ad f th rt qu b w T (upd g 13 v) a o := by rw [wl_set]; congr 1; exact gx (g22 (P := fun i => va_up _ _ _ i = gc _ _ _ _ _ _ _ _ _ _ _ _ i) rfl rfl rfl rfl rfl rfl rfl rfl rfl rfl rfl rfl rfl rfl rfl rfl rfl rfl rfl rfl rfl rfl) (fun i => by rw [va_up_n (by omega)]; rfl)
theorem gw_sa2 {r : Nat → Int32} : (gW n ty ad f th rt qu b w T g a o).set 11 (ad 11, .inl (ty 1, 300, .inl r)) = gW n ty ad f th rt qu b w T g (va_up a 2 r) o := by rw [wl_set]; congr 1; exact gx (g22 (P := fun i => va_up _ _ _ i = gc _ _ _ _ _ _ _ _ _ _ _ _ i) rfl rfl rfl rfl rfl rfl rfl rfl rfl rfl rfl rfl rfl rfl rfl rfl rfl rfl rfl rfl rfl rfl) (fun i => by rw [va_up_n (by omega)]; rfl)
theorem gw_sa3 {r : Nat → Int32} : (gW n ty ad f th rt qu b w T g a o).set 12 (ad 12, .inl (ty 0, 300, .inl r)) = gW n ty ad f th rt qu b w T g (va_up a 3 r) o := by rw [wl_set]; congr 1; exact gx (g22 (P := fun i => va_up _ _ _ i = gc _ _ _ _ _ _ _ _ _ _ _ _ i) rfl rfl rfl rfl rfl rfl rfl rfl rfl rfl rfl rfl rfl rfl rfl rfl rfl rfl rfl rfl rfl rfl) (fun i => by rw [va_up_n (by omega)]; rfl)
theorem gw_sa4 {r : Nat → Int32} : (gW n ty ad f th rt qu b w T g a o).set 13 (ad 13, .inl (ty 0, 300, .inl r)) = gW n ty ad f th rt qu b w T g (va_up a 4 r) o := by rw [wl_set]; congr 1; exact gx (g22 (P := fun i => va_up _ _ _ i = gc _ _ _ _ _ _ _ _ _ _ _ _ i) rfl rfl rfl rfl rfl rfl rfl rfl rfl rfl rfl rfl rfl rfl rfl rfl rfl rfl rfl rfl rfl rfl) (fun i => by rw [va_up_n (by omega)]; rfl)
theorem gw_sa5 {r : Nat → Int32} : (gW n ty ad f th rt qu b w T g a o).set 14 (ad 14, .inl (ty 0, 3600, .inl r)) = gW n ty ad f th rt qu b w T g (va_up a 5 r) o := by rw [wl_set]; congr 1; exact gx (g22 (P := fun i => va_up _ _ _ i = gc _ _ _ _ _ _ _ _ _ _ _ _ i) rfl rfl rfl rfl rfl rfl rfl rfl rfl rfl rfl rfl rfl rfl rfl rfl rfl rfl rfl rfl rfl rfl) (fun i => by rw [va_up_n (by omega)]; rfl)
theorem gw_sa6 {r : Nat → Int32} : (gW n ty ad f th rt qu b w T g a o).set 15 (ad 15, .inl (ty 0, 300, .inl r)) = gW n ty ad f th rt qu b w T g (va_up a 6 r) o := by rw [wl_set]; congr 1; exact gx (g22 (P := fun i => va_up _ _ _ i = gc _ _ _ _ _ _ _ _ _ _ _ _ i) rfl rfl rfl rfl rfl rfl rfl rfl rfl rfl rfl rfl rfl rfl rfl rfl rfl rfl rfl rfl rfl rfl) (fun i => by rw [va_up_n (by omega)]; rfl)
theorem gw_sa7 {r : Nat → Int32} : (gW n ty ad f th rt qu b w T g a o).set 16 (ad 16, .inl (ty 1, 300, .inl r)) = gW n ty ad f th rt qu b w T g (va_up a 7 r) o := by rw [wl_set]; congr 1; exact gx (g22 (P := fun i => va_up _ _ _ i = gc _ _ _ _ _ _ _ _ _ _ _ _ i) rfl rfl rfl rfl rfl rfl rfl rfl rfl rfl rfl rfl rfl rfl rfl rfl rfl rfl rfl rfl rfl rfl) (fun i => by rw [va_up_n (by omega)]; rfl)
theorem gw_sa8 {r : Nat → Int32} : (gW n ty ad f th rt qu b w T g a o).set 17 (ad 17, .inl (ty 0, 16, .inl r)) = gW n ty ad f th rt qu b w T g (va_up a 8 r) o := by rw [wl_set]; congr 1; exact gx (g22 (P := fun i => va_up _ _ _ i = gc _ _ _ _ _ _ _ _ _ _ _ _ i) rfl rfl rfl rfl rfl rfl rfl rfl rfl rfl rfl rfl rfl rfl rfl rfl rfl rfl rfl rfl rfl rfl) (fun i => by rw [va_up_n (by omega)]; rfl)
theorem gw_sa10 {r : Nat → Int32} : (gW n ty ad f th rt qu b w T g a o).set 18 (ad 18, .inl (ty 0, 300, .inl r)) = gW n ty ad f th rt qu b w T g (va_up a 10 r) o := by rw [wl_set]; congr 1; exact gx (g22 (P := fun i => va_up _ _ _ i = gc _ _ _ _ _ _ _ _ _ _ _ _ i) rfl rfl rfl rfl rfl rfl rfl rfl rfl rfl rfl rfl rfl rfl rfl rfl rfl rfl rfl rfl rfl rfl) (fun i => by rw [va_up_n (by omega)]; rfl)
theorem gw_sa14 {r : Nat → Int32} : (gW n ty ad f th rt qu b w T g a o).set 19 (ad 19, .inl (ty 1, 300, .inl r)) = gW n ty ad f th rt qu b w T g (va_up a 14 r) o := by rw [wl_set]; congr 1; exact gx (g22 (P := fun i => va_up _ _ _ i = gc _ _ _ _ _ _ _ _ _ _ _ _ i) rfl rfl rfl rfl rfl rfl rfl rfl rfl rfl rfl rfl rfl rfl rfl rfl rfl rfl rfl rfl rfl rfl) (fun i => by rw [va_up_n (by omega)]; rfl)
theorem gw_sa15 {r : Nat → Int32} : (gW n ty ad f th rt qu b w T g a o).set 20 (ad 20, .inl (ty 1, 300, .inl r)) = gW n ty ad f th rt qu b w T g (va_up a 15 r) o := by rw [wl_set]; congr 1; exact gx (g22 (P := fun i => va_up _ _ _ i = gc _ _ _ _ _ _ _ _ _ _ _ _ i) rfl rfl rfl rfl rfl rfl rfl rfl rfl rfl rfl rfl rfl rfl rfl rfl rfl rfl rfl rfl rfl rfl) (fun i => by rw [va_up_n (by omega)]; rfl)
theorem gw_so {r : Nat → Int64} : (gW n ty ad f th rt qu b w T g a o).set 21 (ad 21, .inl (ty 3, 1, .inr (.inl r))) = gW n ty ad f th rt qu b w T g a r := by rw [wl_set]; congr 1; exact gx (g22 (P := fun i => va_up _ _ _ i = gc _ _ _ _ _ _ _ _ _ _ _ _ i) rfl rfl rfl rfl rfl rfl rfl rfl rfl rfl rfl rfl rfl rfl rfl rfl rfl rfl rfl rfl rfl rfl) (fun i => by rw [va_up_n (by omega)]; rfl)
end GW
