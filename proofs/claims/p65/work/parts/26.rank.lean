/-! the order of guesses -/
def zlvt (c : Int → Int) (b p s : Int) : Nat → Int
  | 0 => -1
  | t + 1 => if c (zCs t b p + s) = 0 then zlvt c b p s t else t
/-- the highest order in which the symbol has a count; -1: none -/
def zlv (c : Int → Int) (b p s : Int) : Int := zlvt c b p s (zFo b p + 1).toNat
def zwt (c : Int → Int) (b p s : Int) : Int := if zlv c b p s = -1 then 0 else c (zCs (zlv c b p s) b p + s)
theorem zlvt_rng {c : Int → Int} {b p s : Int} : ∀ t : Nat, -1 ≤ zlvt c b p s t ∧ zlvt c b p s t < t
  | 0 => by
    simp [zlvt]
  | t + 1 => by
    have := @zlvt_rng c b p s t
    unfold zlvt
    split <;> omega
theorem zlvt_at {c : Int → Int} {b p s : Int} : ∀ t : Nat, 0 ≤ zlvt c b p s t → c (zCs (zlvt c b p s t) b p + s) ≠ 0
  | 0, h => by
    simp [zlvt] at h
  | t + 1, h => by
    unfold zlvt at h ⊢
    split
    · rename_i q
      rw [if_pos q] at h
      exact zlvt_at t h
    · assumption
theorem zlvt_ge {c : Int → Int} {b p s : Int} : ∀ (t : Nat) (o : Nat), o < t → c (zCs o b p + s) ≠ 0 → (o : Int) ≤ zlvt c b p s t
  | t + 1, o, ho, h => by
    unfold zlvt
    split
    · rename_i q
      by_cases e : o = t
      · subst e
        exact absurd q h
      · exact zlvt_ge t o (by omega) h
    · omega
theorem zlv_rng (c : Int → Int) (b p s : Int) : -1 ≤ zlv c b p s ∧ zlv c b p s ≤ zFo b p := by
  have := zFo_rng b p
  have := @zlvt_rng c b p s (zFo b p + 1).toNat
  unfold zlv
  omega
theorem zlv_ge {c : Int → Int} {b p s o : Int} (ho : 0 ≤ o ∧ o ≤ zFo b p) (h : c (zCs o b p + s) ≠ 0) : o ≤ zlv c b p s := by
  have := zlvt_ge (c := c) (b := b) (p := p) (s := s) (zFo b p + 1).toNat o.toNat (by omega) (by rw [show ((o.toNat : Nat) : Int) = o by omega]; exact h)
  unfold zlv
  omega
theorem zlv_ne {c : Int → Int} {b p s o : Int} (ho : 0 ≤ o) (h : c (zCs o b p + s) = 0) : zlv c b p s ≠ o := fun q => by
  have h1 := zlvt_at (c := c) (b := b) (p := p) (s := s) (zFo b p + 1).toNat (by show 0 ≤ zlv c b p s; omega)
  have h2 : zlvt c b p s (zFo b p + 1).toNat = o := q
  rw [h2] at h1
  exact h1 h
theorem zwt_at {c : Int → Int} {b p s o : Int} (ho : 0 ≤ o) (h : zlv c b p s = o) : zwt c b p s = c (zCs o b p + s) := by
  unfold zwt
  rw [h, if_neg (by omega)]
theorem zwt_no {c : Int → Int} {b p s : Int} (h : zlv c b p s = -1) : zwt c b p s = 0 := if_pos h
/-- guessed before -/
def zbf (c : Int → Int) (b p s s' : Int) : Prop := zlv c b p s' < zlv c b p s ∨ (zlv c b p s = zlv c b p s' ∧ (zwt c b p s' < zwt c b p s ∨ (zwt c b p s = zwt c b p s' ∧ s < s')))
/-! bits of a mask -/
def zbit (m : Int32) (s : Nat) : Bool := m.toBitVec.getLsbD s
theorem zbt_eq {s : Int} (h : 0 ≤ s ∧ s < 32) : (zi 1 <<< (zi s &&& 31)).toBitVec = BitVec.twoPow 32 s.toNat := by
  have h1 : ∀ n : Fin 32, (zi 1 <<< (zi ((n : Nat) : Int) &&& 31)).toBitVec = BitVec.twoPow 32 n := by decide
  have h2 := h1 ⟨s.toNat, by omega⟩
  simp only [show ((s.toNat : Nat) : Int) = s by omega] at h2
  exact h2
theorem zbit_and (m : Int32) {s : Int} (h : 0 ≤ s ∧ s < 32) : m &&& (zi 1 <<< (zi s &&& 31)) = 0 ↔ zbit m s.toNat = false := by
  rw [← Int32.toBitVec_inj]
  show m.toBitVec &&& (zi 1 <<< (zi s &&& 31)).toBitVec = 0#32 ↔ _
  rw [zbt_eq h, BitVec.and_twoPow]
  unfold zbit
  by_cases e : m.toBitVec.getLsbD s.toNat = true
  · rw [if_pos e, e]
    refine ⟨fun q => ?_, fun q => by cases q⟩
    have q2 := congrArg (fun z => z.getLsbD s.toNat) q
    simp [BitVec.getLsbD_twoPow] at q2
    omega
  · rw [if_neg e]
    simp at e
    simp [e]
theorem zbit_or (m : Int32) {s : Int} (h : 0 ≤ s ∧ s < 32) (i : Nat) : zbit (m ||| (zi 1 <<< (zi s &&& 31))) i = (zbit m i || decide (s.toNat = i)) := by
  unfold zbit
  show (m.toBitVec ||| (zi 1 <<< (zi s &&& 31)).toBitVec).getLsbD i = _
  rw [zbt_eq h, BitVec.getLsbD_or, BitVec.getLsbD_twoPow, decide_eq_true (show s.toNat < 32 by omega), Bool.true_and]
theorem zbit_0 (i : Nat) : zbit 0 i = false := by
  unfold zbit
  show (0#32).getLsbD i = false
  simp
/-! Ranking -/
def hRk (γ : zG) (M : zM) (a ys ws : Nat) (f g : Nat → Int) (size : Int) (mk : Int32) : Prop := ys ≠ ws ∧ M a = some (.inr (5, [.ref ys, .ref ws, .int (zi size), .int mk])) ∧ M ys = some (zar γ 27 f) ∧ M ws = some (zar γ 27 g)
/-- placed in the ranking -/
def zIn (f : Nat → Int) (size s : Int) : Prop := ∃ j : Nat, j < size ∧ f j = s
/-- a ranking under way: the symbols of orders above o stand before os, those of order o below x behind it -/
def hRv (c : Int → Int) (b p o os : Int) (f g : Nat → Int) (size : Int) (mk : Int32) (x : Int) : Prop := (0 ≤ os ∧ os ≤ size ∧ size ≤ 27) ∧ (∀ j, zR (f j)) ∧ (∀ j, zR (g j)) ∧ (∀ j : Nat, j < size → 0 ≤ f j ∧ f j < 27) ∧ (∀ i j : Nat, i < j → j < size → zbf c b p (f i) (f j)) ∧ (∀ j : Nat, j < os → o < zlv c b p (f j)) ∧ (∀ j : Nat, os ≤ j → j < size → zlv c b p (f j) = o ∧ g j = zwt c b p (f j) ∧ f j < x) ∧ (∀ s : Int, 0 ≤ s → s < 27 → (zbit mk s.toNat = true ↔ zIn f size s)) ∧ ∀ s : Int, 0 ≤ s → s < 27 → (zIn f size s ↔ o < zlv c b p s ∨ (zlv c b p s = o ∧ s < x))
theorem hRv.adv {c : Int → Int} {b p o os : Int} {f g : Nat → Int} {size : Int} {mk : Int32} {x y : Int} (h : hRv c b p o os f g size mk x) (hxy : x ≤ y) (hn : ∀ s, 0 ≤ s → s < 27 → x ≤ s → s < y → zlv c b p s ≠ o) : hRv c b p o os f g size mk y := by
  obtain ⟨h1, h2, h3, h4, h5, h6, h7, h8, h9⟩ := h
  refine ⟨h1, h2, h3, h4, h5, h6, fun j a1 a2 => ?_, h8, fun s s1 s2 => ?_⟩
  · have := h7 j a1 a2
    omega
  · rw [h9 s s1 s2]
    have := hn s s1 s2
    omega
theorem hRv.next {c : Int → Int} {b p o os : Int} {f g : Nat → Int} {size : Int} {mk : Int32} (h : hRv c b p o os f g size mk 27) : hRv c b p (o - 1) size f g size mk 0 := by
  obtain ⟨h1, h2, h3, h4, h5, h6, h7, h8, h9⟩ := h
  refine ⟨by omega, h2, h3, h4, h5, fun j hj => ?_, fun j a1 a2 => by omega, h8, fun s s1 s2 => ?_⟩
  · by_cases e : (j : Int) < os
    · have := h6 j e
      omega
    · have := h7 j (by omega) hj
      omega
  · rw [h9 s s1 s2]
    omega
theorem hRv.lt {c : Int → Int} {b p o os : Int} {f g : Nat → Int} {size : Int} {mk : Int32} {x s : Int} (h : hRv c b p o os f g size mk x) (hs : 0 ≤ s ∧ s < 27) (hn : ¬ zIn f size s) : size < 27 := by
  obtain ⟨h1, h2, h3, h4, h5, h6, h7, h8, h9⟩ := h
  have hd : ∀ i j : Nat, i < j → j < size → f i ≠ f j := fun i j a1 a2 q => by
    have := h5 i j a1 a2
    rw [q] at this
    unfold zbf at this
    omega
  have := zpig (ks := fun j => if j = size.toNat then s else f j) (size.toNat + 1) ((List.range 27).map fun (j : Nat) => (j : Int)) (fun j hj => by
    have q : 0 ≤ (if j = size.toNat then s else f j) ∧ (if j = size.toNat then s else f j) < 27 := by
      split
      · exact hs
      · exact h4 j (by omega)
    exact List.mem_map.mpr ⟨(if j = size.toNat then s else f j).toNat, List.mem_range.mpr (by omega), by show ((Int.toNat _ : Nat) : Int) = _; omega⟩) (fun i j hi hj => by
    show (if i = size.toNat then s else f i) ≠ (if j = size.toNat then s else f j)
    rw [if_neg (by omega)]
    split
    · exact fun q => hn ⟨i, by omega, q⟩
    · exact hd i j hi (by omega))
  simp at this
  omega
/-- a symbol put in its place -/
theorem hRv.put {c : Int → Int} {b p o os : Int} {f g f' g' : Nat → Int} {size : Int} {mk : Int32} {s w q : Int} (h : hRv c b p o os f g size mk s) (hs : 0 ≤ s ∧ s < 27) (hl : zlv c b p s = o) (hw : w = zwt c b p s) (hq : os ≤ q ∧ q ≤ size) (hb : os < q → w ≤ g (q - 1).toNat) (ha : ∀ j : Nat, q ≤ j → j < size → g j < w)
    (f2 : ∀ j, zR (f' j)) (g2 : ∀ j, zR (g' j)) (e1 : ∀ j : Nat, j < q → f' j = f j ∧ g' j = g j) (e2 : f' q.toNat = s ∧ g' q.toNat = w) (e3 : ∀ j : Nat, q < j → j ≤ size → f' j = f (j - 1) ∧ g' j = g (j - 1)) : hRv c b p o os f' g' (size + 1) (mk ||| (zi 1 <<< (zi s &&& 31))) (s + 1) := by
  have hns : ¬ zIn f size s := fun e => by
    have := (h.2.2.2.2.2.2.2.2 s hs.1 hs.2).mp e
    omega
  have hlt := h.lt hs hns
  obtain ⟨h1, h2, h3, h4, h5, h6, h7, h8, h9⟩ := h
  have e2' : ∀ j : Nat, (j : Int) = q → f' j = s ∧ g' j = w := fun j hj => by
    rw [show j = q.toNat by omega]
    exact e2
  have hin : ∀ y, zIn f' (size + 1) y ↔ zIn f size y ∨ y = s := fun y => by
    constructor
    · rintro ⟨j, hj, hy⟩
      by_cases a1 : (j : Int) < q
      · exact .inl ⟨j, by omega, by rw [← (e1 j a1).1]; exact hy⟩
      · by_cases a2 : (j : Int) = q
        · exact .inr (by rw [← hy]; exact (e2' j a2).1)
        · exact .inl ⟨j - 1, by omega, by rw [← (e3 j (by omega) (by omega)).1]; exact hy⟩
    · rintro (⟨j, hj, hy⟩ | hy)
      · by_cases a1 : (j : Int) < q
        · exact ⟨j, by omega, by rw [(e1 j a1).1]; exact hy⟩
        · exact ⟨j + 1, by omega, by rw [(e3 (j + 1) (by omega) (by omega)).1]; exact hy⟩
      · exact ⟨q.toNat, by omega, by rw [e2.1, hy]⟩
  have hbs : ∀ j : Nat, j < q → zbf c b p (f j) s := fun j hj => by
    by_cases a1 : (j : Int) < os
    · have := h6 j a1
      exact .inl (by omega)
    · have k1 := h7 j (by omega) (by omega)
      have k2 := h7 (q - 1).toNat (by omega) (by omega)
      have k3 := hb (by omega)
      refine .inr ⟨by omega, ?_⟩
      by_cases a2 : j = (q - 1).toNat
      · subst a2
        omega
      · have k4 := h5 j (q - 1).toNat (by omega) (by omega)
        unfold zbf at k4
        omega
  have has : ∀ j : Nat, q ≤ j → j < size → zbf c b p s (f j) := fun j hj hj2 => by
    have k1 := h7 j (by omega) hj2
    have k2 := ha j hj hj2
    exact .inr ⟨by omega, .inl (by omega)⟩
  refine ⟨by omega, f2, g2, fun j hj => ?_, fun i j hi hj => ?_, fun j hj => ?_, fun j a1 a2 => ?_, fun y y1 y2 => ?_, fun y y1 y2 => ?_⟩
  · by_cases a1 : (j : Int) < q
    · rw [(e1 j a1).1]; exact h4 j (by omega)
    · by_cases a2 : (j : Int) = q
      · rw [(e2' j a2).1]; exact hs
      · rw [(e3 j (by omega) (by omega)).1]; exact h4 (j - 1) (by omega)
  · by_cases a1 : (j : Int) < q
    · rw [(e1 j a1).1, (e1 i (by omega)).1]; exact h5 i j hi (by omega)
    · by_cases a2 : (j : Int) = q
      · rw [(e2' j a2).1, (e1 i (by omega)).1]; exact hbs i (by omega)
      · rw [(e3 j (by omega) (by omega)).1]
        by_cases b1 : (i : Int) < q
        · rw [(e1 i b1).1]; exact h5 i (j - 1) (by omega) (by omega)
        · by_cases b2 : (i : Int) = q
          · rw [(e2' i b2).1]; exact has (j - 1) (by omega) (by omega)
          · rw [(e3 i (by omega) (by omega)).1]; exact h5 (i - 1) (j - 1) (by omega) (by omega)
  · rw [(e1 j (by omega)).1]; exact h6 j hj
  · by_cases b1 : (j : Int) < q
    · rw [(e1 j b1).1, (e1 j b1).2]
      have := h7 j a1 (by omega)
      omega
    · by_cases b2 : (j : Int) = q
      · rw [(e2' j b2).1, (e2' j b2).2]
        exact ⟨hl, hw, by omega⟩
      · rw [(e3 j (by omega) (by omega)).1, (e3 j (by omega) (by omega)).2]
        have := h7 (j - 1) (by omega) (by omega)
        omega
  · rw [zbit_or mk (s := s) (by omega), hin y, ← h8 y y1 y2, Bool.or_eq_true, decide_eq_true_iff]
    exact or_congr Iff.rfl ⟨fun k => by omega, fun k => by omega⟩
  · rw [hin y, h9 y y1 y2]
    constructor
    · rintro ((k | k) | k)
      · exact .inl k
      · exact .inr (by omega)
      · subst k
        exact .inr (by omega)
    · rintro (k | k)
      · exact .inl (.inl k)
      · by_cases e : y = s
        · exact .inr e
        · exact .inl (.inr (by omega))

