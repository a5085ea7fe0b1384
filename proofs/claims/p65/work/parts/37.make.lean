/-! making states -/
def zXt (D : Nat → Nat) (N : Nat) (A : Nat → Nat) : Nat → Nat := fun j => if j < N then D j else A (j - N)
theorem zXt_lo {D A : Nat → Nat} {N j : Nat} (h : j < N) : zXt D N A j = D j := if_pos h
theorem zXt_hi (D A : Nat → Nat) (N r : Nat) : zXt D N A (N + r) = A r := by
  unfold zXt
  rw [if_neg (by omega), show N + r - N = r by omega]
theorem zXt_at {D A : Nat → Nat} {N j r : Nat} (h : j = N + r) : zXt D N A j = A r := by
  rw [h]
  exact zXt_hi D A N r
/-- cells made so far: D names them, the first lay there before -/
def hGr (M M1 : zM) (a : Nat) (D : Nat → Nat) (N : Nat) : Prop := D 0 = a ∧ (∀ x y, x < N → y < N → D x = D y → x = y) ∧ (∀ j, 1 ≤ j → j < N → M (D j) = none) ∧ zFr M M1 ((List.range N).map D) ∧ ∀ j, j < N → ∃ e, M1 (D j) = some e
theorem zRm {D : Nat → Nat} {N b : Nat} : b ∈ (List.range N).map D ↔ ∃ j, j < N ∧ D j = b := by
  rw [List.mem_map]
  constructor
  · rintro ⟨j, h1, h2⟩
    exact ⟨j, List.mem_range.mp h1, h2⟩
  · rintro ⟨j, h1, h2⟩
    exact ⟨j, List.mem_range.mpr h1, h2⟩
theorem hGr.ext {M M1 M2 : zM} {a : Nat} {D A : Nat → Nat} {N m : Nat} (h : hGr M M1 a D N) (hN : 0 < N) (hA : ∀ r, r < m → M1 (A r) = none) (hi : ∀ x y, x < m → y < m → A x = A y → x = y) (f : zFr M1 M2 ((List.range N).map D ++ (List.range m).map A)) (hs : ∀ j, j < N → ∃ e, M2 (D j) = some e) (hs2 : ∀ r, r < m → ∃ e, M2 (A r) = some e) : hGr M M2 a (zXt D N A) (N + m) := by
  obtain ⟨h1, h2, h3, h4, h5⟩ := h
  have hne : ∀ j r, j < N → r < m → D j ≠ A r := fun j r hj hr q => by
    obtain ⟨e, he⟩ := h5 j hj
    rw [q, hA r hr] at he
    cases he
  have hc : ∀ j, j < N + m → (j < N ∧ zXt D N A j = D j) ∨ (∃ r, r < m ∧ j = N + r ∧ zXt D N A j = A r) := fun j hj => by
    by_cases e : j < N
    · exact .inl ⟨e, zXt_lo e⟩
    · exact .inr ⟨j - N, by omega, by omega, zXt_at (by omega)⟩
  refine ⟨by rw [zXt_lo hN]; exact h1, fun x y hx hy q => ?_, fun j j1 j2 => ?_, ?_, fun j hj => ?_⟩
  · rcases hc x hx with ⟨a1, a2⟩ | ⟨r, a1, a2, a3⟩
    · rcases hc y hy with ⟨b1, b2⟩ | ⟨r', b1, b2, b3⟩
      · exact h2 x y a1 b1 (by rw [← a2, ← b2]; exact q)
      · exact absurd (by rw [← a2, ← b3]; exact q) (hne x r' a1 b1)
    · rcases hc y hy with ⟨b1, b2⟩ | ⟨r', b1, b2, b3⟩
      · exact absurd (by rw [← b2, ← a3]; exact q.symm) (hne y r b1 a1)
      · have := hi r r' a1 b1 (by rw [← a3, ← b3]; exact q)
        omega
  · rcases hc j j2 with ⟨a1, a2⟩ | ⟨r, a1, a2, a3⟩
    · rw [a2]
      exact h3 j j1 a1
    · rw [a3, ← h4 (A r) fun q => ?_]
      · exact hA r a1
      · obtain ⟨j', k1, k2⟩ := zRm.mp q
        exact hne j' r k1 a1 k2
  · refine h4.tr f (fun b hb => ?_) (fun b hb => ?_)
    · obtain ⟨j, k1, k2⟩ := zRm.mp hb
      exact zRm.mpr ⟨j, by omega, by rw [zXt_lo k1]; exact k2⟩
    · rcases List.mem_append.mp hb with hb | hb
      · obtain ⟨j, k1, k2⟩ := zRm.mp hb
        exact zRm.mpr ⟨j, by omega, by rw [zXt_lo k1]; exact k2⟩
      · obtain ⟨r, k1, k2⟩ := zRm.mp hb
        exact zRm.mpr ⟨N + r, by omega, by rw [zXt_hi]; exact k2⟩
  · rcases hc j hj with ⟨a1, a2⟩ | ⟨r, a1, a2, a3⟩
    · rw [a2]
      exact hs j a1
    · rw [a3]
      exact hs2 r a1
theorem hRd.cg {γ : zG} {M : zM} {A B : Nat → Nat} {R : zRdr} (h : hRd γ M A R) (q : ∀ i, i < 6 → B i = A i) : hRd γ M B R := by
  unfold hRd at h ⊢
  rw [q 0 (by omega), q 1 (by omega), q 2 (by omega), q 3 (by omega), q 4 (by omega), q 5 (by omega)]
  exact h
theorem hRd.inj {γ : zG} {M : zM} {A : Nat → Nat} {R : zRdr} (h : hRd γ M A R) : ∀ x y, x < 6 → y < 6 → A x = A y → x = y := by
  obtain ⟨n1, n2, n3, n4, n5, n6, n7, n8, n9, n10, n11, n12, n13, n14, n15⟩ := h.ne
  intro x y hx hy q
  rcases (show x = 0 ∨ x = 1 ∨ x = 2 ∨ x = 3 ∨ x = 4 ∨ x = 5 by omega) with e | e | e | e | e | e <;> subst e <;>
  rcases (show y = 0 ∨ y = 1 ∨ y = 2 ∨ y = 3 ∨ y = 4 ∨ y = 5 by omega) with e | e | e | e | e | e <;> subst e <;> first | rfl | (exact absurd q (by assumption)) | (exact absurd q.symm (by assumption))
theorem hRd.dom {γ : zG} {M : zM} {A : Nat → Nat} {R : zRdr} (h : hRd γ M A R) : ∀ r, r < 6 → ∃ e, M (A r) = some e := by
  obtain ⟨b0, ⟨g1, b1, -⟩, ⟨-, n, ks, vs, ⟨b2, b3, b4⟩, -⟩, g5, b5, -⟩ := h
  intro q hq
  rcases (show q = 0 ∨ q = 1 ∨ q = 2 ∨ q = 3 ∨ q = 4 ∨ q = 5 by omega) with e | e | e | e | e | e <;> subst e
  · exact ⟨_, b0⟩
  · exact ⟨_, b1⟩
  · exact ⟨_, b2⟩
  · exact ⟨_, b3⟩
  · exact ⟨_, b4⟩
  · exact ⟨_, b5⟩
def zR0 : zRdr := (fun _ => 0, 0, 0, fun _ => 0, 0, fun _ => 0)
def zX0 : zDoc := (fun _ => 0, 0, 0)
def zS0 : zSt := (0, 0, 0, fun _ => zR0, fun _ => zX0)
theorem zS0_ok : zOk zS0 := ⟨by
  show ((0 : Int) ≤ 0 ∧ (0 : Int) ≤ 4) ∧ ((0 : Int) ≤ 0 ∧ (0 : Int) ≤ 8)
  omega, fun j (hj : (j : Int) < 0) => by omega, fun j (hj : (j : Int) < 0) => by omega⟩
/-- a state under way: i readers, k documents are made -/
def hMk (γ : zG) (M M1 : zM) (a : Nat) (D : Nat → Nat) (i k : Nat) : Prop := hGr M M1 a D (3 + 6 * i + 2 * k) ∧ M1 (D 0) = some (.inr (7, [.ref (D 1), .int (zi 0), .ref (D 2), .int (zi 0), .int (zi 0)])) ∧ M1 (D 1) = some (zaQ γ 5 4 (fun j => if j < i then some (D (3 + 6 * j)) else none)) ∧ M1 (D 2) = some (zaQ γ 6 8 (fun j => if j < k then some (D (27 + 2 * j)) else none)) ∧ (∀ j, j < i → hRd γ M1 (dRa D j) zR0) ∧ ∀ j, j < k → hDc γ M1 (D (27 + 2 * j)) (D (28 + 2 * j)) (fun _ => 0) 0 0
theorem hMk.stp1 {γ : zG} {M M1 M2 M3 : zM} {a q : Nat} {D A : Nat → Nat} {i : Nat} (h : hMk γ M M1 a D i 0) (hi : i < 4) (hq : M1 q = none) {e0 : va_E} (hA0 : A 0 = q) (hA : ∀ r, 1 ≤ r → r < 6 → va_up M1 q (some e0) (A r) = none) (f : zFr (va_up M1 q (some e0)) M2 (zFA A)) (hR : hRd γ M2 A zR0) (hM3 : M3 = va_up M2 (D 1) (some (zaQ γ 5 4 (va_up (fun j => if j < i then some (D (3 + 6 * j)) else none) i (some q))))) : hMk γ M M3 a (zXt D (3 + 6 * i) A) (i + 1) 0 := by
  obtain ⟨hG, h0, h1, h2, h3, -⟩ := h
  have hA' : ∀ r, r < 6 → M1 (A r) = none := fun r hr => by
    by_cases e : r = 0
    · rw [e, hA0]
      exact hq
    · have := hA r (by omega) hr
      unfold va_up at this
      split at this
      · cases this
      · exact this
  have hne : ∀ j r, j < 3 + 6 * i → r < 6 → D j ≠ A r := fun j r hj hr w => by
    obtain ⟨e, he⟩ := hG.2.2.2.2 j (by omega)
    rw [w, hA' r hr] at he
    cases he
  have hnF : ∀ j, j < 3 + 6 * i → D j ∉ zFA A := fun j hj w => by
    simp only [zFA, List.mem_cons, List.not_mem_nil, or_false] at w
    rcases w with w | w | w | w | w | w
    · exact hne j 0 hj (by omega) w
    · exact hne j 1 hj (by omega) w
    · exact hne j 2 hj (by omega) w
    · exact hne j 3 hj (by omega) w
    · exact hne j 4 hj (by omega) w
    · exact hne j 5 hj (by omega) w
  have k2 : ∀ j, j < 3 + 6 * i → M2 (D j) = M1 (D j) := fun j hj => by
    rw [f (D j) (hnF j hj), va_up_ne _ _ fun w => hne j 0 hj (by omega) (w.trans hA0.symm)]
  have k3 : ∀ j, j < 3 + 6 * i → j ≠ 1 → M3 (D j) = M1 (D j) := fun j hj hj1 => by
    rw [hM3, va_up_ne _ _ fun w => hj1 (hG.2.1 j 1 (by omega) (by omega) w)]
    exact k2 j hj
  have k4 : ∀ r, r < 6 → M3 (A r) = M2 (A r) := fun r hr => by
    rw [hM3, va_up_ne _ _ fun w => hne 1 r (by omega) hr w.symm]
  have f3 : zFr M1 M3 ((List.range (3 + 6 * i)).map D ++ (List.range 6).map A) := fun b hb => by
    have b1 : b ≠ D 1 := fun w => hb (List.mem_append_left _ (zRm.mpr ⟨1, by omega, w.symm⟩))
    have b2 : ∀ r, r < 6 → b ≠ A r := fun r hr w => hb (List.mem_append_right _ (zRm.mpr ⟨r, hr, w.symm⟩))
    rw [hM3, va_up_ne _ _ b1, f b (by simp [zFA, b2 0, b2 1, b2 2, b2 3, b2 4, b2 5]), va_up_ne _ _ fun w => b2 0 (by omega) (w.trans hA0.symm)]
  have hG3 := hGr.ext (A := A) (m := 6) (M2 := M3) hG (by omega) hA' hR.inj (by simpa using f3) (fun j hj => by
    by_cases e : j = 1
    · subst e
      exact ⟨_, by rw [hM3]; exact va_up_self _ _ _⟩
    · rw [k3 j (by omega) e]
      exact hG.2.2.2.2 j hj) (fun r hr => by
    rw [k4 r hr]
    exact hR.dom r hr)
  have l0 : ∀ j, j < 3 + 6 * i → zXt D (3 + 6 * i) A j = D j := fun j hj => zXt_lo hj
  have fr3 : zFr M2 M3 [D 1] := by
    rw [hM3]
    exact zFr.up (by simp)
  refine ⟨by simpa [Nat.mul_add, Nat.add_assoc] using hG3, ?_, ?_, ?_, fun j hj => ?_, fun j hj => by omega⟩
  · rw [l0 0 (by omega), l0 1 (by omega), l0 2 (by omega), k3 0 (by omega) (by omega)]
    exact h0
  · rw [l0 1 (by omega), hM3, va_up_self]
    congr 3
    funext j
    unfold va_up
    by_cases e : j = i
    · subst e
      rw [if_pos rfl, if_pos (by omega), zXt_at (r := 0) (by omega), hA0]
    · rw [if_neg e]
      show (if j < i then some (D (3 + 6 * j)) else none) = _
      by_cases e1 : j < i
      · rw [if_pos e1, if_pos (by omega), l0 _ (by omega)]
      · rw [if_neg e1, if_neg (by omega)]
  · rw [l0 2 (by omega), k3 2 (by omega) (by omega)]
    simpa using h2
  · by_cases e : j = i
    · subst e
      refine (hR.fr fr3 fun r hr => ?_).cg fun r hr => zXt_at rfl
      exact fun w => hne 1 r (by omega) hr (List.mem_singleton.mp w).symm
    · have q1 : ∀ r, r < 6 → dRa (zXt D (3 + 6 * i) A) j r = dRa D j r := fun r hr => l0 _ (by omega)
      refine hRd.cg (A := dRa D j) ?_ q1
      refine (h3 j (by omega)).fr (S := (List.map A (List.range 6)) ++ [D 1]) (fun b hb => ?_) fun r hr w => ?_
      · have b1 : b ≠ D 1 := fun w => hb (List.mem_append_right _ (by simp [w]))
        have b2 : ∀ r, r < 6 → b ≠ A r := fun r hr w => hb (List.mem_append_left _ (zRm.mpr ⟨r, hr, w.symm⟩))
        rw [hM3, va_up_ne _ _ b1, f b (by simp [zFA, b2 0, b2 1, b2 2, b2 3, b2 4, b2 5]), va_up_ne _ _ fun w => b2 0 (by omega) (w.trans hA0.symm)]
      · rcases List.mem_append.mp w with w | w
        · obtain ⟨r', w1, w2⟩ := zRm.mp w
          exact hne (3 + 6 * j + r) r' (by omega) w1 w2.symm
        · have := hG.2.1 (3 + 6 * j + r) 1 (by omega) (by omega) (List.mem_singleton.mp w)
          omega
theorem hMk.stp2 {γ : zG} {M M1 M2 M3 : zM} {a q r0 : Nat} {D : Nat → Nat} {k : Nat} (h : hMk γ M M1 a D 4 k) (hk : k < 8) (hq : M1 q = none) {e0 : va_E} (hA : va_up M1 q (some e0) r0 = none) (f : zFr (va_up M1 q (some e0)) M2 [q, r0]) (hR : hDc γ M2 q r0 (fun _ => 0) 0 0) (hM3 : M3 = va_up M2 (D 2) (some (zaQ γ 6 8 (va_up (fun j => if j < k then some (D (27 + 2 * j)) else none) k (some q))))) : hMk γ M M3 a (zXt D (27 + 2 * k) (fun r => if r = 0 then q else r0)) 4 (k + 1) := by
  obtain ⟨hG, h0, h1, h2, h3, h4⟩ := h
  rw [show 3 + 6 * 4 + 2 * k = 27 + 2 * k by omega] at hG
  have hqr : q ≠ r0 := zne_ka hR.1 hR.2
  have hr0 : M1 r0 = none := by
    rw [va_up_ne _ _ hqr.symm] at hA
    exact hA
  generalize hAd : (fun r : Nat => if r = 0 then q else r0) = A
  have hA0 : A 0 = q := by rw [← hAd]; rfl
  have hA1 : A 1 = r0 := by rw [← hAd]; rfl
  have hA' : ∀ r, r < 2 → M1 (A r) = none := fun r hr => by
    rcases (show r = 0 ∨ r = 1 by omega) with e | e <;> subst e
    · rw [hA0]; exact hq
    · rw [hA1]; exact hr0
  have hne : ∀ j r, j < 27 + 2 * k → r < 2 → D j ≠ A r := fun j r hj hr w => by
    obtain ⟨e, he⟩ := hG.2.2.2.2 j (by omega)
    rw [w, hA' r hr] at he
    cases he
  have hnF : ∀ j, j < 27 + 2 * k → D j ≠ q ∧ D j ≠ r0 := fun j hj => ⟨by rw [← hA0]; exact hne j 0 hj (by omega), by rw [← hA1]; exact hne j 1 hj (by omega)⟩
  have k2 : ∀ j, j < 27 + 2 * k → M2 (D j) = M1 (D j) := fun j hj => by
    rw [f (D j) (by simp [hnF j hj]), va_up_ne _ _ (hnF j hj).1]
  have k3 : ∀ j, j < 27 + 2 * k → j ≠ 2 → M3 (D j) = M1 (D j) := fun j hj hj1 => by
    rw [hM3, va_up_ne _ _ fun w => hj1 (hG.2.1 j 2 (by omega) (by omega) w)]
    exact k2 j hj
  have k4 : ∀ r, r < 2 → M3 (A r) = M2 (A r) := fun r hr => by
    rw [hM3, va_up_ne _ _ fun w => hne 2 r (by omega) hr w.symm]
  have f3 : zFr M1 M3 ((List.range (27 + 2 * k)).map D ++ (List.range 2).map A) := fun b hb => by
    have b1 : b ≠ D 2 := fun w => hb (List.mem_append_left _ (zRm.mpr ⟨2, by omega, w.symm⟩))
    have b2 : ∀ r, r < 2 → b ≠ A r := fun r hr w => hb (List.mem_append_right _ (zRm.mpr ⟨r, hr, w.symm⟩))
    have b3 : b ≠ q ∧ b ≠ r0 := ⟨by rw [← hA0]; exact b2 0 (by omega), by rw [← hA1]; exact b2 1 (by omega)⟩
    rw [hM3, va_up_ne _ _ b1, f b (by simp [b3]), va_up_ne _ _ b3.1]
  have hG3 := hGr.ext (A := A) (m := 2) (M2 := M3) hG (by omega) hA' (fun x y hx hy w => by
    rcases (show x = 0 ∨ x = 1 by omega) with e | e <;> rcases (show y = 0 ∨ y = 1 by omega) with e' | e' <;> subst e <;> subst e'
    · rfl
    · rw [hA0, hA1] at w; exact absurd w hqr
    · rw [hA0, hA1] at w; exact absurd w.symm hqr
    · rfl) f3 (fun j hj => by
    by_cases e : j = 2
    · subst e
      exact ⟨_, by rw [hM3]; exact va_up_self _ _ _⟩
    · rw [k3 j (by omega) e]
      exact hG.2.2.2.2 j hj) (fun r hr => by
    rw [k4 r hr]
    rcases (show r = 0 ∨ r = 1 by omega) with e | e <;> subst e
    · rw [hA0]; exact ⟨_, hR.1⟩
    · rw [hA1]; exact ⟨_, hR.2⟩)
  have l0 : ∀ j, j < 27 + 2 * k → zXt D (27 + 2 * k) A j = D j := fun j hj => zXt_lo hj
  have fr3 : zFr M2 M3 [D 2] := by
    rw [hM3]
    exact zFr.up (by simp)
  have f4 : zFr M1 M3 ((List.range 2).map A ++ [D 2]) := fun b hb => by
    have b1 : b ≠ D 2 := fun w => hb (List.mem_append_right _ (by simp [w]))
    have b2 : ∀ r, r < 2 → b ≠ A r := fun r hr w => hb (List.mem_append_left _ (zRm.mpr ⟨r, hr, w.symm⟩))
    have b3 : b ≠ q ∧ b ≠ r0 := ⟨by rw [← hA0]; exact b2 0 (by omega), by rw [← hA1]; exact b2 1 (by omega)⟩
    rw [hM3, va_up_ne _ _ b1, f b (by simp [b3]), va_up_ne _ _ b3.1]
  have hn4 : ∀ j, j < 27 + 2 * k → j ≠ 2 → D j ∉ (List.range 2).map A ++ [D 2] := fun j hj hj2 w => by
    rcases List.mem_append.mp w with w | w
    · obtain ⟨r', w1, w2⟩ := zRm.mp w
      exact hne j r' hj w1 w2.symm
    · exact hj2 (hG.2.1 j 2 (by omega) (by omega) (List.mem_singleton.mp w))
  refine ⟨by rw [show 3 + 6 * 4 + 2 * (k + 1) = 27 + 2 * k + 2 by omega]; exact hG3, ?_, ?_, ?_, fun j hj => ?_, fun j hj => ?_⟩
  · rw [l0 0 (by omega), l0 1 (by omega), l0 2 (by omega), k3 0 (by omega) (by omega)]
    exact h0
  · rw [l0 1 (by omega), k3 1 (by omega) (by omega), h1]
    congr 3
    funext j
    by_cases e1 : j < 4
    · rw [if_pos e1, if_pos e1, l0 _ (by omega)]
    · rw [if_neg e1, if_neg e1]
  · rw [l0 2 (by omega), hM3, va_up_self]
    congr 3
    funext j
    unfold va_up
    by_cases e : j = k
    · subst e
      rw [if_pos rfl, if_pos (by omega), zXt_at (r := 0) (by omega), hA0]
    · rw [if_neg e]
      show (if j < k then some (D (27 + 2 * j)) else none) = _
      by_cases e1 : j < k
      · rw [if_pos e1, if_pos (by omega), l0 _ (by omega)]
      · rw [if_neg e1, if_neg (by omega)]
  · have q1 : ∀ r, r < 6 → dRa (zXt D (27 + 2 * k) A) j r = dRa D j r := fun r hr => l0 _ (by omega)
    refine hRd.cg (A := dRa D j) ?_ q1
    exact (h3 j hj).fr f4 fun r hr => hn4 _ (by omega) (by omega)
  · by_cases e : j = k
    · subst e
      rw [zXt_at (r := 0) (by omega), zXt_at (r := 1) (by omega), hA0, hA1]
      exact hR.fr fr3 (fun w => (hnF 2 (by omega)).1 (List.mem_singleton.mp w).symm) (fun w => (hnF 2 (by omega)).2 (List.mem_singleton.mp w).symm)
    · rw [l0 _ (by omega), l0 _ (by omega)]
      exact (h4 j (by omega)).fr f4 (hn4 _ (by omega) (by omega)) (hn4 _ (by omega) (by omega))
theorem zHW.eqv {γ : zG} {M : zM} {H : Heap} {a : Nat} {x x' : va_E} (h : zHW γ M H) (ha : M a = some x) (he : ∀ H, va_at γ.1 vwCl (a, x) H → va_at γ.1 vwCl (a, x') H) : zHW γ (va_up M a (some x')) H := by
  refine ⟨h.1, fun b y hb => ?_⟩
  by_cases e : b = a
  · subst e
    rw [va_up_self] at hb
    cases hb
    exact ⟨(h.2 b _ ha).1, he H (h.2 b _ ha).2⟩
  · rw [va_up_ne _ _ e] at hb
    exact h.2 b y hb
theorem zaQ_cg {γ : zG} {a kd N : Nat} {f g : Nat → Option Nat} (h : ∀ j, j < N → f j = g j) (H : Heap) (q : va_at γ.1 vwCl (a, zaQ γ kd N f) H) : va_at γ.1 vwCl (a, zaQ γ kd N g) H := by
  show H[a]? = some (vp_cell _ _)
  have q : H[a]? = some (vp_cell (γ.2.2.1 kd) (N, .inr (.inr (.inr (.inr f))))) := q
  rw [q, vp_cell_q, vp_cell_q]
  unfold arrV
  congr 3
  funext j
  show va_rf (f j.val) = va_rf (g j.val)
  rw [h j.val j.isLt]
section ZR13
variable {p : Program} {l : Launch} {e : Env} {R : Room} {s : State} {m : MethodId} {args : Array Value} {below : List Frame} {meth : Method} {c : Code} {γ : zG} {cc : ByteArray} {nL : Nat} {ret : Option FieldType} {own : String} {xt : List ExceptionTableEntry} {Q : State → Prop} {M : zM} {k n pc mc ms : Nat} {L : zL} {st : List Value}
theorem z_mono {M0 : zM} (h : ∀ H, zHW γ M H → zHW γ M0 H) (kk : zAW p l e R s m args below meth c γ nL Q M0 k n pc L st) : zAW p l e R s m args below meth c γ nL Q M k n pc L st := fun H locs ls hH hl hL hz => kk H locs ls (h H hH) hl hL hz
theorem z_kn {k' n' : Nat} (hk : k = k') (hn : n = n') (kk : zAW p l e R s m args below meth c γ nL Q M k' n' pc L st) : zAW p l e R s m args below meth c γ nL Q M k n pc L st := by
  subst hk hn
  exact kk
end ZR13
theorem hMk.ld {γ : zG} {M M1 M2 : zM} {a q : Nat} {D : Nat → Nat} {i k : Nat} (h : hMk γ M M1 a D i k) (hq : M1 q = none) {e0 : va_E} {F : List Nat} (hF : ∀ b ∈ F, va_up M1 q (some e0) b = none ∨ b = q) (f : zFr (va_up M1 q (some e0)) M2 F) : ∀ j, j < 3 + 6 * i + 2 * k → M2 (D j) = M1 (D j) := fun j hj => by
  obtain ⟨x, hx⟩ := h.1.2.2.2.2 j hj
  have e1 : D j ≠ q := fun w => by
    rw [w, hq] at hx
    cases hx
  rw [f (D j) fun w => ?_, va_up_ne _ _ e1]
  rcases hF _ w with w | w
  · rw [va_up_ne _ _ e1, hx] at w
    cases w
  · exact e1 w
set_option maxHeartbeats 4000000 in
set_option maxRecDepth 100000 in
theorem k_X7_init {l : Launch} {γ : zG} {M : zM} {a : Nat} (hM : M a = some (.inr (7, [.null, .int 0, .null, .int 0, .int 0]))) :
    zCon l γ yX7_init cX7_init 2 none [.ref a] M 3 55 42 5584 (fun v' M' => v' = none ∧ ∃ D : Nat → Nat, hGr M M' a D 43 ∧ hSt γ M' D zS0) (fun _ _ => False) := by
  refine zEnter [some (.ref a), none] (by decide +kernel) rfl rfl (Nat.le_of_ble_eq_true rfl) ?_
  intro p e s m args below meth c Q C hin hQ
  have loop2 : ∀ (t : Nat) (M1 : zM) (D : Nat → Nat) (k : Nat), k + t = 8 → hMk γ M M1 a D 4 k → zAW p l e { frames := 3, cells := 42, slots := 5584, locals := 55 } s m args below meth c γ 2 Q M1 (26 + 2 * k) (5240 + 43 * k) 64 [some (.ref a), some (.int (zi k))] [] := by
    intro t
    induction t with
    | zero =>
      intro M1 D k hk h
      obtain rfl : k = 8 := by omega
      obtain ⟨hG, h0, h1, h2, h3, h4⟩ := h
      have hI : ∀ x y, x < 43 → y < 43 → D x = D y → x = y := hG.2.1
      have nn : ∀ x y, x < 43 → y < 43 → x ≠ y → D x ≠ D y := fun x y hx hy w v => w (hI x y hx hy v)
      refine z_mono (M0 := va_up (va_up M1 (D 1) (some (zaQ γ 5 4 (fun j => some (D (3 + 6 * j)))))) (D 2) (some (zaQ γ 6 8 (fun j => some (D (27 + 2 * j)))))) (fun H hH => ?_) ?_
      · refine zHW.eqv (x := zaQ γ 6 8 (fun j => if j < 8 then some (D (27 + 2 * j)) else none)) (zHW.eqv hH h1 (zaQ_cg fun j hj => if_pos hj)) ?_ (zaQ_cg fun j hj => if_pos hj)
        rw [va_up_ne _ _ (nn 2 1 (by omega) (by omega) (by omega))]
        exact h2
      refine z_iload_n C dX7_init_64 rfl ?_
      refine z_bipush C dX7_init_65 (by decide) ?_
      refine z_icmp_geZ (tgt := 89) C dX7_init_67 (by decide) (by omega) (by omega) (fun h67 => ?_) (fun h67 => ?_)
      · refine z_vret C hQ dX7_init_89 (by decide) (by decide) ?_
        have f0 : zFr M1 (va_up (va_up M1 (D 1) (some (zaQ γ 5 4 (fun j => some (D (3 + 6 * j)))))) (D 2) (some (zaQ γ 6 8 (fun j => some (D (27 + 2 * j)))))) [D 1, D 2] := zFr.u2 zFr.rf (by simp) (by simp)
        have hn : ∀ j, j < 43 → j ≠ 1 → j ≠ 2 → D j ∉ [D 1, D 2] := fun j hj j1 j2 => by simp [nn j 1 hj (by omega) j1, nn j 2 hj (by omega) j2]
        refine ⟨rfl, D, ⟨hG.1, hG.2.1, hG.2.2.1, hG.2.2.2.1.tr f0 (fun _ h => h) (fun b hb => ?_), fun j hj => ?_⟩, fun _ => zR0, fun _ => zX0, ⟨?_, ?_, va_up_self _ _ _, fun i hi => (h3 i hi).fr f0 fun r hr => hn _ (by omega) (by omega) (by omega), fun j hj => ⟨fun _ => 0, (h4 j hj).fr f0 (hn _ (by omega) (by omega) (by omega)) (hn _ (by omega) (by omega) (by omega)), ⟨by show (0 : Int) ≤ 0 ∧ (0 : Int) ≤ 40; omega, fun _ => (by unfold zR; omega : zR 0), fun i (hi : (i : Int) < 0) => by omega⟩, fun i (hi : (i : Int) < 0) => by omega⟩⟩, fun j (hj : (j : Int) < 0) => by omega, fun j (hj : (j : Int) < 0) => by omega⟩
        · rcases List.mem_cons.mp hb with w | w
          · exact zRm.mpr ⟨1, by omega, w.symm⟩
          · exact zRm.mpr ⟨2, by omega, (List.mem_singleton.mp w).symm⟩
        · by_cases e1 : j = 2
          · subst e1; exact ⟨_, va_up_self _ _ _⟩
          · rw [va_up_ne _ _ (nn j 2 hj (by omega) e1)]
            by_cases e2 : j = 1
            · subst e2; exact ⟨_, va_up_self _ _ _⟩
            · rw [va_up_ne _ _ (nn j 1 hj (by omega) e2)]
              exact hG.2.2.2.2 j hj
        · exact f0.at (hn 0 (by omega) (by omega) (by omega)) h0
        · rw [va_up_ne _ _ (nn 1 2 (by omega) (by omega) (by omega))]
          exact va_up_self _ _ _
      · exact absurd h67 (by omega)
    | succ t ih =>
      intro M1 D k hk h
      obtain ⟨hG, h0, h1, h2, h3, h4⟩ := id h
      rw [hG.1] at h0
      refine z_iload_n C dX7_init_64 rfl ?_
      refine z_bipush C dX7_init_65 (by decide) ?_
      refine z_icmp_geZ (tgt := 89) C dX7_init_67 (by decide) (by omega) (by omega) (fun h67 => ?_) (fun h67 => ?_)
      · exact absurd h67 (by omega)
      · refine z_aload_n C dX7_init_70 rfl ?_
        refine z_get C dX7_init_71 fl_X7_23 (by first | assumption | ((repeat (first | assumption | exact va_up_self _ _ _ | refine (va_up_ne _ _ (by assumption)).trans ?_)); done) | (simp [va_up, *] <;> rfl)) rfl ?_
        refine z_iload_n C dX7_init_74 rfl ?_
        refine z_new C dX7_init_75 nw_X7_21 ⟨by show _ ≤ 42; omega, by show _ ≤ 5584; omega⟩ (fun q75 hq75 => ?_)
        refine z_dup C dX7_init_78 rfl ?_
        refine z_callIN C dX7_init_79 nk_X7_34 mw_X3_init rfl mi_X3_init (k_X3_init (va_up_self _ _ _)) rfl (by first | decide | exact Nat.le_of_ble_eq_true rfl) ⟨by decide, by decide, by show _ ≤ 42; omega, by show _ ≤ 5584; omega⟩ (fun _ _ h => False.elim h) (fun v M' hp => ?_)
        obtain ⟨rfl, r0, hr0, f1, hX⟩ := hp
        have hl := h.ld hq75 (F := [q75, r0]) (fun b hb => by
          rcases List.mem_cons.mp hb with w | w
          · exact .inr w
          · exact .inl (by rw [List.mem_singleton.mp w]; exact hr0)) f1 2 (by omega)
        rw [h2] at hl
        refine z_astQ C dX7_init_82 hl (by decide) (ci := 3) rfl rfl hX.1 (by omega) (by decide) ?_
        refine z_iincZ C dX7_init_83 rfl (by decide) ?_
        refine z_goto (tgt := 64) C dX7_init_86 (by decide) ?_
        refine z_kn (k' := 26 + 2 * (k + 1)) (n' := 5240 + 43 * (k + 1)) (by omega) (by omega) ?_
        exact ih _ _ (k + 1) (by omega) (h.stp2 (by omega) hq75 hr0 f1 hX rfl)
  have loop1 : ∀ (t : Nat) (M1 : zM) (D : Nat → Nat) (i : Nat), i + t = 4 → hMk γ M M1 a D i 0 → zAW p l e { frames := 3, cells := 42, slots := 5584, locals := 55 } s m args below meth c γ 2 Q M1 (2 + 6 * i) (12 + 1307 * i) 38 [some (.ref a), some (.int (zi i))] [] := by
    intro t
    induction t with
    | zero =>
      intro M1 D i hi h
      obtain rfl : i = 4 := by omega
      refine z_iload_n C dX7_init_38 rfl ?_
      refine z_iconst C dX7_init_39 ?_
      refine z_icmp_geZ (tgt := 62) C dX7_init_40 (by decide) (by omega) (by omega) (fun h40 => ?_) (fun h40 => ?_)
      · refine z_iconst C dX7_init_62 ?_
        refine z_istore_n C dX7_init_63 (by decide) ?_
        exact loop2 8 M1 D 0 (by omega) h
      · exact absurd h40 (by omega)
    | succ t ih =>
      intro M1 D i hi h
      obtain ⟨hG, h0, h1, h2, h3, h4⟩ := id h
      rw [hG.1] at h0
      refine z_iload_n C dX7_init_38 rfl ?_
      refine z_iconst C dX7_init_39 ?_
      refine z_icmp_geZ (tgt := 62) C dX7_init_40 (by decide) (by omega) (by omega) (fun h40 => ?_) (fun h40 => ?_)
      · exact absurd h40 (by omega)
      · refine z_aload_n C dX7_init_43 rfl ?_
        refine z_get C dX7_init_44 fl_X7_11 (by first | assumption | ((repeat (first | assumption | exact va_up_self _ _ _ | refine (va_up_ne _ _ (by assumption)).trans ?_)); done) | (simp [va_up, *] <;> rfl)) rfl ?_
        refine z_iload_n C dX7_init_47 rfl ?_
        refine z_new C dX7_init_48 nw_X7_9 ⟨by show _ ≤ 42; omega, by show _ ≤ 5584; omega⟩ (fun q48 hq48 => ?_)
        refine z_dup C dX7_init_51 rfl ?_
        refine z_callIN C dX7_init_52 nk_X7_33 mw_X6_init rfl mi_X6_init (k_X6_init (va_up_self _ _ _)) rfl (by first | decide | exact Nat.le_of_ble_eq_true rfl) ⟨by decide, by decide, by show _ ≤ 42; omega, by show _ ≤ 5584; omega⟩ (fun _ _ h => False.elim h) (fun v M' hp => ?_)
        obtain ⟨rfl, A, hA0, hA, f1, hR⟩ := hp
        have hl := h.ld hq48 (F := zFA A) (fun b hb => by
          simp only [zFA, List.mem_cons, List.not_mem_nil, or_false] at hb
          rcases hb with w | w | w | w | w | w
          · exact .inr (w.trans hA0)
          · exact .inl (by rw [w]; exact hA 1 (by omega) (by omega))
          · exact .inl (by rw [w]; exact hA 2 (by omega) (by omega))
          · exact .inl (by rw [w]; exact hA 3 (by omega) (by omega))
          · exact .inl (by rw [w]; exact hA 4 (by omega) (by omega))
          · exact .inl (by rw [w]; exact hA 5 (by omega) (by omega))) f1 1 (by omega)
        rw [h1] at hl
        have hR0 := hR.1
        rw [hA0] at hR0
        refine z_astQ C dX7_init_55 hl (by decide) (ci := 6) rfl rfl hR0 (by omega) (by decide) ?_
        refine z_iincZ C dX7_init_56 rfl (by decide) ?_
        refine z_goto (tgt := 38) C dX7_init_59 (by decide) ?_
        refine z_kn (k' := 2 + 6 * (i + 1)) (n' := 12 + 1307 * (i + 1)) (by omega) (by omega) ?_
        exact ih _ _ (i + 1) (by omega) (h.stp1 (by omega) hq48 hA0 hA f1 hR rfl)
  refine z_aload_n C dX7_init_0 rfl ?_
  refine z_objInit C dX7_init_1 t1_114 ob_in ob_co ⟨by decide, (by first | decide | exact Nat.le_of_ble_eq_true rfl)⟩ ?_
  refine z_aload_n C dX7_init_4 rfl ?_
  refine z_iconst C dX7_init_5 ?_
  refine z_newQ (kd := 5) C dX7_init_6 t1_115 (by decide) rfl C.ev.2.2.2.2.2.2.2.1 (by omega) ⟨by decide, by decide⟩ (fun q6 hq6 => ?_)
  have n1 : a ≠ q6 := fun q => by rw [q, hq6] at hM; cases hM
  have n2 := n1.symm
  refine z_putF C dX7_init_9 fl_X7_11 hin (by first | assumption | ((repeat (first | assumption | exact va_up_self _ _ _ | refine (va_up_ne _ _ (by assumption)).trans ?_)); done) | (simp [va_up, *] <;> rfl)) (fun _ _ _ h => by cases h; rfl) rfl rfl (by simp) ?_
  refine z_aload_n C dX7_init_12 rfl ?_
  refine z_iconst C dX7_init_13 ?_
  refine z_put C dX7_init_14 fl_X7_17 (by first | assumption | ((repeat (first | assumption | exact va_up_self _ _ _ | refine (va_up_ne _ _ (by assumption)).trans ?_)); done) | (simp [va_up, *] <;> rfl)) rfl rfl (by simp) ?_
  refine z_aload_n C dX7_init_17 rfl ?_
  refine z_bipush C dX7_init_18 (by decide) ?_
  refine z_newQ (kd := 6) C dX7_init_20 t1_117 (by decide) rfl C.ev.2.2.2.2.2.2.2.2.1 (by omega) ⟨by decide, by decide⟩ (fun q20 hq20 => ?_)
  have n3 : a ≠ q20 := fun q => by rw [q] at hq20; simp [va_up] at hq20
  have n4 := n3.symm
  have n5 : q6 ≠ q20 := fun q => by rw [q] at hq20 n2; simp [va_up, n2] at hq20
  have n6 := n5.symm
  refine z_putF C dX7_init_23 fl_X7_23 hin (by first | assumption | ((repeat (first | assumption | exact va_up_self _ _ _ | refine (va_up_ne _ _ (by assumption)).trans ?_)); done) | (simp [va_up, *] <;> rfl)) (fun _ _ _ h => by cases h; rfl) rfl rfl (by simp) ?_
  refine z_aload_n C dX7_init_26 rfl ?_
  refine z_iconst C dX7_init_27 ?_
  refine z_put C dX7_init_28 fl_X7_27 (by first | assumption | ((repeat (first | assumption | exact va_up_self _ _ _ | refine (va_up_ne _ _ (by assumption)).trans ?_)); done) | (simp [va_up, *] <;> rfl)) rfl rfl (by simp) ?_
  refine z_aload_n C dX7_init_31 rfl ?_
  refine z_iconst C dX7_init_32 ?_
  refine z_put C dX7_init_33 fl_X7_30 (by first | assumption | ((repeat (first | assumption | exact va_up_self _ _ _ | refine (va_up_ne _ _ (by assumption)).trans ?_)); done) | (simp [va_up, *] <;> rfl)) rfl rfl (by simp) ?_
  refine z_iconst C dX7_init_36 ?_
  refine z_istore_n C dX7_init_37 (by decide) ?_
  have hm20 : M q20 = none := by simpa [va_up, n4, n6] using hq20
  have i0 : a ∈ (List.range (3 + 6 * 0 + 2 * 0)).map (fun x => if x = 0 then a else if x = 1 then q6 else q20) := zRm.mpr ⟨0, by omega, rfl⟩
  have i1 : q6 ∈ (List.range (3 + 6 * 0 + 2 * 0)).map (fun x => if x = 0 then a else if x = 1 then q6 else q20) := zRm.mpr ⟨1, by omega, rfl⟩
  have i2 : q20 ∈ (List.range (3 + 6 * 0 + 2 * 0)).map (fun x => if x = 0 then a else if x = 1 then q6 else q20) := zRm.mpr ⟨2, by omega, rfl⟩
  refine loop1 4 _ (fun x => if x = 0 then a else if x = 1 then q6 else q20) 0 (by omega) ⟨⟨rfl, fun x y hx hy w => ?_, fun j j1 j2 => ?_, ?_, fun j hj => ?_⟩, ?_, ?_, ?_, fun j hj => by omega, fun j hj => by omega⟩
  · rcases (show x = 0 ∨ x = 1 ∨ x = 2 by omega) with e | e | e <;> rcases (show y = 0 ∨ y = 1 ∨ y = 2 by omega) with e' | e' | e' <;> subst e <;> subst e' <;> first | rfl | exact absurd w n1 | exact absurd w n2 | exact absurd w n3 | exact absurd w n4 | exact absurd w n5 | exact absurd w n6
  · rcases (show j = 1 ∨ j = 2 by omega) with e | e <;> subst e
    · exact hq6
    · exact hm20
  · exact zFr.u2 (zFr.u2 (zFr.u2 (zFr.u1 zFr.rf i1) i0 i0) i2 i0) i0 i0
  · rcases (show j = 0 ∨ j = 1 ∨ j = 2 by omega) with e | e | e <;> subst e
    · exact ⟨_, va_up_self _ _ _⟩
    · exact ⟨zaQ γ 5 4 (fun _ => none), by simp [va_up, n2, n5]⟩
    · exact ⟨zaQ γ 6 8 (fun _ => none), by simp [va_up, n4]⟩
  · exact va_up_self _ _ _
  · show va_up _ _ _ q6 = _
    simp [va_up, n2, n5]
  · show va_up _ _ _ q20 = _
    simp [va_up, n4]

