/-! the law's text, read: its four statements -/
theorem zgd_mem : ∀ {v : List Int} {j : Nat}, j < v.length → v.getD j 0 ∈ v
  | [], _, h => absurd h (by simp)
  | x :: v, 0, _ => List.mem_cons_self
  | x :: v, j + 1, h => List.mem_cons_of_mem x (zgd_mem (v := v) (j := j) (by simp only [List.length_cons] at h; omega))
theorem zst_R {f : Nat → Int} {n e : Int} {S : zSt} {x me mch : Int} (he : 0 ≤ e) (hn : e + 12 ≤ n) (h : ∀ j : Nat, j < 12 → hAt f n (e + j) = ([114, 101, 97, 100, 101, 114, 32, 114, 120 + x, 32, mch, 59] : List Int).getD j 0) (hx : 0 ≤ x ∧ x ≤ 2) (hm : (mch = 97 ∧ me = 0) ∨ (mch = 99 ∧ me = 1) ∨ (mch = 100 ∧ me = 2)) (hr : sRn S < 4) (hno : ∀ i : Nat, i < sRn S → rNl (sRd S i) = 2 ∧ rNm (sRd S i) 1 ≠ 120 + x) : ztK f n e ≠ 0 ∧ zpS f n S e = (0, -1, sAddR S (rNew f n (e + 7) (e + 9) me), e + 12) := by
  have kx : zkd (120 + x) = 1 := by
    unfold zkd
    rw [if_neg (by omega), if_pos (by omega)]
  have km : zkd mch = 1 := by
    rcases hm with ⟨rfl, -⟩ | ⟨rfl, -⟩ | ⟨rfl, -⟩ <;> decide
  have h7 : hAt f n (e + 7) = 114 := h 7 (by decide)
  have h8 : hAt f n (e + 8) = 120 + x := h 8 (by decide)
  have h9 : hAt f n (e + 9) = 32 := h 9 (by decide)
  have h10 : hAt f n (e + 10) = mch := h 10 (by decide)
  have h11 : hAt f n (e + 11) = 59 := h 11 (by decide)
  obtain ⟨a1, a2, a3⟩ := ztok (f := f) (n := n) (a := e) (K := 1) (k := 6) (.inl rfl) (by decide) (fun j hj => ⟨by omega, by
    rw [h j (by omega)]
    rcases (show j = 0 ∨ j = 1 ∨ j = 2 ∨ j = 3 ∨ j = 4 ∨ j = 5 by omega) with rfl | rfl | rfl | rfl | rfl | rfl <;> rfl⟩) (by
    rw [h 6 (by decide)]
    show zkd 32 ≠ 1
    decide)
  obtain ⟨b1, b2, b3⟩ := ztokb (f := f) (n := n) (a := e + (6 : Nat)) (K := 1) (k := 2) (h 6 (by decide)) (.inl rfl) (by decide) (fun j hj => ⟨by omega, by
    rcases (show j = 0 ∨ j = 1 by omega) with rfl | rfl
    · rw [show e + (6 : Nat) + 1 + ((0 : Nat) : Int) = e + 7 by omega, h7]
      decide
    · rw [show e + (6 : Nat) + 1 + ((1 : Nat) : Int) = e + 8 by omega, h8]
      exact kx⟩) (by
    rw [show e + (6 : Nat) + 1 + ((2 : Nat) : Int) = e + 9 by omega, h9]
    decide)
  rw [show e + (6 : Nat) + 1 = e + 7 by omega] at b1 b3
  rw [show e + 7 + ((2 : Nat) : Int) = e + 9 by omega] at b3
  obtain ⟨c1, c2, c3⟩ := ztokb (f := f) (n := n) (a := e + 9) (K := 1) (k := 1) h9 (.inl rfl) (by decide) (fun j hj => ⟨by omega, by
    obtain rfl : j = 0 := by omega
    rw [show e + 9 + 1 + ((0 : Nat) : Int) = e + 10 by omega, h10]
    exact km⟩) (by
    rw [show e + 9 + 1 + ((1 : Nat) : Int) = e + 11 by omega, h11]
    decide)
  rw [show e + 9 + 1 = e + 10 by omega] at c1 c3
  rw [show e + 10 + ((1 : Nat) : Int) = e + 11 by omega] at c3
  obtain ⟨d1, d2⟩ := ztok9 (f := f) (n := n) (a := e + 11) (by omega) h11
  have hno' : zNo S f n (e + 7) (e + 9) = -1 := by
    unfold zNo
    refine zfi_no _ fun i hi w => ?_
    obtain ⟨g1, g2⟩ := hno i (by omega)
    have := w.2 1 (by omega) (by omega)
    rw [hAt_in (by omega), show e + 7 + 1 = e + 8 by omega, h8] at this
    exact g2 this
  have hmw : zMw f n (e + 10) (e + 11) = me := by
    have := zMw_of h10 hm
    rwa [show e + 10 + 1 = e + 11 by omega] at this
  have w1 := zWd_of (f := f) (n := n) (a := e) (i := 1) (k := 6) (by decide) zSc_1 (fun j hj => by
    rw [h j (by omega)]
    rcases (show j = 0 ∨ j = 1 ∨ j = 2 ∨ j = 3 ∨ j = 4 ∨ j = 5 by omega) with rfl | rfl | rfl | rfl | rfl | rfl <;> rfl)
  refine ⟨by rw [a2]; decide, ?_⟩
  unfold zpS
  rw [a1, a3, zif_t w1]
  unfold zpR
  rw [if_neg (by omega), a3, b2, if_neg (by simp), b1, b3, zif_t ⟨by omega, fun j h0 h1 => by
    rcases (show j = e + 7 ∨ j = e + 8 by omega) with rfl | rfl
    · rw [h7]
      unfold zLet
      omega
    · rw [h8]
      unfold zLet
      omega⟩, hno', if_neg (by simp), c3]
  unfold zpR3
  rw [c1, hmw, if_neg (by omega), d1, if_pos h11, b1, d2, show e + 11 + 1 = e + 12 by omega]
theorem zst_D {f : Nat → Int} {n e : Int} {S : zSt} {v : List Int} (he : 0 ≤ e) (hn : e + (v.length + 10 : Nat) ≤ n) (h0 : ∀ j : Nat, j < 9 → hAt f n (e + j) = ([100, 111, 99, 117, 109, 101, 110, 116, 32] : List Int).getD j 0) (h1 : ∀ j : Nat, j < v.length → hAt f n (e + 9 + j) = v.getD j 0) (h2 : hAt f n (e + 9 + v.length) = 59) (hv : zwl v) (hl : 1 ≤ v.length ∧ v.length ≤ 14) (hr : sDn S < 8) : ztK f n e ≠ 0 ∧ zpS f n S e = (0, -1, sAddD S (dNew f n (e + 9) (e + 9 + v.length) (sYr S)), e + (v.length + 10 : Nat)) := by
  obtain ⟨a1, a2, a3⟩ := ztok (f := f) (n := n) (a := e) (K := 1) (k := 8) (.inl rfl) (by decide) (fun j hj => ⟨by omega, by
    rw [h0 j (by omega)]
    rcases (show j = 0 ∨ j = 1 ∨ j = 2 ∨ j = 3 ∨ j = 4 ∨ j = 5 ∨ j = 6 ∨ j = 7 by omega) with rfl | rfl | rfl | rfl | rfl | rfl | rfl | rfl <;> decide⟩) (by
    rw [h0 8 (by decide)]
    decide)
  obtain ⟨b1, b2, b3⟩ := ztokb (f := f) (n := n) (a := e + (8 : Nat)) (K := 1) (k := v.length) (h0 8 (by decide)) (.inl rfl) (by omega) (fun j hj => ⟨by omega, by
    rw [show e + (8 : Nat) + 1 + (j : Int) = e + 9 + j by omega, h1 j hj]
    have hx := hv (v.getD j 0) (zgd_mem hj)
    unfold zkd
    rw [if_neg (by omega), if_pos (by omega)]⟩) (by
    rw [show e + (8 : Nat) + 1 + (v.length : Int) = e + 9 + v.length by omega, h2]
    decide)
  rw [show e + (8 : Nat) + 1 = e + 9 by omega] at b1 b3
  obtain ⟨d1, d2⟩ := ztok9 (f := f) (n := n) (a := e + 9 + v.length) (by omega) h2
  have w1 := zWd_of (f := f) (n := n) (a := e) (i := 5) (k := 8) (by decide) zSc_5 (fun j hj => by
    rw [h0 j (by omega)]
    rcases (show j = 0 ∨ j = 1 ∨ j = 2 ∨ j = 3 ∨ j = 4 ∨ j = 5 ∨ j = 6 ∨ j = 7 by omega) with rfl | rfl | rfl | rfl | rfl | rfl | rfl | rfl <;> rfl)
  refine ⟨by rw [a2]; decide, ?_⟩
  unfold zpS
  rw [a1, a3, zif_f (zWd_no (k := 6) (by decide) (by omega)), zif_t w1]
  unfold zpD
  rw [if_neg (by omega), a3, b2, if_neg (by simp), b1, b3, if_neg (by omega)]
  unfold zpD3
  rw [d1, if_pos h2, b1, d2, show e + 9 + (v.length : Int) + 1 = e + (v.length + 10 : Nat) by omega]
theorem zst_T {f : Nat → Int} {n e : Int} {S : zSt} {x q : Int} (he : 0 ≤ e) (hn : e + 11 ≤ n) (h : ∀ j : Nat, j < 11 → hAt f n (e + j) = ([116, 114, 97, 105, 110, 32, 114, 120 + x, 32, 48 + q, 59] : List Int).getD j 0) (hx : 0 ≤ x ∧ x ≤ 2) (hq : 0 ≤ q ∧ q ≤ 9) (hxr : x < sRn S) (hqd : q < sDn S) (hno : zNm S) : ztK f n e ≠ 0 ∧ zpS f n S e = (0, -1, sTrn S x q, e + 11) := by
  have kx : zkd (120 + x) = 1 := by
    unfold zkd
    rw [if_neg (by omega), if_pos (by omega)]
  have kq : zkd (48 + q) = 2 := by
    unfold zkd
    rw [if_neg (by omega), if_neg (by omega), if_pos (by omega)]
  have h6 : hAt f n (e + 6) = 114 := h 6 (by decide)
  have h7 : hAt f n (e + 7) = 120 + x := h 7 (by decide)
  have h8 : hAt f n (e + 8) = 32 := h 8 (by decide)
  have h9 : hAt f n (e + 9) = 48 + q := h 9 (by decide)
  have h10 : hAt f n (e + 10) = 59 := h 10 (by decide)
  obtain ⟨a1, a2, a3⟩ := ztok (f := f) (n := n) (a := e) (K := 1) (k := 5) (.inl rfl) (by decide) (fun j hj => ⟨by omega, by
    rw [h j (by omega)]
    rcases (show j = 0 ∨ j = 1 ∨ j = 2 ∨ j = 3 ∨ j = 4 by omega) with rfl | rfl | rfl | rfl | rfl <;> rfl⟩) (by
    rw [h 5 (by decide)]
    show zkd 32 ≠ 1
    decide)
  obtain ⟨b1, b2, b3⟩ := ztokb (f := f) (n := n) (a := e + (5 : Nat)) (K := 1) (k := 2) (h 5 (by decide)) (.inl rfl) (by decide) (fun j hj => ⟨by omega, by
    rcases (show j = 0 ∨ j = 1 by omega) with rfl | rfl
    · rw [show e + (5 : Nat) + 1 + ((0 : Nat) : Int) = e + 6 by omega, h6]
      decide
    · rw [show e + (5 : Nat) + 1 + ((1 : Nat) : Int) = e + 7 by omega, h7]
      exact kx⟩) (by
    rw [show e + (5 : Nat) + 1 + ((2 : Nat) : Int) = e + 8 by omega, h8]
    decide)
  rw [show e + (5 : Nat) + 1 = e + 6 by omega] at b1 b3
  rw [show e + 6 + ((2 : Nat) : Int) = e + 8 by omega] at b3
  obtain ⟨c1, c2, c3⟩ := ztokb (f := f) (n := n) (a := e + 8) (K := 2) (k := 1) h8 (.inr rfl) (by decide) (fun j hj => ⟨by omega, by
    obtain rfl : j = 0 := by omega
    rw [show e + 8 + 1 + ((0 : Nat) : Int) = e + 9 by omega, h9]
    exact kq⟩) (by
    rw [show e + 8 + 1 + ((1 : Nat) : Int) = e + 10 by omega, h10]
    decide)
  rw [show e + 8 + 1 = e + 9 by omega] at c1 c3
  rw [show e + 9 + ((1 : Nat) : Int) = e + 10 by omega] at c3
  obtain ⟨d1, d2⟩ := ztok9 (f := f) (n := n) (a := e + 10) (by omega) h10
  have hno' : zNo S f n (e + 6) (e + 8) = x := by
    have q1 : hNa S f n (e + 6) (e + 8) x.toNat := by
      obtain ⟨g1, g2, g3⟩ := hno x.toNat (by omega)
      refine ⟨by rw [g1]; omega, fun j h0 h1 => ?_⟩
      rw [g1] at h1 ⊢
      rcases (show j = 0 ∨ j = 1 by omega) with rfl | rfl
      · rw [hAt_in (by omega), show e + 6 + 0 = e + 6 by omega, h6]
        exact g2
      · rw [hAt_in (by omega), show e + 6 + 1 = e + 7 by omega, h7]
        refine Eq.trans g3 ?_
        omega
    have q2 : ∀ i, i < x.toNat → ¬ hNa S f n (e + 6) (e + 8) i := fun i hi w => by
      obtain ⟨g1, g2, g3⟩ := hno i (by omega)
      have := w.2 1 (by omega) (by omega)
      rw [hAt_in (by omega), show e + 6 + 1 = e + 7 by omega, h7] at this
      have g4 := g3.symm.trans this
      omega
    exact (zfi_at q1 q2 (sRn S).toNat (by omega)).trans (by omega)
  have w1 := zWd_of (f := f) (n := n) (a := e) (i := 6) (k := 5) (by decide) zSc_6 (fun j hj => by
    rw [h j (by omega)]
    rcases (show j = 0 ∨ j = 1 ∨ j = 2 ∨ j = 3 ∨ j = 4 by omega) with rfl | rfl | rfl | rfl | rfl <;> rfl)
  refine ⟨by rw [a2]; decide, ?_⟩
  unfold zpS
  rw [a1, a3, zif_f (zWd_no (k := 6) (by decide) (by omega)), zif_f (zWd_no (k := 8) (by decide) (by omega)), zif_t w1]
  unfold zpT
  rw [a3, b1, b3, hno']
  unfold zpT1
  rw [b2, if_neg (by simp), if_neg (by omega), c3, c1, show (e + 10 - (e + 9)).toNat = 0 + 1 by omega]
  have hv : znv f n (0 + 1) (e + 9) 0 = q := by
    show min (0 * 10 + hAt f n (e + 9) - 48) 1000 = q
    rw [h9]
    omega
  rw [hv]
  unfold zpT2
  rw [c2, if_neg (by simp), if_neg (by omega)]
  unfold zpT3
  rw [d1, if_pos h10, d2, show e + 10 + 1 = e + 11 by omega]
theorem zst_Y {f : Nat → Int} {n e : Int} {S : zSt} (he : 0 ≤ e) (hn : e + 5 ≤ n) (h : ∀ j : Nat, j < 5 → hAt f n (e + j) = ([121, 101, 97, 114, 59] : List Int).getD j 0) : ztK f n e ≠ 0 ∧ zpS f n S e = (0, -1, sYear S, e + 5) := by
  have h4 : hAt f n (e + (4 : Nat)) = 59 := h 4 (by decide)
  obtain ⟨a1, a2, a3⟩ := ztok (f := f) (n := n) (a := e) (K := 1) (k := 4) (.inl rfl) (by decide) (fun j hj => ⟨by omega, by
    rw [h j (by omega)]
    rcases (show j = 0 ∨ j = 1 ∨ j = 2 ∨ j = 3 by omega) with rfl | rfl | rfl | rfl <;> decide⟩) (by
    rw [h 4 (by decide)]
    decide)
  obtain ⟨d1, d2⟩ := ztok9 (f := f) (n := n) (a := e + (4 : Nat)) (by omega) h4
  have w1 := zWd_of (f := f) (n := n) (a := e) (i := 7) (k := 4) (by decide) zSc_7 (fun j hj => by
    rw [h j (by omega)]
    rcases (show j = 0 ∨ j = 1 ∨ j = 2 ∨ j = 3 by omega) with rfl | rfl | rfl | rfl <;> rfl)
  refine ⟨by rw [a2]; decide, ?_⟩
  unfold zpS
  rw [a1, a3, zif_f (zWd_no (k := 6) (by decide) (by omega)), zif_f (zWd_no (k := 8) (by decide) (by omega)), zif_f (zWd_no (k := 5) (by decide) (by omega)), zif_t w1]
  unfold zpY
  rw [a3, d1, if_pos h4, d2, show e + (4 : Nat) + 1 = e + 5 by omega]

