/-! the model: what a row of a state holds -/
/-- a name as a number: four letters in base 27 -/
def mNf (nm : Nat → Int) (nl : Int) : Nat → Int
  | 0 => 0
  | t + 1 => mNf nm nl t * 27 + (if (t : Int) < nl then nm t - 96 else 0)
def mNm (R : zRdr) : Int := mNf (rNm R) (rNl R) 4
def mSd (g : Nat → Int) (d : Int) (X : zDoc) : Prop := mDc g d X ∧ zi (g (3 + 42 * d + 1).toNat) = zi (dYr X)
def mSr (g : Nat → Int) (r : Int) (R : zRdr) (G : List Int) : Prop := g (339 + 1412 * r).toNat = mNm R ∧ g (339 + 1412 * r + 1).toNat = rMe R ∧ zi (g (339 + 1412 * r + 2).toNat) = zi (rTr R) ∧ (∀ d : Int, 0 ≤ d → d < 8 → zi (g (339 + 1412 * r + 3 + d).toNat) = zi (rTm R d.toNat)) ∧ mRp g r (rC R) G
/-- the keys that the counts of a state may have -/
def sG (S : zSt) : List Int := (zGk (sDc S) (sDn S).toNat).filter fun x => decide (0 ≤ x ∧ x < 20439)
theorem sG_len {S : zSt} (h : zOk S) : (sG S).length ≤ 643 := Nat.le_trans (List.length_filter_le _ _) (zGk_643 _ h.1.2)
theorem sG_rng {S : zSt} {x : Int} (h : x ∈ sG S) : 0 ≤ x ∧ x < 20439 := of_decide_eq_true (List.mem_filter.mp h).2
theorem hAt_dr {X : zDoc} (h : zDok X) (i : Int) : -1 ≤ hAt (dSy X) (dLe X) i ∧ hAt (dSy X) (dLe X) i < 27 := by
  unfold hAt
  split
  · have := h.2 i.toNat (by omega)
    omega
  · omega
theorem hAt_sy {X : zDoc} (h : zDok X) {i : Int} (hi : 0 ≤ i ∧ i < dLe X) : 0 ≤ hAt (dSy X) (dLe X) i ∧ hAt (dSy X) (dLe X) i < 27 := by
  rw [hAt_in hi]
  exact h.2 i.toNat (by omega)
theorem sG_ky {S : zSt} (h : zOk S) {d : Nat} (hd : d < sDn S) : hKy (sG S) (dSy (sDc S d)) (dLe (sDc S d)) := fun i h0 h1 o o0 o1 => by
  have hX := h.2.1 d hd
  have := h.1
  exact List.mem_filter.mpr ⟨hKy_of (Ds := sDc S) (m := (sDn S).toNat) (by omega) hX (fun _ _ => rfl) i h0 h1 o o0 o1, decide_eq_true (zky_rng (hAt_dr hX _) (hAt_dr hX _) (hAt_sy hX ⟨h0, h1⟩) ⟨o0, o1⟩)⟩
theorem sG_cg {S S' : zSt} (e3 : sDn S = sDn S') (e4 : ∀ d : Nat, d < sDn S → sDc S d = sDc S' d) : sG S = sG S' := by
  unfold sG
  rw [zGk_cg (Es := sDc S') (sDn S).toNat (fun i hi => e4 i (by omega)), e3]
def mSt (g : Nat → Int) (S : zSt) : Prop := (∀ j, zR (g j)) ∧ zi (g 0) = zi (sYr S) ∧ g 1 = sDn S ∧ g 2 = sRn S ∧ (∀ d : Nat, d < sDn S → mSd g d (sDc S d)) ∧ ∀ r : Nat, r < sRn S → mSr g r (sRd S r) (sG S)
theorem mRp.cg {g g' : Nat → Int} {r : Int} {c : Int → Int} {G : List Int} (h : mRp g r c G) (hr : 0 ≤ r) (q : ∀ i : Nat, 339 + 1412 * r ≤ i → (i : Int) < 339 + 1412 * r + 1412 → g' i = g i) : mRp g' r c G := by
  obtain ⟨h1, h2, h3, h4⟩ := h
  have e1 : mMa g' r = mMa g r := q _ (by omega) (by omega)
  have e2 : ∀ j : Int, 0 ≤ j → j < mMa g r → mKe g' r j = mKe g r j ∧ mVa g' r j = mVa g r j := fun j a1 a2 => ⟨q _ (by omega) (by omega), q _ (by omega) (by omega)⟩
  refine ⟨by rw [e1]; exact h1, fun j a1 a2 => ?_, fun i j a1 a2 a3 => ?_, fun key hk => ?_⟩
  · rw [e1] at a2
    rw [(e2 j a1 a2).1, (e2 j a1 a2).2]
    exact h2 j a1 a2
  · rw [e1] at a3
    rw [(e2 i a1 (by omega)).1, (e2 j (by omega) a3).1]
    exact h3 i j a1 a2 a3
  · obtain ⟨j, a1, a2, a3⟩ := h4 key hk
    exact ⟨j, a1, by rw [e1]; exact a2, by rw [(e2 j a1 a2).1]; exact a3⟩
theorem mRp.gr {g : Nat → Int} {r : Int} {c : Int → Int} {G G' : List Int} (h : mRp g r c G) (q : ∀ k, k ∈ G → k ∈ G') : mRp g r c G' := ⟨h.1, fun j a1 a2 => ⟨q _ (h.2.1 j a1 a2).1, (h.2.1 j a1 a2).2⟩, h.2.2⟩
theorem mSr.cg {g g' : Nat → Int} {r : Int} {R : zRdr} {G : List Int} (h : mSr g r R G) (hr : 0 ≤ r) (q : ∀ i : Nat, 339 + 1412 * r ≤ i → (i : Int) < 339 + 1412 * r + 1412 → g' i = g i) : mSr g' r R G := by
  obtain ⟨h1, h2, h3, h4, h5⟩ := h
  refine ⟨by rw [q _ (by omega) (by omega)]; exact h1, by rw [q _ (by omega) (by omega)]; exact h2, by rw [q _ (by omega) (by omega)]; exact h3, fun d d1 d2 => ?_, h5.cg hr q⟩
  rw [q _ (by omega) (by omega)]
  exact h4 d d1 d2
theorem mSr.gr {g : Nat → Int} {r : Int} {R : zRdr} {G G' : List Int} (h : mSr g r R G) (q : ∀ k, k ∈ G → k ∈ G') : mSr g r R G' := ⟨h.1, h.2.1, h.2.2.1, h.2.2.2.1, h.2.2.2.2.gr q⟩
theorem mSd.cg {g g' : Nat → Int} {d : Int} {X : zDoc} (h : mSd g d X) (hd : 0 ≤ d) (hX : dLe X ≤ 40) (q : ∀ i : Nat, 3 + 42 * d ≤ i → (i : Int) < 3 + 42 * d + 42 → g' i = g i) : mSd g' d X := by
  obtain ⟨⟨h1, h2⟩, h3⟩ := h
  refine ⟨⟨by rw [q _ (by omega) (by omega)]; exact h1, fun i hi => ?_⟩, by rw [q _ (by omega) (by omega)]; exact h3⟩
  rw [q _ (by omega) (by omega)]
  exact h2 i hi
theorem mSt.cg {g g' : Nat → Int} {S : zSt} (h : mSt g S) (hO : zOk S) (hg : ∀ j, zR (g' j)) (q : ∀ i : Nat, i < 5987 → g' i = g i) : mSt g' S := by
  obtain ⟨-, h1, h2, h3, h4, h5⟩ := h
  have o1 := hO.1
  refine ⟨hg, by rw [q 0 (by omega)]; exact h1, by rw [q 1 (by omega)]; exact h2, by rw [q 2 (by omega)]; exact h3, fun d hd => (h4 d hd).cg (by omega) (hO.2.1 d hd).1.2 fun i i1 i2 => q i (by omega), fun r hr => (h5 r hr).cg (by omega) fun i i1 i2 => q i (by omega)⟩
/-- one reader changed -/
theorem mSt.setR {g g' : Nat → Int} {S : zSt} (h : mSt g S) (hO : zOk S) (hg : ∀ j, zR (g' j)) {r : Nat} {R : zRdr} (hr : r < 4) (q : ∀ i : Nat, (i : Int) < 339 + 1412 * (r : Int) ∨ 339 + 1412 * (r : Int) + 1412 ≤ i → g' i = g i) (hR : mSr g' r R (sG S)) : mSt g' (sSetR S r R) := by
  obtain ⟨-, h1, h2, h3, h4, h5⟩ := h
  have o1 := hO.1
  refine ⟨hg, by rw [q 0 (by omega)]; exact h1, by rw [q 1 (by omega)]; exact h2, by rw [q 2 (by omega)]; exact h3, fun d hd => ?_, fun x hx => ?_⟩
  · have hd : (d : Int) < sDn S := hd
    exact (h4 d hd).cg (by omega) (hO.2.1 d hd).1.2 fun i i1 i2 => q i (by omega)
  · have hx : (x : Int) < sRn S := hx
    by_cases e : x = r
    · subst e
      show mSr g' x (va_up (sRd S) x R x) _
      rw [va_up_self]
      exact hR
    · show mSr g' x (va_up (sRd S) r R x) _
      rw [va_up_ne _ _ e]
      exact (h5 x hx).cg (by omega) fun i i1 i2 => q i (by omega)
/-- the counts of a reader changed, its head as it was -/
theorem mSr.setC {g g' : Nat → Int} {r : Int} {R : zRdr} {G : List Int} {c : Int → Int} (h : mSr g r R G) (hr : 0 ≤ r) (q : mEq g g' r) (hc : mRp g' r c G) : mSr g' r (rSetC R c) G := by
  obtain ⟨h1, h2, h3, h4, h5⟩ := h
  refine ⟨by rw [q _ (by omega)]; exact h1, by rw [q _ (by omega)]; exact h2, by rw [q _ (by omega)]; exact h3, fun d d1 d2 => ?_, hc⟩
  rw [q _ (by omega)]
  exact h4 d d1 d2
theorem zi_addc {a b c d : Int} (h1 : zi a = zi c) (h2 : zi b = zi d) : zi (a + b) = zi (c + d) := by
  have e : ∀ x y : Int, zi (x + y) = zi x + zi y := fun x y => Int32.ofInt_add x y
  rw [e, e, h1, h2]
theorem zi_mulc {a b c d : Int} (h1 : zi a = zi c) (h2 : zi b = zi d) : zi (a * b) = zi (c * d) := by
  have e : ∀ x y : Int, zi (x * y) = zi x * zi y := fun x y => Int32.ofInt_mul x y
  rw [e, e, h1, h2]
theorem zi_subc {a b c d : Int} (h1 : zi a = zi c) (h2 : zi b = zi d) : zi (a - b) = zi (c - d) := by
  have e : ∀ x y : Int, zi (x - y) = zi x - zi y := fun x y => Int32.ofInt_sub x y
  rw [e, e, h1, h2]
/-- a training noted -/
theorem mSr.note {g : Nat → Int} {r d : Int} {R : zRdr} {X : zDoc} {G : List Int} (h : mSr g r R G) (hr : 0 ≤ r) (hd : 0 ≤ d ∧ d < 8) (hX : g (3 + 42 * d).toNat = dLe X) : mSr (mNo g r d) r (rRec R d (dLe X)) G := by
  obtain ⟨h1, h2, h3, h4, h5⟩ := h
  unfold mNo
  refine ⟨by rw [va_up_ne _ _ (by omega), va_up_ne _ _ (by omega)]; exact h1, by rw [va_up_ne _ _ (by omega), va_up_ne _ _ (by omega)]; exact h2, ?_, fun x x1 x2 => ?_, ?_⟩
  · rw [va_up_self, zi_zw]
    exact zi_addc h3 (by rw [hX])
  · rw [va_up_ne _ _ (by omega)]
    show _ = zi (va_up (rTm R) d.toNat (rTm R d.toNat + 1) x.toNat)
    by_cases e : x = d
    · subst e
      rw [va_up_self, va_up_self, zi_zw]
      exact zi_addc (h4 x x1 x2) rfl
    · rw [va_up_ne _ _ (by omega), va_up_ne _ _ (by omega)]
      exact h4 x x1 x2
  · obtain ⟨l1, l2, l3, l4⟩ := h5
    have k1 : ∀ w : Nat, 339 + 1412 * r + 11 ≤ w → va_up (va_up g (339 + 1412 * r + 3 + d).toNat (zw (g (339 + 1412 * r + 3 + d).toNat + 1))) (339 + 1412 * r + 2).toNat (zw (g (339 + 1412 * r + 2).toNat + g (3 + 42 * d).toNat)) w = g w := fun w hw => by
      rw [va_up_ne _ _ (by omega), va_up_ne _ _ (by omega)]
    have e1 := k1 (339 + 1412 * r + 11).toNat (by omega)
    have e2 : ∀ j : Int, 0 ≤ j → mKe (va_up (va_up g (339 + 1412 * r + 3 + d).toNat (zw (g (339 + 1412 * r + 3 + d).toNat + 1))) (339 + 1412 * r + 2).toNat (zw (g (339 + 1412 * r + 2).toNat + g (3 + 42 * d).toNat))) r j = mKe g r j ∧ mVa (va_up (va_up g (339 + 1412 * r + 3 + d).toNat (zw (g (339 + 1412 * r + 3 + d).toNat + 1))) (339 + 1412 * r + 2).toNat (zw (g (339 + 1412 * r + 2).toNat + g (3 + 42 * d).toNat))) r j = mVa g r j := fun j hj => ⟨k1 _ (by omega), k1 _ (by omega)⟩
    unfold mRp
    unfold mMa at l1 l2 l3 l4 ⊢
    rw [e1]
    refine ⟨l1, fun j a1 a2 => ?_, fun i j a1 a2 a3 => ?_, fun key hk => ?_⟩
    · rw [(e2 j a1).1, (e2 j a1).2]
      exact l2 j a1 a2
    · rw [(e2 i a1).1, (e2 j (by omega)).1]
      exact l3 i j a1 a2 a3
    · obtain ⟨j, a1, a2, a3⟩ := l4 key hk
      exact ⟨j, a1, a2, by rw [(e2 j a1).1]; exact a3⟩
theorem mNo_eq {g : Nat → Int} {r d : Int} (hr : 0 ≤ r) (hd : 0 ≤ d ∧ d < 8) : ∀ i : Nat, (i : Int) < 339 + 1412 * r ∨ 339 + 1412 * r + 1412 ≤ i → mNo g r d i = g i := fun i hi => by
  unfold mNo
  rw [va_up_ne _ _ (by omega), va_up_ne _ _ (by omega)]
set_option maxHeartbeats 4000000 in
set_option maxRecDepth 100000 in
theorem k_X9_trainOnS {l : Launch} {γ : zG} {M : zM} {q : Nat} {g : Nat → Int} {r d : Int} {S0 : zSt} (hM : M q = some (zar γ 5987 g)) (hS : mSt g S0) (hO : zOk S0) (hr : 0 ≤ r ∧ r < sRn S0) (hd : 0 ≤ d ∧ d < sDn S0) :
    zCon l γ yX9_trainOn cX9_trainOn 4 none [.ref q, .int (zi r), .int (zi d)] M 6 142 0 0 (fun v' M' => v' = none ∧ zFr M M' [q] ∧ ∃ g', M' q = some (zar γ 5987 g') ∧ mSt g' (sTrn S0 r d)) (fun _ _ => False) := by
  have o1 := hO.1
  have hX := hO.2.1 d.toNat (by omega)
  have hSd := hS.2.2.2.2.1 d.toNat (by omega)
  have hSr := hS.2.2.2.2.2 r.toNat (by omega)
  rw [show ((d.toNat : Nat) : Int) = d by omega] at hSd
  rw [show ((r.toNat : Nat) : Int) = r by omega] at hSr
  refine zCon.weaken (k_X9_trainOn hM hS.1 (r := r) (d := d) (by omega) (by omega) hX hSd.1 hSr.2.2.2.2 (sG_len hO) (sG_ky hO (by omega))) ?_ (fun _ _ h => h)
  rintro v M' ⟨h1, h2, g1, h3, h4, h5, h6⟩
  refine ⟨h1, h2, _, h3, ?_⟩
  have hs1 := hSr.setC (by omega) h5 h6
  have hd1 : g1 (3 + 42 * d).toNat = dLe (sDc S0 d.toNat) := (h5 _ (by omega)).trans hSd.1.1
  have hs2 := hs1.note (d := d) (by omega) (by omega) hd1
  have := hS.setR hO h4 (r := r.toNat) (R := rTrn (sRd S0 r.toNat) d (sDc S0 d.toNat)) (by omega) (fun i hi => by
    rw [mNo_eq (by omega) (by omega) i (by omega)]
    exact h5 i (by omega)) (by rw [show ((r.toNat : Nat) : Int) = r by omega]; exact hs2)
  exact this

