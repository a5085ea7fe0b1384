/-! the law's flags of an act, and what they say of the counts -/
def zf7 (x : Int) : Int := if x % 8 = 0 ∧ x / 8 / 64 % 3 = 0 then 1 else 0
def zf8 (x : Int) : Int := if x % 8 = 1 ∧ x / 8 / 64 % 4 = 0 then 1 else 0
def zf9 (x : Int) : Int := if x % 8 = 2 then 1 else 0
def zf10 (r x : Int) : Int := if x % 8 = 3 ∧ zaR r x ≠ zaO r x then 1 else 0
def zf11 (r x : Int) : Int := if zf7 x = 0 ∧ zf8 x = 0 ∧ zf9 x = 0 ∧ zf10 r x = 0 then 1 else 0
theorem zf_rng (r x : Int) : (zf7 x = 0 ∨ zf7 x = 1) ∧ (zf8 x = 0 ∨ zf8 x = 1) ∧ (zf9 x = 0 ∨ zf9 x = 1) ∧ (zf10 r x = 0 ∨ zf10 r x = 1) ∧ (zf11 r x = 0 ∨ zf11 r x = 1) := by
  refine ⟨?_, ?_, ?_, ?_, ?_⟩
  · unfold zf7
    split <;> decide
  · unfold zf8
    split <;> decide
  · unfold zf9
    split <;> decide
  · unfold zf10
    split <;> decide
  · unfold zf11
    split <;> decide
theorem ztgn_rng {S : zSt} {R : zRdr} : ∀ n : Nat, (∀ j : Nat, j < n → (0 ≤ rTm R j ∧ rTm R j ≤ 1000000) ∧ 1 ≤ dLe (sDc S j) ∧ dLe (sDc S j) ≤ 14) → rTr R - 14000000 * n ≤ ztgn S R n ∧ ztgn S R n ≤ rTr R
  | 0, _ => by
    show rTr R - 14000000 * ((0 : Nat) : Int) ≤ rTr R ∧ rTr R ≤ rTr R
    omega
  | n + 1, h => by
    have h1 := ztgn_rng (S := S) (R := R) n fun j hj => h j (by omega)
    have h2 := h n (by omega)
    have h3 : 0 ≤ rTm R n * dLe (sDc S n) := Int.mul_nonneg h2.1.1 (by omega)
    have h4 : rTm R n * dLe (sDc S n) ≤ 1000000 * 14 := Int.mul_le_mul h2.1.2 h2.2.2 (by omega) (by omega)
    show rTr R - 14000000 * ((n + 1 : Nat) : Int) ≤ ztgn S R n - rTm R n * dLe (sDc S n) ∧ ztgn S R n - rTm R n * dLe (sDc S n) ≤ rTr R
    omega
theorem zIv.tr {r d y b : Int} {S : zSt} {i : Nat} (h : zIv r d y b S) (hd : d ≤ 3) (hb : b ≤ 1000000) (hi : (i : Int) < r) : 0 ≤ rTr (sRd S i) ∧ rTr (sRd S i) ≤ 42000000 := by
  have h1 := h.2.2 i hi
  have h2 := ztgn_rng (S := S) (R := sRd S i) d.toNat fun j hj => ⟨by
    have := h1.1 j
    omega, h.2.1 j (by omega)⟩
  rw [h1.2] at h2
  omega
/-- what the law tells of a count -/
def ztd (r x : Int) (X : zDoc) (a b2 : Int) (i o : Nat) : Int := if zf9 x = 1 then a else if zf7 x = 1 then a / 2 else if zf8 x = 1 then 0 else if zf10 r x = 1 then a + b2 else if i < o then 0 else a + zto X i (o + 1) (dLe X).toNat
theorem zActs.told {r d x y b : Int} {S S' : zSt} (hA : zActs r d x S S') (hI : zIv r d y b S) (hr : 1 ≤ r) (hd : 1 ≤ d) (hS : zOk S) :
    sDc S' (zaD d x).toNat = sDc S (zaD d x).toNat ∧ (∀ i o : Nat, (i : Int) < dLe (sDc S (zaD d x).toNat) → o < 3 → zcn (rC (sRd S' (if zf10 r x = 0 then zaR r x else zaO r x).toNat)) (sDc S (zaD d x).toNat) (3 * i + o) = min 999 (ztd r x (sDc S (zaD d x).toNat) (zcn (rC (sRd S (zaR r x).toNat)) (sDc S (zaD d x).toNat) (3 * i + o)) (zcn (rC (sRd S (zaO r x).toNat)) (sDc S (zaD d x).toNat) (3 * i + o)) i o)) ∧ (zf11 r x = 1 → rTr (sRd S' (zaR r x).toNat) = rTr (sRd S (zaR r x).toNat) + dLe (sDc S (zaD d x).toNat) ∧ rTm (sRd S' (zaR r x).toNat) (zaD d x).toNat = rTm (sRd S (zaR r x).toNat) (zaD d x).toNat + 1) ∧ (zf8 x = 1 → rTr (sRd S' (zaR r x).toNat) = 0 ∧ rTm (sRd S' (zaR r x).toNat) (zaD d x).toNat = 0 ∧ rC (sRd S' (zaR r x).toNat) = fun _ => 0) ∧ (zf11 r x = 0 → zf8 x = 0 → rTr (sRd S' (zaR r x).toNat) = rTr (sRd S (zaR r x).toNat)) := by
  have h1 := zaR_rng hr x
  have h2 := zaO_rng hr x
  have h3 := zaD_rng hd x
  have e1 := hI.1.1
  have e2 := hI.1.2.1
  have hX : zds' (sDc S (zaD d x).toNat) := (hS.2.1 (zaD d x).toNat (by omega)).2
  have hcR := (hS.2.2 (zaR r x).toNat (by omega)).1.2.2.1
  have hcO := (hS.2.2 (zaO r x).toNat (by omega)).1.2.2.1
  rcases hA with ⟨hq, rfl⟩ | ⟨hq, rfl⟩ | ⟨hq, v, rfl⟩ | ⟨hq, rfl⟩ | ⟨hq, rfl⟩
  · have f7 : zf7 x = 1 := if_pos hq
    have f8 : zf8 x = 0 := if_neg (by omega)
    have f9 : zf9 x = 0 := if_neg (by omega)
    have f10 : zf10 r x = 0 := if_neg (by omega)
    have f11 : zf11 r x = 0 := if_neg (by omega)
    refine ⟨rfl, fun i o hi ho => ?_, fun w => absurd w (by omega), fun w => absurd w (by omega), fun _ _ => rfl⟩
    rw [if_pos f10]
    unfold ztd
    rw [f7, f9, if_neg (by decide), if_pos rfl]
    refine (zcn_hlf (rC (sRd S (zaR r x).toNat)) _ _).trans ?_
    have := zcn_rng hcR (sDc S (zaD d x).toNat) (3 * i + o)
    omega
  · have f7 : zf7 x = 0 := if_neg (by omega)
    have f8 : zf8 x = 1 := if_pos hq
    have f9 : zf9 x = 0 := if_neg (by omega)
    have f10 : zf10 r x = 0 := if_neg (by omega)
    have f11 : zf11 r x = 0 := if_neg (by omega)
    have es : sRd (sSetR S (zaR r x).toNat (rClr (sRd S (zaR r x).toNat))) (zaR r x).toNat = rClr (sRd S (zaR r x).toNat) := va_up_self _ _ _
    refine ⟨rfl, fun i o hi ho => ?_, fun w => absurd w (by omega), fun _ => ?_, fun _ w => absurd w (by omega)⟩
    · rw [if_pos f10, es]
      unfold ztd
      rw [f7, f8, f9, if_neg (by decide), if_neg (by decide), if_pos rfl]
      exact zcn_clr _ _
    · rw [es]
      exact ⟨rfl, rfl, rfl⟩
  · have f7 : zf7 x = 0 := if_neg (by omega)
    have f8 : zf8 x = 0 := if_neg (by omega)
    have f9 : zf9 x = 1 := if_pos hq
    have f10 : zf10 r x = 0 := if_neg (by omega)
    have f11 : zf11 r x = 0 := if_neg (by omega)
    have es : sRd (sSetR S (zaR r x).toNat (rSetM (sRd S (zaR r x).toNat) v)) (zaR r x).toNat = rSetM (sRd S (zaR r x).toNat) v := va_up_self _ _ _
    refine ⟨rfl, fun i o hi ho => ?_, fun w => absurd w (by omega), fun w => absurd w (by omega), fun _ _ => by rw [es]; rfl⟩
    rw [if_pos f10, es]
    unfold ztd
    rw [f9, if_pos rfl]
    have := zcn_rng hcR (sDc S (zaD d x).toNat) (3 * i + o)
    show zcn (rC (sRd S (zaR r x).toNat)) _ _ = _
    omega
  · have f7 : zf7 x = 0 := if_neg (by omega)
    have f8 : zf8 x = 0 := if_neg (by omega)
    have f9 : zf9 x = 0 := if_neg (by omega)
    have f10 : zf10 r x = 1 := if_pos hq
    have f11 : zf11 r x = 0 := if_neg (by omega)
    have es : sRd (sSetR S (zaO r x).toNat (rMrg (sRd S (zaO r x).toNat) (sRd S (zaR r x).toNat))) (zaO r x).toNat = rMrg (sRd S (zaO r x).toNat) (sRd S (zaR r x).toNat) := va_up_self _ _ _
    have en : sRd (sSetR S (zaO r x).toNat (rMrg (sRd S (zaO r x).toNat) (sRd S (zaR r x).toNat))) (zaR r x).toNat = sRd S (zaR r x).toNat := va_up_ne _ _ (by omega)
    refine ⟨rfl, fun i o hi ho => ?_, fun w => absurd w (by omega), fun w => absurd w (by omega), fun _ _ => by rw [en]⟩
    rw [if_neg (by omega), es]
    unfold ztd
    rw [f7, f8, f9, f10, if_neg (by decide), if_neg (by decide), if_neg (by decide), if_pos rfl]
    exact zcn_mrg _ _ _ _
  · obtain ⟨g1, g2, g3, g4⟩ := hq
    have f7 : zf7 x = 0 := if_neg g1
    have f8 : zf8 x = 0 := if_neg g2
    have f9 : zf9 x = 0 := if_neg g3
    have f10 : zf10 r x = 0 := if_neg g4
    have f11 : zf11 r x = 1 := if_pos ⟨f7, f8, f9, f10⟩
    have es : sRd (sTrn S (zaR r x) (zaD d x)) (zaR r x).toNat = rTrn (sRd S (zaR r x).toNat) (zaD d x) (sDc S (zaD d x).toNat) := va_up_self _ _ _
    refine ⟨rfl, fun i o hi ho => ?_, fun _ => ?_, fun w => absurd w (by omega), fun w => absurd w (by omega)⟩
    · rw [if_pos f10, es]
      unfold ztd
      rw [f7, f8, f9, f10, if_neg (by decide), if_neg (by decide), if_neg (by decide), if_neg (by decide)]
      exact zcn_doc hX hcR hi ho
    · rw [es]
      exact ⟨rfl, va_up_self _ _ _⟩

