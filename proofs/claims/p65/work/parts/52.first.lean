/-! the first text: a computable twin of the parse, what it leaves -/
theorem zif_b {α : Type} {P : Prop} {b : Bool} {x y : α} (h : b = true ↔ P) : zif P x y = if b then x else y := by
  by_cases q : P
  · rw [zif_t q, if_pos (h.mpr q)]
  · rw [zif_f q, if_neg (fun w => q (h.mp w))]
def zNmB (f : Nat → Int) (n b e : Int) : Bool := (List.range (e - b).toNat).all fun k => decide (97 ≤ hAt f n (b + k) ∧ hAt f n (b + k) ≤ 122)
theorem zNmB_iff {f : Nat → Int} {n b e : Int} : zNmB f n b e = true ↔ hNm f n b e := by
  unfold zNmB hNm zLet
  rw [List.all_eq_true]
  constructor
  · intro h j h1 h2
    have := of_decide_eq_true (h (j - b).toNat (List.mem_range.mpr (by omega)))
    rw [show b + ((j - b).toNat : Int) = j by omega] at this
    exact this
  · intro h k hk
    have := List.mem_range.mp hk
    exact decide_eq_true (h (b + k) (by omega) (by omega))
def zWdB (f : Nat → Int) (n : Int) (i : Nat) (S E : Int) : Bool := decide (E - S = (zStrLen.getD i 0 : Nat)) && (List.range (zStrLen.getD i 0)).all fun k => decide (hAt f n (S + k) = zSc i k)
theorem zWdB_iff {f : Nat → Int} {n : Int} {i : Nat} {S E : Int} : zWdB f n i S E = true ↔ zWd f n i S E := by
  unfold zWdB zWd
  rw [Bool.and_eq_true, List.all_eq_true, decide_eq_true_iff]
  refine and_congr_right fun _ => ⟨fun h j h1 h2 => ?_, fun h k hk => ?_⟩
  · have := of_decide_eq_true (h j.toNat (List.mem_range.mpr (by omega)))
    rw [show ((j.toNat : Nat) : Int) = j by omega] at this
    exact this
  · have := List.mem_range.mp hk
    exact decide_eq_true (by have q := h (k : Int) (by omega) (by omega)
                             rwa [Int.toNat_natCast] at q)
def zNaB (S : zSt) (f : Nat → Int) (n b e : Int) (i : Nat) : Bool := decide (e - b = rNl (sRd S i)) && (List.range (rNl (sRd S i)).toNat).all fun k => decide (hAt (rNm (sRd S i)) (rNl (sRd S i)) k = hAt f n (b + k))
theorem zNaB_iff {S : zSt} {f : Nat → Int} {n b e : Int} {i : Nat} : zNaB S f n b e i = true ↔ hNa S f n b e i := by
  unfold zNaB hNa hIs
  rw [Bool.and_eq_true, List.all_eq_true, decide_eq_true_iff]
  refine and_congr_right fun _ => ⟨fun h j h1 h2 => ?_, fun h k hk => ?_⟩
  · have := of_decide_eq_true (h j.toNat (List.mem_range.mpr (by omega)))
    rw [show ((j.toNat : Nat) : Int) = j by omega] at this
    exact this
  · have := List.mem_range.mp hk
    exact decide_eq_true (h (k : Int) (by omega) (by omega))
def zfiB (B : Nat → Bool) : Nat → Int
  | 0 => -1
  | t + 1 => if zfiB B t = -1 then (if B t then (t : Int) else -1) else zfiB B t
theorem zfiB_eq {P : Nat → Prop} {B : Nat → Bool} (h : ∀ i, B i = true ↔ P i) : ∀ t, zfi P t = zfiB B t
  | 0 => rfl
  | t + 1 => by
    unfold zfi zfiB
    rw [zfiB_eq h t, zif_b (h t)]
def zMwB (f : Nat → Int) (n S E : Int) : Int := if zWdB f n 2 S E then 0 else if zWdB f n 3 S E then 1 else if zWdB f n 4 S E then 2 else -1
theorem zMwB_eq : @zMw = @zMwB := by
  funext f n S E
  unfold zMw zMwB
  rw [zif_b zWdB_iff, zif_b zWdB_iff, zif_b zWdB_iff]
def zNoB (S : zSt) (f : Nat → Int) (n b e : Int) : Int := zfiB (zNaB S f n b e) (sRn S).toNat
theorem zNoB_eq : @zNo = @zNoB := by
  funext S f n b e
  exact zfiB_eq (fun i => zNaB_iff) _
def zpR3B (f : Nat → Int) (n : Int) (S : zSt) (e e1 e2 e3 : Int) : zPR := if zMwB f n (ztS f n e2) e3 = -1 then (1, ztS f n e2, S, e) else if hAt f n (ztS f n e3) = 59 then (0, -1, sAddR S (rNew f n (ztS f n e1) e2 (zMwB f n (ztS f n e2) e3)), ztE f n e3) else (1, ztS f n e3, S, e)
def zpRB (f : Nat → Int) (n : Int) (S : zSt) (e : Int) : zPR := if 4 ≤ sRn S then (5, ztS f n e, S, e) else if ztK f n (ztE f n e) ≠ 1 then (1, ztS f n (ztE f n e), S, e) else if (decide (ztE f n (ztE f n e) - ztS f n (ztE f n e) ≤ 4) && zNmB f n (ztS f n (ztE f n e)) (ztE f n (ztE f n e))) then (if zNoB S f n (ztS f n (ztE f n e)) (ztE f n (ztE f n e)) ≠ -1 then (3, ztS f n (ztE f n e), S, e) else zpR3B f n S e (ztE f n e) (ztE f n (ztE f n e)) (ztE f n (ztE f n (ztE f n e)))) else (2, ztS f n (ztE f n e), S, e)
theorem zpRB_eq : @zpR = @zpRB := by
  funext f n S e
  have h3 : @zpR3 = @zpR3B := by
    funext f n S e e1 e2 e3
    unfold zpR3 zpR3B
    rw [zMwB_eq]
  unfold zpR zpRB
  rw [h3, zNoB_eq, zif_b (b := decide (ztE f n (ztE f n e) - ztS f n (ztE f n e) ≤ 4) && zNmB f n (ztS f n (ztE f n e)) (ztE f n (ztE f n e))) (by rw [Bool.and_eq_true, decide_eq_true_iff, zNmB_iff])]
def zpT1B (f : Nat → Int) (n : Int) (S : zSt) (e e1 e2 r : Int) : zPR := if ztK f n e1 ≠ 1 then (1, ztS f n e1, S, e) else if r = -1 then (4, ztS f n e1, S, e) else zpT2 f n S e r e2 (ztE f n e2) (znv f n (ztE f n e2 - ztS f n e2).toNat (ztS f n e2) 0)
def zpTB (f : Nat → Int) (n : Int) (S : zSt) (e : Int) : zPR := zpT1B f n S e (ztE f n e) (ztE f n (ztE f n e)) (zNoB S f n (ztS f n (ztE f n e)) (ztE f n (ztE f n e)))
theorem zpTB_eq : @zpT = @zpTB := by
  funext f n S e
  unfold zpT zpTB
  rw [zNoB_eq]
  rfl
def zpSB (f : Nat → Int) (n : Int) (S : zSt) (e : Int) : zPR := if zWdB f n 1 (ztS f n e) (ztE f n e) then zpRB f n S e else if zWdB f n 5 (ztS f n e) (ztE f n e) then zpD f n S e else if zWdB f n 6 (ztS f n e) (ztE f n e) then zpTB f n S e else if zWdB f n 7 (ztS f n e) (ztE f n e) then zpY f n S e else (1, ztS f n e, S, e)
theorem zpSB_eq : @zpS = @zpSB := by
  funext f n S e
  unfold zpS zpSB
  rw [zif_b zWdB_iff, zif_b zWdB_iff, zif_b zWdB_iff, zif_b zWdB_iff, zpRB_eq, zpTB_eq]
def zF0 : Nat → Int := fun j => zSc 0 j
def zpAB (f : Nat → Int) (n : Int) : Nat → zSt → Int → zPR
  | 0, S, e => (0, -1, S, e)
  | t + 1, S, e => if ztK f n e = 0 then (0, -1, S, e) else if (zpSB f n S e).1 = 0 then zpAB f n t (zpSB f n S e).2.2.1 (zpSB f n S e).2.2.2 else zpSB f n S e
theorem zpAB_eq {f : Nat → Int} {n : Int} : ∀ (t : Nat) (S : zSt) (e : Int), zpA f n t S e = zpAB f n t S e
  | 0, _, _ => rfl
  | t + 1, S, e => by
    unfold zpA zpAB
    rw [zpSB_eq]
    simp only [zpAB_eq t]
/-- more tries than statements -/
theorem zpAB_st {f : Nat → Int} {n : Int} {t : Nat} {S : zSt} {e : Int} (h : ztK f n e ≠ 0) (h2 : (zpSB f n S e).1 = 0) : zpAB f n (t + 1) S e = zpAB f n t (zpSB f n S e).2.2.1 (zpSB f n S e).2.2.2 := by
  rw [zpAB, if_neg h, if_pos h2]
theorem zpAB_end {f : Nat → Int} {n : Int} {t : Nat} {S : zSt} {e : Int} (h : ztK f n e = 0) : zpAB f n (t + 1) S e = (0, -1, S, e) := by
  rw [zpAB, if_pos h]
def zFs0 : zSt := zS0
def zFs1 : zSt := (zpSB zF0 117 zFs0 0).2.2.1
theorem zg1 : ztK zF0 117 0 ≠ 0 ∧ (zpSB zF0 117 zFs0 0).1 = 0 ∧ (zpSB zF0 117 zFs0 0).2.2.2 = 13 := by decide +kernel
def zFs2 : zSt := (zpSB zF0 117 zFs1 13).2.2.1
theorem zg2 : ztK zF0 117 13 ≠ 0 ∧ (zpSB zF0 117 zFs1 13).1 = 0 ∧ (zpSB zF0 117 zFs1 13).2.2.2 = 26 := by decide +kernel
def zFs3 : zSt := (zpSB zF0 117 zFs2 26).2.2.1
theorem zg3 : ztK zF0 117 26 ≠ 0 ∧ (zpSB zF0 117 zFs2 26).1 = 0 ∧ (zpSB zF0 117 zFs2 26).2.2.2 = 48 := by decide +kernel
def zFs4 : zSt := (zpSB zF0 117 zFs3 48).2.2.1
theorem zg4 : ztK zF0 117 48 ≠ 0 ∧ (zpSB zF0 117 zFs3 48).1 = 0 ∧ (zpSB zF0 117 zFs3 48).2.2.2 = 64 := by decide +kernel
def zFs5 : zSt := (zpSB zF0 117 zFs4 64).2.2.1
theorem zg5 : ztK zF0 117 64 ≠ 0 ∧ (zpSB zF0 117 zFs4 64).1 = 0 ∧ (zpSB zF0 117 zFs4 64).2.2.2 = 76 := by decide +kernel
def zFs6 : zSt := (zpSB zF0 117 zFs5 76).2.2.1
theorem zg6 : ztK zF0 117 76 ≠ 0 ∧ (zpSB zF0 117 zFs5 76).1 = 0 ∧ (zpSB zF0 117 zFs5 76).2.2.2 = 88 := by decide +kernel
def zFs7 : zSt := (zpSB zF0 117 zFs6 88).2.2.1
theorem zg7 : ztK zF0 117 88 ≠ 0 ∧ (zpSB zF0 117 zFs6 88).1 = 0 ∧ (zpSB zF0 117 zFs6 88).2.2.2 = 100 := by decide +kernel
def zFs8 : zSt := (zpSB zF0 117 zFs7 100).2.2.1
theorem zg8 : ztK zF0 117 100 ≠ 0 ∧ (zpSB zF0 117 zFs7 100).1 = 0 ∧ (zpSB zF0 117 zFs7 100).2.2.2 = 105 := by decide +kernel
def zFs9 : zSt := (zpSB zF0 117 zFs8 105).2.2.1
theorem zg9 : ztK zF0 117 105 ≠ 0 ∧ (zpSB zF0 117 zFs8 105).1 = 0 ∧ (zpSB zF0 117 zFs8 105).2.2.2 = 117 := by decide +kernel
theorem zgE : ztK zF0 117 117 = 0 := by decide +kernel
theorem zp_first : zpA zF0 117 501 zS0 0 = (0, -1, zFs9, 117) := by
  rw [zpAB_eq]
  show zpAB zF0 117 501 zFs0 0 = _
  rw [zpAB_st zg1.1 zg1.2.1, zg1.2.2]
  change zpAB zF0 117 500 zFs1 _ = _
  rw [zpAB_st zg2.1 zg2.2.1, zg2.2.2]
  change zpAB zF0 117 499 zFs2 _ = _
  rw [zpAB_st zg3.1 zg3.2.1, zg3.2.2]
  change zpAB zF0 117 498 zFs3 _ = _
  rw [zpAB_st zg4.1 zg4.2.1, zg4.2.2]
  change zpAB zF0 117 497 zFs4 _ = _
  rw [zpAB_st zg5.1 zg5.2.1, zg5.2.2]
  change zpAB zF0 117 496 zFs5 _ = _
  rw [zpAB_st zg6.1 zg6.2.1, zg6.2.2]
  change zpAB zF0 117 495 zFs6 _ = _
  rw [zpAB_st zg7.1 zg7.2.1, zg7.2.2]
  change zpAB zF0 117 494 zFs7 _ = _
  rw [zpAB_st zg8.1 zg8.2.1, zg8.2.2]
  change zpAB zF0 117 493 zFs8 _ = _
  rw [zpAB_st zg9.1 zg9.2.1, zg9.2.2]
  change zpAB zF0 117 492 zFs9 _ = _
  exact zpAB_end zgE
