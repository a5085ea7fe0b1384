/-! the law's text, read: statement for statement -/
section ZR65
variable {p : Program} {l : Launch} {e : Env} {R : Room} {s : State} {m : MethodId} {args : Array Value} {below : List Frame} {meth : Method} {c : Code} {γ : zG} {cc : ByteArray} {nL : Nat} {Q : State → Prop} {M : zM} {k n pc : Nat} {L : zL} {st : List Value}
theorem z_km {k' n' : Nat} (hk : k ≤ k') (hn : n ≤ n') (kk : zAW p l e R s m args below meth c γ nL Q M k' n' pc L st) : zAW p l e R s m args below meth c γ nL Q M k n pc L st := fun H locs ls hH hl hL hz => W.widen hk hn (kk H locs ls hH hl hL hz)
end ZR65
theorem zsk_s (f : Nat → Int) (n : Int) (t : Nat) (q : Int) : zsk f n (t + 1) q = if q < n ∧ (hAt f n q = 32 ∨ hAt f n q = 10) then zsk f n t (q + 1) else q := rfl
theorem zrn_s (f : Nat → Int) (n K : Int) (t : Nat) (q : Int) : zrn f n K (t + 1) q = if q < n ∧ zkd (hAt f n q) = K then zrn f n K t (q + 1) else q := rfl
theorem ztS_0 {f : Nat → Int} {n a : Int} (h : ¬ (hAt f n a = 32 ∨ hAt f n a = 10)) : ztS f n a = a := by
  unfold ztS
  rw [show (500 : Nat) = 499 + 1 from rfl, zsk_s, if_neg (fun w => h w.2)]
theorem ztS_1 {f : Nat → Int} {n a : Int} (hn : a < n) (h : hAt f n a = 32) (h2 : ¬ (hAt f n (a + 1) = 32 ∨ hAt f n (a + 1) = 10)) : ztS f n a = a + 1 := by
  unfold ztS
  rw [show (500 : Nat) = 498 + 1 + 1 from rfl, zsk_s, if_pos ⟨hn, .inl h⟩, zsk_s, if_neg (fun w => h2 w.2)]
theorem zrn_m {f : Nat → Int} {n K : Int} : ∀ (k t : Nat) (a : Int), k ≤ t → (∀ j : Nat, j < k → a + j < n ∧ zkd (hAt f n (a + j)) = K) → zkd (hAt f n (a + k)) ≠ K → zrn f n K t a = a + k
  | 0, 0, a, _, _, _ => (Int.add_zero a).symm
  | 0, t + 1, a, _, _, h2 => by
    have h2' : zkd (hAt f n a) ≠ K := by simpa using h2
    rw [zrn_s, if_neg (fun w => h2' w.2)]
    exact (Int.add_zero a).symm
  | k + 1, 0, a, ht, _, _ => absurd ht (by omega)
  | k + 1, t + 1, a, ht, h, h2 => by
    have h0 := h 0 (by omega)
    rw [show a + ((0 : Nat) : Int) = a by omega] at h0
    rw [zrn_s, if_pos h0, zrn_m k t (a + 1) (by omega) (fun j hj => by
      have := h (j + 1) (by omega)
      rw [show a + ((j + 1 : Nat) : Int) = a + 1 + j by omega] at this
      exact this) (by
      rw [show a + ((k + 1 : Nat) : Int) = a + 1 + k by omega] at h2
      exact h2)]
    omega
theorem zkd_nb {x K : Int} (h : zkd x = K) (hK : K = 1 ∨ K = 2) : ¬ (x = 32 ∨ x = 10) := by
  rintro (rfl | rfl)
  · have : zkd 32 = 3 := by decide
    omega
  · have : zkd 10 = 3 := by decide
    omega
theorem ztE_of {f : Nat → Int} {n e a K : Int} {k : Nat} (hS : ztS f n e = a) (hK : K = 1 ∨ K = 2) (hk : 1 ≤ k ∧ k ≤ 400) (h : ∀ j : Nat, j < k → a + j < n ∧ zkd (hAt f n (a + j)) = K) (h2 : zkd (hAt f n (a + k)) ≠ K) : ztK f n e = K ∧ ztE f n e = a + k := by
  have h0 := h 0 (by omega)
  rw [show a + ((0 : Nat) : Int) = a by omega] at h0
  have e1 : ztK f n e = K := by
    unfold ztK
    rw [hS]
    exact h0.2
  refine ⟨e1, ?_⟩
  unfold ztE
  rw [e1, if_pos hK, hS, zrn_m (k - 1) 500 (a + 1) (by omega) (fun j hj => by
    have := h (j + 1) (by omega)
    rw [show a + ((j + 1 : Nat) : Int) = a + 1 + j by omega] at this
    exact this) (by
    rw [show a + 1 + ((k - 1 : Nat) : Int) = a + k by omega]
    exact h2)]
  omega
theorem ztok {f : Nat → Int} {n a K : Int} {k : Nat} (hK : K = 1 ∨ K = 2) (hk : 1 ≤ k ∧ k ≤ 400) (h : ∀ j : Nat, j < k → a + j < n ∧ zkd (hAt f n (a + j)) = K) (h2 : zkd (hAt f n (a + k)) ≠ K) : ztS f n a = a ∧ ztK f n a = K ∧ ztE f n a = a + k := by
  have h0 := h 0 (by omega)
  rw [show a + ((0 : Nat) : Int) = a by omega] at h0
  have hS : ztS f n a = a := ztS_0 (zkd_nb h0.2 hK)
  exact ⟨hS, ztE_of hS hK hk h h2⟩
theorem ztokb {f : Nat → Int} {n a K : Int} {k : Nat} (hb : hAt f n a = 32) (hK : K = 1 ∨ K = 2) (hk : 1 ≤ k ∧ k ≤ 400) (h : ∀ j : Nat, j < k → a + 1 + j < n ∧ zkd (hAt f n (a + 1 + j)) = K) (h2 : zkd (hAt f n (a + 1 + k)) ≠ K) : ztS f n a = a + 1 ∧ ztK f n a = K ∧ ztE f n a = a + 1 + k := by
  have h0 := h 0 (by omega)
  rw [show a + 1 + ((0 : Nat) : Int) = a + 1 by omega] at h0
  have hS : ztS f n a = a + 1 := ztS_1 (by omega) hb (zkd_nb h0.2 hK)
  exact ⟨hS, ztE_of hS hK hk h h2⟩
theorem ztok9 {f : Nat → Int} {n a : Int} (hn : a < n) (h : hAt f n a = 59) : ztS f n a = a ∧ ztE f n a = a + 1 := by
  have hS : ztS f n a = a := ztS_0 (by rw [h]; decide)
  refine ⟨hS, ?_⟩
  have e1 : ztK f n a = 3 := by
    unfold ztK
    rw [hS, h]
    decide
  unfold ztE
  rw [e1, if_neg (by decide), hS, if_pos hn]
theorem zSc_1 : ∀ k : Nat, k < 6 → zSc 1 k = ([114, 101, 97, 100, 101, 114] : List Int).getD k 0 := by decide +kernel
theorem zSc_5 : ∀ k : Nat, k < 8 → zSc 5 k = ([100, 111, 99, 117, 109, 101, 110, 116] : List Int).getD k 0 := by decide +kernel
theorem zSc_6 : ∀ k : Nat, k < 5 → zSc 6 k = ([116, 114, 97, 105, 110] : List Int).getD k 0 := by decide +kernel
theorem zSc_7 : ∀ k : Nat, k < 4 → zSc 7 k = ([121, 101, 97, 114] : List Int).getD k 0 := by decide +kernel
theorem zWd_of {f : Nat → Int} {n a : Int} {i k : Nat} {X : List Int} (hl : zStrLen.getD i 0 = k) (hX : ∀ j : Nat, j < k → zSc i j = X.getD j 0) (h : ∀ j : Nat, j < k → hAt f n (a + j) = X.getD j 0) : zWd f n i a (a + k) := by
  refine ⟨by rw [hl]; omega, fun j h0 h1 => ?_⟩
  rw [hl] at h1
  obtain ⟨q, rfl⟩ := Int.eq_ofNat_of_zero_le h0
  rw [h q (by omega), Int.toNat_natCast, hX q (by omega)]
theorem zWd_no {f : Nat → Int} {n a b : Int} {i k : Nat} (hl : zStrLen.getD i 0 = k) (h : b - a ≠ (k : Nat)) : ¬ zWd f n i a b := fun w => h (by rw [← hl]; exact w.1)
theorem zWd_n1 {f : Nat → Int} {n a b : Int} {i : Nat} {x : Int} (hl : 0 < zStrLen.getD i 0) (hx : zSc i 0 = x) (h : hAt f n a ≠ x) : ¬ zWd f n i a b := fun w => by
  have := w.2 0 (by omega) (by omega)
  rw [Int.add_zero] at this
  exact h (this.trans hx)
theorem zWd_1 {f : Nat → Int} {n a : Int} {i : Nat} {x : Int} (hl : zStrLen.getD i 0 = 1) (hx : zSc i 0 = x) (h : hAt f n a = x) : zWd f n i a (a + 1) := by
  refine ⟨by rw [hl]; omega, fun j h0 h1 => ?_⟩
  rw [hl] at h1
  obtain rfl : j = 0 := by omega
  rw [Int.add_zero, h]
  exact hx.symm
theorem zMw_of {f : Nat → Int} {n a mch me : Int} (h : hAt f n a = mch) (hm : (mch = 97 ∧ me = 0) ∨ (mch = 99 ∧ me = 1) ∨ (mch = 100 ∧ me = 2)) : zMw f n a (a + 1) = me := by
  unfold zMw
  rcases hm with ⟨rfl, rfl⟩ | ⟨rfl, rfl⟩ | ⟨rfl, rfl⟩
  · rw [zif_t (zWd_1 (x := 97) (by decide) (by decide +kernel) h)]
  · rw [zif_f (zWd_n1 (x := 97) (by decide) (by decide +kernel) (by rw [h]; decide)), zif_t (zWd_1 (x := 99) (by decide) (by decide +kernel) h)]
  · rw [zif_f (zWd_n1 (x := 97) (by decide) (by decide +kernel) (by rw [h]; decide)), zif_f (zWd_n1 (x := 99) (by decide) (by decide +kernel) (by rw [h]; decide)), zif_t (zWd_1 (x := 100) (by decide) (by decide +kernel) h)]
/-- what the parser needs of the readers' names -/
def zNm (S : zSt) : Prop := ∀ i : Nat, i < sRn S → rNl (sRd S i) = 2 ∧ rNm (sRd S i) 0 = 114 ∧ rNm (sRd S i) 1 = 120 + (i : Int)
/-- what the law knows of its state -/
def zIv (r d y b : Int) (S : zSt) : Prop := (sRn S = r ∧ sDn S = d ∧ 0 ≤ sYr S ∧ sYr S ≤ y) ∧ (∀ i : Nat, i < d → 1 ≤ dLe (sDc S i) ∧ dLe (sDc S i) ≤ 14) ∧ ∀ i : Nat, i < r → (∀ j : Nat, 0 ≤ rTm (sRd S i) j ∧ rTm (sRd S i) j ≤ b) ∧ ztgn S (sRd S i) d.toNat = 0
theorem zIv.mono {r d y b y' b' : Int} {S : zSt} (h : zIv r d y b S) (hy : y ≤ y') (hb : b ≤ b') : zIv r d y' b' S := by
  obtain ⟨⟨h1, h2, h3, h4⟩, h5, h6⟩ := h
  exact ⟨⟨h1, h2, h3, by omega⟩, h5, fun i hi => ⟨fun j => by
    have := (h6 i hi).1 j
    omega, (h6 i hi).2⟩⟩
theorem ztgn_cg {S S' : zSt} {R : zRdr} : ∀ n : Nat, (∀ j, j < n → sDc S j = sDc S' j) → ztgn S R n = ztgn S' R n
  | 0, _ => rfl
  | n + 1, h => by
    show ztgn S R n - rTm R n * dLe (sDc S n) = ztgn S' R n - rTm R n * dLe (sDc S' n)
    rw [ztgn_cg n fun j hj => h j (by omega), h n (by omega)]
theorem ztgn_cr {S : zSt} {R R' : zRdr} (ht : rTr R = rTr R') (hm : rTm R = rTm R') : ∀ n : Nat, ztgn S R n = ztgn S R' n
  | 0 => ht
  | n + 1 => by
    show ztgn S R n - rTm R n * dLe (sDc S n) = ztgn S R' n - rTm R' n * dLe (sDc S n)
    rw [ztgn_cr ht hm n, hm]
theorem ztgn_0 {S : zSt} {R : zRdr} (ht : rTr R = 0) : ∀ n : Nat, (∀ j, j < n → rTm R j = 0) → ztgn S R n = 0
  | 0, _ => ht
  | n + 1, h => by
    show ztgn S R n - rTm R n * dLe (sDc S n) = 0
    rw [ztgn_0 ht n fun j hj => h j (by omega), h n (by omega)]
    omega
theorem ztgn_rec {S : zSt} {R : zRdr} {d len : Int} (hd : 0 ≤ d) (hl : len = dLe (sDc S d.toNat)) : ∀ n : Nat, ztgn S (rRec R d len) n = ztgn S R n + if d.toNat < n then 0 else len
  | 0 => rfl
  | n + 1 => by
    show ztgn S (rRec R d len) n - va_up (rTm R) d.toNat (rTm R d.toNat + 1) n * dLe (sDc S n) = ztgn S R n - rTm R n * dLe (sDc S n) + _
    rw [ztgn_rec hd hl n]
    by_cases e1 : n = d.toNat
    · rw [if_neg (by omega), if_pos (by omega), e1, va_up_self, hl, Int.add_mul, Int.one_mul]
      omega
    · rw [va_up_ne _ _ e1]
      by_cases e2 : d.toNat < n
      · rw [if_pos e2, if_pos (by omega)]
        omega
      · rw [if_neg e2, if_neg (by omega)]
        omega
theorem ztgn_mrg {S : zSt} {R T : zRdr} : ∀ n : Nat, ztgn S (rMrg R T) n = ztgn S R n + ztgn S T n
  | 0 => rfl
  | n + 1 => by
    show ztgn S (rMrg R T) n - (rTm R n + rTm T n) * dLe (sDc S n) = ztgn S R n - rTm R n * dLe (sDc S n) + (ztgn S T n - rTm T n * dLe (sDc S n))
    rw [ztgn_mrg n, Int.add_mul]
    omega
theorem zIv.addR {r d y b : Int} {S : zSt} {R : zRdr} (h : zIv r d y b S) (hr : 0 ≤ r) (hb : 0 ≤ b) (ht : rTr R = 0) (hm : ∀ j, rTm R j = 0) : zIv (r + 1) d y b (sAddR S R) := by
  obtain ⟨⟨h1, h2, h3, h4⟩, h5, h6⟩ := h
  refine ⟨⟨by show sRn S + 1 = _; omega, h2, h3, h4⟩, h5, fun i hi => ?_⟩
  show (∀ j : Nat, 0 ≤ rTm (va_up (sRd S) (sRn S).toNat R i) j ∧ rTm (va_up (sRd S) (sRn S).toNat R i) j ≤ b) ∧ ztgn (sAddR S R) (va_up (sRd S) (sRn S).toNat R i) d.toNat = 0
  rw [ztgn_cg (S := sAddR S R) (S' := S) _ (fun _ _ => rfl)]
  by_cases e1 : i = (sRn S).toNat
  · rw [e1, va_up_self]
    exact ⟨fun j => by rw [hm]; omega, ztgn_0 ht _ fun j _ => hm j⟩
  · rw [va_up_ne _ _ e1]
    exact h6 i (by omega)
theorem zIv.addD {r d y : Int} {S : zSt} {X : zDoc} (h : zIv r d y 0 S) (hd : 0 ≤ d) (hX : 1 ≤ dLe X ∧ dLe X ≤ 14) : zIv r (d + 1) y 0 (sAddD S X) := by
  obtain ⟨⟨h1, h2, h3, h4⟩, h5, h6⟩ := h
  refine ⟨⟨h1, by show sDn S + 1 = _; omega, h3, h4⟩, fun i hi => ?_, fun i hi => ⟨(h6 i hi).1, ?_⟩⟩
  · show 1 ≤ dLe (va_up (sDc S) (sDn S).toNat X i) ∧ dLe (va_up (sDc S) (sDn S).toNat X i) ≤ 14
    by_cases e1 : i = (sDn S).toNat
    · rw [e1, va_up_self]
      exact hX
    · rw [va_up_ne _ _ e1]
      exact h5 i (by omega)
  · rw [show (d + 1).toNat = d.toNat + 1 by omega]
    show ztgn (sAddD S X) (sRd S i) d.toNat - rTm (sRd S i) d.toNat * _ = 0
    have h0 := (h6 i hi).1 d.toNat
    rw [show rTm (sRd S i) d.toNat = 0 by omega, Int.zero_mul, ztgn_cg (S := sAddD S X) (S' := S) _ (fun j hj => ?_), (h6 i hi).2]
    · rfl
    · show va_up (sDc S) (sDn S).toNat X j = _
      rw [va_up_ne _ _ (by omega)]
theorem zIv.setR {r d y b b' : Int} {S : zSt} {i : Int} {R : zRdr} (h : zIv r d y b S) (hb : b ≤ b') (hi : 0 ≤ i ∧ i < r) (h1 : ∀ j : Nat, 0 ≤ rTm R j ∧ rTm R j ≤ b') (h2 : ztgn S R d.toNat = 0) : zIv r d y b' (sSetR S i.toNat R) := by
  obtain ⟨⟨g1, g2, g3, g4⟩, g5, g6⟩ := h
  refine ⟨⟨g1, g2, g3, g4⟩, g5, fun q hq => ?_⟩
  show (∀ j : Nat, 0 ≤ rTm (va_up (sRd S) i.toNat R q) j ∧ rTm (va_up (sRd S) i.toNat R q) j ≤ b') ∧ ztgn (sSetR S i.toNat R) (va_up (sRd S) i.toNat R q) d.toNat = 0
  rw [ztgn_cg (S := sSetR S i.toNat R) (S' := S) _ (fun _ _ => rfl)]
  by_cases e1 : q = i.toNat
  · rw [e1, va_up_self]
    exact ⟨h1, h2⟩
  · rw [va_up_ne _ _ e1]
    exact ⟨fun j => by
      have := (g6 q hq).1 j
      omega, (g6 q hq).2⟩
theorem zIv.year {r d y b : Int} {S : zSt} (h : zIv r d y b S) : zIv r d (y + 1) b (sYear S) := by
  obtain ⟨⟨g1, g2, g3, g4⟩, g5, g6⟩ := h
  refine ⟨⟨g1, g2, by show 0 ≤ sYr S + 1; omega, by show sYr S + 1 ≤ _; omega⟩, g5, fun q hq => ⟨(g6 q hq).1, ?_⟩⟩
  rw [ztgn_cg (S := sYear S) (S' := S) _ (fun _ _ => rfl)]
  exact (ztgn_cr (R := rHlf (sRd S q)) (R' := sRd S q) rfl rfl _).trans (g6 q hq).2
theorem zIv.trn {r d y b : Int} {S : zSt} {i q : Int} (h : zIv r d y b S) (hi : 0 ≤ i ∧ i < r) (hq : 0 ≤ q ∧ q < d) : zIv r d y (b + 1) (sTrn S i q) := by
  refine h.setR (by omega) hi (fun j => ?_) ?_
  · have g := fun j => (h.2.2 i.toNat (by omega)).1 j
    show 0 ≤ va_up (rTm (sRd S i.toNat)) q.toNat (rTm (sRd S i.toNat) q.toNat + 1) j ∧ va_up (rTm (sRd S i.toNat)) q.toNat (rTm (sRd S i.toNat) q.toNat + 1) j ≤ b + 1
    by_cases e1 : j = q.toNat
    · rw [e1, va_up_self]
      have := g q.toNat
      omega
    · rw [va_up_ne _ _ e1]
      have := g j
      omega
  · show ztgn S (rRec (rSetC (sRd S i.toNat) _) q _) d.toNat = 0
    rw [ztgn_rec hq.1 rfl, if_pos (by omega)]
    have := (h.2.2 i.toNat (by omega)).2
    rw [ztgn_cr (S := S) (R := rSetC (sRd S i.toNat) (zdoc (rC (sRd S i.toNat)) (sDc S q.toNat))) (R' := sRd S i.toNat) rfl rfl d.toNat, this]
    rfl
theorem zIv.clr {r d y b : Int} {S : zSt} {i : Int} (h : zIv r d y b S) (hb : 0 ≤ b) (hi : 0 ≤ i ∧ i < r) : zIv r d y b (sSetR S i.toNat (rClr (sRd S i.toNat))) := h.setR (Int.le_refl _) hi (fun j => ⟨Int.le_refl _, hb⟩) (ztgn_0 rfl _ fun _ _ => rfl)
theorem zIv.met {r d y b : Int} {S : zSt} {i v : Int} (h : zIv r d y b S) (hi : 0 ≤ i ∧ i < r) : zIv r d y b (sSetR S i.toNat (rSetM (sRd S i.toNat) v)) := h.setR (Int.le_refl _) hi (h.2.2 i.toNat (by omega)).1 ((ztgn_cr (R := rSetM (sRd S i.toNat) v) (R' := sRd S i.toNat) rfl rfl _).trans (h.2.2 i.toNat (by omega)).2)
theorem zIv.mrg {r d y b : Int} {S : zSt} {i q : Int} (h : zIv r d y b S) (hb : 0 ≤ b) (hi : 0 ≤ i ∧ i < r) (hq : 0 ≤ q ∧ q < r) : zIv r d y (b + b) (sSetR S q.toNat (rMrg (sRd S q.toNat) (sRd S i.toNat))) := by
  have g1 := h.2.2 i.toNat (by omega)
  have g2 := h.2.2 q.toNat (by omega)
  refine h.setR (by omega) hq (fun j => ?_) ?_
  · have a1 := g1.1 j
    have a2 := g2.1 j
    show 0 ≤ rTm (sRd S q.toNat) j + rTm (sRd S i.toNat) j ∧ rTm (sRd S q.toNat) j + rTm (sRd S i.toNat) j ≤ b + b
    omega
  · rw [ztgn_mrg, g1.2, g2.2]
    rfl

