/-! the law's text -/
theorem zgd_p {A B : List Int} {j : Nat} : (A ++ B).getD (A.length + j) 0 = B.getD j 0 := by
  rw [zgd_r (Nat.le_add_right _ _), Nat.add_sub_cancel_left]
def zPx (w : List Int) (r d y b : Int) (k : Nat) : Prop := zVw w ∧ ∀ (f : Nat → Int) (n : Int), w.length ≤ n → n ≤ 500 → (∀ j : Nat, j < w.length → f j = w.getD j 0) → ∃ S, zNm S ∧ zIv r d y b S ∧ ∀ t, zpA f n (k + t) zS0 0 = zpA f n t S w.length
theorem zPx.nil : zPx [] 0 0 0 0 0 := ⟨⟨by decide, fun x hx => by cases hx⟩, fun f n _ _ _ => ⟨zS0, fun i hi => absurd hi (by show ¬ ((i : Int) < 0); omega), ⟨⟨rfl, rfl, by decide, by decide⟩, fun i hi => by omega, fun i hi => by omega⟩, fun t => by rw [Nat.zero_add]; rfl⟩⟩
theorem zPx.app {w u : List Int} {r d y b r' d' y' b' : Int} {k : Nat} (P : zPx w r d y b k) (hv : zVw (w ++ u)) (hs : ∀ (f : Nat → Int) (n : Int) (S : zSt), w.length + u.length ≤ n → n ≤ 500 → (∀ j : Nat, j < u.length → hAt f n (w.length + j) = u.getD j 0) → zNm S → zIv r d y b S → ∃ S', (ztK f n w.length ≠ 0 ∧ zpS f n S w.length = (0, -1, S', (w.length : Int) + u.length)) ∧ zNm S' ∧ zIv r' d' y' b' S') : zPx (w ++ u) r' d' y' b' (k + 1) := ⟨hv, fun f n h1 h2 h3 => by
  rw [List.length_append] at h1 h3
  obtain ⟨S, g1, g2, g3⟩ := P.2 f n (by omega) h2 (fun j hj => by rw [h3 j (by omega), zgd_l hj])
  obtain ⟨S', ⟨g4, g5⟩, g6, g7⟩ := hs f n S (by omega) h2 (fun j hj => by
    rw [hAt_in (by omega), show ((w.length : Int) + (j : Int)).toNat = w.length + j by omega, h3 _ (by omega), zgd_p]) g1 g2
  refine ⟨S', g6, g7, fun t => ?_⟩
  rw [show k + 1 + t = k + (t + 1) by omega, g3]
  show (if ztK f n w.length = 0 then _ else if (zpS f n S w.length).1 = 0 then zpA f n t (zpS f n S w.length).2.2.1 (zpS f n S w.length).2.2.2 else zpS f n S w.length) = _
  rw [if_neg g4, g5, if_pos rfl, List.length_append, show ((w.length + u.length : Nat) : Int) = (w.length : Int) + u.length by omega]⟩
theorem zPx.rd {w : List Int} {r : Int} {k : Nat} {mch : Int} (P : zPx w r 0 0 0 k) (hr : 0 ≤ r ∧ r ≤ 2) (hm : mch = 97 ∨ mch = 99 ∨ mch = 100) (hv : zVw (w ++ [114, 101, 97, 100, 101, 114, 32, 114, 120 + r, 32, mch, 59])) : zPx (w ++ [114, 101, 97, 100, 101, 114, 32, 114, 120 + r, 32, mch, 59]) (r + 1) 0 0 0 (k + 1) := P.app hv fun f n S h1 h2 h3 h4 h5 => by
  have e1 := h5.1.1
  obtain ⟨me, hme⟩ : ∃ me : Int, (mch = 97 ∧ me = 0) ∨ (mch = 99 ∧ me = 1) ∨ (mch = 100 ∧ me = 2) := by
    rcases hm with h | h | h
    · exact ⟨0, .inl ⟨h, rfl⟩⟩
    · exact ⟨1, .inr (.inl ⟨h, rfl⟩)⟩
    · exact ⟨2, .inr (.inr ⟨h, rfl⟩)⟩
  have g7 : hAt f n ((w.length : Int) + 7) = 114 := h3 7 (by show 7 < 12; omega)
  have g8 : hAt f n ((w.length : Int) + 8) = 120 + r := h3 8 (by show 8 < 12; omega)
  refine ⟨_, zst_R (by omega) h1 h3 hr hme (by omega) (fun i hi => ⟨(h4 i hi).1, by
    rw [(h4 i hi).2.2]
    omega⟩), fun i hi => ?_, h5.addR (by omega) (by omega) rfl fun _ => rfl⟩
  have hi' : (i : Int) < sRn S + 1 := hi
  show rNl (va_up (sRd S) (sRn S).toNat (rNew f n _ _ me) i) = 2 ∧ rNm (va_up (sRd S) (sRn S).toNat (rNew f n _ _ me) i) 0 = 114 ∧ rNm (va_up (sRd S) (sRn S).toNat (rNew f n _ _ me) i) 1 = 120 + (i : Int)
  by_cases ei : i = (sRn S).toNat
  · rw [ei, va_up_self]
    refine ⟨?_, ?_, ?_⟩
    · show (w.length : Int) + 9 - ((w.length : Int) + 7) = 2
      omega
    · show hAt f n ((w.length : Int) + 7 + (0 : Nat)) = 114
      rw [show (w.length : Int) + 7 + (0 : Nat) = (w.length : Int) + 7 by omega, g7]
    · show hAt f n ((w.length : Int) + 7 + (1 : Nat)) = 120 + ((sRn S).toNat : Int)
      rw [show (w.length : Int) + 7 + (1 : Nat) = (w.length : Int) + 8 by omega, g8]
      omega
  · rw [va_up_ne _ _ ei]
    exact h4 i (by omega)
theorem zPx.dc {w v : List Int} {r d : Int} {k : Nat} (P : zPx w r d 0 0 k) (hd : 0 ≤ d ∧ d ≤ 7) (hl : zwl v) (hn : 1 ≤ v.length ∧ v.length ≤ 14) (hv : zVw (w ++ ([100, 111, 99, 117, 109, 101, 110, 116, 32] ++ v ++ [59]))) : zPx (w ++ ([100, 111, 99, 117, 109, 101, 110, 116, 32] ++ v ++ [59])) r (d + 1) 0 0 (k + 1) := P.app hv fun f n S h1 h2 h3 h4 h5 => by
  have e1 := h5.1.2.1
  have hL : ([100, 111, 99, 117, 109, 101, 110, 116, 32] ++ v ++ [59] : List Int).length = v.length + 10 := by
    rw [List.length_append, List.length_append]
    show 9 + v.length + 1 = _
    omega
  rw [hL] at h1 h3
  have q0 : ∀ j : Nat, j < 9 → hAt f n ((w.length : Int) + j) = ([100, 111, 99, 117, 109, 101, 110, 116, 32] : List Int).getD j 0 := fun j hj => by
    rw [h3 j (by omega), zgd_l (by rw [List.length_append]; show j < 9 + v.length; omega), zgd_l (by show j < 9; omega)]
  have q1 : ∀ j : Nat, j < v.length → hAt f n ((w.length : Int) + 9 + j) = v.getD j 0 := fun j hj => by
    have := h3 (9 + j) (by omega)
    rw [zgd_l (by rw [List.length_append]; show 9 + j < 9 + v.length; omega), show (9 + j : Nat) = ([100, 111, 99, 117, 109, 101, 110, 116, 32] : List Int).length + j from rfl, zgd_p] at this
    rw [← this]
    congr 1
    show _ = (w.length : Int) + ((9 + j : Nat) : Int)
    omega
  have q2 : hAt f n ((w.length : Int) + 9 + v.length) = 59 := by
    have := h3 (9 + v.length) (by omega)
    rw [show (9 + v.length : Nat) = ([100, 111, 99, 117, 109, 101, 110, 116, 32] ++ v : List Int).length + 0 by rw [List.length_append]; show 9 + v.length = 9 + v.length + 0; omega, zgd_p] at this
    refine Eq.trans ?_ this
    congr 1
    rw [List.length_append]
    show _ = (w.length : Int) + ((9 + v.length + 0 : Nat) : Int)
    omega
  refine ⟨sAddD S (dNew f n ((w.length : Int) + 9) ((w.length : Int) + 9 + v.length) (sYr S)), ?_, fun i hi => h4 i hi, h5.addD hd.1 (X := dNew f n ((w.length : Int) + 9) ((w.length : Int) + 9 + v.length) (sYr S)) ?_⟩
  · rw [hL]
    exact zst_D (by omega) (by omega) q0 q1 q2 hl hn (by omega)
  · show 1 ≤ (w.length : Int) + 9 + v.length - ((w.length : Int) + 9) ∧ (w.length : Int) + 9 + v.length - ((w.length : Int) + 9) ≤ 14
    omega
theorem zPx.tr {w : List Int} {r d y b : Int} {k : Nat} {x q : Int} (P : zPx w r d y b k) (hr : r ≤ 3) (hd : d ≤ 3) (hx : 0 ≤ x ∧ x < r) (hq : 0 ≤ q ∧ q < d) (hv : zVw (w ++ [116, 114, 97, 105, 110, 32, 114, 120 + x, 32, 48 + q, 59])) : zPx (w ++ [116, 114, 97, 105, 110, 32, 114, 120 + x, 32, 48 + q, 59]) r d (y + 1) (b + 1) (k + 1) := P.app hv fun f n S h1 h2 h3 h4 h5 => by
  have e1 := h5.1
  refine ⟨_, zst_T (by omega) h1 h3 (by omega) (by omega) (by omega) (by omega) h4, fun i hi => ?_, (h5.trn hx hq).mono (by omega) (by omega)⟩
  show rNl (va_up (sRd S) x.toNat (rTrn (sRd S x.toNat) q (sDc S q.toNat)) i) = 2 ∧ rNm (va_up (sRd S) x.toNat (rTrn (sRd S x.toNat) q (sDc S q.toNat)) i) 0 = 114 ∧ rNm (va_up (sRd S) x.toNat (rTrn (sRd S x.toNat) q (sDc S q.toNat)) i) 1 = 120 + (i : Int)
  by_cases ei : i = x.toNat
  · rw [ei, va_up_self]
    exact h4 x.toNat (by omega)
  · rw [va_up_ne _ _ ei]
    exact h4 i hi
theorem zPx.yr {w : List Int} {r d y b : Int} {k : Nat} (P : zPx w r d y b k) (hv : zVw (w ++ [121, 101, 97, 114, 59])) : zPx (w ++ [121, 101, 97, 114, 59]) r d (y + 1) (b + 1) (k + 1) := P.app hv fun f n S h1 h2 h3 h4 h5 => ⟨_, zst_Y (by omega) h1 h3, h4, h5.year.mono (by omega) (by omega)⟩
theorem zPx.fin {w : List Int} {r d y b : Int} {k : Nat} {f : Nat → Int} (P : zPx w r d y b k) (hk : k ≤ 500) (h : ∀ j : Nat, j < w.length → f j = w.getD j 0) : ∃ S, zIv r d y b S ∧ zpA f w.length 501 zS0 0 = (0, -1, S, (w.length : Int)) := by
  have hl := P.1.1
  obtain ⟨S, g1, g2, g3⟩ := P.2 f w.length (Int.le_refl _) (by omega) h
  refine ⟨S, g2, ?_⟩
  rw [show 501 = k + (500 - k + 1) by omega, g3]
  have hA : hAt f w.length w.length = -1 := by
    unfold hAt
    rw [if_neg (by omega)]
  have hS : ztS f w.length w.length = w.length := ztS_0 (by rw [hA]; decide)
  have hK : ztK f w.length w.length = 0 := by
    unfold ztK
    rw [hS, hA]
    decide
  show (if ztK f w.length w.length = 0 then _ else _) = _
  rw [if_pos hK]

