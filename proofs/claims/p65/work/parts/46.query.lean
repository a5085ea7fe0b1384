/-! the face's answers: comparisons, trials -/
theorem zgf_le {c : Int → Int} {X : zDoc} {r : Int} (h1 : r = zgf c X) (h2 : dLe X ≤ r ∧ r ≤ 27 * dLe X) (h3 : zDok X) : 1 ≤ r ∧ r ≤ 1080 := by
  have := h3.1
  omega
theorem zind_27 (c : Int → Int) (x : Int) : 0 ≤ zsum (zind c) x 27 ∧ zsum (zind c) x 27 ≤ 27 := by
  have h : zsum (zind c) x 27 ≤ 1 * (27 : Nat) := zsum_le fun j _ => (zind_rng _ _).2
  exact ⟨zsum_nn fun j _ => (zind_rng _ _).1, by simpa using h⟩
noncomputable def q_bestReader (S : zSt) (dd : Int) : Int × Int := zqD S dd (0, (zbrn S (sDc S dd.toNat) (sRn S).toNat).1)
noncomputable def q_hardestDocument (S : zSt) (rr : Int) : Int × Int := zqR S rr (0, (zhdn S (rC (sRd S rr.toNat)) (sDn S).toNat).1)
noncomputable def q_agreements (S : zSt) (rr oo : Int) : Int × Int := zqR S rr (zqR S oo (zq2 (rr ≠ oo) (0, zagn (rC (sRd S rr.toNat)) (rC (sRd S oo.toNat)) 729)))
noncomputable def q_adaptiveGuesses (S : zSt) (rr dd : Int) : Int × Int := zqR S rr (zqD S dd (0, zla (rC (sRd S rr.toNat)) (sDc S dd.toNat)))
noncomputable def q_guessesAfterTraining (S : zSt) (rr dd ee : Int) : Int × Int := zqR S rr (zqD S dd (zqD S ee (0, zgf (zdoc (rC (sRd S rr.toNat)) (sDc S dd.toNat)) (sDc S ee.toNat))))
noncomputable def q_trainingsNeeded (S : zSt) (rr dd ll : Int) : Int × Int := zqR S rr (zqD S dd (zq2 (1 ≤ ll ∧ ll ≤ 1080) (0, ztn (sDc S dd.toNat) ll 21 (rC (sRd S rr.toNat)))))
def q_outputByte (Y : zSys) (ii : Int) : Int × Int := if 0 ≤ ii ∧ ii < yOn Y then (0, yOf Y ii.toNat) else (1, 0)
