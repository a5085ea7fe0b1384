/-! a state's cells named anew: what its rows of references say beyond their ends doesn't matter -/
theorem hRd.cgA {γ : zG} {M : zM} {A B : Nat → Nat} {R : zRdr} (h : hRd γ M A R) (q : ∀ j, j < 6 → B j = A j) : hRd γ M B R := by
  unfold hRd at h ⊢
  rw [q 0 (by omega), q 1 (by omega), q 2 (by omega), q 3 (by omega), q 4 (by omega), q 5 (by omega)]
  exact h
section ZM5
variable {p : Program} {l : Launch} {e : Env} {R : Room} {s : State} {m : MethodId} {args : Array Value} {below : List Frame} {meth : Method} {c : Code} {γ : zG} {cc : ByteArray} {nL : Nat} {ret : Option FieldType} {own : String} {xt : List ExceptionTableEntry} {Q : State → Prop} {M : zM} {k n pc : Nat} {L : zL} {st : List Value}
theorem z_rlb {D D' : Nat → Nat} {S : zSt} (hS : hSt γ M D S) (hI : zInj D) (hD : ∀ j, j < 43 → D' j = D j) (kk : ∀ M', zFr M M' [D 1, D 2] → (∀ b, (∃ x, M b = some x) → ∃ x, M' b = some x) → hSt γ M' D' S → zAW p l e R s m args below meth c γ nL Q M' k n pc L st) : zAW p l e R s m args below meth c γ nL Q M k n pc L st := by
  obtain ⟨Rs, Ds, ⟨h0, h1, h2, h3, h4⟩, hr, hd⟩ := hS
  have nn : ∀ x y, x < 43 → y < 43 → x ≠ y → D x ≠ D y := fun x y hx hy w v => w (hI x y hx hy v)
  refine z_mono (M0 := va_up (va_up M (D 1) (some (zaQ γ 5 4 (fun j => some (D' (3 + 6 * j)))))) (D 2) (some (zaQ γ 6 8 (fun j => some (D' (27 + 2 * j)))))) (fun H hH => ?_) ?_
  · refine zHW.eqv (x := zaQ γ 6 8 (fun j => some (D (27 + 2 * j)))) (zHW.eqv hH h1 (zaQ_cg fun j hj => by rw [hD _ (by omega)])) ?_ (zaQ_cg fun j hj => by rw [hD _ (by omega)])
    rw [va_up_ne _ _ (nn 2 1 (by omega) (by omega) (by omega))]
    exact h2
  have f0 : zFr M (va_up (va_up M (D 1) (some (zaQ γ 5 4 (fun j => some (D' (3 + 6 * j)))))) (D 2) (some (zaQ γ 6 8 (fun j => some (D' (27 + 2 * j)))))) [D 1, D 2] := zFr.u2 zFr.rf (by simp) (by simp)
  have hn : ∀ j, j < 43 → j ≠ 1 → j ≠ 2 → D j ∉ [D 1, D 2] := fun j hj j1 j2 => by simp [nn j 1 hj (by omega) j1, nn j 2 hj (by omega) j2]
  refine kk _ f0 (fun b hb => ?_) ⟨Rs, Ds, ⟨?_, ?_, ?_, fun i hi => ?_, fun i hi => ?_⟩, hr, hd⟩
  · by_cases e2 : b = D 2
    · subst e2
      exact ⟨_, va_up_self _ _ _⟩
    · rw [va_up_ne _ _ e2]
      by_cases e1 : b = D 1
      · subst e1
        exact ⟨_, va_up_self _ _ _⟩
      · rw [va_up_ne _ _ e1]
        exact hb
  · rw [hD 0 (by omega), hD 1 (by omega), hD 2 (by omega)]
    exact f0.at (hn 0 (by omega) (by omega) (by omega)) h0
  · rw [hD 1 (by omega), va_up_ne _ _ (nn 1 2 (by omega) (by omega) (by omega))]
    exact va_up_self _ _ _
  · rw [hD 2 (by omega)]
    exact va_up_self _ _ _
  · have hf := (h3 i hi).fr f0 fun j hj => hn (3 + 6 * i + j) (by omega) (by omega) (by omega)
    exact hf.cgA fun j hj => hD (3 + 6 * i + j) (by omega)
  · rw [hD (27 + 2 * i) (by omega), hD (28 + 2 * i) (by omega)]
    exact (h4 i hi).fr f0 (hn _ (by omega) (by omega) (by omega)) (hn _ (by omega) (by omega) (by omega))
end ZM5

