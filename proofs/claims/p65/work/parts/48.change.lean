/-! the face's changing calls: slots, undo, readers and documents added -/
def ySav (Y : zSys) (k : Nat) : zSys := (Y.1, Y.2.1, Y.2.2.1, va_up (yUs Y) k 1, va_up (ySl Y) k (yS Y), Y.2.2.2.2.2)
def yUnd (Y : zSys) : zSys := (yPs Y 0, yPc Y - 1, (fun i => yPs Y (i + 1)), Y.2.2.2)
def zqS (i : Int) (q : Int × Int) : Int × Int := if 0 ≤ i ∧ i < 2 then q else (1, 0)
theorem zqS_t {i : Int} {q : Int × Int} (h : 0 ≤ i ∧ i < 2) : zqS i q = q := if_pos h
theorem zqS_f {i : Int} {q : Int × Int} (h : ¬ (0 ≤ i ∧ i < 2)) : zqS i q = (1, 0) := if_neg h
noncomputable def zq1 (P : Prop) (q : Int × Int) : Int × Int := zif P q (1, 0)
theorem zq1_t {P : Prop} {q : Int × Int} (h : P) : zq1 P q = q := zif_t h
theorem zq1_f {P : Prop} {q : Int × Int} (h : ¬ P) : zq1 P q = (1, 0) := zif_f h
theorem zaZ_up (us : Nat → Int) (k : Nat) : (fun j => zi (va_up us k 1 j)) = va_up (fun j => zi (us j)) k (vp_nar .boolean 1) := by
  funext j
  unfold va_up
  split <;> rfl
theorem zZk.sav {Y : zSys} {pn : Int} {Z : Nat → zSt} (h : zZk Y pn Z) {k : Nat} (hk : k < 2) : zZk (ySav Y k) pn (va_up Z (10 + k) (Z 0)) := by
  obtain ⟨h1, h2, h3, h4⟩ := h
  refine ⟨h1, ?_, fun i hi => ?_, fun j hj hu => ?_⟩
  · rw [va_up_ne _ _ (by omega)]
    exact h2
  · rw [va_up_ne _ _ (by unfold zPi; omega)]
    exact h3 i hi
  · have hu : va_up (yUs Y) k 1 j ≠ 0 := hu
    show va_up Z (10 + k) (Z 0) (10 + j) = va_up (ySl Y) k (yS Y) j
    by_cases e : j = k
    · subst e
      rw [va_up_self, va_up_self]
      exact h2
    · rw [va_up_ne _ _ e] at hu ⊢
      rw [va_up_ne _ _ (by omega)]
      exact h4 j hj hu
theorem zZk.und {Y : zSys} {pn : Int} {Z : Nat → zSt} (h : zZk Y pn Z) (hc : 0 < yPc Y ∧ yPc Y ≤ 8) : zZk (yUnd Y) ((pn + 8 - 1) % 8) (va_up Z 0 (Z (2 + ((pn + 8 - 1) % 8).toNat))) := by
  obtain ⟨h1, h2, h3, h4⟩ := h
  refine ⟨by omega, ?_, fun i hi => ?_, fun k hk hu => ?_⟩
  · rw [va_up_self]
    have := h3 0 (by omega)
    rw [show zPi pn 0 = 2 + ((pn + 8 - 1) % 8).toNat by unfold zPi; omega] at this
    exact this
  · have hi : (i : Int) < yPc Y - 1 := hi
    rw [va_up_ne _ _ (by unfold zPi; omega)]
    have := h3 (i + 1) (by omega)
    rw [show zPi pn (i + 1) = zPi ((pn + 8 - 1) % 8) i by unfold zPi; omega] at this
    exact this
  · rw [va_up_ne _ _ (by omega)]
    exact h4 k hk hu
theorem fOk.sav {γ : zG} {M M1 : zM} {U : Nat → Nat} {Y : zSys} {pn : Int} {Z : Nat → zSt} {iF oF : Nat → Int} {k : Nat} (hI : zIU U) (hZ : zZk Y pn Z) (hF : hFo γ M U pn (yPc Y) (yEc Y) (yEp Y)) (hX : hFx γ M U (yUs Y) iF (yIn Y) oF (yOn Y) Z) (hi1 : ∀ j : Nat, j < yIn Y → iF j = yIf Y j) (ho1 : ∀ j : Nat, j < yOn Y → oF j = yOf Y j) (hk : k < 2) (f : zFr M M1 (zFD (zUb U (10 + k)))) (q : hSt γ M1 (zUb U (10 + k)) (Z 0)) : fOk γ M (va_up M1 (U 3) (some (zaZ γ 2 (va_up (fun j => zi (yUs Y j)) k (vp_nar .boolean 1))))) U (ySav Y k) :=
  ⟨(f.ub (by omega)).uu (zFr.us (L := [3]) (zFr.up (by simp)) (by decide)), hI, pn, _, iF, oF, hZ.sav hk, (hF.fr f (zUd hI (by decide) (by omega))).fr (zFr.up (List.mem_singleton.mpr rfl)) (zUn hI (L := [3]) (by decide) (by decide) (by decide)), ((hX.st hI f (by omega) q).us (us' := va_up (yUs Y) k 1) hI (zFr.up (by simp)) (by rw [va_up_self, zaZ_up])), hi1, ho1⟩
theorem fOk.und {γ : zG} {M M1 M' : zM} {U : Nat → Nat} {Y : zSys} {pn : Int} {Z : Nat → zSt} {iF oF : Nat → Int} (hI : zIU U) (hZ : zZk Y pn Z) (hX : hFx γ M U (yUs Y) iF (yIn Y) oF (yOn Y) Z) (hi1 : ∀ j : Nat, j < yIn Y → iF j = yIf Y j) (ho1 : ∀ j : Nat, j < yOn Y → oF j = yOf Y j) (hc : 0 < yPc Y ∧ yPc Y ≤ 8) (f1 : zFr M M1 [U 0]) (h1 : hFo γ M1 U ((pn + 8 - 1) % 8) (yPc Y - 1) (yEc Y) (yEp Y)) (f : zFr M1 M' (zFD (zUb U 0))) (q : hSt γ M' (zUb U 0) (Z (2 + ((pn + 8 - 1) % 8).toNat))) : fOk γ M M' U (yUnd Y) :=
  ⟨(zFr.us (L := [0]) f1 (by decide)).uu (f.ub (by decide)), hI, _, _, iF, oF, hZ.und hc, h1.fr f (zUd hI (by decide) (by decide)), (hX.obj hI f1).st hI f (by decide) q, hi1, ho1⟩
theorem hAt_cgf {f g : Nat → Int} {n : Int} (h : ∀ j : Nat, j < n → f j = g j) : hAt f n = hAt g n := funext (hAt_cg h)
theorem rNew_cg {f g : Nat → Int} {n b e me : Int} (h : hAt f n = hAt g n) : rNew f n b e me = rNew g n b e me := by
  unfold rNew
  rw [h]
theorem dNew_cg {f g : Nat → Int} {n b e yr : Int} (h : hAt f n = hAt g n) : dNew f n b e yr = dNew g n b e yr := by
  unfold dNew
  rw [h]
theorem hNm_cg {f g : Nat → Int} {n b e : Int} (h : hAt f n = hAt g n) : hNm f n b e = hNm g n b e := by
  unfold hNm
  rw [h]
theorem hDm_cg {f g : Nat → Int} {n b e : Int} (h : hAt f n = hAt g n) : hDm f n b e = hDm g n b e := by
  unfold hDm
  rw [h]
theorem hNa_cg {S : zSt} {f g : Nat → Int} {n b e : Int} {i : Nat} (h : hAt f n = hAt g n) : hNa S f n b e i = hNa S g n b e i := by
  unfold hNa hIs
  rw [h]
/-- a name is taken -/
def zNT (S : zSt) (f : Nat → Int) (n : Int) : Prop := ∃ i : Nat, i < sRn S ∧ hNa S f n 0 n i
noncomputable def q_save (Y : zSys) (ss : Int) : Int × Int := zqS ss (0, sYr (yS Y))
noncomputable def y_save (Y : zSys) (ss : Int) : zSys := ySav Y ss.toNat
noncomputable def q_restore (Y : zSys) (ss : Int) : Int × Int := zqS ss (zq2 (yUs Y ss.toNat ≠ 0) (0, sYr (ySl Y ss.toNat)))
noncomputable def y_restore (Y : zSys) (ss : Int) : zSys := ySet (yRem Y) (ySl Y ss.toNat)
noncomputable def q_undo (Y : zSys) : Int × Int := if yPc Y = 0 then (1, 0) else (0, yPc Y - 1)
noncomputable def y_undo (Y : zSys) : zSys := if yPc Y = 0 then Y else yUnd Y
noncomputable def q_addReader (Y : zSys) (mm : Int) : Int × Int := zq1 (0 ≤ mm ∧ mm ≤ 2) (zq1 (0 < yIn Y ∧ yIn Y - 0 ≤ 4 ∧ hNm (yIf Y) (yIn Y) 0 (yIn Y)) (zq2 (sRn (yS Y) < 4 ∧ ¬ zNT (yS Y) (yIf Y) (yIn Y)) (0, sRn (yS Y))))
noncomputable def y_addReader (Y : zSys) (mm : Int) : zSys := ySI (ySet (yRem Y) (sAddR (yS Y) (rNew (yIf Y) (yIn Y) 0 (yIn Y) mm))) (yIf Y) 0
noncomputable def q_addDocument (Y : zSys) : Int × Int := zq1 (0 < yIn Y ∧ yIn Y - 0 ≤ 40 ∧ hDm (yIf Y) (yIn Y) 0 (yIn Y)) (zq2 (sDn (yS Y) < 8) (0, sDn (yS Y)))
noncomputable def y_addDocument (Y : zSys) : zSys := ySI (ySet (yRem Y) (sAddD (yS Y) (dNew (yIf Y) (yIn Y) 0 (yIn Y) (sYr (yS Y))))) (yIf Y) 0
