/-! cells made for the face: the blocks of the loops -/
/-- m cells A are made, nothing else is put -/
theorem zSg.mk0 {Mo M M1 : zM} {a lo m : Nat} {U A : Nat → Nat} {mk mk' : Nat → Prop} {P R : zM → Prop} {x : va_E} (h : zSg Mo a U mk P M) (hlo : 1 ≤ lo) (hmk : ∀ i, mk' i ↔ mk i ∨ (lo ≤ i ∧ i < lo + m)) (hdj : ∀ i, mk i → ¬ (lo ≤ i ∧ i < lo + m)) (hA : ∀ r, r < m → M (A r) = none) (hi : ∀ x y, x < m → y < m → A x = A y → x = y) (f : zFr M M1 ((List.range m).map A)) (ha : M1 a = some x) (hs : ∀ r, r < m → ∃ x, M1 (A r) = some x) (hR : R M1) (kR : zKp (zUx U A lo m) mk' R) : zSg Mo a (zUx U A lo m) mk' (fun M => P M ∧ R M) M1 := by
  obtain ⟨h1, h2, h3⟩ := h
  have f2 : zFr M M1 (a :: (List.range m).map A) := fun b hb => f b (fun w => hb (List.mem_cons_of_mem _ w))
  exact ⟨h1.ext hlo hmk hdj hA hi f2 ⟨_, ha⟩ hs, ⟨h3 M _ _ f2 (fun i q i2 => h1.off hA i q (by omega)) h2, hR⟩, (h3.ext hmk hdj).and kR⟩
/-- an entry of one of the first rows is put -/
theorem zSg.ent {Mo M : zM} {a b w : Nat} {U : Nat → Nat} {mk : Nat → Prop} {P : zM → Prop} {y : va_E} (h : zSg Mo a U mk P M) (hw : mk w ∧ w ≤ 2) (hb : b = U w) : zSg Mo a U mk P (va_up M b (some y)) := by
  obtain ⟨⟨⟨g0, g1⟩, g2, g3, g4, g5⟩, h2, h3⟩ := h
  subst hb
  refine ⟨⟨⟨g0, g1⟩, g2, fun i q => ?_, g4, fun b q => ?_⟩, h3 M _ [U w] (zFr.u1 zFr.rf (by simp)) (fun i q i0 v => by have := g2 i w q hw.1 (List.mem_singleton.mp v); omega) h2, h3⟩
  · by_cases v : U i = U w
    · rw [v]
      exact ⟨_, va_up_self _ _ _⟩
    · rw [va_up_ne _ _ v]
      exact g3 i q
  · rw [va_up_ne _ _ (fun v => q w hw.1 v.symm)]
    exact g5 b q
/-- a state is made, its cell goes into one of the first rows -/
theorem zSg.blkE {γ : zG} {Mo M M1 : zM} {a b w lo q : Nat} {U D : Nat → Nat} {mk mk' : Nat → Prop} {P : zM → Prop} {o y x : va_E} {S : zSt} (h : zSg Mo a U mk P M) (hlo : 3 ≤ lo) (hmk : ∀ i, mk' i ↔ mk i ∨ (lo ≤ i ∧ i < lo + 43)) (hdj : ∀ i, mk i → ¬ (lo ≤ i ∧ i < lo + 43)) (hq : M q = none) (g : hGr (va_up M q (some o)) M1 q D 43) (ha : M1 a = some x) (hS : hSt γ M1 D S) (hw : mk w ∧ w ≤ 2) (hb : b = U w) : zSg Mo a (zUx U D lo 43) mk' (fun M => P M ∧ hSt γ M D S) (va_up M1 b (some y)) := by
  obtain ⟨g1, g2, g3, g4, g5⟩ := g
  have m0 : q ∈ (List.range 43).map D := zRm.mpr ⟨0, by omega, g1⟩
  have z := h.mk0 (mk' := mk') (lo := lo) (R := fun M => hSt γ M D S) (by omega) hmk hdj (fun j hj => ?_) g2 ((zFr.u1 zFr.rf m0).tr g4 (fun _ h => h) (fun _ h => h)) ha g5 hS (zKp.st fun j hj => ⟨lo + j, (hmk (lo + j)).mpr (.inr (by omega)), by omega, (zUx_n hj).symm⟩)
  · exact z.ent (w := w) ⟨(hmk w).mpr (.inl hw.1), hw.2⟩ (hb.trans (zUx_o (hdj w hw.1)).symm)
  by_cases e1 : j = 0
  · rw [e1, g1]
    exact hq
  · have h1 := g3 j (by omega) hj
    have n1 : D j ≠ q := fun v => by
      rw [v, va_up_self] at h1
      cases h1
    rwa [va_up_ne _ _ n1] at h1

