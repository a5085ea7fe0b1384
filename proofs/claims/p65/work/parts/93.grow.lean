/-! cells made for the face, step by step -/
def zSg (Mo : zM) (a : Nat) (U : Nat → Nat) (mk : Nat → Prop) (P : zM → Prop) (M : zM) : Prop := zGw Mo a U mk M ∧ P M ∧ zKp U mk P
/-- m cells A are made, then a's field is put -/
theorem zSg.mk {Mo M M1 : zM} {a lo m : Nat} {U A : Nat → Nat} {mk mk' : Nat → Prop} {P R : zM → Prop} {y : va_E} (h : zSg Mo a U mk P M) (hlo : 1 ≤ lo) (hmk : ∀ i, mk' i ↔ mk i ∨ (lo ≤ i ∧ i < lo + m)) (hdj : ∀ i, mk i → ¬ (lo ≤ i ∧ i < lo + m)) (hA : ∀ r, r < m → M (A r) = none) (hi : ∀ x y, x < m → y < m → A x = A y → x = y) (f : zFr M M1 ((List.range m).map A)) (hs : ∀ r, r < m → ∃ x, M1 (A r) = some x) (hR : R M1) (kR : zKp (zUx U A lo m) mk' R) : zSg Mo a (zUx U A lo m) mk' (fun M => P M ∧ R M) (va_up M1 a (some y)) := by
  obtain ⟨h1, h2, h3⟩ := h
  have f2 : zFr M (va_up M1 a (some y)) (a :: (List.range m).map A) := fun b hb => by
    have n1 : b ≠ a := fun w => hb (by rw [w]; exact List.mem_cons_self)
    rw [va_up_ne _ _ n1]
    exact f b (fun w => hb (List.mem_cons_of_mem _ w))
  have g := h1.ext (M2 := va_up M1 a (some y)) hlo hmk hdj hA hi f2 ⟨_, va_up_self _ _ _⟩ (fun r hr => by
    by_cases w : A r = a
    · rw [w]
      exact ⟨_, va_up_self _ _ _⟩
    · rw [va_up_ne _ _ w]
      exact hs r hr)
  refine ⟨g, ⟨h3 M _ _ f2 (fun i q i2 => h1.off hA i q (by omega)) h2, kR M1 _ [a] (zFr.u1 zFr.rf (by simp)) (fun i q i0 w => ?_) hR⟩, (h3.ext hmk hdj).and kR⟩
  have := g.2.1 i 0 q g.1.1 ((List.mem_singleton.mp w).trans g.1.2.symm)
  omega
theorem zSg.a {Mo M : zM} {a q : Nat} {U : Nat → Nat} {mk : Nat → Prop} {P : zM → Prop} (h : zSg Mo a U mk P M) (hq : M q = none) : a ≠ q := fun w => by
  obtain ⟨x, hx⟩ := h.1.2.2.1 0 h.1.1.1
  rw [h.1.1.2, w, hq] at hx
  cases hx
/-- a's field is put -/
theorem zSg.put {Mo M : zM} {a : Nat} {U : Nat → Nat} {mk : Nat → Prop} {P : zM → Prop} {y : va_E} (h : zSg Mo a U mk P M) : zSg Mo a U mk P (va_up M a (some y)) := by
  obtain ⟨⟨⟨g0, g1⟩, g2, g3, g4, g5⟩, h2, h3⟩ := h
  refine ⟨⟨⟨g0, g1⟩, g2, fun i q => ?_, g4, fun b q => ?_⟩, h3 M _ [a] (zFr.u1 zFr.rf (by simp)) (fun i q i0 w => by have := g2 i 0 q g0 ((List.mem_singleton.mp w).trans g1.symm); omega) h2, h3⟩
  · by_cases w : U i = a
    · rw [w]
      exact ⟨_, va_up_self _ _ _⟩
    · rw [va_up_ne _ _ w]
      exact g3 i q
  · rw [va_up_ne _ _ (fun w => q 0 g0 (g1.trans w.symm))]
    exact g5 b q
/-- a row is made whose entries will change -/
theorem zSg.rw {Mo M : zM} {a lo q : Nat} {U : Nat → Nat} {mk mk' : Nat → Prop} {P : zM → Prop} {x y : va_E} (h : zSg Mo a U mk P M) (hlo : 1 ≤ lo) (hmk : ∀ i, mk' i ↔ mk i ∨ (lo ≤ i ∧ i < lo + 1)) (hdj : ∀ i, mk i → ¬ (lo ≤ i ∧ i < lo + 1)) (hq : M q = none) : zSg Mo a (zUx U (fun _ => q) lo 1) mk' (fun M => P M ∧ True) (va_up (va_up M q (some x)) a (some y)) :=
  h.mk (R := fun _ => True) hlo hmk hdj (fun _ _ => hq) (fun i j h1 h2 _ => by omega) (zFr.u1 zFr.rf (zRm.mpr ⟨0, by omega, rfl⟩)) (fun _ _ => ⟨_, va_up_self _ _ _⟩) trivial (fun _ _ _ _ _ _ => trivial)
/-- one row is made -/
theorem zSg.row {Mo M : zM} {a lo q : Nat} {U : Nat → Nat} {mk mk' : Nat → Prop} {P : zM → Prop} {x y : va_E} (h : zSg Mo a U mk P M) (hlo : 3 ≤ lo) (hmk : ∀ i, mk' i ↔ mk i ∨ (lo ≤ i ∧ i < lo + 1)) (hdj : ∀ i, mk i → ¬ (lo ≤ i ∧ i < lo + 1)) (hq : M q = none) : zSg Mo a (zUx U (fun _ => q) lo 1) mk' (fun M => P M ∧ M q = some x) (va_up (va_up M q (some x)) a (some y)) :=
  h.mk (by omega) hmk hdj (fun _ _ => hq) (fun i j h1 h2 _ => by omega) (zFr.u1 zFr.rf (zRm.mpr ⟨0, by omega, rfl⟩)) (fun _ _ => ⟨_, va_up_self _ _ _⟩) (va_up_self _ _ _) (zKp.cell (i := lo) ⟨(hmk lo).mpr (.inr (by omega)), by omega⟩ (zUx_n (A := fun _ => q) (r := 0) (by omega)).symm)
/-- a buffer is made -/
theorem zSg.by {γ : zG} {Mo M M1 : zM} {a lo q r : Nat} {U : Nat → Nat} {mk mk' : Nat → Prop} {P : zM → Prop} {o y : va_E} {f : Nat → Int} {n : Int} (h : zSg Mo a U mk P M) (hlo : 3 ≤ lo) (hmk : ∀ i, mk' i ↔ mk i ∨ (lo ≤ i ∧ i < lo + 2)) (hdj : ∀ i, mk i → ¬ (lo ≤ i ∧ i < lo + 2)) (hq : M q = none) (hr : va_up M q (some o) r = none) (g : zFr (va_up M q (some o)) M1 [q, r]) (hB : hBy γ M1 q r f n) : zSg Mo a (zUx U (fun j => if j = 0 then q else r) lo 2) mk' (fun M => P M ∧ hBy γ M q r f n) (va_up M1 a (some y)) := by
  have nq : r ≠ q := fun w => by
    rw [w, va_up_self] at hr
    cases hr
  rw [va_up_ne _ _ nq] at hr
  have m0 : q ∈ (List.range 2).map (fun j => if j = 0 then q else r) := zRm.mpr ⟨0, by omega, rfl⟩
  have m1 : r ∈ (List.range 2).map (fun j => if j = 0 then q else r) := zRm.mpr ⟨1, by omega, rfl⟩
  refine h.mk (by omega) hmk hdj (fun j hj => ?_) (fun i j h1 h2 w => ?_) ((zFr.u1 zFr.rf m0).tr g (fun _ h => h) (fun b hb => ?_)) (fun j hj => ?_) hB (zKp.by (i := lo) (j := lo + 1) ⟨(hmk lo).mpr (.inr (by omega)), by omega⟩ ⟨(hmk (lo + 1)).mpr (.inr (by omega)), by omega⟩ (zUx_n (A := fun j => if j = 0 then q else r) (r := 0) (by omega)).symm (zUx_n (A := fun j => if j = 0 then q else r) (r := 1) (by omega)).symm)
  · by_cases e1 : j = 0
    · rw [if_pos e1]
      exact hq
    · rw [if_neg e1]
      exact hr
  · by_cases e1 : i = 0 <;> by_cases e2 : j = 0
    · omega
    · rw [if_pos e1, if_neg e2] at w
      exact absurd w.symm nq
    · rw [if_neg e1, if_pos e2] at w
      exact absurd w nq
    · omega
  · rcases List.mem_cons.mp hb with w | w
    · rw [w]
      exact m0
    · rw [List.mem_singleton.mp w]
      exact m1
  · by_cases e1 : j = 0
    · rw [if_pos e1]
      exact ⟨_, hB.1⟩
    · rw [if_neg e1]
      exact ⟨_, hB.2⟩
/-- a state is made -/
theorem zSg.blk {γ : zG} {Mo M M1 : zM} {a lo q : Nat} {U D : Nat → Nat} {mk mk' : Nat → Prop} {P : zM → Prop} {o y : va_E} {S : zSt} (h : zSg Mo a U mk P M) (hlo : 3 ≤ lo) (hmk : ∀ i, mk' i ↔ mk i ∨ (lo ≤ i ∧ i < lo + 43)) (hdj : ∀ i, mk i → ¬ (lo ≤ i ∧ i < lo + 43)) (hq : M q = none) (g : hGr (va_up M q (some o)) M1 q D 43) (hS : hSt γ M1 D S) : zSg Mo a (zUx U D lo 43) mk' (fun M => P M ∧ hSt γ M D S) (va_up M1 a (some y)) := by
  obtain ⟨g1, g2, g3, g4, g5⟩ := g
  have m0 : q ∈ (List.range 43).map D := zRm.mpr ⟨0, by omega, g1⟩
  refine h.mk (by omega) hmk hdj (fun j hj => ?_) g2 ((zFr.u1 zFr.rf m0).tr g4 (fun _ h => h) (fun _ h => h)) g5 hS (zKp.st fun j hj => ⟨lo + j, (hmk (lo + j)).mpr (.inr (by omega)), by omega, (zUx_n hj).symm⟩)
  by_cases e1 : j = 0
  · rw [e1, g1]
    exact hq
  · have h1 := g3 j (by omega) hj
    have n1 : D j ≠ q := fun w => by
      rw [w, va_up_self] at h1
      cases h1
    rwa [va_up_ne _ _ n1] at h1

