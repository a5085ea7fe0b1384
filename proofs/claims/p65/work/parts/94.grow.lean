/-! cells made for the face: the first state, counts, a ranking, a chance -/
theorem hSt.some {γ : zG} {M : zM} {D : Nat → Nat} {S : zSt} (h : hSt γ M D S) : ∀ j, j < 43 → ∃ x, M (D j) = some x := by
  obtain ⟨Rs, Ds, ⟨h0, h1, h2, h3, h4⟩, -, -⟩ := h
  intro j hj
  by_cases e1 : j < 3
  · have : j = 0 ∨ j = 1 ∨ j = 2 := by omega
    rcases this with rfl | rfl | rfl
    · exact ⟨_, h0⟩
    · exact ⟨_, h1⟩
    · exact ⟨_, h2⟩
  · by_cases e2 : j < 27
    · obtain ⟨i, r, hi, hr, rfl⟩ : ∃ i r, i < 4 ∧ r < 6 ∧ j = 3 + 6 * i + r := ⟨(j - 3) / 6, (j - 3) % 6, by omega, by omega, by omega⟩
      obtain ⟨a0, ⟨g1, a1, -⟩, ⟨-, n, ks, vs, ⟨a2, a3, a4⟩, -, -⟩, g5, a5, -⟩ := h3 i hi
      have : r = 0 ∨ r = 1 ∨ r = 2 ∨ r = 3 ∨ r = 4 ∨ r = 5 := by omega
      rcases this with rfl | rfl | rfl | rfl | rfl | rfl
      · exact ⟨_, a0⟩
      · exact ⟨_, a1⟩
      · exact ⟨_, a2⟩
      · exact ⟨_, a3⟩
      · exact ⟨_, a4⟩
      · exact ⟨_, a5⟩
    · obtain ⟨i, r, hi, hr, rfl⟩ : ∃ i r, i < 8 ∧ r < 2 ∧ j = 27 + 2 * i + r := ⟨(j - 27) / 2, (j - 27) % 2, by omega, by omega, by omega⟩
      obtain ⟨sy, ⟨a0, a1⟩, -⟩ := h4 i hi
      have : r = 0 ∨ r = 1 := by omega
      rcases this with rfl | rfl
      · exact ⟨_, a0⟩
      · rw [show 27 + 2 * i + 1 = 28 + 2 * i by omega]
        exact ⟨_, a1⟩
theorem zSg.fst {γ : zG} {Mo M M1 : zM} {a lo : Nat} {U D : Nat → Nat} {mk mk' : Nat → Prop} {P : zM → Prop} {y : va_E} {S : zSt} (h : zSg Mo a U mk P M) (hlo : 3 ≤ lo) (hmk : ∀ i, mk' i ↔ mk i ∨ (lo ≤ i ∧ i < lo + 43)) (hdj : ∀ i, mk i → ¬ (lo ≤ i ∧ i < lo + 43)) (hD : ∀ j, j < 43 → M (D j) = none) (hI : zInj D) (f : zFr M M1 (zFD D)) (hS : hSt γ M1 D S) : zSg Mo a (zUx U D lo 43) mk' (fun M => P M ∧ hSt γ M D S) (va_up M1 a (some y)) :=
  h.mk (by omega) hmk hdj hD hI f hS.some hS (zKp.st fun j hj => ⟨lo + j, (hmk (lo + j)).mpr (.inr (by omega)), by omega, (zUx_n hj).symm⟩)
/-- one cell is made and filled -/
theorem zSg.one {Mo M M1 : zM} {a lo q : Nat} {U : Nat → Nat} {mk mk' : Nat → Prop} {P : zM → Prop} {o x y : va_E} (h : zSg Mo a U mk P M) (hlo : 3 ≤ lo) (hmk : ∀ i, mk' i ↔ mk i ∨ (lo ≤ i ∧ i < lo + 1)) (hdj : ∀ i, mk i → ¬ (lo ≤ i ∧ i < lo + 1)) (hq : M q = none) (g : zFr (va_up M q (some o)) M1 [q]) (hx : M1 q = some x) : zSg Mo a (zUx U (fun _ => q) lo 1) mk' (fun M => P M ∧ M q = some x) (va_up M1 a (some y)) := by
  have m0 : q ∈ (List.range 1).map (fun _ => q) := zRm.mpr ⟨0, by omega, rfl⟩
  exact h.mk (by omega) hmk hdj (fun _ _ => hq) (fun i j h1 h2 _ => by omega) ((zFr.u1 zFr.rf m0).tr g (fun _ h => h) (fun b hb => by rw [List.mem_singleton.mp hb]; exact m0)) (fun _ _ => ⟨_, hx⟩) hx (zKp.cell (i := lo) ⟨(hmk lo).mpr (.inr (by omega)), by omega⟩ (zUx_n (A := fun _ => q) (r := 0) (by omega)).symm)
def zA3 (q k v : Nat) : Nat → Nat := fun j => if j = 0 then q else if j = 1 then k else v
/-- three cells are made -/
theorem zSg.b3 {Mo M M1 : zM} {a lo q k v : Nat} {U : Nat → Nat} {mk mk' : Nat → Prop} {P R : zM → Prop} {o y x0 x1 x2 : va_E} (h : zSg Mo a U mk P M) (hlo : 3 ≤ lo) (hmk : ∀ i, mk' i ↔ mk i ∨ (lo ≤ i ∧ i < lo + 3)) (hdj : ∀ i, mk i → ¬ (lo ≤ i ∧ i < lo + 3)) (hq : M q = none) (hk : va_up M q (some o) k = none) (hv : va_up M q (some o) v = none) (kv : k ≠ v) (g : zFr (va_up M q (some o)) M1 [q, k, v]) (p0 : M1 q = some x0) (p1 : M1 k = some x1) (p2 : M1 v = some x2) (hR : R M1) (kR : ∀ U' : Nat → Nat, q = U' lo → k = U' (lo + 1) → v = U' (lo + 2) → (mk' lo ∧ 2 < lo) → (mk' (lo + 1) ∧ 2 < lo + 1) → (mk' (lo + 2) ∧ 2 < lo + 2) → zKp U' mk' R) : zSg Mo a (zUx U (zA3 q k v) lo 3) mk' (fun M => P M ∧ R M) (va_up M1 a (some y)) := by
  have nk : k ≠ q := fun w => by
    rw [w, va_up_self] at hk
    cases hk
  have nv : v ≠ q := fun w => by
    rw [w, va_up_self] at hv
    cases hv
  rw [va_up_ne _ _ nk] at hk
  rw [va_up_ne _ _ nv] at hv
  have c : ∀ j, j < 3 → (j = 0 ∧ zA3 q k v j = q) ∨ (j = 1 ∧ zA3 q k v j = k) ∨ (j = 2 ∧ zA3 q k v j = v) := fun j hj => by
    have : j = 0 ∨ j = 1 ∨ j = 2 := by omega
    rcases this with rfl | rfl | rfl
    · exact .inl ⟨rfl, rfl⟩
    · exact .inr (.inl ⟨rfl, rfl⟩)
    · exact .inr (.inr ⟨rfl, rfl⟩)
  have m0 : q ∈ (List.range 3).map (zA3 q k v) := zRm.mpr ⟨0, by omega, rfl⟩
  have m1 : k ∈ (List.range 3).map (zA3 q k v) := zRm.mpr ⟨1, by omega, rfl⟩
  have m2 : v ∈ (List.range 3).map (zA3 q k v) := zRm.mpr ⟨2, by omega, rfl⟩
  have mm := fun i (hi : lo ≤ i ∧ i < lo + 3) => (hmk i).mpr (.inr hi)
  refine h.mk (by omega) hmk hdj (fun j hj => ?_) (fun i j h1 h2 w => ?_) ((zFr.u1 zFr.rf m0).tr g (fun _ h => h) (fun b hb => ?_)) (fun j hj => ?_) hR (kR _ (zUx_n (A := zA3 q k v) (r := 0) (by omega)).symm (zUx_n (A := zA3 q k v) (r := 1) (by omega)).symm (zUx_n (A := zA3 q k v) (r := 2) (by omega)).symm ⟨mm _ (by omega), by omega⟩ ⟨mm _ (by omega), by omega⟩ ⟨mm _ (by omega), by omega⟩)
  · rcases c j hj with ⟨-, w⟩ | ⟨-, w⟩ | ⟨-, w⟩ <;> rw [w] <;> assumption
  · rcases c i h1 with ⟨i1, i2⟩ | ⟨i1, i2⟩ | ⟨i1, i2⟩ <;> rcases c j h2 with ⟨j1, j2⟩ | ⟨j1, j2⟩ | ⟨j1, j2⟩ <;> rw [i2, j2] at w
    · omega
    · exact absurd w.symm nk
    · exact absurd w.symm nv
    · exact absurd w nk
    · omega
    · exact absurd w kv
    · exact absurd w nv
    · exact absurd w.symm kv
    · omega
  · simp only [List.mem_cons, List.not_mem_nil, or_false] at hb
    rcases hb with w | w | w <;> rw [w] <;> assumption
  · rcases c j hj with ⟨-, w⟩ | ⟨-, w⟩ | ⟨-, w⟩ <;> rw [w]
    · exact ⟨_, p0⟩
    · exact ⟨_, p1⟩
    · exact ⟨_, p2⟩

