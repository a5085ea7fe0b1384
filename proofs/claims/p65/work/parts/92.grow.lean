/-! cells made for the face, numbered as they will be called -/
/-- the cells made so far are those with mk; the first, a, lay there before -/
def zGw (Mo : zM) (a : Nat) (U : Nat → Nat) (mk : Nat → Prop) (M : zM) : Prop := (mk 0 ∧ U 0 = a) ∧ (∀ i j, mk i → mk j → U i = U j → i = j) ∧ (∀ i, mk i → ∃ x, M (U i) = some x) ∧ (∀ i, mk i → i ≠ 0 → Mo (U i) = none) ∧ ∀ b, (∀ i, mk i → U i ≠ b) → M b = Mo b
/-- m cells A come in at lo -/
def zUx (U A : Nat → Nat) (lo m : Nat) : Nat → Nat := fun i => if lo ≤ i ∧ i < lo + m then A (i - lo) else U i
theorem zUx_o {U A : Nat → Nat} {lo m i : Nat} (h : ¬ (lo ≤ i ∧ i < lo + m)) : zUx U A lo m i = U i := if_neg h
theorem zUx_n {U A : Nat → Nat} {lo m r : Nat} (h : r < m) : zUx U A lo m (lo + r) = A r := by
  unfold zUx
  rw [if_pos (by omega), show lo + r - lo = r by omega]
theorem zGw.off {Mo M : zM} {a m : Nat} {U A : Nat → Nat} {mk : Nat → Prop} (h : zGw Mo a U mk M) (hA : ∀ r, r < m → M (A r) = none) : ∀ i, mk i → i ≠ 0 → U i ∉ a :: (List.range m).map A := by
  intro i hi i0 w
  obtain ⟨⟨g0, g1⟩, g2, g3, -, -⟩ := h
  rcases List.mem_cons.mp w with w | w
  · exact i0 (g2 i 0 hi g0 (w.trans g1.symm))
  · obtain ⟨r, h1, h2⟩ := zRm.mp w
    obtain ⟨x, hx⟩ := g3 i hi
    rw [← h2, hA r h1] at hx
    cases hx
theorem zGw.ext {Mo M M2 : zM} {a lo m : Nat} {U A : Nat → Nat} {mk mk' : Nat → Prop} (h : zGw Mo a U mk M) (hlo : 1 ≤ lo) (hmk : ∀ i, mk' i ↔ mk i ∨ (lo ≤ i ∧ i < lo + m)) (hdj : ∀ i, mk i → ¬ (lo ≤ i ∧ i < lo + m)) (hA : ∀ r, r < m → M (A r) = none) (hi : ∀ x y, x < m → y < m → A x = A y → x = y) (f : zFr M M2 (a :: (List.range m).map A)) (ha : ∃ x, M2 a = some x) (hs : ∀ r, r < m → ∃ x, M2 (A r) = some x) : zGw Mo a (zUx U A lo m) mk' M2 := by
  have of := h.off hA
  obtain ⟨⟨g0, g1⟩, g2, g3, g4, g5⟩ := h
  have old : ∀ i, mk i → zUx U A lo m i = U i := fun i q => zUx_o (hdj i q)
  have new : ∀ i, lo ≤ i ∧ i < lo + m → ∃ r, r < m ∧ i = lo + r ∧ zUx U A lo m i = A r := fun i q => ⟨i - lo, by omega, by omega, by
    have := zUx_n (U := U) (A := A) (lo := lo) (m := m) (r := i - lo) (by omega)
    rwa [show lo + (i - lo) = i by omega] at this⟩
  have ne : ∀ i r, mk i → r < m → U i ≠ A r := fun i r q hr w => by
    obtain ⟨x, hx⟩ := g3 i q
    rw [w, hA r hr] at hx
    cases hx
  refine ⟨⟨(hmk 0).mpr (.inl g0), (old 0 g0).trans g1⟩, fun i j q1 q2 w => ?_, fun i q => ?_, fun i q i0 => ?_, fun b q => ?_⟩
  · rcases (hmk i).mp q1 with q1 | q1
    · rcases (hmk j).mp q2 with q2 | q2
      · rw [old i q1, old j q2] at w
        exact g2 i j q1 q2 w
      · obtain ⟨r, r1, r2, r3⟩ := new j q2
        rw [old i q1, r3] at w
        exact absurd w (ne i r q1 r1)
    · obtain ⟨r, r1, r2, r3⟩ := new i q1
      rcases (hmk j).mp q2 with q2 | q2
      · rw [old j q2, r3] at w
        exact absurd w.symm (ne j r q2 r1)
      · obtain ⟨r', s1, s2, s3⟩ := new j q2
        rw [r3, s3] at w
        have := hi r r' r1 s1 w
        omega
  · rcases (hmk i).mp q with q | q
    · rw [old i q]
      by_cases e0 : i = 0
      · rw [e0, g1]
        exact ha
      · rw [f (U i) (of i q e0)]
        exact g3 i q
    · obtain ⟨r, r1, r2, r3⟩ := new i q
      rw [r3]
      exact hs r r1
  · rcases (hmk i).mp q with q | q
    · rw [old i q]
      exact g4 i q i0
    · obtain ⟨r, r1, r2, r3⟩ := new i q
      rw [r3, ← g5 (A r) (fun j hj => ne j r hj r1)]
      exact hA r r1
  · have q1 : ∀ i, mk i → U i ≠ b := fun i hi => by
      have := q i ((hmk i).mpr (.inl hi))
      rwa [old i hi] at this
    rw [← g5 b q1]
    refine f b fun w => ?_
    rcases List.mem_cons.mp w with w | w
    · exact q1 0 g0 (g1.trans w.symm)
    · obtain ⟨r, h1, h2⟩ := zRm.mp w
      exact q (lo + r) ((hmk _).mpr (.inr (by omega))) ((zUx_n h1).trans h2)
/-- what is told of M lies in the cells made so far, the first three aside -/
def zKp (U : Nat → Nat) (mk : Nat → Prop) (P : zM → Prop) : Prop := ∀ M M' S, zFr M M' S → (∀ i, mk i → 2 < i → U i ∉ S) → P M → P M'
theorem zKp.and {U : Nat → Nat} {mk : Nat → Prop} {P R : zM → Prop} (h : zKp U mk P) (q : zKp U mk R) : zKp U mk (fun M => P M ∧ R M) := fun M M' S f o w => ⟨h M M' S f o w.1, q M M' S f o w.2⟩
theorem zKp.ext {U A : Nat → Nat} {lo m : Nat} {mk mk' : Nat → Prop} {P : zM → Prop} (h : zKp U mk P) (hmk : ∀ i, mk' i ↔ mk i ∨ (lo ≤ i ∧ i < lo + m)) (hdj : ∀ i, mk i → ¬ (lo ≤ i ∧ i < lo + m)) : zKp (zUx U A lo m) mk' P := fun M M' S f o w => h M M' S f (fun i hi i0 => by
  have := o i ((hmk i).mpr (.inl hi)) i0
  rwa [zUx_o (hdj i hi)] at this) w
theorem zKp.st {γ : zG} {U D : Nat → Nat} {mk : Nat → Prop} {S : zSt} (h : ∀ j, j < 43 → ∃ i, mk i ∧ 2 < i ∧ D j = U i) : zKp U mk (fun M => hSt γ M D S) := fun M M' S f o w => w.fr f fun j hj => by
  obtain ⟨i, h1, h2, h3⟩ := h j hj
  rw [h3]
  exact o i h1 h2
theorem zKp.cell {U : Nat → Nat} {mk : Nat → Prop} {b i : Nat} {x : va_E} (h : mk i ∧ 2 < i) (q : b = U i) : zKp U mk (fun M => M b = some x) := fun M M' S f o w => f.at (by rw [q]; exact o i h.1 h.2) w
theorem zKp.by {γ : zG} {U : Nat → Nat} {mk : Nat → Prop} {b r i j : Nat} {f : Nat → Int} {n : Int} (h : mk i ∧ 2 < i) (h' : mk j ∧ 2 < j) (q : b = U i) (q' : r = U j) : zKp U mk (fun M => hBy γ M b r f n) := fun M M' S g o w => w.fr g (by rw [q]; exact o i h.1 h.2) (by rw [q']; exact o j h'.1 h'.2)
theorem zKp.cn {γ : zG} {U : Nat → Nat} {mk : Nat → Prop} {b r v i j k : Nat} {c : Int → Int} (h : mk i ∧ 2 < i) (h' : mk j ∧ 2 < j) (h2 : mk k ∧ 2 < k) (q : b = U i) (q' : r = U j) (q2 : v = U k) : zKp U mk (fun M => hCn γ M b r v c) := fun M M' S g o w => w.fr g (by rw [q]; exact o i h.1 h.2) (by rw [q']; exact o j h'.1 h'.2) (by rw [q2]; exact o k h2.1 h2.2)
theorem zKp.rq {γ : zG} {U : Nat → Nat} {mk : Nat → Prop} {b r v i j k : Nat} (h : mk i ∧ 2 < i) (h' : mk j ∧ 2 < j) (h2 : mk k ∧ 2 < k) (q : b = U i) (q' : r = U j) (q2 : v = U k) : zKp U mk (fun M => hRq γ M b r v) := fun M M' S g o w => w.fr g (by rw [q]; exact o i h.1 h.2) (by rw [q']; exact o j h'.1 h'.2) (by rw [q2]; exact o k h2.1 h2.2)

