/-! a sound whole stays so -/
theorem zqR_i {S : zSt} {r : Int} {q : Int × Int} (h : (zqR S r q).1 = 0) : (0 ≤ r ∧ r < sRn S) ∧ q.1 = 0 := by
  by_cases g : 0 ≤ r ∧ r < sRn S
  · rw [zqR_t g] at h
    exact ⟨g, h⟩
  · rw [zqR_f g] at h
    exact absurd h (by decide)
theorem zqD_i {S : zSt} {r : Int} {q : Int × Int} (h : (zqD S r q).1 = 0) : (0 ≤ r ∧ r < sDn S) ∧ q.1 = 0 := by
  by_cases g : 0 ≤ r ∧ r < sDn S
  · rw [zqD_t g] at h
    exact ⟨g, h⟩
  · rw [zqD_f g] at h
    exact absurd h (by decide)
theorem zqS_i {r : Int} {q : Int × Int} (h : (zqS r q).1 = 0) : (0 ≤ r ∧ r < 2) ∧ q.1 = 0 := by
  by_cases g : 0 ≤ r ∧ r < 2
  · rw [zqS_t g] at h
    exact ⟨g, h⟩
  · rw [zqS_f g] at h
    exact absurd h (by decide)
theorem zq2_i {P : Prop} {q : Int × Int} (h : (zq2 P q).1 = 0) : P ∧ q.1 = 0 := by
  by_cases g : P
  · rw [zq2_t g] at h
    exact ⟨g, h⟩
  · rw [zq2_f g] at h
    exact absurd h (by decide)
theorem zq1_i {P : Prop} {q : Int × Int} (h : (zq1 P q).1 = 0) : P ∧ q.1 = 0 := by
  by_cases g : P
  · rw [zq1_t g] at h
    exact ⟨g, h⟩
  · rw [zq1_f g] at h
    exact absurd h (by decide)
theorem ok_appendInput {Y : zSys} (h : yOk Y) (a b c d e : Int) : yOk (y_appendInput Y a b c d e) := h
theorem ok_truncateInput {Y : zSys} (h : yOk Y) (x : Int) : yOk (y_truncateInput Y x) := h
theorem ok_encode {Y : zSys} (h : yOk Y) (r d : Int) : yOk (y_encode Y r d) := h
theorem ok_decode {Y : zSys} (h : yOk Y) (r : Int) : yOk (y_decode Y r) := h
theorem ok_writeExpected {Y : zSys} (h : yOk Y) (r x : Int) : yOk (y_writeExpected Y r x) := h
theorem ok_endYear {Y : zSys} (h : yOk Y) : yOk (y_endYear Y) := h.rem.set h.1.year
theorem rOk_at {Y : zSys} (h : yOk Y) {r : Int} (g : 0 ≤ r ∧ r < sRn (yS Y)) : zRok (sRd (yS Y) r.toNat) ∧ zRki (sRd (yS Y) r.toNat) (zGk (sDc (yS Y)) (sDn (yS Y)).toNat) := h.1.2.2 r.toNat (by omega)
theorem ok_forget {Y : zSys} (h : yOk Y) {r : Int} (q : (q_forget Y r).1 = 0) : yOk (y_forget Y r) := by
  obtain ⟨g, -⟩ := zqR_i q
  obtain ⟨⟨a1, a2, a3, a4⟩, a5⟩ := rOk_at h g
  refine h.rem.set (h.1.setR ⟨a1, a2, fun x => ?_, a4⟩ fun k hk => absurd rfl hk)
  show (0 : Int) ≤ 0 ∧ (0 : Int) ≤ 999
  omega
theorem ok_setEscapeMethod {Y : zSys} (h : yOk Y) {r m : Int} (q : (q_setEscapeMethod Y r m).1 = 0) : yOk (y_setEscapeMethod Y r m) := by
  obtain ⟨g, q⟩ := zqR_i q
  obtain ⟨g2, -⟩ := zq2_i q
  obtain ⟨⟨a1, a2, a3, a4⟩, a5⟩ := rOk_at h g
  exact h.rem.set (h.1.setR ⟨g2, a2, a3, a4⟩ a5)
theorem ok_trn {Y : zSys} (h : yOk Y) {r d : Int} (g : 0 ≤ r ∧ r < sRn (yS Y)) (g2 : 0 ≤ d ∧ d < sDn (yS Y)) : yOk (ySet (yRem Y) (sTrn (yS Y) r d)) := by
  obtain ⟨k1, k2⟩ := h.1.trn (i := r.toNat) (d := d.toNat) (by omega) (by omega) d
  exact h.rem.set (h.1.setR k1 k2)
theorem ok_train {Y : zSys} (h : yOk Y) {r d : Int} (q : (q_train Y r d).1 = 0) : yOk (y_train Y r d) := by
  obtain ⟨g, q⟩ := zqR_i q
  obtain ⟨g2, -⟩ := zqD_i q
  exact ok_trn h g g2
theorem ok_learn {Y : zSys} (h : yOk Y) {r d : Int} (q : (q_learn Y r d).1 = 0) : yOk (y_learn Y r d) := by
  obtain ⟨g, q⟩ := zqR_i q
  obtain ⟨g2, -⟩ := zqD_i q
  exact ok_trn h g g2
theorem ok_merge {Y : zSys} (h : yOk Y) {r o : Int} (q : (q_merge Y r o).1 = 0) : yOk (y_merge Y r o) := by
  obtain ⟨g, q⟩ := zqR_i q
  obtain ⟨g2, q⟩ := zqR_i q
  obtain ⟨⟨a1, a2, a3, a4⟩, a5⟩ := rOk_at h g
  obtain ⟨⟨b1, b2, b3, b4⟩, b5⟩ := rOk_at h g2
  refine h.rem.set (h.1.setR ⟨b1, b2, fun x => ?_, b4⟩ fun k hk => ?_)
  · have := a3 x
    have := b3 x
    show 0 ≤ min (rC (sRd (yS Y) o.toNat) x + rC (sRd (yS Y) r.toNat) x) 999 ∧ min (rC (sRd (yS Y) o.toNat) x + rC (sRd (yS Y) r.toNat) x) 999 ≤ 999
    omega
  · have hk : min (rC (sRd (yS Y) o.toNat) k + rC (sRd (yS Y) r.toNat) k) 999 ≠ 0 := hk
    by_cases e : rC (sRd (yS Y) o.toNat) k = 0
    · exact a5 k (by omega)
    · exact b5 k e
theorem ok_save {Y : zSys} (h : yOk Y) {i : Int} (q : (q_save Y i).1 = 0) : yOk (y_save Y i) := by
  obtain ⟨h1, h2, h3, h4⟩ := h
  refine ⟨h1, h2, h3, fun k hk => ?_⟩
  show (va_up (yUs Y) i.toNat 1 k = 0 ∨ va_up (yUs Y) i.toNat 1 k = 1) ∧ (va_up (yUs Y) i.toNat 1 k ≠ 0 → zOk (va_up (ySl Y) i.toNat (yS Y) k))
  unfold va_up
  split
  · exact ⟨.inr rfl, fun _ => h1⟩
  · exact h4 k hk
theorem ok_restore {Y : zSys} (h : yOk Y) {i : Int} (q : (q_restore Y i).1 = 0) : yOk (y_restore Y i) := by
  obtain ⟨g, q⟩ := zqS_i q
  obtain ⟨g2, -⟩ := zq2_i q
  exact h.rem.set ((h.2.2.2 i.toNat (by omega)).2 g2)
theorem ok_undo {Y : zSys} (h : yOk Y) : yOk (y_undo Y) := by
  unfold y_undo
  split
  · exact h
  · rename_i e
    obtain ⟨h1, h2, h3, h4⟩ := h
    refine ⟨h3 0 (by omega), ?_, fun i hi => ?_, h4⟩
    · show 0 ≤ yPc Y - 1 ∧ yPc Y - 1 ≤ 8
      omega
    · have hi : (i : Int) < yPc Y - 1 := hi
      exact h3 (i + 1) (by omega)
theorem ok_addReader {Y : zSys} (h : yOk Y) {m : Int} (q : (q_addReader Y m).1 = 0) : yOk (y_addReader Y m) := by
  obtain ⟨g, q⟩ := zq1_i q
  obtain ⟨g2, q⟩ := zq1_i q
  obtain ⟨g3, -⟩ := zq2_i q
  exact h.rem.set (h.1.addR g3.1 (rNew_ok ⟨g2.1, g2.2.1⟩ g g2.2.2) rfl)
theorem ok_addDocument {Y : zSys} (h : yOk Y) (q : (q_addDocument Y).1 = 0) : yOk (y_addDocument Y) := by
  obtain ⟨g, q⟩ := zq1_i q
  obtain ⟨g2, -⟩ := zq2_i q
  exact h.rem.set (h.1.addD g2 (dNew_ok ⟨by omega, by omega⟩))
theorem zpA_ok {f : Nat → Int} {n : Int} (hO : hBo f n) : ∀ (t : Nat) (S : zSt) (e : Int), 0 ≤ e ∧ e ≤ n → zOk S → (zpA f n t S e).1 = 0 → zOk (zpA f n t S e).2.2.1
  | 0, S, e, _, hk, _ => hk
  | t + 1, S, e, he, hk, h => by
    unfold zpA at h ⊢
    by_cases g : ztK f n e = 0
    · rw [if_pos g]
      exact hk
    · rw [if_neg g] at h ⊢
      by_cases g2 : (zpS f n S e).1 = 0
      · rw [if_pos g2] at h ⊢
        have q := zpS_ok hO he hk g2
        exact zpA_ok hO t _ _ ⟨by have := q.2; omega, q.2.2⟩ q.1 h
      · rw [if_neg g2] at h
        exact absurd h g2
theorem ok_load {γ : zG} {M : zM} {U : Nat → Nat} {Y : zSys} (hc : hFc γ M U Y) (h : yOk Y) : yOk (y_load Y) := by
  obtain ⟨-, pn, Z, iF, oF, -, -, hX, hi1, -⟩ := hc
  have hO := hX.2.2.2.1.2
  unfold y_load
  split
  · rename_i g
    rw [← zpA_cg (hAt_cgf hi1)] at g ⊢
    exact (show yOk (yRem _) from (yOk.ld h _ _ _).rem).set (zpA_ok hO _ _ _ ⟨by omega, hO.1.1⟩ zS0_ok g)
  · exact h

