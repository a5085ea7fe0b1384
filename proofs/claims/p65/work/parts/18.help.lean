/-! frames of maps, small helpers -/
def zFr (M M' : zM) (S : List Nat) : Prop := ∀ b, b ∉ S → M' b = M b
theorem zFr.rf {M : zM} {S : List Nat} : zFr M M S := fun _ _ => rfl
theorem zFr.tr {M M1 M2 : zM} {S S1 S2 : List Nat} (h1 : zFr M M1 S1) (h2 : zFr M1 M2 S2) (s1 : ∀ b, b ∈ S1 → b ∈ S) (s2 : ∀ b, b ∈ S2 → b ∈ S) : zFr M M2 S := fun b hb => (h2 b fun q => hb (s2 b q)).trans (h1 b fun q => hb (s1 b q))
theorem zFr.up {M : zM} {a : Nat} {e : Option va_E} {S : List Nat} (h : a ∈ S) : zFr M (va_up M a e) S := fun b hb => va_up_ne _ _ (fun q => hb (by rw [q]; exact h))
theorem zFr.u2 {M M1 : zM} {a k : Nat} {e1 e2 : Option va_E} {S : List Nat} (h : zFr M M1 S) (h1 : a ∈ S) (h2 : k ∈ S) : zFr M (va_up (va_up M1 a e1) k e2) S := (h.tr (zFr.up h1) (fun _ h => h) (fun _ h => h)).tr (zFr.up h2) (fun _ h => h) (fun _ h => h)
theorem zFr.u1 {M M1 : zM} {a : Nat} {e1 : Option va_E} {S : List Nat} (h : zFr M M1 S) (h1 : a ∈ S) : zFr M (va_up M1 a e1) S := h.tr (zFr.up h1) (fun _ h => h) (fun _ h => h)
theorem zFr.at {M M' : zM} {S : List Nat} {b : Nat} {e : Option va_E} (h : zFr M M' S) (hb : b ∉ S) (he : M b = e) : M' b = e := (h b hb).trans he
theorem zne_ka {M : zM} {a k : Nat} {c : Nat} {fs : List Value} {x : ClassId × vp_A} (h1 : M a = some (.inr (c, fs))) (h2 : M k = some (.inl x)) : a ≠ k := fun q => by rw [q, h2] at h1; cases h1
theorem zne_kk {M : zM} {a k : Nat} {c c' : Nat} {fs fs' : List Value} (h1 : M a = some (.inr (c, fs))) (h2 : M k = some (.inr (c', fs'))) (h : c ≠ c') : a ≠ k := fun q => by rw [q, h2] at h1; cases h1; exact h rfl
def zLet (x : Int) : Prop := 97 ≤ x ∧ x ≤ 122
def zDig (x : Int) : Prop := 48 ≤ x ∧ x ≤ 57
/-- 1 or 0 -/
def zB (r : Int) (P : Prop) : Prop := (r = 1 ∧ P) ∨ (r = 0 ∧ ¬ P)
theorem zB.nar {r : Int} {P : Prop} (h : zB r P) : narrow .boolean (.int (zi r)) = .int (zi r) := by
  rcases h with ⟨rfl, -⟩ | ⟨rfl, -⟩ <;> rfl
theorem zB.rng {r : Int} {P : Prop} (h : zB r P) : 0 ≤ r ∧ r ≤ 1 := by
  rcases h with ⟨rfl, -⟩ | ⟨rfl, -⟩ <;> decide
theorem zB.cg {r : Int} {P P' : Prop} (h : P ↔ P') (q : zB r P) : zB r P' := by
  unfold zB at q ⊢
  rw [← h]
  exact q
theorem zB.t {r : Int} {P : Prop} (q : zB r P) (h : ¬ r = 0) : P := by
  rcases q with q | q
  · exact q.2
  · exact absurd q.1 h
theorem zB.f {r : Int} {P : Prop} (q : zB r P) (h : r = 0) : ¬ P := by
  rcases q with q | q
  · exact absurd (q.1.symm.trans h) (by decide)
  · exact q.2
set_option maxHeartbeats 4000000 in
set_option maxRecDepth 100000 in
theorem k_X8_isLetter {l : Launch} {γ : zG} {M : zM} {x : Int} (hx : zR x) :
    zCon l γ yX8_isLetter cX8_isLetter 1 (some .boolean) [.int (zi x)] M 0 0 0 0 (fun v' M' => ∃ r : Int, v' = some (.int (zi r)) ∧ M' = M ∧ zB r (zLet x)) (fun _ _ => False) := by
  unfold zR at hx
  refine zEnter [some (.int (zi x))] (by decide +kernel) rfl rfl (Nat.le_of_ble_eq_true rfl) ?_
  intro p e s m args below meth c Q C hin hQ
  refine z_iload_n C dX8_isLetter_0 rfl ?_
  refine z_bipush C dX8_isLetter_1 (by decide) ?_
  refine z_icmp_ltZ (tgt := 16) C dX8_isLetter_3 (by decide) (by omega) (by omega) (fun h3 => ?_) (fun h3 => ?_)
  · refine z_iconst C dX8_isLetter_16 ?_
    refine z_iret C hQ dX8_isLetter_17 rfl (by decide) (by decide) ?_
    exact ⟨0, rfl, rfl, Or.inr ⟨rfl, fun q => by unfold zLet at q; omega⟩⟩
  · refine z_iload_n C dX8_isLetter_6 rfl ?_
    refine z_bipush C dX8_isLetter_7 (by decide) ?_
    refine z_icmp_gtZ (tgt := 16) C dX8_isLetter_9 (by decide) (by omega) (by omega) (fun h9 => ?_) (fun h9 => ?_)
    · refine z_iconst C dX8_isLetter_16 ?_
      refine z_iret C hQ dX8_isLetter_17 rfl (by decide) (by decide) ?_
      exact ⟨0, rfl, rfl, Or.inr ⟨rfl, fun q => by unfold zLet at q; omega⟩⟩
    · refine z_iconst C dX8_isLetter_12 ?_
      refine z_goto (tgt := 17) C dX8_isLetter_13 (by decide) ?_
      refine z_iret C hQ dX8_isLetter_17 rfl (by decide) (by decide) ?_
      exact ⟨1, rfl, rfl, Or.inl ⟨rfl, by unfold zLet; omega⟩⟩
set_option maxHeartbeats 4000000 in
set_option maxRecDepth 100000 in
theorem k_X8_isDigit {l : Launch} {γ : zG} {M : zM} {x : Int} (hx : zR x) :
    zCon l γ yX8_isDigit cX8_isDigit 1 (some .boolean) [.int (zi x)] M 0 0 0 0 (fun v' M' => ∃ r : Int, v' = some (.int (zi r)) ∧ M' = M ∧ zB r (zDig x)) (fun _ _ => False) := by
  unfold zR at hx
  refine zEnter [some (.int (zi x))] (by decide +kernel) rfl rfl (Nat.le_of_ble_eq_true rfl) ?_
  intro p e s m args below meth c Q C hin hQ
  refine z_iload_n C dX8_isDigit_0 rfl ?_
  refine z_bipush C dX8_isDigit_1 (by decide) ?_
  refine z_icmp_ltZ (tgt := 16) C dX8_isDigit_3 (by decide) (by omega) (by omega) (fun h3 => ?_) (fun h3 => ?_)
  · refine z_iconst C dX8_isDigit_16 ?_
    refine z_iret C hQ dX8_isDigit_17 rfl (by decide) (by decide) ?_
    exact ⟨0, rfl, rfl, Or.inr ⟨rfl, fun q => by unfold zDig at q; omega⟩⟩
  · refine z_iload_n C dX8_isDigit_6 rfl ?_
    refine z_bipush C dX8_isDigit_7 (by decide) ?_
    refine z_icmp_gtZ (tgt := 16) C dX8_isDigit_9 (by decide) (by omega) (by omega) (fun h9 => ?_) (fun h9 => ?_)
    · refine z_iconst C dX8_isDigit_16 ?_
      refine z_iret C hQ dX8_isDigit_17 rfl (by decide) (by decide) ?_
      exact ⟨0, rfl, rfl, Or.inr ⟨rfl, fun q => by unfold zDig at q; omega⟩⟩
    · refine z_iconst C dX8_isDigit_12 ?_
      refine z_goto (tgt := 17) C dX8_isDigit_13 (by decide) ?_
      refine z_iret C hQ dX8_isDigit_17 rfl (by decide) (by decide) ?_
      exact ⟨1, rfl, rfl, Or.inl ⟨rfl, by unfold zDig; omega⟩⟩
/-- a symbol -/
def zSy (x : Int) : Prop := 0 ≤ x ∧ x < 27
set_option maxHeartbeats 4000000 in
set_option maxRecDepth 100000 in
theorem k_X8_isSymbol {l : Launch} {γ : zG} {M : zM} {x : Int} (hx : zR x) :
    zCon l γ yX8_isSymbol cX8_isSymbol 1 (some .boolean) [.int (zi x)] M 0 0 0 0 (fun v' M' => ∃ r : Int, v' = some (.int (zi r)) ∧ M' = M ∧ zB r (zSy x)) (fun _ _ => False) := by
  unfold zR at hx
  refine zEnter [some (.int (zi x))] (by decide +kernel) rfl rfl (Nat.le_of_ble_eq_true rfl) ?_
  intro p e s m args below meth c Q C hin hQ
  refine z_iload_n C dX8_isSymbol_0 rfl ?_
  refine z_if_ltZ (tgt := 14) C dX8_isSymbol_1 (by decide) (by omega) (fun h1 => ?_) (fun h1 => ?_)
  · refine z_iconst C dX8_isSymbol_14 ?_
    refine z_iret C hQ dX8_isSymbol_15 rfl (by decide) (by decide) ?_
    exact ⟨0, rfl, rfl, Or.inr ⟨rfl, fun q => by unfold zSy at q; omega⟩⟩
  · refine z_iload_n C dX8_isSymbol_4 rfl ?_
    refine z_bipush C dX8_isSymbol_5 (by decide) ?_
    refine z_icmp_geZ (tgt := 14) C dX8_isSymbol_7 (by decide) (by omega) (by omega) (fun h7 => ?_) (fun h7 => ?_)
    · refine z_iconst C dX8_isSymbol_14 ?_
      refine z_iret C hQ dX8_isSymbol_15 rfl (by decide) (by decide) ?_
      exact ⟨0, rfl, rfl, Or.inr ⟨rfl, fun q => by unfold zSy at q; omega⟩⟩
    · refine z_iconst C dX8_isSymbol_10 ?_
      refine z_goto (tgt := 15) C dX8_isSymbol_11 (by decide) ?_
      refine z_iret C hQ dX8_isSymbol_15 rfl (by decide) (by decide) ?_
      exact ⟨1, rfl, rfl, Or.inl ⟨rfl, by unfold zSy; omega⟩⟩
/-- the first order of a context -/
def zFo (b p : Int) : Int := if p = -1 then 0 else if b = -1 then 1 else 2
set_option maxHeartbeats 4000000 in
set_option maxRecDepth 100000 in
theorem k_X8_firstOrder {l : Launch} {γ : zG} {M : zM} {b p0 : Int} (hb : zR b) (hp0 : zR p0) :
    zCon l γ yX8_firstOrder cX8_firstOrder 2 (some .int) [.int (zi b), .int (zi p0)] M 0 0 0 0 (fun v' M' => ∃ r : Int, v' = some (.int (zi r)) ∧ M' = M ∧ r = zFo b p0) (fun _ _ => False) := by
  unfold zR at hb hp0
  refine zEnter [some (.int (zi b)), some (.int (zi p0))] (by decide +kernel) rfl rfl (Nat.le_of_ble_eq_true rfl) ?_
  intro p e s m args below meth c Q C hin hQ
  refine z_iload_n C dX8_firstOrder_0 rfl ?_
  refine z_iconst C dX8_firstOrder_1 ?_
  refine z_icmp_neZ (tgt := 7) C dX8_firstOrder_2 (by decide) (by omega) (by omega) (fun h2 => ?_) (fun h2 => ?_)
  · refine z_iload_n C dX8_firstOrder_7 rfl ?_
    refine z_iconst C dX8_firstOrder_8 ?_
    refine z_icmp_neZ (tgt := 16) C dX8_firstOrder_9 (by decide) (by omega) (by omega) (fun h9 => ?_) (fun h9 => ?_)
    · refine z_iconst C dX8_firstOrder_16 ?_
      refine z_iret C hQ dX8_firstOrder_17 rfl (by decide) (by decide) ?_
      exact ⟨2, rfl, rfl, by simp [zFo, h2, h9]⟩
    · refine z_iconst C dX8_firstOrder_12 ?_
      refine z_goto (tgt := 17) C dX8_firstOrder_13 (by decide) ?_
      refine z_iret C hQ dX8_firstOrder_17 rfl (by decide) (by decide) ?_
      exact ⟨1, rfl, rfl, by simp [zFo, h2, h9]⟩
  · refine z_iconst C dX8_firstOrder_5 ?_
    refine z_iret C hQ dX8_firstOrder_6 rfl (by decide) (by decide) ?_
    exact ⟨0, rfl, rfl, by simp [zFo, h2]⟩
/-- where an order's keys begin -/
def zCs (o b p : Int) : Int := if o = 0 then 0 else if o = 1 then 27 + p * 27 else 756 + (b * 27 + p) * 27
set_option maxHeartbeats 4000000 in
set_option maxRecDepth 100000 in
theorem k_X8_contextStart {l : Launch} {γ : zG} {M : zM} {o b p0 : Int} (ho : zR o) :
    zCon l γ yX8_contextStart cX8_contextStart 3 (some .int) [.int (zi o), .int (zi b), .int (zi p0)] M 0 0 0 0 (fun v' M' => ∃ r : Int, v' = some (.int (zi r)) ∧ M' = M ∧ r = zCs o b p0) (fun _ _ => False) := by
  unfold zR at ho
  refine zEnter [some (.int (zi o)), some (.int (zi b)), some (.int (zi p0))] (by decide +kernel) rfl rfl (Nat.le_of_ble_eq_true rfl) ?_
  intro p e s m args below meth c Q C hin hQ
  refine z_iload_n C dX8_contextStart_0 rfl ?_
  refine z_if_neZ (tgt := 6) C dX8_contextStart_1 (by decide) (by omega) (fun h1 => ?_) (fun h1 => ?_)
  · refine z_iload_n C dX8_contextStart_6 rfl ?_
    refine z_iconst C dX8_contextStart_7 ?_
    refine z_icmp_neZ (tgt := 19) C dX8_contextStart_8 (by decide) (by omega) (by omega) (fun h8 => ?_) (fun h8 => ?_)
    · refine z_sipush C dX8_contextStart_19 (by decide) ?_
      refine z_iload_n C dX8_contextStart_22 rfl ?_
      refine z_bipush C dX8_contextStart_23 (by decide) ?_
      refine z_imulZ C dX8_contextStart_25 ?_
      refine z_iload_n C dX8_contextStart_26 rfl ?_
      refine z_iaddZ C dX8_contextStart_27 ?_
      refine z_bipush C dX8_contextStart_28 (by decide) ?_
      refine z_imulZ C dX8_contextStart_30 ?_
      refine z_iaddZ C dX8_contextStart_31 ?_
      refine z_iret C hQ dX8_contextStart_32 rfl (by decide) (by decide) ?_
      exact ⟨756 + (b * 27 + p0) * 27, rfl, rfl, by simp [zCs, h1, h8]⟩
    · refine z_bipush C dX8_contextStart_11 (by decide) ?_
      refine z_iload_n C dX8_contextStart_13 rfl ?_
      refine z_bipush C dX8_contextStart_14 (by decide) ?_
      refine z_imulZ C dX8_contextStart_16 ?_
      refine z_iaddZ C dX8_contextStart_17 ?_
      refine z_iret C hQ dX8_contextStart_18 rfl (by decide) (by decide) ?_
      exact ⟨27 + p0 * 27, rfl, rfl, by simp [zCs, h8]⟩
  · refine z_iconst C dX8_contextStart_4 ?_
    refine z_iret C hQ dX8_contextStart_5 rfl (by decide) (by decide) ?_
    exact ⟨0, rfl, rfl, by simp [zCs, h1]⟩
set_option maxHeartbeats 4000000 in
set_option maxRecDepth 100000 in
theorem k_X8_withDigit {l : Launch} {γ : zG} {M : zM} {x y : Int} (hx : 0 ≤ x ∧ x ≤ 1000) (hy : 0 ≤ y ∧ y ≤ 255) :
    zCon l γ yX8_withDigit cX8_withDigit 2 (some .int) [.int (zi x), .int (zi y)] M 1 13 0 0 (fun v' M' => ∃ r : Int, v' = some (.int (zi r)) ∧ M' = M ∧ r = min (x * 10 + y - 48) 1000) (fun _ _ => False) := by
  refine zEnter [some (.int (zi x)), some (.int (zi y))] (by decide +kernel) rfl rfl (Nat.le_of_ble_eq_true rfl) ?_
  intro p e s m args below meth c Q C hin hQ
  refine z_iload_n C dX8_withDigit_0 rfl ?_
  refine z_bipush C dX8_withDigit_1 (by decide) ?_
  refine z_imulZ C dX8_withDigit_3 ?_
  refine z_iload_n C dX8_withDigit_4 rfl ?_
  refine z_iaddZ C dX8_withDigit_5 ?_
  refine z_bipush C dX8_withDigit_6 (by decide) ?_
  refine z_isubZ C dX8_withDigit_8 ?_
  refine z_sipush C dX8_withDigit_9 (by decide) ?_
  refine z_min C dX8_withDigit_12 lk_X8_356 mmin_st ma_in mmin_co (by omega) (by omega) ⟨by decide, (by first | decide | exact Nat.le_of_ble_eq_true rfl), by decide, by decide⟩ ?_
  refine z_iret C hQ dX8_withDigit_15 rfl (by decide) (by decide) ?_
  exact ⟨_, rfl, rfl, rfl⟩

