/-! Reader -/
theorem zne_nn {M : zM} {γ : zG} {a b N N' : Nat} {f g : Nat → Int} (h1 : M a = some (zar γ N f)) (h2 : M b = some (zar γ N' g)) (h : N ≠ N') : a ≠ b := fun q => by
  rw [q, h2] at h1
  simp at h1
  exact h h1.1.symm
/-- name, its length, method, counts, symbols trained, trainings -/
abbrev zRdr : Type := (Nat → Int) × Int × Int × (Int → Int) × Int × (Nat → Int)
abbrev rNm (R : zRdr) := R.1
abbrev rNl (R : zRdr) := R.2.1
abbrev rMe (R : zRdr) := R.2.2.1
abbrev rC (R : zRdr) := R.2.2.2.1
abbrev rTr (R : zRdr) := R.2.2.2.2.1
abbrev rTm (R : zRdr) := R.2.2.2.2.2
def hRd (γ : zG) (M : zM) (A : Nat → Nat) (R : zRdr) : Prop := M (A 0) = some (.inr (6, [.ref (A 1), .int (zi (rNl R)), .int (zi (rMe R)), .ref (A 2), .int (zi (rTr R)), .ref (A 5)])) ∧ (∃ g, M (A 1) = some (zar γ 4 g) ∧ (∀ j, zR (g j)) ∧ ∀ j : Nat, j < rNl R → g j = rNm R j) ∧ hCn γ M (A 2) (A 3) (A 4) (rC R) ∧ ∃ g, M (A 5) = some (zar γ 8 g) ∧ ∀ j : Nat, j < 8 → g j = rTm R j
def zFA (A : Nat → Nat) : List Nat := [A 0, A 1, A 2, A 3, A 4, A 5]
/-- two cells of a reader differ -/
theorem hRd.ne {γ : zG} {M : zM} {A : Nat → Nat} {R : zRdr} (h : hRd γ M A R) : A 0 ≠ A 1 ∧ A 0 ≠ A 2 ∧ A 0 ≠ A 3 ∧ A 0 ≠ A 4 ∧ A 0 ≠ A 5 ∧ A 1 ≠ A 2 ∧ A 1 ≠ A 3 ∧ A 1 ≠ A 4 ∧ A 1 ≠ A 5 ∧ A 2 ≠ A 3 ∧ A 2 ≠ A 4 ∧ A 2 ≠ A 5 ∧ A 3 ≠ A 4 ∧ A 3 ≠ A 5 ∧ A 4 ≠ A 5 := by
  obtain ⟨h0, ⟨g1, h1, -⟩, ⟨n34, n, ks, vs, ⟨h2, h3, h4⟩, -⟩, g5, h5, -⟩ := h
  exact ⟨zne_ka h0 h1, zne_kk h0 h2 (by decide), zne_ka h0 h3, zne_ka h0 h4, zne_ka h0 h5, (zne_ka h2 h1).symm, zne_nn h1 h3 (by decide), zne_nn h1 h4 (by decide), zne_nn h1 h5 (by decide), zne_ka h2 h3, zne_ka h2 h4, zne_ka h2 h5, n34, zne_nn h3 h5 (by decide), zne_nn h4 h5 (by decide)⟩
theorem hRd.fr {γ : zG} {M M' : zM} {A : Nat → Nat} {R : zRdr} {S : List Nat} (h : hRd γ M A R) (q : zFr M M' S) (hS : ∀ i, i < 6 → A i ∉ S) : hRd γ M' A R := by
  obtain ⟨h0, ⟨g1, h1, h1'⟩, h2, g5, h5, h5'⟩ := h
  exact ⟨q.at (hS 0 (by omega)) h0, ⟨g1, q.at (hS 1 (by omega)) h1, h1'⟩, h2.fr q (hS 2 (by omega)) (hS 3 (by omega)) (hS 4 (by omega)), g5, q.at (hS 5 (by omega)) h5, h5'⟩
set_option maxHeartbeats 4000000 in
set_option maxRecDepth 100000 in
theorem k_X6_nameAt {l : Launch} {γ : zG} {M : zM} {A : Nat → Nat} {R : zRdr} {i : Int} (hD : hRd γ M A R) (hl : 0 ≤ rNl R ∧ rNl R ≤ 4) (hi : zR i) :
    zCon l γ yX6_nameAt cX6_nameAt 2 (some .int) [.ref (A 0), .int (zi i)] M 0 0 0 0 (fun v' M' => ∃ x : Int, v' = some (.int (zi x)) ∧ M' = M ∧ x = hAt (rNm R) (rNl R) i ∧ zR x) (fun _ _ => False) := by
  obtain ⟨hB, ⟨g, hN, hg, hn⟩, -⟩ := hD
  unfold zR at hi
  refine zEnter [some (.ref (A 0)), some (.int (zi i))] (by decide +kernel) rfl rfl (Nat.le_of_ble_eq_true rfl) ?_
  intro p e s m args below meth c Q C hin hQ
  refine z_iload_n C dX6_nameAt_0 rfl ?_
  refine z_if_ltZ (tgt := 21) C dX6_nameAt_1 (by decide) (by omega) (fun h1 => ?_) (fun h1 => ?_)
  · refine z_iconst C dX6_nameAt_21 ?_
    refine z_iret C hQ dX6_nameAt_22 rfl (by decide) (by decide) ?_
    exact ⟨-1, rfl, rfl, by rw [hAt, if_neg (by omega)], by unfold zR; omega⟩
  · refine z_iload_n C dX6_nameAt_4 rfl ?_
    refine z_aload_n C dX6_nameAt_5 rfl ?_
    refine z_get C dX6_nameAt_6 fl_X6_15 (by first | assumption | ((repeat (first | assumption | exact va_up_self _ _ _ | refine (va_up_ne _ _ (by assumption)).trans ?_)); done) | (simp [va_up, *] <;> rfl)) rfl ?_
    refine z_icmp_geZ (tgt := 21) C dX6_nameAt_9 (by decide) (by omega) (by omega) (fun h9 => ?_) (fun h9 => ?_)
    · refine z_iconst C dX6_nameAt_21 ?_
      refine z_iret C hQ dX6_nameAt_22 rfl (by decide) (by decide) ?_
      exact ⟨-1, rfl, rfl, by rw [hAt, if_neg (by omega)], by unfold zR; omega⟩
    · refine z_aload_n C dX6_nameAt_12 rfl ?_
      refine z_get C dX6_nameAt_13 fl_X6_9 (by first | assumption | ((repeat (first | assumption | exact va_up_self _ _ _ | refine (va_up_ne _ _ (by assumption)).trans ?_)); done) | (simp [va_up, *] <;> rfl)) rfl ?_
      refine z_iload_n C dX6_nameAt_16 rfl ?_
      refine z_aldN C dX6_nameAt_17 (by first | assumption | ((repeat (first | assumption | exact va_up_self _ _ _ | refine (va_up_ne _ _ (by assumption)).trans ?_)); done) | (simp [va_up, *] <;> rfl)) (by omega) (by omega) (by assumption) (fun hr17 => ?_)
      refine z_goto (tgt := 22) C dX6_nameAt_18 (by decide) ?_
      refine z_iret C hQ dX6_nameAt_22 rfl (by decide) (by decide) ?_
      exact ⟨_, rfl, rfl, by rw [hAt, if_pos (by omega)]; exact hn _ (by omega), by unfold zR; omega⟩
def zTo (t : Nat → Int) (i : Int) : Int := if 0 ≤ i ∧ i < 8 then t i.toNat else 0
set_option maxHeartbeats 4000000 in
set_option maxRecDepth 100000 in
theorem k_X6_trainingsOn {l : Launch} {γ : zG} {M : zM} {A : Nat → Nat} {R : zRdr} {i : Int} (hD : hRd γ M A R) (hi : zR i) :
    zCon l γ yX6_trainingsOn cX6_trainingsOn 2 (some .int) [.ref (A 0), .int (zi i)] M 0 0 0 0 (fun v' M' => ∃ x : Int, v' = some (.int (zi x)) ∧ M' = M ∧ x = zTo (rTm R) i) (fun _ _ => False) := by
  obtain ⟨hB, -, -, g, hN, hn⟩ := hD
  unfold zR at hi
  refine zEnter [some (.ref (A 0)), some (.int (zi i))] (by decide +kernel) rfl rfl (Nat.le_of_ble_eq_true rfl) ?_
  intro p e s m args below meth c Q C hin hQ
  refine z_iload_n C dX6_trainingsOn_0 rfl ?_
  refine z_if_ltZ (tgt := 19) C dX6_trainingsOn_1 (by decide) (by omega) (fun h1 => ?_) (fun h1 => ?_)
  · refine z_iconst C dX6_trainingsOn_19 ?_
    refine z_iret C hQ dX6_trainingsOn_20 rfl (by decide) (by decide) ?_
    exact ⟨0, rfl, rfl, by rw [zTo, if_neg (by omega)]⟩
  · refine z_iload_n C dX6_trainingsOn_4 rfl ?_
    refine z_bipush C dX6_trainingsOn_5 (by decide) ?_
    refine z_icmp_geZ (tgt := 19) C dX6_trainingsOn_7 (by decide) (by omega) (by omega) (fun h7 => ?_) (fun h7 => ?_)
    · refine z_iconst C dX6_trainingsOn_19 ?_
      refine z_iret C hQ dX6_trainingsOn_20 rfl (by decide) (by decide) ?_
      exact ⟨0, rfl, rfl, by rw [zTo, if_neg (by omega)]⟩
    · refine z_aload_n C dX6_trainingsOn_10 rfl ?_
      refine z_get C dX6_trainingsOn_11 fl_X6_32 (by first | assumption | ((repeat (first | assumption | exact va_up_self _ _ _ | refine (va_up_ne _ _ (by assumption)).trans ?_)); done) | (simp [va_up, *] <;> rfl)) rfl ?_
      refine z_iload_n C dX6_trainingsOn_14 rfl ?_
      refine z_aldW C dX6_trainingsOn_15 (by first | assumption | ((repeat (first | assumption | exact va_up_self _ _ _ | refine (va_up_ne _ _ (by assumption)).trans ?_)); done) | (simp [va_up, *] <;> rfl)) (by omega) (by omega) ?_
      refine z_goto (tgt := 20) C dX6_trainingsOn_16 (by decide) ?_
      refine z_iret C hQ dX6_trainingsOn_20 rfl (by decide) (by decide) ?_
      exact ⟨_, rfl, rfl, by rw [zTo, if_pos (by omega)]; exact hn _ (by omega)⟩
def rRec (R : zRdr) (d len : Int) : zRdr := (rNm R, rNl R, rMe R, rC R, rTr R + len, va_up (rTm R) d.toNat (rTm R d.toNat + 1))
set_option maxHeartbeats 4000000 in
set_option maxRecDepth 100000 in
theorem k_X6_recordTraining {l : Launch} {γ : zG} {M : zM} {A : Nat → Nat} {R : zRdr} {i len : Int} (hD : hRd γ M A R) (hi : 0 ≤ i ∧ i < 8) :
    zCon l γ yX6_recordTraining cX6_recordTraining 3 none [.ref (A 0), .int (zi i), .int (zi len)] M 0 0 0 0 (fun v' M' => v' = none ∧ zFr M M' (zFA A) ∧ hRd γ M' A (rRec R i len)) (fun _ _ => False) := by
  obtain ⟨n1, n2, n3, n4, n5, n6, n7, n8, n9, n10, n11, n12, n13, n14, n15⟩ := hD.ne
  obtain ⟨hB, ⟨g1, hN1, hg1, hn1⟩, hC, g, hN, hn⟩ := hD
  have m5 := n5.symm
  refine zEnter [some (.ref (A 0)), some (.int (zi i)), some (.int (zi len))] (by decide +kernel) rfl rfl (Nat.le_of_ble_eq_true rfl) ?_
  intro p e s m args below meth c Q C hin hQ
  refine z_iload_n C dX6_recordTraining_0 rfl ?_
  refine z_if_ltZ (tgt := 30) C dX6_recordTraining_1 (by decide) (by omega) (fun h1 => ?_) (fun h1 => ?_)
  · exact absurd h1 (by omega)
  · refine z_iload_n C dX6_recordTraining_4 rfl ?_
    refine z_bipush C dX6_recordTraining_5 (by decide) ?_
    refine z_icmp_geZ (tgt := 30) C dX6_recordTraining_7 (by decide) (by omega) (by omega) (fun h7 => ?_) (fun h7 => ?_)
    · exact absurd h7 (by omega)
    · refine z_aload_n C dX6_recordTraining_10 rfl ?_
      refine z_get C dX6_recordTraining_11 fl_X6_32 (by first | assumption | ((repeat (first | assumption | exact va_up_self _ _ _ | refine (va_up_ne _ _ (by assumption)).trans ?_)); done) | (simp [va_up, *] <;> rfl)) rfl ?_
      refine z_iload_n C dX6_recordTraining_14 rfl ?_
      refine z_dup2 C dX6_recordTraining_15 rfl rfl ?_
      refine z_aldW C dX6_recordTraining_16 (by first | assumption | ((repeat (first | assumption | exact va_up_self _ _ _ | refine (va_up_ne _ _ (by assumption)).trans ?_)); done) | (simp [va_up, *] <;> rfl)) (by omega) (by omega) ?_
      refine z_iconst C dX6_recordTraining_17 ?_
      refine z_iaddZ C dX6_recordTraining_18 ?_
      refine z_astW C dX6_recordTraining_19 (by first | assumption | ((repeat (first | assumption | exact va_up_self _ _ _ | refine (va_up_ne _ _ (by assumption)).trans ?_)); done) | (simp [va_up, *] <;> rfl)) (by omega) (by omega) ?_
      refine z_aload_n C dX6_recordTraining_20 rfl ?_
      refine z_dup C dX6_recordTraining_21 rfl ?_
      refine z_get C dX6_recordTraining_22 fl_X6_29 (by first | assumption | ((repeat (first | assumption | exact va_up_self _ _ _ | refine (va_up_ne _ _ (by assumption)).trans ?_)); done) | (simp [va_up, *] <;> rfl)) rfl ?_
      refine z_iload_n C dX6_recordTraining_25 rfl ?_
      refine z_iaddZ C dX6_recordTraining_26 ?_
      refine z_put C dX6_recordTraining_27 fl_X6_29 (by first | assumption | ((repeat (first | assumption | exact va_up_self _ _ _ | refine (va_up_ne _ _ (by assumption)).trans ?_)); done) | (simp [va_up, *] <;> rfl)) rfl rfl (by simp) ?_
      refine z_vret C hQ dX6_recordTraining_30 (by decide) (by decide) ?_
      have f1 : zFr M (va_up (va_up M (A 5) (some (zar γ 8 (va_up g i.toNat (g i.toNat + 1))))) (A 0) (some (Sum.inr (6, [Value.ref (A 1), Value.int (zi (rNl R)), Value.int (zi (rMe R)), Value.ref (A 2), Value.int (zi (rTr R)), Value.ref (A 5)].set 4 (Value.int (zi (rTr R + len))))))) [A 5, A 0] := zFr.u2 zFr.rf (by simp) (by simp)
      refine ⟨rfl, zFr.u2 zFr.rf (by simp [zFA]) (by simp [zFA]), va_up_self _ _ _, ⟨g1, f1.at (by simp [n9, n1.symm]) hN1, hg1, hn1⟩, hC.fr f1 (by simp [n12, n2.symm]) (by simp [n14, n3.symm]) (by simp [n15, n4.symm]), va_up g i.toNat (g i.toNat + 1), by simp [va_up, m5], fun j hj => ?_⟩
      show va_up g i.toNat (g i.toNat + 1) j = va_up (rTm R) i.toNat (rTm R i.toNat + 1) j
      unfold va_up
      split
      · subst j
        exact congrArg (· + 1) (hn _ (by omega))
      · exact hn j hj
def rClr (R : zRdr) : zRdr := (rNm R, rNl R, rMe R, fun _ => 0, 0, fun _ => 0)
theorem hCn.clr {γ : zG} {M : zM} {a k v : Nat} {c : Int → Int} {n : Int} {ks vs : Nat → Int} (h : hCt γ M a k v ks vs n) (hS : hSo ks vs n) (hkv : k ≠ v) : hCn γ (va_up M a (some (.inr (2, [.ref k, .ref v, .int (zi 0)])))) a k v (fun _ => 0) := by
  have n1 := zne_ka h.1 h.2.1
  have n2 := zne_ka h.1 h.2.2
  refine ⟨hkv, 0, ks, vs, ⟨va_up_self _ _ _, ?_, ?_⟩, ⟨by omega, hS.2.1, hS.2.2.1, fun i j _ hj => by omega⟩, fun j hj => by omega, fun x hx => absurd rfl hx⟩
  · rw [va_up_ne _ _ n1.symm]; exact h.2.1
  · rw [va_up_ne _ _ n2.symm]; exact h.2.2
set_option maxHeartbeats 4000000 in
set_option maxRecDepth 100000 in
theorem k_X6_clearTrainings {l : Launch} {γ : zG} {M : zM} {A : Nat → Nat} {R : zRdr} (hD : hRd γ M A R) :
    zCon l γ yX6_clearTrainings cX6_clearTrainings 2 none [.ref (A 0)] M 0 0 0 0 (fun v' M' => v' = none ∧ zFr M M' (zFA A) ∧ hRd γ M' A (rClr R)) (fun _ _ => False) := by
  obtain ⟨n1, n2, n3, n4, n5, n6, n7, n8, n9, n10, n11, n12, n13, n14, n15⟩ := hD.ne
  obtain ⟨hB, ⟨g1, hN1, hg1, hn1⟩, ⟨-, n, ks, vs, hC, hS, -⟩, g, hN, hn⟩ := hD
  have m5 := n5.symm
  have m2 := n2.symm
  have ob := hC.1
  have q1 := hCn.clr (c := rC R) hC hS n13
  refine zEnter [some (.ref (A 0)), none] (by decide +kernel) rfl rfl (Nat.le_of_ble_eq_true rfl) ?_
  intro p e s m args below meth c Q C hin hQ
  have loop : ∀ (t : Nat) (M1 : zM) (i : Int) (g2 : Nat → Int), 0 ≤ i ∧ i ≤ 8 ∧ 8 - i = t → zFr M M1 (zFA A) → M1 (A 0) = some (.inr (6, [.ref (A 1), .int (zi (rNl R)), .int (zi (rMe R)), .ref (A 2), .int (zi 0), .ref (A 5)])) → M1 (A 1) = some (zar γ 4 g1) → hCn γ M1 (A 2) (A 3) (A 4) (fun _ => 0) → M1 (A 5) = some (zar γ 8 g2) → (∀ j : Nat, j < i → g2 j = 0) → zAW p l e { frames := 0, cells := 0, slots := 0, locals := 0 } s m args below meth c γ 2 Q M1 0 0 15 [some (.ref (A 0)), some (.int (zi i))] [] := by
    intro t
    induction t with
    | zero =>
      intro M1 i g2 hi hf b0 b1 b2 b5 hg2
      refine z_iload_n C dX6_clearTrainings_15 rfl ?_
      refine z_bipush C dX6_clearTrainings_16 (by decide) ?_
      refine z_icmp_geZ (tgt := 34) C dX6_clearTrainings_18 (by decide) (by omega) (by omega) (fun h18 => ?_) (fun h18 => ?_)
      · refine z_vret C hQ dX6_clearTrainings_34 (by decide) (by decide) ?_
        exact ⟨rfl, hf, b0, ⟨g1, b1, hg1, hn1⟩, b2, g2, b5, fun j hj => hg2 j (by omega)⟩
      · exact absurd h18 (by omega)
    | succ t ih =>
      intro M1 i g2 hi hf b0 b1 b2 b5 hg2
      refine z_iload_n C dX6_clearTrainings_15 rfl ?_
      refine z_bipush C dX6_clearTrainings_16 (by decide) ?_
      refine z_icmp_geZ (tgt := 34) C dX6_clearTrainings_18 (by decide) (by omega) (by omega) (fun h18 => ?_) (fun h18 => ?_)
      · exact absurd h18 (by omega)
      · refine z_aload_n C dX6_clearTrainings_21 rfl ?_
        refine z_get C dX6_clearTrainings_22 fl_X6_32 (by first | assumption | ((repeat (first | assumption | exact va_up_self _ _ _ | refine (va_up_ne _ _ (by assumption)).trans ?_)); done) | (simp [va_up, *] <;> rfl)) rfl ?_
        refine z_iload_n C dX6_clearTrainings_25 rfl ?_
        refine z_iconst C dX6_clearTrainings_26 ?_
        refine z_astW C dX6_clearTrainings_27 (by first | assumption | ((repeat (first | assumption | exact va_up_self _ _ _ | refine (va_up_ne _ _ (by assumption)).trans ?_)); done) | (simp [va_up, *] <;> rfl)) (by omega) (by omega) ?_
        refine z_iincZ C dX6_clearTrainings_28 rfl (by decide) ?_
        refine z_goto (tgt := 15) C dX6_clearTrainings_31 (by decide) ?_
        have f1 : zFr M1 (va_up M1 (A 5) (some (zar γ 8 (va_up g2 i.toNat 0)))) [A 5] := zFr.up (by simp)
        refine ih _ (i + 1) (va_up g2 i.toNat 0) (by omega) (zFr.u1 hf (by simp [zFA])) (f1.at (by simp [n5]) b0) (f1.at (by simp [n9]) b1) (b2.fr f1 (by simp [n12]) (by simp [n14]) (by simp [n15])) (va_up_self _ _ _) fun j hj => ?_
        unfold va_up
        split
        · rfl
        · exact hg2 j (by omega)
  refine z_aload_n C dX6_clearTrainings_0 rfl ?_
  refine z_get C dX6_clearTrainings_1 fl_X6_25 (by first | assumption | ((repeat (first | assumption | exact va_up_self _ _ _ | refine (va_up_ne _ _ (by assumption)).trans ?_)); done) | (simp [va_up, *] <;> rfl)) rfl ?_
  refine z_iconst C dX6_clearTrainings_4 ?_
  refine z_put C dX6_clearTrainings_5 fl_X6_54 (by first | assumption | ((repeat (first | assumption | exact va_up_self _ _ _ | refine (va_up_ne _ _ (by assumption)).trans ?_)); done) | (simp [va_up, *] <;> rfl)) rfl rfl (by simp) ?_
  refine z_aload_n C dX6_clearTrainings_8 rfl ?_
  refine z_iconst C dX6_clearTrainings_9 ?_
  refine z_put C dX6_clearTrainings_10 fl_X6_29 (by first | assumption | ((repeat (first | assumption | exact va_up_self _ _ _ | refine (va_up_ne _ _ (by assumption)).trans ?_)); done) | (simp [va_up, *] <;> rfl)) rfl rfl (by simp) ?_
  refine z_iconst C dX6_clearTrainings_13 ?_
  refine z_istore_n C dX6_clearTrainings_14 (by decide) ?_
  have f1 : zFr M (va_up M (A 2) (some (Sum.inr (2, [Value.ref (A 3), Value.ref (A 4), Value.int (zi 0)])))) [A 2] := zFr.up (by simp)
  have f2 : ∀ e, zFr (va_up M (A 2) (some (Sum.inr (2, [Value.ref (A 3), Value.ref (A 4), Value.int (zi 0)])))) (va_up (va_up M (A 2) (some (Sum.inr (2, [Value.ref (A 3), Value.ref (A 4), Value.int (zi 0)])))) (A 0) e) [A 0] := fun e => zFr.up (by simp)
  refine loop 8 _ 0 g (by omega) (zFr.u2 zFr.rf (by simp [zFA]) (by simp [zFA])) (va_up_self _ _ _) ?_ ?_ ?_ (fun j hj => by omega)
  · exact (f2 _).at (by simp [n1.symm]) (f1.at (by simp [n6]) hN1)
  · exact q1.fr (f2 _) (by simp [n2.symm]) (by simp [n3.symm]) (by simp [n4.symm])
  · exact (f2 _).at (by simp [n5.symm]) (f1.at (by simp [n12.symm]) hN)

