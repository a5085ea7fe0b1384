/-- one reader's learning taken in by another -/
def rMrg (R T : zRdr) : zRdr := (rNm R, rNl R, rMe R, zmrg (rC R) (rC T), rTr R + rTr T, fun j => rTm R j + rTm T j)
theorem hRd.ob {γ : zG} {M : zM} {A : Nat → Nat} {R : zRdr} (h : hRd γ M A R) : M (A 0) = some (.inr (6, [.ref (A 1), .int (zi (rNl R)), .int (zi (rMe R)), .ref (A 2), .int (zi (rTr R)), .ref (A 5)])) := h.1
set_option maxHeartbeats 4000000 in
set_option maxRecDepth 100000 in
theorem k_X6_takeIn {l : Launch} {γ : zG} {M : zM} {A B : Nat → Nat} {R T : zRdr} {G : List Int} (hD : hRd γ M A R) (hE : hRd γ M B T) (hab : ∀ i j, i < 6 → j < 6 → A i ≠ B j) (hG : hRm G (rC R)) (hG1 : ∀ x, rC T x ≠ 0 → x ∈ G) :
    zCon l γ yX6_takeIn cX6_takeIn 3 none [.ref (A 0), .ref (B 0)] M 3 69 0 0 (fun v' M' => v' = none ∧ zFr M M' (zFA A) ∧ hRd γ M' A (rMrg R T)) (fun _ _ => False) := by
  obtain ⟨n1, n2, n3, n4, n5, n6, n7, n8, n9, n10, n11, n12, n13, n14, n15⟩ := hD.ne
  have m1 := n1.symm
  have m2 := n2.symm
  have m3 := n3.symm
  have m4 := n4.symm
  have m5 := n5.symm
  have hba : ∀ j, j < 6 → B j ≠ A 0 ∧ B j ≠ A 1 ∧ B j ≠ A 2 ∧ B j ≠ A 3 ∧ B j ≠ A 4 ∧ B j ≠ A 5 := fun j hj => ⟨(hab 0 j (by omega) hj).symm, (hab 1 j (by omega) hj).symm, (hab 2 j (by omega) hj).symm, (hab 3 j (by omega) hj).symm, (hab 4 j (by omega) hj).symm, (hab 5 j (by omega) hj).symm⟩
  have hb0 : ∀ j, j < 6 → B j ∉ zFA A := fun j hj => by
    have := hba j hj
    simp [zFA, this]
  obtain ⟨hB, ⟨g1, hN1, hg1, hn1⟩, hC, g5, hN5, hn5⟩ := hD
  obtain ⟨hB', hX1, hC', h5, hN5', hn5'⟩ := hE
  obtain ⟨A1, ha1⟩ := hC.ob
  refine zEnter [some (.ref (A 0)), some (.ref (B 0)), none] (by decide +kernel) rfl rfl (Nat.le_of_ble_eq_true rfl) ?_
  intro p e s m args below meth c Q C hin hQ
  have loop : ∀ (t : Nat) (M1 : zM) (i : Int) (g : Nat → Int), 0 ≤ i ∧ i ≤ 8 ∧ 8 - i = t → zFr M M1 (zFA A) → M1 (A 0) = some (.inr (6, [.ref (A 1), .int (zi (rNl R)), .int (zi (rMe R)), .ref (A 2), .int (zi (rTr R + rTr T)), .ref (A 5)])) → M1 (A 1) = some (zar γ 4 g1) → hCn γ M1 (A 2) (A 3) (A 4) (zmrg (rC R) (rC T)) → M1 (A 5) = some (zar γ 8 g) → (∀ j : Nat, j < i → g j = rTm R j + rTm T j) → (∀ j : Nat, i ≤ j → j < 8 → g j = rTm R j) → zAW p l e { frames := 3, cells := 0, slots := 0, locals := 69 } s m args below meth c γ 3 Q M1 0 0 26 [some (.ref (A 0)), some (.ref (B 0)), some (.int (zi i))] [] := by
    intro t
    induction t with
    | zero =>
      intro M1 i g hi hf b0 b1 b2 b5 hv hw
      refine z_iload_n C dX6_takeIn_26 rfl ?_
      refine z_bipush C dX6_takeIn_27 (by decide) ?_
      refine z_icmp_geZ (tgt := 53) C dX6_takeIn_29 (by decide) (by omega) (by omega) (fun h29 => ?_) (fun h29 => ?_)
      · refine z_vret C hQ dX6_takeIn_53 (by decide) (by decide) ?_
        exact ⟨rfl, hf, b0, ⟨g1, b1, hg1, hn1⟩, b2, g, b5, fun j hj => hv j (by omega)⟩
      · exact absurd h29 (by omega)
    | succ t ih =>
      intro M1 i g hi hf b0 b1 b2 b5 hv hw
      have c0 := hf.at (hb0 0 (by omega)) hB'
      have c5 := hf.at (hb0 5 (by omega)) hN5'
      refine z_iload_n C dX6_takeIn_26 rfl ?_
      refine z_bipush C dX6_takeIn_27 (by decide) ?_
      refine z_icmp_geZ (tgt := 53) C dX6_takeIn_29 (by decide) (by omega) (by omega) (fun h29 => ?_) (fun h29 => ?_)
      · exact absurd h29 (by omega)
      · refine z_aload_n C dX6_takeIn_32 rfl ?_
        refine z_get C dX6_takeIn_33 fl_X6_32 (by first | assumption | ((repeat (first | assumption | exact va_up_self _ _ _ | refine (va_up_ne _ _ (by assumption)).trans ?_)); done) | (simp [va_up, *] <;> rfl)) rfl ?_
        refine z_iload_n C dX6_takeIn_36 rfl ?_
        refine z_dup2 C dX6_takeIn_37 rfl rfl ?_
        refine z_aldW C dX6_takeIn_38 (by first | assumption | ((repeat (first | assumption | exact va_up_self _ _ _ | refine (va_up_ne _ _ (by assumption)).trans ?_)); done) | (simp [va_up, *] <;> rfl)) (by omega) (by omega) ?_
        refine z_aload_n C dX6_takeIn_39 rfl ?_
        refine z_get C dX6_takeIn_40 fl_X6_32 (by first | assumption | ((repeat (first | assumption | exact va_up_self _ _ _ | refine (va_up_ne _ _ (by assumption)).trans ?_)); done) | (simp [va_up, *] <;> rfl)) rfl ?_
        refine z_iload_n C dX6_takeIn_43 rfl ?_
        refine z_aldW C dX6_takeIn_44 (by first | assumption | ((repeat (first | assumption | exact va_up_self _ _ _ | refine (va_up_ne _ _ (by assumption)).trans ?_)); done) | (simp [va_up, *] <;> rfl)) (by omega) (by omega) ?_
        refine z_iaddZ C dX6_takeIn_45 ?_
        refine z_astW C dX6_takeIn_46 (by first | assumption | ((repeat (first | assumption | exact va_up_self _ _ _ | refine (va_up_ne _ _ (by assumption)).trans ?_)); done) | (simp [va_up, *] <;> rfl)) (by omega) (by omega) ?_
        refine z_iincZ C dX6_takeIn_47 rfl (by decide) ?_
        refine z_goto (tgt := 26) C dX6_takeIn_50 (by decide) ?_
        have f1 : zFr M1 (va_up M1 (A 5) (some (zar γ 8 (va_up g i.toNat (g i.toNat + h5 i.toNat))))) [A 5] := zFr.up (by simp)
        refine ih _ (i + 1) _ (by omega) (zFr.u1 hf (by simp [zFA])) (f1.at (by simp [n5]) b0) (f1.at (by simp [n9]) b1) (b2.fr f1 (by simp [n12]) (by simp [n14]) (by simp [n15])) (va_up_self _ _ _) (fun j hj => ?_) (fun j hj hj2 => ?_)
        · unfold va_up
          split
          · subst j
            rw [hw _ (by omega) (by omega), hn5' _ (by omega)]
          · exact hv j (by omega)
        · rw [va_up_ne _ _ (by omega)]
          exact hw j (by omega) hj2
  refine z_aload_n C dX6_takeIn_0 rfl ?_
  refine z_get C dX6_takeIn_1 fl_X6_25 (by first | assumption | ((repeat (first | assumption | exact va_up_self _ _ _ | refine (va_up_ne _ _ (by assumption)).trans ?_)); done) | (simp [va_up, *] <;> rfl)) rfl ?_
  refine z_aload_n C dX6_takeIn_4 rfl ?_
  refine z_get C dX6_takeIn_5 fl_X6_25 (by first | assumption | ((repeat (first | assumption | exact va_up_self _ _ _ | refine (va_up_ne _ _ (by assumption)).trans ?_)); done) | (simp [va_up, *] <;> rfl)) rfl ?_
  refine z_callV C dX6_takeIn_8 lk_X6_60 mw_X2_addAll mi_X2_addAll ms_X2_addAll rfl (by first | assumption | ((repeat (first | assumption | exact va_up_self _ _ _ | refine (va_up_ne _ _ (by assumption)).trans ?_)); done) | (simp [va_up, *] <;> rfl)) (k_X2_addAll hC hC' (by have p2 := hba 2 (by omega); have p3 := hba 3 (by omega); have p4 := hba 4 (by omega); simp [p2, p3, p4]) hG hG1) rfl (by first | decide | exact Nat.le_of_ble_eq_true rfl) ⟨by decide, by decide, by decide, by decide⟩ (fun _ _ h => False.elim h) (fun v M' hp => ?_)
  obtain ⟨rfl, f1, hC2⟩ := hp
  have c0 := f1.at (b := A 0) (by simp [n2, n3, n4]) hB
  have c0' := f1.at (b := B 0) (by have p2 := hba 0 (by omega); simp [p2]) hB'
  refine z_aload_n C dX6_takeIn_11 rfl ?_
  refine z_dup C dX6_takeIn_12 rfl ?_
  refine z_get C dX6_takeIn_13 fl_X6_29 (by first | assumption | ((repeat (first | assumption | exact va_up_self _ _ _ | refine (va_up_ne _ _ (by assumption)).trans ?_)); done) | (simp [va_up, *] <;> rfl)) rfl ?_
  refine z_aload_n C dX6_takeIn_16 rfl ?_
  refine z_get C dX6_takeIn_17 fl_X6_29 (by first | assumption | ((repeat (first | assumption | exact va_up_self _ _ _ | refine (va_up_ne _ _ (by assumption)).trans ?_)); done) | (simp [va_up, *] <;> rfl)) rfl ?_
  refine z_iaddZ C dX6_takeIn_20 ?_
  refine z_put C dX6_takeIn_21 fl_X6_29 (by first | assumption | ((repeat (first | assumption | exact va_up_self _ _ _ | refine (va_up_ne _ _ (by assumption)).trans ?_)); done) | (simp [va_up, *] <;> rfl)) rfl rfl (by simp) ?_
  refine z_iconst C dX6_takeIn_24 ?_
  refine z_istore_n C dX6_takeIn_25 (by decide) ?_
  have f2 : zFr M' (va_up M' (A 0) (some (Sum.inr (6, [Value.ref (A 1), Value.int (zi (rNl R)), Value.int (zi (rMe R)), Value.ref (A 2), Value.int (zi (rTr R + rTr T)), Value.ref (A 5)])))) [A 0] := zFr.up (by simp)
  refine loop 8 _ 0 g5 (by omega) ?_ (va_up_self _ _ _) ?_ ?_ ?_ (fun j hj => by omega) (fun j _ hj => hn5 j hj)
  · exact f1.tr f2 (fun x h => by simp [zFA] at h ⊢; rcases h with h | h | h <;> simp [h]) (fun x h => by simp [zFA] at h ⊢; simp [h])
  · exact f2.at (by simp [m1]) (f1.at (by simp [n6, n7, n8]) hN1)
  · exact hC2.fr f2 (by simp [m2]) (by simp [m3]) (by simp [m4])
  · exact f2.at (by simp [m5]) (f1.at (by simp [n12.symm, n14.symm, n15.symm]) hN5)
theorem zcpy0 (f g : Nat → Int) (N j : Nat) (h : j < N) : va_cpy f g 0 0 N j = f j := by
  unfold va_cpy
  rw [if_pos (by omega)]
  simp
set_option maxHeartbeats 4000000 in
set_option maxRecDepth 100000 in
theorem k_X6_copyFrom {l : Launch} {γ : zG} {M : zM} {A B : Nat → Nat} {R T : zRdr} (hD : hRd γ M A R) (hE : hRd γ M B T) (hl : rNl T ≤ 4) (hab : ∀ i j, i < 6 → j < 6 → A i ≠ B j) :
    zCon l γ yX6_copyFrom cX6_copyFrom 2 none [.ref (A 0), .ref (B 0)] M 2 39 0 0 (fun v' M' => v' = none ∧ zFr M M' (zFA A) ∧ hRd γ M' A T) (fun _ _ => False) := by
  obtain ⟨n1, n2, n3, n4, n5, n6, n7, n8, n9, n10, n11, n12, n13, n14, n15⟩ := hD.ne
  have m1 := n1.symm
  have m2 := n2.symm
  have m3 := n3.symm
  have m4 := n4.symm
  have m5 := n5.symm
  have m6 := n6.symm
  have m7 := n7.symm
  have m8 := n8.symm
  have m9 := n9.symm
  have m12 := n12.symm
  have m14 := n14.symm
  have m15 := n15.symm
  have hba : ∀ j, j < 6 → B j ≠ A 0 ∧ B j ≠ A 1 ∧ B j ≠ A 2 ∧ B j ≠ A 3 ∧ B j ≠ A 4 ∧ B j ≠ A 5 := fun j hj => ⟨(hab 0 j (by omega) hj).symm, (hab 1 j (by omega) hj).symm, (hab 2 j (by omega) hj).symm, (hab 3 j (by omega) hj).symm, (hab 4 j (by omega) hj).symm, (hab 5 j (by omega) hj).symm⟩
  obtain ⟨hB, ⟨g1, hN1, hg1, hn1⟩, hC, g5, hN5, hn5⟩ := hD
  obtain ⟨hB', ⟨g1', hN1', hg1', hn1'⟩, hC', h5, hN5', hn5'⟩ := hE
  obtain ⟨p01, p02, p03, p04, p05, p06⟩ := hba 0 (by omega)
  obtain ⟨p11, p12, p13, p14, p15, p16⟩ := hba 1 (by omega)
  obtain ⟨p51, p52, p53, p54, p55, p56⟩ := hba 5 (by omega)
  refine zEnter [some (.ref (A 0)), some (.ref (B 0))] (by decide +kernel) rfl rfl (Nat.le_of_ble_eq_true rfl) ?_
  intro p e s m args below meth c Q C hin hQ
  refine z_aload_n C dX6_copyFrom_0 rfl ?_
  refine z_get C dX6_copyFrom_1 fl_X6_9 (by first | assumption | ((repeat (first | assumption | exact va_up_self _ _ _ | refine (va_up_ne _ _ (by assumption)).trans ?_)); done) | (simp [va_up, *] <;> rfl)) rfl ?_
  refine z_iconst C dX6_copyFrom_4 ?_
  refine z_aload_n C dX6_copyFrom_5 rfl ?_
  refine z_get C dX6_copyFrom_6 fl_X6_9 (by first | assumption | ((repeat (first | assumption | exact va_up_self _ _ _ | refine (va_up_ne _ _ (by assumption)).trans ?_)); done) | (simp [va_up, *] <;> rfl)) rfl ?_
  refine z_iconst C dX6_copyFrom_9 ?_
  refine z_iconst C dX6_copyFrom_10 ?_
  refine z_copyZ C dX6_copyFrom_11 t3_202 ar_nat ar_st ar_in (by first | assumption | ((repeat (first | assumption | exact va_up_self _ _ _ | refine (va_up_ne _ _ (by assumption)).trans ?_)); done) | (simp [va_up, *] <;> rfl)) (by first | assumption | ((repeat (first | assumption | exact va_up_self _ _ _ | refine (va_up_ne _ _ (by assumption)).trans ?_)); done) | (simp [va_up, *] <;> rfl)) (by omega) (by omega) (by omega) (by omega) (by omega) (by decide) (by decide) ⟨by decide, (by first | decide | exact Nat.le_of_ble_eq_true rfl)⟩ (by assumption) (by assumption) (fun hr11 => ?_)
  refine z_aload_n C dX6_copyFrom_14 rfl ?_
  refine z_aload_n C dX6_copyFrom_15 rfl ?_
  refine z_get C dX6_copyFrom_16 fl_X6_15 (by first | assumption | ((repeat (first | assumption | exact va_up_self _ _ _ | refine (va_up_ne _ _ (by assumption)).trans ?_)); done) | (simp [va_up, *] <;> rfl)) rfl ?_
  refine z_put C dX6_copyFrom_19 fl_X6_15 (by first | assumption | ((repeat (first | assumption | exact va_up_self _ _ _ | refine (va_up_ne _ _ (by assumption)).trans ?_)); done) | (simp [va_up, *] <;> rfl)) rfl rfl (by simp) ?_
  refine z_aload_n C dX6_copyFrom_22 rfl ?_
  refine z_aload_n C dX6_copyFrom_23 rfl ?_
  refine z_get C dX6_copyFrom_24 fl_X6_19 (by first | assumption | ((repeat (first | assumption | exact va_up_self _ _ _ | refine (va_up_ne _ _ (by assumption)).trans ?_)); done) | (simp [va_up, *] <;> rfl)) rfl ?_
  refine z_put C dX6_copyFrom_27 fl_X6_19 (by first | assumption | ((repeat (first | assumption | exact va_up_self _ _ _ | refine (va_up_ne _ _ (by assumption)).trans ?_)); done) | (simp [va_up, *] <;> rfl)) rfl rfl (by simp) ?_
  refine z_aload_n C dX6_copyFrom_30 rfl ?_
  refine z_get C dX6_copyFrom_31 fl_X6_25 (by first | assumption | ((repeat (first | assumption | exact va_up_self _ _ _ | refine (va_up_ne _ _ (by assumption)).trans ?_)); done) | (simp [va_up, *] <;> rfl)) rfl ?_
  refine z_aload_n C dX6_copyFrom_34 rfl ?_
  refine z_get C dX6_copyFrom_35 fl_X6_25 (by first | assumption | ((repeat (first | assumption | exact va_up_self _ _ _ | refine (va_up_ne _ _ (by assumption)).trans ?_)); done) | (simp [va_up, *] <;> rfl)) rfl ?_
  have f1 : zFr M (va_up (va_up (va_up M (A 1) (some (zar γ 4 (va_cpy g1' g1 0 0 4)))) (A 0) (some (Sum.inr (6, [Value.ref (A 1), Value.int (zi (rNl T)), Value.int (zi (rMe R)), Value.ref (A 2), Value.int (zi (rTr R)), Value.ref (A 5)])))) (A 0) (some (Sum.inr (6, [Value.ref (A 1), Value.int (zi (rNl T)), Value.int (zi (rMe T)), Value.ref (A 2), Value.int (zi (rTr R)), Value.ref (A 5)])))) [A 0, A 1] := zFr.u1 (zFr.u2 zFr.rf (by simp) (by simp)) (by simp)
  have e0 := (va_up_self (va_up (va_up M (A 1) (some (zar γ 4 (va_cpy g1' g1 0 0 4)))) (A 0) (some (Sum.inr (6, [Value.ref (A 1), Value.int (zi (rNl T)), Value.int (zi (rMe R)), Value.ref (A 2), Value.int (zi (rTr R)), Value.ref (A 5)])))) (A 0) (some (Sum.inr (6, [Value.ref (A 1), Value.int (zi (rNl T)), Value.int (zi (rMe T)), Value.ref (A 2), Value.int (zi (rTr R)), Value.ref (A 5)]))))
  have e1 : va_up (va_up (va_up M (A 1) (some (zar γ 4 (va_cpy g1' g1 0 0 4)))) (A 0) (some (Sum.inr (6, [Value.ref (A 1), Value.int (zi (rNl T)), Value.int (zi (rMe R)), Value.ref (A 2), Value.int (zi (rTr R)), Value.ref (A 5)])))) (A 0) (some (Sum.inr (6, [Value.ref (A 1), Value.int (zi (rNl T)), Value.int (zi (rMe T)), Value.ref (A 2), Value.int (zi (rTr R)), Value.ref (A 5)]))) (A 1) = some (zar γ 4 (va_cpy g1' g1 0 0 4)) := by rw [va_up_ne _ _ m1, va_up_ne _ _ m1]; exact va_up_self _ _ _
  have c2 := hC.fr f1 (by simp [m2, m6]) (by simp [m3, m7]) (by simp [m4, m8])
  have c2' := hC'.fr f1 (by have := hba 2 (by omega); simp [this]) (by have := hba 3 (by omega); simp [this]) (by have := hba 4 (by omega); simp [this])
  obtain ⟨A1, ha1⟩ := c2.ob
  refine z_callV C dX6_copyFrom_38 lk_X6_41 mw_X2_copyFrom mi_X2_copyFrom ms_X2_copyFrom rfl ha1 (k_X2_copyFrom c2 c2' ⟨hab 3 3 (by omega) (by omega), hab 3 4 (by omega) (by omega), hab 4 4 (by omega) (by omega)⟩) rfl (by first | decide | exact Nat.le_of_ble_eq_true rfl) ⟨by decide, by decide, by decide, by decide⟩ (fun _ _ h => False.elim h) (fun v M' hp => ?_)
  obtain ⟨rfl, f2, hC2⟩ := hp
  have d0 := f2.at (by simp [n2, n3, n4]) e0
  have d1 := f2.at (by simp [n6, n7, n8]) e1
  have d0' := f2.at (b := B 0) (by simp [p03, p04, p05]) (f1.at (by simp [p01, p02]) hB')
  have d5' := f2.at (b := B 5) (by simp [p53, p54, p55]) (f1.at (by simp [p51, p52]) hN5')
  have d5 := f2.at (b := A 5) (by simp [m12, m14, m15]) (f1.at (by simp [m5, m9]) hN5)
  refine z_aload_n C dX6_copyFrom_41 rfl ?_
  refine z_aload_n C dX6_copyFrom_42 rfl ?_
  refine z_get C dX6_copyFrom_43 fl_X6_29 (by first | assumption | ((repeat (first | assumption | exact va_up_self _ _ _ | refine (va_up_ne _ _ (by assumption)).trans ?_)); done) | (simp [va_up, *] <;> rfl)) rfl ?_
  refine z_put C dX6_copyFrom_46 fl_X6_29 (by first | assumption | ((repeat (first | assumption | exact va_up_self _ _ _ | refine (va_up_ne _ _ (by assumption)).trans ?_)); done) | (simp [va_up, *] <;> rfl)) rfl rfl (by simp) ?_
  refine z_aload_n C dX6_copyFrom_49 rfl ?_
  refine z_get C dX6_copyFrom_50 fl_X6_32 (by first | assumption | ((repeat (first | assumption | exact va_up_self _ _ _ | refine (va_up_ne _ _ (by assumption)).trans ?_)); done) | (simp [va_up, *] <;> rfl)) rfl ?_
  refine z_iconst C dX6_copyFrom_53 ?_
  refine z_aload_n C dX6_copyFrom_54 rfl ?_
  refine z_get C dX6_copyFrom_55 fl_X6_32 (by first | assumption | ((repeat (first | assumption | exact va_up_self _ _ _ | refine (va_up_ne _ _ (by assumption)).trans ?_)); done) | (simp [va_up, *] <;> rfl)) rfl ?_
  refine z_iconst C dX6_copyFrom_58 ?_
  refine z_bipush C dX6_copyFrom_59 (by decide) ?_
  refine z_copyW C dX6_copyFrom_61 t3_202 ar_nat ar_st ar_in (by first | assumption | ((repeat (first | assumption | exact va_up_self _ _ _ | refine (va_up_ne _ _ (by assumption)).trans ?_)); done) | (simp [va_up, *] <;> rfl)) (by first | assumption | ((repeat (first | assumption | exact va_up_self _ _ _ | refine (va_up_ne _ _ (by assumption)).trans ?_)); done) | (simp [va_up, *] <;> rfl)) (by omega) (by omega) (by omega) (by omega) (by omega) (by decide) (by decide) ⟨by decide, (by first | decide | exact Nat.le_of_ble_eq_true rfl)⟩ ?_
  refine z_vret C hQ dX6_copyFrom_64 (by decide) (by decide) ?_
  have f3 : zFr M' (va_up (va_up M' (A 0) (some (Sum.inr (6, [Value.ref (A 1), Value.int (zi (rNl T)), Value.int (zi (rMe T)), Value.ref (A 2), Value.int (zi (rTr T)), Value.ref (A 5)])))) (A 5) (some (zar γ 8 (va_cpy h5 g5 0 0 8)))) [A 0, A 5] := zFr.u2 zFr.rf (by simp) (by simp)
  refine ⟨rfl, ?_, ?_, ⟨va_cpy g1' g1 0 0 4, f3.at (by simp [m1, n9]) d1, by assumption, fun j hj => ?_⟩, hC2.fr f3 (by simp [m2, n12]) (by simp [m3, n14]) (by simp [m4, n15]), va_cpy h5 g5 0 0 8, va_up_self _ _ _, fun j hj => ?_⟩
  · exact ((f1.tr f2 (S := zFA A) (fun x h => by simp [zFA] at h ⊢; rcases h with h | h <;> simp [h]) (fun x h => by simp [zFA] at h ⊢; rcases h with h | h | h <;> simp [h]))).tr f3 (fun _ h => h) (fun x h => by simp [zFA] at h ⊢; rcases h with h | h <;> simp [h])
  · rw [va_up_ne _ _ n5]
    exact va_up_self _ _ _
  · rw [zcpy0 _ _ _ _ (by omega)]
    exact hn1' j hj
  · rw [zcpy0 _ _ _ _ (by omega)]
    exact hn5' j hj

