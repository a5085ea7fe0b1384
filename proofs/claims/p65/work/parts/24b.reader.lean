/-- a reader has the name that stands in a row of bytes -/
def hIs (nm : Nat → Int) (nl : Int) (f : Nat → Int) (n b : Int) (t : Int) : Prop := ∀ j : Int, 0 ≤ j → j < t → hAt nm nl j = hAt f n (b + j)
set_option maxHeartbeats 4000000 in
set_option maxRecDepth 100000 in
theorem k_X6_isNamed {l : Launch} {γ : zG} {M : zM} {A : Nat → Nat} {R : zRdr} {ta tr : Nat} {f : Nat → Int} {n b e0 : Int} (hD : hRd γ M A R) (hl : 0 ≤ rNl R ∧ rNl R ≤ 4) (hT : hBy γ M ta tr f n) (hO : hBo f n) (hb : 0 ≤ b ∧ b ≤ 500 ∧ 0 ≤ e0 ∧ e0 ≤ 500) :
    zCon l γ yX6_isNamed cX6_isNamed 6 (some .boolean) [.ref (A 0), .ref ta, .int (zi b), .int (zi e0)] M 1 21 0 0 (fun v' M' => ∃ x : Int, v' = some (.int (zi x)) ∧ M' = M ∧ zB x (e0 - b = rNl R ∧ hIs (rNm R) (rNl R) f n b (rNl R))) (fun _ _ => False) := by
  have hat := fun i (hi : zR i) => @k_X0_at l γ M ta tr f n i hT hO hi
  have hna := fun i (hi : zR i) => @k_X6_nameAt l γ M A R i hD hl hi
  have hrg := hAt_rng hO
  have ob := hD.1
  have obt := hT.1
  refine zEnter [some (.ref (A 0)), some (.ref ta), some (.int (zi b)), some (.int (zi e0)), none, none] (by decide +kernel) rfl rfl (Nat.le_of_ble_eq_true rfl) ?_
  intro p e s m args below meth c Q C hin hQ
  have loop : ∀ (t : Nat) (i g : Int), rNl R - i = t → 0 ≤ i ∧ i ≤ rNl R → zB g (e0 - b = rNl R ∧ hIs (rNm R) (rNl R) f n b i) → zAW p l e { frames := 1, cells := 0, slots := 0, locals := 21 } s m args below meth c γ 6 Q M 0 0 20 [some (.ref (A 0)), some (.ref ta), some (.int (zi b)), some (.int (zi e0)), some (.int (zi g)), some (.int (zi i))] [] := by
    intro t
    induction t with
    | zero =>
      intro i g ht hi hg
      obtain rfl : i = rNl R := by omega
      have hg2 := hg.rng
      refine z_iload C dX6_isNamed_20 rfl ?_
      refine z_aload_n C dX6_isNamed_22 rfl ?_
      refine z_get C dX6_isNamed_23 fl_X6_15 (by first | assumption | ((repeat (first | assumption | exact va_up_self _ _ _ | refine (va_up_ne _ _ (by assumption)).trans ?_)); done) | (simp [va_up, *] <;> rfl)) rfl ?_
      refine z_icmp_geZ (tgt := 64) C dX6_isNamed_26 (by decide) (by omega) (by omega) (fun h26 => ?_) (fun h26 => ?_)
      · refine z_iload C dX6_isNamed_64 rfl ?_
        refine z_iret C hQ dX6_isNamed_66 hg.nar (by decide) (by decide) ?_
        exact ⟨g, rfl, rfl, hg⟩
      · exact absurd h26 (by omega)
    | succ t ih =>
      intro i g ht hi hg
      have hg2 := hg.rng
      refine z_iload C dX6_isNamed_20 rfl ?_
      refine z_aload_n C dX6_isNamed_22 rfl ?_
      refine z_get C dX6_isNamed_23 fl_X6_15 (by first | assumption | ((repeat (first | assumption | exact va_up_self _ _ _ | refine (va_up_ne _ _ (by assumption)).trans ?_)); done) | (simp [va_up, *] <;> rfl)) rfl ?_
      refine z_icmp_geZ (tgt := 64) C dX6_isNamed_26 (by decide) (by omega) (by omega) (fun h26 => ?_) (fun h26 => ?_)
      · exact absurd h26 (by omega)
      · refine z_iload C dX6_isNamed_29 rfl ?_
        refine z_if_eqZ (tgt := 64) C dX6_isNamed_31 (by decide) (by omega) (fun h31 => ?_) (fun h31 => ?_)
        · refine z_iload C dX6_isNamed_64 rfl ?_
          refine z_iret C hQ dX6_isNamed_66 hg.nar (by decide) (by decide) ?_
          exact ⟨g, rfl, rfl, Or.inr ⟨h31, fun q => hg.f h31 ⟨q.1, fun j h1 h2 => q.2 j h1 (by omega)⟩⟩⟩
        · refine z_aload_n C dX6_isNamed_34 rfl ?_
          refine z_iload C dX6_isNamed_35 rfl ?_
          refine z_callV C dX6_isNamed_37 lk_X6_57 mw_X6_nameAt mi_X6_nameAt ms_X6_nameAt rfl (by first | assumption | ((repeat (first | assumption | exact va_up_self _ _ _ | refine (va_up_ne _ _ (by assumption)).trans ?_)); done) | (simp [va_up, *] <;> rfl)) (hna i ⟨by omega, by omega⟩) rfl (by first | decide | exact Nat.le_of_ble_eq_true rfl) ⟨by decide, by decide, by decide, by decide⟩ (fun _ _ h => False.elim h) (fun v M' hp => ?_)
          obtain ⟨x37, rfl, rfl, hr37, hz37⟩ := hp
          unfold zR at hz37
          refine z_aload_n C dX6_isNamed_40 rfl ?_
          refine z_iload_n C dX6_isNamed_41 rfl ?_
          refine z_iload C dX6_isNamed_42 rfl ?_
          refine z_iaddZ C dX6_isNamed_44 ?_
          refine z_callV C dX6_isNamed_45 lk_X6_45 mw_X0_at mi_X0_at ms_X0_at rfl (by first | assumption | ((repeat (first | assumption | exact va_up_self _ _ _ | refine (va_up_ne _ _ (by assumption)).trans ?_)); done) | (simp [va_up, *] <;> rfl)) (hat (b + i) ⟨by omega, by omega⟩) rfl (by first | decide | exact Nat.le_of_ble_eq_true rfl) ⟨by decide, by decide, by decide, by decide⟩ (fun _ _ h => False.elim h) (fun v M' hp => ?_)
          obtain ⟨x45, rfl, rfl, hr45⟩ := hp
          have hz45 := hrg (b + i)
          rw [← hr45] at hz45
          refine z_icmp_neZ (tgt := 55) C dX6_isNamed_48 (by decide) (by omega) (by omega) (fun h48 => ?_) (fun h48 => ?_)
          · refine z_iconst C dX6_isNamed_55 ?_
            refine z_istore C dX6_isNamed_56 (by decide) ?_
            refine z_iincZ C dX6_isNamed_58 rfl (by decide) ?_
            refine z_goto (tgt := 20) C dX6_isNamed_61 (by decide) ?_
            exact ih _ _ (by omega) (by omega) (Or.inr ⟨rfl, fun q => h48 (by rw [hr37, hr45]; exact q.2 i (by omega) (by omega))⟩)
          · refine z_iconst C dX6_isNamed_51 ?_
            refine z_goto (tgt := 56) C dX6_isNamed_52 (by decide) ?_
            refine z_istore C dX6_isNamed_56 (by decide) ?_
            refine z_iincZ C dX6_isNamed_58 rfl (by decide) ?_
            refine z_goto (tgt := 20) C dX6_isNamed_61 (by decide) ?_
            refine ih _ _ (by omega) (by omega) (Or.inl ⟨rfl, (hg.t h31).1, fun j h1 h2 => ?_⟩)
            by_cases hj : j = i
            · rw [hj, ← hr37, ← hr45]; omega
            · exact (hg.t h31).2 j h1 (by omega)
  refine z_iload_n C dX6_isNamed_0 rfl ?_
  refine z_iload_n C dX6_isNamed_1 rfl ?_
  refine z_isubZ C dX6_isNamed_2 ?_
  refine z_aload_n C dX6_isNamed_3 rfl ?_
  refine z_get C dX6_isNamed_4 fl_X6_15 (by first | assumption | ((repeat (first | assumption | exact va_up_self _ _ _ | refine (va_up_ne _ _ (by assumption)).trans ?_)); done) | (simp [va_up, *] <;> rfl)) rfl ?_
  refine z_icmp_neZ (tgt := 14) C dX6_isNamed_7 (by decide) (by omega) (by omega) (fun h7 => ?_) (fun h7 => ?_)
  · refine z_iconst C dX6_isNamed_14 ?_
    refine z_istore C dX6_isNamed_15 (by decide) ?_
    refine z_iconst C dX6_isNamed_17 ?_
    refine z_istore C dX6_isNamed_18 (by decide) ?_
    exact loop (rNl R).toNat 0 0 (by omega) (by omega) (Or.inr ⟨rfl, fun q => h7 q.1⟩)
  · refine z_iconst C dX6_isNamed_10 ?_
    refine z_goto (tgt := 15) C dX6_isNamed_11 (by decide) ?_
    refine z_istore C dX6_isNamed_15 (by decide) ?_
    refine z_iconst C dX6_isNamed_17 ?_
    refine z_istore C dX6_isNamed_18 (by decide) ?_
    exact loop (rNl R).toNat 0 1 (by omega) (by omega) (Or.inl ⟨rfl, by omega, fun j h1 h2 => by omega⟩)
/-- a new reader whose name stands in a row of bytes -/
def rNew (f : Nat → Int) (n b e me : Int) : zRdr := (fun j => hAt f n (b + j), e - b, me, fun _ => 0, 0, fun _ => 0)
set_option maxHeartbeats 4000000 in
set_option maxRecDepth 100000 in
theorem k_X6_begin {l : Launch} {γ : zG} {M : zM} {A : Nat → Nat} {R : zRdr} {ta tr : Nat} {f : Nat → Int} {n b e0 me : Int} (hD : hRd γ M A R) (hT : hBy γ M ta tr f n) (hO : hBo f n) (hdt : ta ∉ zFA A ∧ tr ∉ zFA A) (hb : 0 ≤ b ∧ b ≤ 500 ∧ b ≤ e0 ∧ e0 ≤ b + 4) :
    zCon l γ yX6_begin cX6_begin 6 none [.ref (A 0), .ref ta, .int (zi b), .int (zi e0), .int (zi me)] M 1 21 0 0 (fun v' M' => v' = none ∧ zFr M M' (zFA A) ∧ hRd γ M' A (rNew f n b e0 me)) (fun _ _ => False) := by
  obtain ⟨n1, n2, n3, n4, n5, n6, n7, n8, n9, n10, n11, n12, n13, n14, n15⟩ := hD.ne
  have m1 := n1.symm
  have m2 := n2.symm
  have m3 := n3.symm
  have m4 := n4.symm
  have m5 := n5.symm
  have m6 := n6.symm
  have m7 := n7.symm
  have m8 := n8.symm
  have m9 := n9.symm
  obtain ⟨hB, ⟨g1, hN1, hg1, hn1⟩, hC, g5, hN5, hn5⟩ := hD
  have hrg := hAt_rng hO
  refine zEnter [some (.ref (A 0)), some (.ref ta), some (.int (zi b)), some (.int (zi e0)), some (.int (zi me)), none] (by decide +kernel) rfl rfl (Nat.le_of_ble_eq_true rfl) ?_
  intro p e s m args below meth c Q C hin hQ
  have loop : ∀ (t : Nat) (M1 : zM) (i : Int) (g : Nat → Int), b ≤ i ∧ i ≤ e0 ∧ e0 - i = t → zFr M M1 [A 0, A 1] → M1 (A 0) = some (.inr (6, [.ref (A 1), .int (zi (i - b)), .int (zi (rMe R)), .ref (A 2), .int (zi (rTr R)), .ref (A 5)])) → M1 (A 1) = some (zar γ 4 g) → (∀ j, zR (g j)) → (∀ j : Nat, j < i - b → g j = hAt f n (b + j)) → zAW p l e { frames := 1, cells := 0, slots := 0, locals := 21 } s m args below meth c γ 6 Q M1 0 0 8 [some (.ref (A 0)), some (.ref ta), some (.int (zi b)), some (.int (zi e0)), some (.int (zi me)), some (.int (zi i))] [] := by
    intro t
    induction t with
    | zero =>
      intro M1 i g hi hf b0 b1 hg hv
      obtain rfl : i = e0 := by omega
      have f1 : zFr M (va_up M1 (A 0) (some (Sum.inr (6, [Value.ref (A 1), Value.int (zi (i - b)), Value.int (zi me), Value.ref (A 2), Value.int (zi (rTr R)), Value.ref (A 5)])))) [A 0, A 1] := zFr.u1 hf (by simp)
      have hD1 : hRd γ (va_up M1 (A 0) (some (Sum.inr (6, [Value.ref (A 1), Value.int (zi (i - b)), Value.int (zi me), Value.ref (A 2), Value.int (zi (rTr R)), Value.ref (A 5)])))) A (fun j => hAt f n (b + j), i - b, me, rC R, rTr R, rTm R) := ⟨va_up_self _ _ _, ⟨g, by rw [va_up_ne _ _ m1]; exact b1, hg, hv⟩, hC.fr f1 (by simp [m2, m6]) (by simp [m3, m7]) (by simp [m4, m8]), g5, f1.at (by simp [m5, m9]) hN5, hn5⟩
      refine z_iload C dX6_begin_8 rfl ?_
      refine z_iload_n C dX6_begin_10 rfl ?_
      refine z_icmp_geZ (tgt := 53) C dX6_begin_11 (by decide) (by omega) (by omega) (fun h11 => ?_) (fun h11 => ?_)
      · refine z_aload_n C dX6_begin_53 rfl ?_
        refine z_iload C dX6_begin_54 rfl ?_
        refine z_put C dX6_begin_56 fl_X6_19 (by first | assumption | ((repeat (first | assumption | exact va_up_self _ _ _ | refine (va_up_ne _ _ (by assumption)).trans ?_)); done) | (simp [va_up, *] <;> rfl)) rfl rfl (by simp) ?_
        refine z_aload_n C dX6_begin_59 rfl ?_
        refine z_callV C dX6_begin_60 lk_X6_51 mw_X6_clearTrainings mi_X6_clearTrainings ms_X6_clearTrainings rfl (by first | assumption | ((repeat (first | assumption | exact va_up_self _ _ _ | refine (va_up_ne _ _ (by assumption)).trans ?_)); done) | (simp [va_up, *] <;> rfl)) (k_X6_clearTrainings hD1) rfl (by first | decide | exact Nat.le_of_ble_eq_true rfl) ⟨by decide, by decide, by decide, by decide⟩ (fun _ _ h => False.elim h) (fun v M' hp => ?_)
        obtain ⟨rfl, f2, hD2⟩ := hp
        refine z_vret C hQ dX6_begin_63 (by decide) (by decide) ?_
        exact ⟨rfl, f1.tr f2 (fun x h => by simp [zFA] at h ⊢; rcases h with h | h <;> simp [h]) (fun _ h => h), hD2⟩
      · exact absurd h11 (by omega)
    | succ t ih =>
      intro M1 i g hi hf b0 b1 hg hv
      have hT1 : hBy γ M1 ta tr f n := hT.fr hf (fun q => hdt.1 (by simp [zFA] at q ⊢; rcases q with q | q <;> simp [q])) (fun q => hdt.2 (by simp [zFA] at q ⊢; rcases q with q | q <;> simp [q]))
      have obt := hT1.1
      have q := hrg i
      refine z_iload C dX6_begin_8 rfl ?_
      refine z_iload_n C dX6_begin_10 rfl ?_
      refine z_icmp_geZ (tgt := 53) C dX6_begin_11 (by decide) (by omega) (by omega) (fun h11 => ?_) (fun h11 => ?_)
      · exact absurd h11 (by omega)
      · refine z_aload_n C dX6_begin_14 rfl ?_
        refine z_get C dX6_begin_15 fl_X6_15 (by first | assumption | ((repeat (first | assumption | exact va_up_self _ _ _ | refine (va_up_ne _ _ (by assumption)).trans ?_)); done) | (simp [va_up, *] <;> rfl)) rfl ?_
        refine z_iconst C dX6_begin_18 ?_
        refine z_icmp_geZ (tgt := 53) C dX6_begin_19 (by decide) (by omega) (by omega) (fun h19 => ?_) (fun h19 => ?_)
        · exact absurd h19 (by omega)
        · refine z_aload_n C dX6_begin_22 rfl ?_
          refine z_get C dX6_begin_23 fl_X6_9 (by first | assumption | ((repeat (first | assumption | exact va_up_self _ _ _ | refine (va_up_ne _ _ (by assumption)).trans ?_)); done) | (simp [va_up, *] <;> rfl)) rfl ?_
          refine z_aload_n C dX6_begin_26 rfl ?_
          refine z_get C dX6_begin_27 fl_X6_15 (by first | assumption | ((repeat (first | assumption | exact va_up_self _ _ _ | refine (va_up_ne _ _ (by assumption)).trans ?_)); done) | (simp [va_up, *] <;> rfl)) rfl ?_
          refine z_aload_n C dX6_begin_30 rfl ?_
          refine z_iload C dX6_begin_31 rfl ?_
          refine z_callV C dX6_begin_33 lk_X6_45 mw_X0_at mi_X0_at ms_X0_at rfl (by first | assumption | ((repeat (first | assumption | exact va_up_self _ _ _ | refine (va_up_ne _ _ (by assumption)).trans ?_)); done) | (simp [va_up, *] <;> rfl)) (k_X0_at hT1 hO (i := i) ⟨by omega, by omega⟩) rfl (by first | decide | exact Nat.le_of_ble_eq_true rfl) ⟨by decide, by decide, by decide, by decide⟩ (fun _ _ h => False.elim h) (fun v M' hp => ?_)
          obtain ⟨x33, rfl, rfl, hr33⟩ := hp
          subst hr33
          refine z_astN C dX6_begin_36 (by first | assumption | ((repeat (first | assumption | exact va_up_self _ _ _ | refine (va_up_ne _ _ (by assumption)).trans ?_)); done) | (simp [va_up, *] <;> rfl)) (by omega) (by omega) (by assumption) (by omega) (fun hr36 => ?_)
          refine z_aload_n C dX6_begin_37 rfl ?_
          refine z_dup C dX6_begin_38 rfl ?_
          refine z_get C dX6_begin_39 fl_X6_15 (by first | assumption | ((repeat (first | assumption | exact va_up_self _ _ _ | refine (va_up_ne _ _ (by assumption)).trans ?_)); done) | (simp [va_up, *] <;> rfl)) rfl ?_
          refine z_iconst C dX6_begin_42 ?_
          refine z_iaddZ C dX6_begin_43 ?_
          refine z_put C dX6_begin_44 fl_X6_15 (by first | assumption | ((repeat (first | assumption | exact va_up_self _ _ _ | refine (va_up_ne _ _ (by assumption)).trans ?_)); done) | (simp [va_up, *] <;> rfl)) rfl rfl (by simp) ?_
          refine z_iincZ C dX6_begin_47 rfl (by decide) ?_
          refine z_goto (tgt := 8) C dX6_begin_50 (by decide) ?_
          refine ih _ (i + 1) (va_up g (i - b).toNat (hAt f n i)) (by omega) (zFr.u2 hf (by simp) (by simp)) ?_ ?_ hr36 fun j hj => ?_
          · rw [show i + 1 - b = i - b + 1 by omega]
            exact va_up_self _ _ _
          · rw [va_up_ne _ _ m1]
            exact va_up_self _ _ _
          · unfold va_up
            split
            · congr 1
              omega
            · exact hv j (by omega)
  refine z_aload_n C dX6_begin_0 rfl ?_
  refine z_iconst C dX6_begin_1 ?_
  refine z_put C dX6_begin_2 fl_X6_15 (by first | assumption | ((repeat (first | assumption | exact va_up_self _ _ _ | refine (va_up_ne _ _ (by assumption)).trans ?_)); done) | (simp [va_up, *] <;> rfl)) rfl rfl (by simp) ?_
  refine z_iload_n C dX6_begin_5 rfl ?_
  refine z_istore C dX6_begin_6 (by decide) ?_
  refine loop (e0 - b).toNat _ b g1 (by omega) (zFr.up (by simp)) ?_ ?_ hg1 (fun j hj => by omega)
  · rw [show b - b = 0 by omega]
    exact va_up_self _ _ _
  · rw [va_up_ne _ _ m1]
    exact hN1

