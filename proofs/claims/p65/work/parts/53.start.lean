/-! the first state -/
theorem zF0_rng (j : Nat) : 0 ≤ zF0 j ∧ zF0 j ≤ 127 := zSc_rng (by decide)
set_option maxHeartbeats 4000000 in
set_option maxRecDepth 100000 in
theorem k_X8_firstState {l : Launch} {γ : zG} {M : zM} :
    zCon l γ yX8_firstState cX8_firstState 3 (some (.object "TrigramReaders$State")) [] M 9 200 50 6200 (fun v' M' => ∃ D : Nat → Nat, v' = some (.ref (D 0)) ∧ zInj D ∧ (∀ j, j < 43 → M (D j) = none) ∧ zFr M M' (zFD D) ∧ hSt γ M' D zFs9) (fun _ _ => False) := by
  have hlk := fun M => @k_J0_length l γ M 0 (by decide)
  have hch := fun M i h => @k_J0_charAt l γ M 0 i (by decide) h
  have hL : (zStrLen.getD 0 0 : Nat) = 117 := by decide
  refine zEnter [none, none, none] (by decide +kernel) rfl rfl (Nat.le_of_ble_eq_true rfl) ?_
  intro p e s m args below meth c Q C hin hQ
  have fin : ∀ (M1 : zM) (q0 r0 : Nat) (f1 : Nat → Int) (x2 : Option Value), M q0 = none → M r0 = none → zFr M M1 [q0, r0] → hBy γ M1 q0 r0 f1 117 → hBo f1 117 → (∀ j : Nat, (j : Int) < 117 → f1 j = zF0 j) → zAW p l e { frames := 9, cells := 50, slots := 6200, locals := 200 } s m args below meth c γ 3 Q M1 2 502 35 [some (.ref q0), x2, none] [] := by
    intro M1 q0 r0 f1 x2 hq0 hr0 hf hB1 hO1 he
    refine z_new C dX8_firstState_35 nw_X8_17 ⟨by decide, by decide⟩ (fun q35 hq35 => ?_)
    refine z_dup C dX8_firstState_38 rfl ?_
    refine z_callI C dX8_firstState_39 lk_X8_19 mw_X7_init rfl mi_X7_init (k_X7_init (va_up_self _ _ _)) rfl (by first | decide | exact Nat.le_of_ble_eq_true rfl) ⟨by decide, by decide, by decide, by decide⟩ (fun _ _ h => False.elim h) (fun v M' hp => ?_)
    obtain ⟨rfl, D, hG, hS⟩ := hp
    obtain ⟨g0, gi, gn, gf, gd⟩ := id hG
    have d0 : M1 (D 0) = none := by rw [g0]; exact hq35
    have dn : ∀ j, j < 43 → M1 (D j) = none := fun j hj => by
      by_cases e : j = 0
      · rw [e]
        exact d0
      · have := gn j (by omega) hj
        rw [va_up_ne _ _ (fun w => e (gi j 0 hj (by omega) (w.trans g0.symm)))] at this
        exact this
    have n0 : ∀ j, j < 43 → D j ≠ q0 := fun j hj w => by
      have := dn j hj
      rw [w, hB1.1] at this
      cases this
    have nr : ∀ j, j < 43 → D j ≠ r0 := fun j hj w => by
      have := dn j hj
      rw [w, hB1.2] at this
      cases this
    have m0 : q0 ∉ zFD D := fun w => by
      obtain ⟨j, h1, h2⟩ := zRm.mp w
      exact n0 j h1 h2
    have mr : r0 ∉ zFD D := fun w => by
      obtain ⟨j, h1, h2⟩ := zRm.mp w
      exact nr j h1 h2
    have fA : zFr M1 M' (zFD D) := (zFr.up (zRm.mpr ⟨0, by omega, g0⟩)).tr gf (fun _ h => h) (fun _ h => h)
    have hB2 := hB1.fr fA m0 mr
    refine z_astore_n C dX8_firstState_42 (by decide) ?_
    refine z_new C dX8_firstState_43 nw_X8_98 ⟨by decide, by decide⟩ (fun q43 hq43 => ?_)
    have nq : ∀ j, j < 43 → D j ≠ q43 := fun j hj w => by
      obtain ⟨x, hx⟩ := gd j hj
      rw [w, hq43] at hx
      cases hx
    have mq : q43 ∉ zFD D := fun w => by
      obtain ⟨j, h1, h2⟩ := zRm.mp w
      exact nq j h1 h2
    have q0q : q0 ∉ [q43] := fun w => by
      have h1 := hB2.1
      rw [List.mem_singleton.mp w, hq43] at h1
      cases h1
    have r0q : r0 ∉ [q43] := fun w => by
      have h1 := hB2.2
      rw [List.mem_singleton.mp w, hq43] at h1
      cases h1
    refine z_dup C dX8_firstState_46 rfl ?_
    refine z_aload_n C dX8_firstState_47 rfl ?_
    refine z_aload_n C dX8_firstState_48 rfl ?_
    refine z_callI C dX8_firstState_49 lk_X8_100 mw_X4_init rfl mi_X4_init (k_X4_init (va_up_self _ _ _)) rfl (by first | decide | exact Nat.le_of_ble_eq_true rfl) ⟨by decide, by decide, by decide, by decide⟩ (fun _ _ h => False.elim h) (fun v M' hp => ?_)
    obtain ⟨rfl, f49, hP49⟩ := hp
    have fB := (zFr.up (List.mem_singleton.mpr rfl)).tr f49 (fun _ h => h) (fun _ h => h)
    have hB3 := hB2.fr fB q0q r0q
    have hS3 := hS.fr fB (fun j hj w => nq j hj (List.mem_singleton.mp w))
    have oP49 := id hP49
    unfold hPt at oP49
    rw [← g0] at hP49
    refine z_astore_n C dX8_firstState_52 (by decide) ?_
    refine z_aload_n C dX8_firstState_53 rfl ?_
    refine z_callV C dX8_firstState_54 lk_X8_103 mw_X4_parseAll mi_X4_parseAll ms_X4_parseAll rfl oP49 (k_X4_parseAll (S := zS0) hP49 hB3 hO1 gi hS3 zS0_ok mq ⟨m0, mr⟩) rfl (by first | decide | exact Nat.le_of_ble_eq_true rfl) ⟨by decide, by decide, by decide, by decide⟩ (fun _ _ h => False.elim h) (fun v M' hp => ?_)
    obtain ⟨r54, rfl, f54, hz54⟩ := hp
    rw [zpA_cg (hAt_cgf he), zp_first] at hz54
    have hS4 := (hz54.resolve_right (fun w => w.1 rfl)).2.2.1
    refine z_pop C dX8_firstState_57 rfl ?_
    refine z_fgt (q := q0) ?_
    refine z_fgt (q := r0) ?_
    refine z_fgt (q := q43) ?_
    refine z_aload_n C dX8_firstState_58 rfl ?_
    refine z_aret C hQ dX8_firstState_59 (by first | exact Or.inl ⟨_, rfl⟩ | exact Or.inr ⟨_, rfl⟩) (Or.inr ⟨_, rfl⟩) (by decide) (by decide) ?_
    have m43 : M q43 = none := by
      have h1 := (fA q43 mq).symm.trans hq43
      refine (hf q43 fun w => ?_).symm.trans h1
      rcases List.mem_cons.mp w with w | w
      · exact q0q (by rw [w]; simp)
      · exact r0q (by rw [List.mem_singleton.mp w]; simp)
    have fC : zFr M M' (q0 :: r0 :: q43 :: zFD D) := by
      intro b hb
      simp only [List.mem_cons, not_or] at hb
      rw [f54 b (fun w => (List.mem_cons.mp w).elim hb.2.2.1 hb.2.2.2), fB b (fun w => hb.2.2.1 (List.mem_singleton.mp w)), fA b hb.2.2.2]
      exact hf b (fun w => by simp at w; exact w.elim hb.1 hb.2.1)
    refine ⟨D, by rw [g0], gi, fun j hj => ?_, ((fC.fgt hq0).fgt hr0).fgt m43, ?_⟩
    · refine (hf (D j) fun w => ?_).symm.trans (dn j hj)
      rcases List.mem_cons.mp w with w | w
      · exact n0 j hj w
      · exact nr j hj (List.mem_singleton.mp w)
    · refine ((hS4.fr (zFr.up (List.mem_singleton.mpr rfl)) fun j hj w => n0 j hj (List.mem_singleton.mp w)).fr (zFr.up (List.mem_singleton.mpr rfl)) fun j hj w => nr j hj (List.mem_singleton.mp w)).fr (zFr.up (List.mem_singleton.mpr rfl)) fun j hj w => nq j hj (List.mem_singleton.mp w)
  have loop : ∀ (t : Nat) (M1 : zM) (q0 r0 : Nat) (i : Int) (f1 : Nat → Int), 117 - i = t → 0 ≤ i ∧ i ≤ 117 → M q0 = none → M r0 = none → zFr M M1 [q0, r0] → hBy γ M1 q0 r0 f1 i → hBo f1 i → (∀ j : Nat, (j : Int) < i → f1 j = zF0 j) → zAW p l e { frames := 9, cells := 50, slots := 6200, locals := 200 } s m args below meth c γ 3 Q M1 2 502 10 [some (.ref q0), some (.int (zi i)), none] [] := by
    intro t
    induction t with
    | zero =>
      intro M1 q0 r0 i f1 ht hi hq0 hr0 hf hB1 hO1 he
      obtain rfl : i = 117 := by omega
      refine z_iload_n C dX8_firstState_10 rfl ?_
      refine z_ldcS (i := 0) C rfl dX8_firstState_11 ?_
      refine z_callVS C (show 0 < 26 by decide) dX8_firstState_13 lk_X8_84 mw_J0_length_8abf5 mi_J0_length_8abf5 ms_J0_length_8abf5 (hlk _) rfl (by first | decide | exact Nat.le_of_ble_eq_true rfl) ⟨by decide, by decide, by decide, by decide⟩ (fun _ _ h => False.elim h) (fun v M' hp => ?_)
      obtain ⟨rfl, rfl⟩ := hp
      rw [hL]
      refine z_icmp_geZ (tgt := 35) C dX8_firstState_16 (by decide) (by omega) (by omega) (fun h16 => ?_) (fun h16 => ?_)
      · exact fin _ q0 r0 f1 _ hq0 hr0 hf hB1 hO1 he
      · exact absurd h16 (by omega)
    | succ t ih =>
      intro M1 q0 r0 i f1 ht hi hq0 hr0 hf hB1 hO1 he
      have rg := zF0_rng i.toNat
      have obb := hB1.1
      refine z_iload_n C dX8_firstState_10 rfl ?_
      refine z_ldcS (i := 0) C rfl dX8_firstState_11 ?_
      refine z_callVS C (show 0 < 26 by decide) dX8_firstState_13 lk_X8_84 mw_J0_length_8abf5 mi_J0_length_8abf5 ms_J0_length_8abf5 (hlk _) rfl (by first | decide | exact Nat.le_of_ble_eq_true rfl) ⟨by decide, by decide, by decide, by decide⟩ (fun _ _ h => False.elim h) (fun v M' hp => ?_)
      obtain ⟨rfl, rfl⟩ := hp
      rw [hL]
      refine z_icmp_geZ (tgt := 35) C dX8_firstState_16 (by decide) (by omega) (by omega) (fun h16 => ?_) (fun h16 => ?_)
      · exact absurd h16 (by omega)
      · refine z_aload_n C dX8_firstState_19 rfl ?_
        refine z_ldcS (i := 0) C rfl dX8_firstState_20 ?_
        refine z_iload_n C dX8_firstState_22 rfl ?_
        refine z_callVS C (show 0 < 26 by decide) dX8_firstState_23 lk_X8_90 mw_J0_charAt_5068e mi_J0_charAt_5068e ms_J0_charAt_5068e (hch _ i (by rw [hL]; omega)) rfl (by first | decide | exact Nat.le_of_ble_eq_true rfl) ⟨by decide, by decide, by decide, by decide⟩ (fun _ _ h => False.elim h) (fun v M' hp => ?_)
        obtain ⟨rfl, rfl⟩ := hp
        refine z_callV C dX8_firstState_26 lk_X8_94 mw_X0_append mi_X0_append ms_X0_append rfl (by first | assumption | ((repeat (first | assumption | exact va_up_self _ _ _ | refine (va_up_ne _ _ (by assumption)).trans ?_)); done) | (simp [va_up, *] <;> rfl)) (k_X0_append hB1 hO1 (x := zF0 i.toNat) (by omega)) rfl (by first | decide | exact Nat.le_of_ble_eq_true rfl) ⟨by decide, by decide, by decide, by decide⟩ (fun _ _ h => False.elim h) (fun v M' hp => ?_)
        obtain ⟨rfl, f26, hq26⟩ := hp
        refine z_iincZ C dX8_firstState_29 rfl (by decide) ?_
        refine z_goto (tgt := 10) C dX8_firstState_32 (by decide) ?_
        obtain ⟨-, hB2, hO2⟩ := hq26.resolve_right (fun w => by omega)
        refine ih _ q0 r0 (i + 1) _ (by omega) (by omega) hq0 hr0 (hf.tr f26 (fun _ h => h) (fun _ h => h)) hB2 hO2 (fun j hj => ?_)
        unfold va_up
        split
        · rename_i e1
          rw [e1]
        · exact he j (by omega)
  refine z_new C dX8_firstState_0 nw_X8_41 ⟨by decide, by decide⟩ (fun q0 hq0 => ?_)
  refine z_dup C dX8_firstState_3 rfl ?_
  refine z_callIN C dX8_firstState_4 nk_X8_43 mw_X0_init rfl mi_X0_init (k_X0_init (va_up_self _ _ _)) rfl (by first | decide | exact Nat.le_of_ble_eq_true rfl) ⟨by decide, by decide, by decide, by decide⟩ (fun _ _ h => False.elim h) (fun v M' hp => ?_)
  obtain ⟨rfl, r4, hr4, f4, hB4⟩ := hp
  refine z_astore_n C dX8_firstState_7 (by decide) ?_
  refine z_iconst C dX8_firstState_8 ?_
  refine z_istore_n C dX8_firstState_9 (by decide) ?_
  have nr4 : r4 ≠ q0 := fun w => by
    rw [w, va_up_self] at hr4
    cases hr4
  rw [va_up_ne _ _ nr4] at hr4
  exact loop 117 _ q0 r4 0 _ (by omega) (by omega) hq0 hr4 ((zFr.up (by simp)).tr f4 (fun _ h => h) (fun _ h => h)) hB4 ⟨by omega, fun _ => by show zR 0; unfold zR; omega, fun j hj => by omega⟩ (fun j hj => by omega)

