theorem zD2_sub (D : Nat → Nat) {i : Nat} (hi : i < 8) : ∀ b, b ∈ [D (27 + 2 * i), D (28 + 2 * i)] → b ∈ zFD D := fun b hb => by
  simp only [List.mem_cons, List.not_mem_nil, or_false] at hb
  rcases hb with h | h <;> (rw [h]; exact zFD_mem D (by omega))
set_option maxHeartbeats 4000000 in
set_option maxRecDepth 100000 in
theorem k_X7_copyFrom {l : Launch} {γ : zG} {M : zM} {D E : Nat → Nat} {S T : zSt} (hI : zInj D) (hD : hSt γ M D S) (hE : hSt γ M E T) (hk : zNk T) (hde : ∀ i j, i < 43 → j < 43 → D i ≠ E j) :
    zCon l γ yX7_copyFrom cX7_copyFrom 3 none [.ref (D 0), .ref (E 0)] M 3 60 0 0 (fun v' M' => v' = none ∧ zFr M M' (zFD D) ∧ hSt γ M' D T) (fun _ _ => False) := by
  obtain ⟨Rs, Ds, h, -, -⟩ := hD
  obtain ⟨Rt, Dt, h', hrt, hdt⟩ := hE
  obtain ⟨hk, hk2, hk3⟩ := hk
  have hnin : ∀ j, j < 43 → E j ∉ zFD D := fun j hj => zFD_nin fun i hi => hde i j hi hj
  refine zEnter [some (.ref (D 0)), some (.ref (E 0)), none] (by decide +kernel) rfl rfl (Nat.le_of_ble_eq_true rfl) ?_
  intro p e s m args below meth c Q C hin hQ
  have loop2 : ∀ (t : Nat) (M1 : zM) (i : Int) (R1 : Nat → zRdr) (D1 : Nat → zDoc), 0 ≤ i ∧ i ≤ sDn T ∧ sDn T - i = t → zFr M M1 (zFD D) → hSx γ M1 D (sRn T) (sDn T) (sYr S) R1 D1 → (∀ j : Nat, j < sRn T → R1 j = sRd T j) → (∀ j : Nat, j < i → D1 j = sDc T j) → zAW p l e { frames := 3, cells := 0, slots := 0, locals := 60 } s m args below meth c γ 3 Q M1 0 0 54 [some (.ref (D 0)), some (.ref (E 0)), some (.int (zi i))] [] := by
    intro t
    induction t with
    | zero =>
      intro M1 i R1 D1 hi hf h1 hv hw
      have h0 := h1.1
      have h0' := (h'.fr hf hnin).1
      have hne := hde 0 0 (by omega) (by omega)
      refine z_iload_n C dX7_copyFrom_54 rfl ?_
      refine z_aload_n C dX7_copyFrom_55 rfl ?_
      refine z_get C dX7_copyFrom_56 fl_X7_27 (by first | assumption | ((repeat (first | assumption | exact va_up_self _ _ _ | refine (va_up_ne _ _ (by assumption)).trans ?_)); done) | (simp [va_up, *] <;> rfl)) rfl ?_
      refine z_icmp_geZ (tgt := 89) C dX7_copyFrom_59 (by decide) (by omega) (by omega) (fun h59 => ?_) (fun h59 => ?_)
      · refine z_aload_n C dX7_copyFrom_89 rfl ?_
        refine z_aload_n C dX7_copyFrom_90 rfl ?_
        refine z_get C dX7_copyFrom_91 fl_X7_30 (by first | assumption | ((repeat (first | assumption | exact va_up_self _ _ _ | refine (va_up_ne _ _ (by assumption)).trans ?_)); done) | (simp [va_up, *] <;> rfl)) rfl ?_
        refine z_put C dX7_copyFrom_94 fl_X7_30 (by first | assumption | ((repeat (first | assumption | exact va_up_self _ _ _ | refine (va_up_ne _ _ (by assumption)).trans ?_)); done) | (simp [va_up, *] <;> rfl)) rfl rfl (by simp) ?_
        refine z_vret C hQ dX7_copyFrom_97 (by decide) (by decide) ?_
        exact ⟨rfl, zFr.u1 hf (zFD_mem D (by omega)), R1, D1, h1.obj hI (sRn T) (sDn T) (sYr T), hv, fun j hj => hw j (by have hj' : (j : Int) < sDn T := hj; omega)⟩
      · exact absurd h59 (by omega)
    | succ t ih =>
      intro M1 i R1 D1 hi hf h1 hv hw
      obtain ⟨h0, hr, h2, h3, h4⟩ := id h1
      obtain ⟨h0', hr', h2', h3', h4'⟩ := id (h'.fr hf hnin)
      obtain ⟨sy, hX, hk1, -⟩ := h4 i.toNat (by omega)
      obtain ⟨sy', hX', hk1', hv'⟩ := h4' i.toNat (by omega)
      have ob := hX.1
      refine z_iload_n C dX7_copyFrom_54 rfl ?_
      refine z_aload_n C dX7_copyFrom_55 rfl ?_
      refine z_get C dX7_copyFrom_56 fl_X7_27 (by first | assumption | ((repeat (first | assumption | exact va_up_self _ _ _ | refine (va_up_ne _ _ (by assumption)).trans ?_)); done) | (simp [va_up, *] <;> rfl)) rfl ?_
      refine z_icmp_geZ (tgt := 89) C dX7_copyFrom_59 (by decide) (by omega) (by omega) (fun h59 => ?_) (fun h59 => ?_)
      · exact absurd h59 (by omega)
      · refine z_iload_n C dX7_copyFrom_62 rfl ?_
        refine z_bipush C dX7_copyFrom_63 (by decide) ?_
        refine z_icmp_geZ (tgt := 89) C dX7_copyFrom_65 (by decide) (by omega) (by omega) (fun h65 => ?_) (fun h65 => ?_)
        · exact absurd h65 (by omega)
        · refine z_aload_n C dX7_copyFrom_68 rfl ?_
          refine z_get C dX7_copyFrom_69 fl_X7_23 (by first | assumption | ((repeat (first | assumption | exact va_up_self _ _ _ | refine (va_up_ne _ _ (by assumption)).trans ?_)); done) | (simp [va_up, *] <;> rfl)) rfl ?_
          refine z_iload_n C dX7_copyFrom_72 rfl ?_
          refine z_aldR C dX7_copyFrom_73 (by first | assumption | ((repeat (first | assumption | exact va_up_self _ _ _ | refine (va_up_ne _ _ (by assumption)).trans ?_)); done) | (simp [va_up, *] <;> rfl)) (by decide) (by omega) (by omega) ?_
          refine z_aload_n C dX7_copyFrom_74 rfl ?_
          refine z_get C dX7_copyFrom_75 fl_X7_23 (by first | assumption | ((repeat (first | assumption | exact va_up_self _ _ _ | refine (va_up_ne _ _ (by assumption)).trans ?_)); done) | (simp [va_up, *] <;> rfl)) rfl ?_
          refine z_iload_n C dX7_copyFrom_78 rfl ?_
          refine z_aldR C dX7_copyFrom_79 (by first | assumption | ((repeat (first | assumption | exact va_up_self _ _ _ | refine (va_up_ne _ _ (by assumption)).trans ?_)); done) | (simp [va_up, *] <;> rfl)) (by decide) (by omega) (by omega) ?_
          refine z_callV C dX7_copyFrom_80 lk_X7_39 mw_X3_copyFrom mi_X3_copyFrom ms_X3_copyFrom rfl ob (k_X3_copyFrom hX hk1.2.1 hX' hk1' (hde _ _ (by omega) (by omega))) rfl (by first | decide | exact Nat.le_of_ble_eq_true rfl) ⟨by decide, by decide, by decide, by decide⟩ (fun _ _ h => False.elim h) (fun v M' hp => ?_)
          obtain ⟨rfl, f1, s2, hX2, hk2', hv2⟩ := hp
          have q := h1.setD hI (by omega) f1 (X := sDc T i.toNat) (by rw [← hdt _ (by omega)]; exact ⟨s2, hX2, hk2', fun j hj => (hv2 j (by have := hk2'.1; omega)).trans (hv' j hj)⟩)
          refine z_iincZ C dX7_copyFrom_83 rfl (by decide) ?_
          refine z_goto (tgt := 54) C dX7_copyFrom_86 (by decide) ?_
          refine ih _ (i + 1) _ _ (by omega) (hf.tr f1 (fun _ h => h) (zD2_sub D (by omega))) q hv (fun j hj => ?_)
          unfold va_up
          split
          · subst j
            rfl
          · exact hw j (by omega)
  have loop : ∀ (t : Nat) (M1 : zM) (i : Int) (R1 : Nat → zRdr), 0 ≤ i ∧ i ≤ sRn T ∧ sRn T - i = t → zFr M M1 (zFD D) → hSx γ M1 D (sRn T) (sDn S) (sYr S) R1 Ds → (∀ j : Nat, j < i → R1 j = sRd T j) → zAW p l e { frames := 3, cells := 0, slots := 0, locals := 60 } s m args below meth c γ 3 Q M1 0 0 10 [some (.ref (D 0)), some (.ref (E 0)), some (.int (zi i))] [] := by
    intro t
    induction t with
    | zero =>
      intro M1 i R1 hi hf h1 hv
      have h0 := h1.1
      have h0' := (h'.fr hf hnin).1
      have hne := hde 0 0 (by omega) (by omega)
      refine z_iload_n C dX7_copyFrom_10 rfl ?_
      refine z_aload_n C dX7_copyFrom_11 rfl ?_
      refine z_get C dX7_copyFrom_12 fl_X7_17 (by first | assumption | ((repeat (first | assumption | exact va_up_self _ _ _ | refine (va_up_ne _ _ (by assumption)).trans ?_)); done) | (simp [va_up, *] <;> rfl)) rfl ?_
      refine z_icmp_geZ (tgt := 44) C dX7_copyFrom_15 (by decide) (by omega) (by omega) (fun h15 => ?_) (fun h15 => ?_)
      · refine z_aload_n C dX7_copyFrom_44 rfl ?_
        refine z_aload_n C dX7_copyFrom_45 rfl ?_
        refine z_get C dX7_copyFrom_46 fl_X7_27 (by first | assumption | ((repeat (first | assumption | exact va_up_self _ _ _ | refine (va_up_ne _ _ (by assumption)).trans ?_)); done) | (simp [va_up, *] <;> rfl)) rfl ?_
        refine z_put C dX7_copyFrom_49 fl_X7_27 (by first | assumption | ((repeat (first | assumption | exact va_up_self _ _ _ | refine (va_up_ne _ _ (by assumption)).trans ?_)); done) | (simp [va_up, *] <;> rfl)) rfl rfl (by simp) ?_
        refine z_iconst C dX7_copyFrom_52 ?_
        refine z_istore_n C dX7_copyFrom_53 (by decide) ?_
        exact loop2 (sDn T).toNat _ 0 _ _ (by omega) (zFr.u1 hf (zFD_mem D (by omega))) (h1.obj hI (sRn T) (sDn T) (sYr S)) (fun j hj => hv j (by omega)) (fun j hj => by omega)
      · exact absurd h15 (by omega)
    | succ t ih =>
      intro M1 i R1 hi hf h1 hv
      obtain ⟨h0, hr, h2, h3, h4⟩ := id h1
      obtain ⟨h0', hr', h2', h3', h4'⟩ := id (h'.fr hf hnin)
      have hR := h3 i.toNat (by omega)
      have hR' := h3' i.toNat (by omega)
      have ob := hR.1
      have hkk := hk3 i.toNat (by omega)
      rw [← hrt i.toNat (by omega)] at hkk
      refine z_iload_n C dX7_copyFrom_10 rfl ?_
      refine z_aload_n C dX7_copyFrom_11 rfl ?_
      refine z_get C dX7_copyFrom_12 fl_X7_17 (by first | assumption | ((repeat (first | assumption | exact va_up_self _ _ _ | refine (va_up_ne _ _ (by assumption)).trans ?_)); done) | (simp [va_up, *] <;> rfl)) rfl ?_
      refine z_icmp_geZ (tgt := 44) C dX7_copyFrom_15 (by decide) (by omega) (by omega) (fun h15 => ?_) (fun h15 => ?_)
      · exact absurd h15 (by omega)
      · refine z_iload_n C dX7_copyFrom_18 rfl ?_
        refine z_iconst C dX7_copyFrom_19 ?_
        refine z_icmp_geZ (tgt := 44) C dX7_copyFrom_20 (by decide) (by omega) (by omega) (fun h20 => ?_) (fun h20 => ?_)
        · exact absurd h20 (by omega)
        · refine z_aload_n C dX7_copyFrom_23 rfl ?_
          refine z_get C dX7_copyFrom_24 fl_X7_11 (by first | assumption | ((repeat (first | assumption | exact va_up_self _ _ _ | refine (va_up_ne _ _ (by assumption)).trans ?_)); done) | (simp [va_up, *] <;> rfl)) rfl ?_
          refine z_iload_n C dX7_copyFrom_27 rfl ?_
          refine z_aldR C dX7_copyFrom_28 (by first | assumption | ((repeat (first | assumption | exact va_up_self _ _ _ | refine (va_up_ne _ _ (by assumption)).trans ?_)); done) | (simp [va_up, *] <;> rfl)) (by decide) (by omega) (by omega) ?_
          refine z_aload_n C dX7_copyFrom_29 rfl ?_
          refine z_get C dX7_copyFrom_30 fl_X7_11 (by first | assumption | ((repeat (first | assumption | exact va_up_self _ _ _ | refine (va_up_ne _ _ (by assumption)).trans ?_)); done) | (simp [va_up, *] <;> rfl)) rfl ?_
          refine z_iload_n C dX7_copyFrom_33 rfl ?_
          refine z_aldR C dX7_copyFrom_34 (by first | assumption | ((repeat (first | assumption | exact va_up_self _ _ _ | refine (va_up_ne _ _ (by assumption)).trans ?_)); done) | (simp [va_up, *] <;> rfl)) (by decide) (by omega) (by omega) ?_
          refine z_callV C dX7_copyFrom_35 lk_X7_35 mw_X6_copyFrom mi_X6_copyFrom ms_X6_copyFrom rfl ob (k_X6_copyFrom hR hR' hkk.2 (fun a b ha hb => hde _ _ (by omega) (by omega))) rfl (by first | decide | exact Nat.le_of_ble_eq_true rfl) ⟨by decide, by decide, by decide, by decide⟩ (fun _ _ h => False.elim h) (fun v M' hp => ?_)
          obtain ⟨rfl, f1, hR2⟩ := hp
          have q := h1.setR hI (by omega) f1 hR2
          refine z_iincZ C dX7_copyFrom_38 rfl (by decide) ?_
          refine z_goto (tgt := 10) C dX7_copyFrom_41 (by decide) ?_
          refine ih _ (i + 1) _ (by omega) (hf.tr f1 (fun _ h => h) (zFA_sub D (by omega))) q (fun j hj => ?_)
          unfold va_up
          split
          · subst j
            exact hrt _ (by omega)
          · exact hv j (by omega)
  have h0 := h.1
  have h0' := h'.1
  have hne := hde 0 0 (by omega) (by omega)
  refine z_aload_n C dX7_copyFrom_0 rfl ?_
  refine z_aload_n C dX7_copyFrom_1 rfl ?_
  refine z_get C dX7_copyFrom_2 fl_X7_17 (by first | assumption | ((repeat (first | assumption | exact va_up_self _ _ _ | refine (va_up_ne _ _ (by assumption)).trans ?_)); done) | (simp [va_up, *] <;> rfl)) rfl ?_
  refine z_put C dX7_copyFrom_5 fl_X7_17 (by first | assumption | ((repeat (first | assumption | exact va_up_self _ _ _ | refine (va_up_ne _ _ (by assumption)).trans ?_)); done) | (simp [va_up, *] <;> rfl)) rfl rfl (by simp) ?_
  refine z_iconst C dX7_copyFrom_8 ?_
  refine z_istore_n C dX7_copyFrom_9 (by decide) ?_
  exact loop (sRn T).toNat _ 0 _ (by omega) (zFr.up (zFD_mem D (by omega))) (h.obj hI (sRn T) (sDn S) (sYr S)) (fun j hj => by omega)

