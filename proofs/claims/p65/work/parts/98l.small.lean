/-! the law's count and greatest divisor -/
theorem zCs_1 (b p : Int) : zCs 1 (-1) p = zCs 1 b p := rfl
theorem zCs_0 (b p : Int) : zCs 0 (-1) (-1) = zCs 0 b p := rfl
theorem zFo_cv {b p o : Int} (h : zCv b p) (ho : 0 ≤ o ∧ o ≤ zFo b p) : (o = 0 ∨ o = 1 ∨ o = 2) ∧ (1 ≤ o → zSy p) ∧ (o = 2 → zSy b) := by
  unfold zCv at h
  unfold zFo at ho
  rcases h with ⟨rfl, rfl⟩ | ⟨h1, rfl | h2⟩
  · rw [if_pos rfl] at ho
    exact ⟨by omega, fun w => by omega, fun w => by omega⟩
  · have hp : ¬ p = -1 := by
      unfold zSy at h1
      omega
    rw [if_neg hp, if_pos rfl] at ho
    exact ⟨by omega, fun _ => h1, fun w => by omega⟩
  · have hp : ¬ p = -1 := by
      unfold zSy at h1
      omega
    have hb : ¬ b = -1 := by
      unfold zSy at h2
      omega
    rw [if_neg hp, if_neg hb] at ho
    exact ⟨by omega, fun _ => h1, fun _ => h2⟩
set_option maxHeartbeats 4000000 in
set_option maxRecDepth 100000 in
theorem k_L_count {l : Launch} {γ : zG} {M : zM} {U : Nat → Nat} {Y : zSys} {rr oo bb pp ss : Int} (hc : hFc γ M U Y) (hk : yOk Y) (hrr : 0 ≤ rr ∧ rr < sRn (yS Y)) (hcv : zCv bb pp) (ho : 0 ≤ oo ∧ oo ≤ zFo bb pp) (hss : zSy ss) :
    zCon l γ yL_count cL_count 6 (some .int) [.ref (U 0), .int (zi rr), .int (zi oo), .int (zi bb), .int (zi pp), .int (zi ss)] M 5 185 0 0 (fun v' M' => v' = some (.int (zi (rC (sRd (yS Y) rr.toNat) (zCs oo bb pp + ss)))) ∧ M' = M) (fun _ _ => False) := by
  obtain ⟨fs0, hM0⟩ := hc.ok0
  obtain ⟨g0, g1, g2⟩ := zFo_cv hcv ho
  refine zEnter [some (.ref (U 0)), some (.int (zi rr)), some (.int (zi oo)), some (.int (zi bb)), some (.int (zi pp)), some (.int (zi ss))] (by decide +kernel) rfl rfl (Nat.le_of_ble_eq_true rfl) ?_
  intro p e s m args below meth c Q C hin hQ
  refine z_iload_n C dL_count_0 rfl ?_
  refine z_iconst C dL_count_1 ?_
  refine z_icmp_neZ (tgt := 18) C dL_count_2 (by decide) (by omega) (by omega) (fun h2 => ?_) (fun h2 => ?_)
  · refine z_iload_n C dL_count_18 rfl ?_
    refine z_iconst C dL_count_19 ?_
    refine z_icmp_neZ (tgt := 35) C dL_count_20 (by decide) (by omega) (by omega) (fun h20 => ?_) (fun h20 => ?_)
    · refine z_aload_n C dL_count_35 rfl ?_
      refine z_iload_n C dL_count_36 rfl ?_
      refine z_iload C dL_count_37 rfl ?_
      refine z_callV C dL_count_39 lk_L_134 mw_X8_countOrder0 mi_X8_countOrder0 ms_X8_countOrder0 rfl hM0 (k_I_countOrder0 hc hk hrr hss) rfl (by first | decide | exact Nat.le_of_ble_eq_true rfl) ⟨by decide, by decide, by decide, by decide⟩ (fun _ _ h => False.elim h) (fun v M' hp => ?_)
      obtain ⟨rfl, rfl⟩ := hp
      refine z_iret C hQ dL_count_42 rfl (by decide) (by decide) ?_
      have e : oo = 0 := by omega
      subst e
      exact ⟨rfl, rfl⟩
    · refine z_aload_n C dL_count_23 rfl ?_
      refine z_iload_n C dL_count_24 rfl ?_
      refine z_iload C dL_count_25 rfl ?_
      refine z_iload C dL_count_27 rfl ?_
      refine z_callV C dL_count_29 lk_L_137 mw_X8_countOrder1 mi_X8_countOrder1 ms_X8_countOrder1 rfl hM0 (k_I_countOrder1 hc hk hrr (g1 (by omega)) hss) rfl (by first | decide | exact Nat.le_of_ble_eq_true rfl) ⟨by decide, by decide, by decide, by decide⟩ (fun _ _ h => False.elim h) (fun v M' hp => ?_)
      obtain ⟨rfl, rfl⟩ := hp
      refine z_goto (tgt := 42) C dL_count_32 (by decide) ?_
      refine z_iret C hQ dL_count_42 rfl (by decide) (by decide) ?_
      have e : oo = 1 := by omega
      subst e
      exact ⟨rfl, rfl⟩
  · refine z_aload_n C dL_count_5 rfl ?_
    refine z_iload_n C dL_count_6 rfl ?_
    refine z_iload_n C dL_count_7 rfl ?_
    refine z_iload C dL_count_8 rfl ?_
    refine z_iload C dL_count_10 rfl ?_
    refine z_callV C dL_count_12 lk_L_141 mw_X8_countOrder2 mi_X8_countOrder2 ms_X8_countOrder2 rfl hM0 (k_I_countOrder2 hc hk hrr (g2 (by omega)) (g1 (by omega)) hss) rfl (by first | decide | exact Nat.le_of_ble_eq_true rfl) ⟨by decide, by decide, by decide, by decide⟩ (fun _ _ h => False.elim h) (fun v M' hp => ?_)
    obtain ⟨rfl, rfl⟩ := hp
    refine z_goto (tgt := 42) C dL_count_15 (by decide) ?_
    refine z_iret C hQ dL_count_42 rfl (by decide) (by decide) ?_
    have e : oo = 2 := by omega
    subst e
    exact ⟨rfl, rfl⟩
set_option maxHeartbeats 4000000 in
set_option maxRecDepth 100000 in
theorem k_L_divisor {l : Launch} {γ : zG} {M : zM} {x y : Int} (hx : 0 ≤ x ∧ x < 9007199254740992) (hy : 0 ≤ y ∧ y < 9007199254740992) :
    zCon l γ yL_divisor cL_divisor 10 (some .long) [.long (zl x), .long (zl y)] M 0 0 0 0 (fun v' M' => v' = some (.long (zl (zgd x y))) ∧ M' = M) (fun _ _ => False) := by
  refine zEnter [some (.long (zl x)), none, some (.long (zl y)), none, none, none, none, none, none, none] (by decide +kernel) rfl rfl (Nat.le_of_ble_eq_true rfl) ?_
  intro p e s m args below meth c Q C hin hQ
  have hcz : ∀ r : Int, 0 ≤ r → (zcmp r 0 = 0 ↔ r = 0) := fun r hr => by
    unfold zcmp
    split
    · omega
    · split <;> omega
  have fin : ∀ (d : Int) (o8 : Option Value), 0 ≤ d ∧ d < 9007199254740992 → zgd d 0 = zgd x y → zAW p l e { frames := 0, cells := 0, slots := 0, locals := 0 } s m args below meth c γ 10 Q M 0 0 6 [some (.long (zl x)), none, some (.long (zl y)), none, some (.long (zl d)), none, some (.long (zl 0)), none, o8, none] [] := by
    intro d o8 hd hg
    rw [zgd_0 d hd.1] at hg
    have hc1 := zcmp_rng 0 0
    have hc2 := hcz 0 (by omega)
    refine z_lload C dL_divisor_6 rfl ?_
    refine z_lconstZ (x := 0) C dL_divisor_8 rfl ?_
    refine z_lcmpZ C dL_divisor_9 (by unfold zZ; omega) (by unfold zZ; omega) ?_
    refine z_if_eqZ (tgt := 31) C dL_divisor_10 (by decide) (by omega) (fun h10 => ?_) (fun h10 => ?_)
    · refine z_lload C dL_divisor_31 rfl ?_
      refine z_lret C hQ dL_divisor_33 (by decide) (by decide) ?_
      exact ⟨by rw [hg], rfl⟩
    · exact absurd h10 (by omega)
  have loop : ∀ (t : Nat) (d r : Int) (o8 : Option Value), 0 ≤ d ∧ d < 9007199254740992 → 0 ≤ r ∧ r < 9007199254740992 → zFu t d r → zgd d r = zgd x y → zAW p l e { frames := 0, cells := 0, slots := 0, locals := 0 } s m args below meth c γ 10 Q M 0 0 6 [some (.long (zl x)), none, some (.long (zl y)), none, some (.long (zl d)), none, some (.long (zl r)), none, o8, none] [] := by
    intro t
    induction t with
    | zero =>
      intro d r o8 hd hr hf hg
      have hf : r = 0 := hf
      subst hf
      exact fin d o8 hd hg
    | succ t ih =>
      intro d r o8 hd hr hf hg
      by_cases e : r = 0
      · subst e
        exact fin d o8 hd hg
      have hc1 := zcmp_rng r 0
      have hc2 := hcz r hr.1
      have k1 := Int.emod_nonneg d e
      have k2 := Int.emod_lt_of_pos d (show 0 < r by omega)
      refine z_lload C dL_divisor_6 rfl ?_
      refine z_lconstZ (x := 0) C dL_divisor_8 rfl ?_
      refine z_lcmpZ C dL_divisor_9 (by unfold zZ; omega) (by unfold zZ; omega) ?_
      refine z_if_eqZ (tgt := 31) C dL_divisor_10 (by decide) (by omega) (fun h10 => ?_) (fun h10 => ?_)
      · exact absurd h10 (by omega)
      · refine z_lload C dL_divisor_13 rfl ?_
        refine z_lload C dL_divisor_15 rfl ?_
        refine z_lremZ C dL_divisor_17 (by unfold zZ; omega) (by unfold zZ; omega) ?_
        refine z_lstore C dL_divisor_18 (by decide) ?_
        refine z_lload C dL_divisor_20 rfl ?_
        refine z_lstore C dL_divisor_22 (by decide) ?_
        refine z_lload C dL_divisor_24 rfl ?_
        refine z_lstore C dL_divisor_26 (by decide) ?_
        refine z_goto (tgt := 6) C dL_divisor_28 (by decide) ?_
        refine ih r (d % r) _ hr (by omega) ?_ ((zgd_st d r hd.1 (by omega)).trans hg)
        rcases hf with hf | hf
        · exact absurd hf e
        · exact hf
  refine z_lload_n C dL_divisor_0 rfl ?_
  refine z_lstore C dL_divisor_1 (by decide) ?_
  refine z_lload_n C dL_divisor_3 rfl ?_
  refine z_lstore C dL_divisor_4 (by decide) ?_
  exact loop 200 x y none hx hy (zFu_of 100 x y (by omega) (by omega) (by
    have : (2 : Int) ^ 100 = 1267650600228229401496703205376 := by decide
    omega)) rfl

