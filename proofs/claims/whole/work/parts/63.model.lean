/-! the model: entries above 0, a row copied, letters of a name -/
def mPo (g : Nat → Int) (r : Int) : Nat → Int
  | 0 => 0
  | t + 1 => mPo g r t + (if 0 < g (339 + 1412 * r + 12 + 2 * (t : Int) + 1).toNat then 1 else 0)
theorem mPo_rng (g : Nat → Int) (r : Int) : ∀ t : Nat, 0 ≤ mPo g r t ∧ mPo g r t ≤ t
  | 0 => by simp [mPo]
  | t + 1 => by
    have := mPo_rng g r t
    unfold mPo
    split <;> omega
set_option maxHeartbeats 4000000 in
set_option maxRecDepth 100000 in
theorem k_X9_positiveOf {l : Launch} {γ : zG} {M : zM} {q : Nat} {g : Nat → Int} {r : Int} (hG : M q = some (zar γ 5987 g)) (hg : ∀ j, zR (g j)) (hr : 0 ≤ r ∧ r < 4) (hm : 0 ≤ mMa g r ∧ mMa g r ≤ 700) :
    zCon l γ yX9_positiveOf cX9_positiveOf 4 (some .int) [.ref q, .int (zi r)] M 2 41 0 0 (fun v' M' => v' = some (.int (zi (mPo g r (mMa g r).toNat))) ∧ M' = M) (fun _ _ => False) := by
  refine zEnter [some (.ref q), some (.int (zi r)), none, none] (by decide +kernel) rfl rfl (Nat.le_of_ble_eq_true rfl) ?_
  intro p e s m args below meth c Q C hin hQ
  have loop : ∀ (t : Nat) (i : Int), mMa g r - i = t → 0 ≤ i ∧ i ≤ mMa g r → zAW p l e { frames := 2, cells := 0, slots := 0, locals := 41 } s m args below meth c γ 4 Q M 0 0 4 [some (.ref q), some (.int (zi r)), some (.int (zi (mPo g r i.toNat))), some (.int (zi i))] [] := by
    intro t
    induction t with
    | zero =>
      intro i ht hi
      obtain rfl : i = mMa g r := by omega
      refine z_iload_n C dX9_positiveOf_4 rfl ?_
      refine z_aload_n C dX9_positiveOf_5 rfl ?_
      refine z_iload_n C dX9_positiveOf_6 rfl ?_
      refine z_callS C dX9_positiveOf_7 lk_X9_92 mw_X9_atReader mst_X9_atReader k_X9_atReader rfl (by first | decide | exact Nat.le_of_ble_eq_true rfl) ⟨by decide, by decide, by decide, by decide⟩ (fun _ _ h => False.elim h) (fun v M' hp => ?_)
      obtain ⟨rfl, rfl⟩ := hp
      refine z_bipush C dX9_positiveOf_10 (by decide) ?_
      refine z_iaddZ C dX9_positiveOf_12 ?_
      refine z_aldN C dX9_positiveOf_13 (by first | assumption | ((repeat (first | assumption | exact va_up_self _ _ _ | refine (va_up_ne _ _ (by assumption)).trans ?_)); done) | (simp [va_up, *] <;> rfl)) (by omega) (by omega) (by assumption) (fun hr13 => ?_)
      rw [show g (339 + 1412 * r + 11).toNat = mMa g r from rfl]
      refine z_icmp_geZ (tgt := 43) C dX9_positiveOf_14 (by decide) (by omega) (by omega) (fun h14 => ?_) (fun h14 => ?_)
      · refine z_iload_n C dX9_positiveOf_43 rfl ?_
        refine z_iret C hQ dX9_positiveOf_44 rfl (by decide) (by decide) ?_
        exact ⟨rfl, rfl⟩
      · exact absurd h14 (by omega)
    | succ t ih =>
      intro i ht hi
      have ge := hg (339 + 1412 * r + 12 + 2 * i + 1).toNat
      unfold zR at ge
      have qq := ih (i + 1) (by omega) (by omega)
      rw [show (i + 1).toNat = i.toNat + 1 by omega, mPo, show ((i.toNat : Nat) : Int) = i by omega] at qq
      refine z_iload_n C dX9_positiveOf_4 rfl ?_
      refine z_aload_n C dX9_positiveOf_5 rfl ?_
      refine z_iload_n C dX9_positiveOf_6 rfl ?_
      refine z_callS C dX9_positiveOf_7 lk_X9_92 mw_X9_atReader mst_X9_atReader k_X9_atReader rfl (by first | decide | exact Nat.le_of_ble_eq_true rfl) ⟨by decide, by decide, by decide, by decide⟩ (fun _ _ h => False.elim h) (fun v M' hp => ?_)
      obtain ⟨rfl, rfl⟩ := hp
      refine z_bipush C dX9_positiveOf_10 (by decide) ?_
      refine z_iaddZ C dX9_positiveOf_12 ?_
      refine z_aldN C dX9_positiveOf_13 (by first | assumption | ((repeat (first | assumption | exact va_up_self _ _ _ | refine (va_up_ne _ _ (by assumption)).trans ?_)); done) | (simp [va_up, *] <;> rfl)) (by omega) (by omega) (by assumption) (fun hr13 => ?_)
      rw [show g (339 + 1412 * r + 11).toNat = mMa g r from rfl]
      refine z_icmp_geZ (tgt := 43) C dX9_positiveOf_14 (by decide) (by omega) (by omega) (fun h14 => ?_) (fun h14 => ?_)
      · exact absurd h14 (by omega)
      · refine z_iload_n C dX9_positiveOf_17 rfl ?_
        refine z_aload_n C dX9_positiveOf_18 rfl ?_
        refine z_iload_n C dX9_positiveOf_19 rfl ?_
        refine z_iload_n C dX9_positiveOf_20 rfl ?_
        refine z_callS C dX9_positiveOf_21 lk_X9_95 mw_X9_entryAt mst_X9_entryAt k_X9_entryAt rfl (by first | decide | exact Nat.le_of_ble_eq_true rfl) ⟨by decide, by decide, by decide, by decide⟩ (fun _ _ h => False.elim h) (fun v M' hp => ?_)
        obtain ⟨rfl, rfl⟩ := hp
        refine z_iconst C dX9_positiveOf_24 ?_
        refine z_iaddZ C dX9_positiveOf_25 ?_
        refine z_aldN C dX9_positiveOf_26 (by first | assumption | ((repeat (first | assumption | exact va_up_self _ _ _ | refine (va_up_ne _ _ (by assumption)).trans ?_)); done) | (simp [va_up, *] <;> rfl)) (by omega) (by omega) (by assumption) (fun hr26 => ?_)
        refine z_if_leZ (tgt := 34) C dX9_positiveOf_27 (by decide) (by omega) (fun h27 => ?_) (fun h27 => ?_)
        · refine z_iconst C dX9_positiveOf_34 ?_
          refine z_iaddZ C dX9_positiveOf_35 ?_
          refine z_istore_n C dX9_positiveOf_36 (by decide) ?_
          refine z_iincZ C dX9_positiveOf_37 rfl (by decide) ?_
          refine z_goto (tgt := 4) C dX9_positiveOf_40 (by decide) ?_
          rw [if_neg (by omega)] at qq
          exact qq
        · refine z_iconst C dX9_positiveOf_30 ?_
          refine z_goto (tgt := 35) C dX9_positiveOf_31 (by decide) ?_
          refine z_iaddZ C dX9_positiveOf_35 ?_
          refine z_istore_n C dX9_positiveOf_36 (by decide) ?_
          refine z_iincZ C dX9_positiveOf_37 rfl (by decide) ?_
          refine z_goto (tgt := 4) C dX9_positiveOf_40 (by decide) ?_
          rw [if_pos (by omega)] at qq
          exact qq
  refine z_iconst C dX9_positiveOf_0 ?_
  refine z_istore_n C dX9_positiveOf_1 (by decide) ?_
  refine z_iconst C dX9_positiveOf_2 ?_
  refine z_istore_n C dX9_positiveOf_3 (by decide) ?_
  exact loop (mMa g r).toNat 0 (by omega) (by omega)
def mCp (f : Nat → Int) (fa : Int) (g : Nat → Int) (ga : Int) : Nat → Nat → Int
  | 0 => g
  | t + 1 => va_up (mCp f fa g ga t) (ga + t).toNat (f (fa + t).toNat)
set_option maxHeartbeats 4000000 in
set_option maxRecDepth 100000 in
theorem k_X9_copyRow {l : Launch} {γ : zG} {M : zM} {q w N K : Nat} {f g : Nat → Int} {fa ga : Int} (hF : M q = some (zar γ N f)) (hf : ∀ j, zR (f j)) (hG : M w = some (zar γ K g)) (hg : ∀ j, zR (g j)) (hne : q ≠ w) (hN : (N : Int) ≤ 100000 ∧ (K : Int) ≤ 100000) (h1 : 0 ≤ fa ∧ fa + 5987 ≤ N) (h2 : 0 ≤ ga ∧ ga + 5987 ≤ K) :
    zCon l γ yX9_copyRow cX9_copyRow 5 none [.ref q, .int (zi fa), .ref w, .int (zi ga)] M 0 0 0 0 (fun v' M' => v' = none ∧ zFr M M' [w] ∧ M' w = some (zar γ K (mCp f fa g ga 5987)) ∧ ∀ j, zR (mCp f fa g ga 5987 j)) (fun _ _ => False) := by
  refine zEnter [some (.ref q), some (.int (zi fa)), some (.ref w), some (.int (zi ga)), none] (by decide +kernel) rfl rfl (Nat.le_of_ble_eq_true rfl) ?_
  intro p e s m args below meth c Q C hin hQ
  have loop : ∀ (t : Nat) (M1 : zM) (i : Int), 5987 - i = t → 0 ≤ i ∧ i ≤ 5987 → zFr M M1 [w] → M1 w = some (zar γ K (mCp f fa g ga i.toNat)) → (∀ j, zR (mCp f fa g ga i.toNat j)) → zAW p l e { frames := 0, cells := 0, slots := 0, locals := 0 } s m args below meth c γ 5 Q M1 0 0 3 [some (.ref q), some (.int (zi fa)), some (.ref w), some (.int (zi ga)), some (.int (zi i))] [] := by
    intro t
    induction t with
    | zero =>
      intro M1 i ht hi hfr h3 h4
      obtain rfl : i = 5987 := by omega
      refine z_iload C dX9_copyRow_3 rfl ?_
      refine z_sipush C dX9_copyRow_5 (by decide) ?_
      refine z_icmp_geZ (tgt := 29) C dX9_copyRow_8 (by decide) (by omega) (by omega) (fun h8 => ?_) (fun h8 => ?_)
      · refine z_vret C hQ dX9_copyRow_29 (by decide) (by decide) ?_
        exact ⟨rfl, hfr, h3, h4⟩
      · exact absurd h8 (by omega)
    | succ t ih =>
      intro M1 i ht hi hfr h3 h4
      have hF1 := hfr.at (fun e => hne (List.mem_singleton.mp e)) hF
      have rg := hf (fa + i).toNat
      have qq := fun M2 => ih M2 (i + 1) (by omega) (by omega)
      rw [show (i + 1).toNat = i.toNat + 1 by omega, mCp, show ((i.toNat : Nat) : Int) = i by omega] at qq
      refine z_iload C dX9_copyRow_3 rfl ?_
      refine z_sipush C dX9_copyRow_5 (by decide) ?_
      refine z_icmp_geZ (tgt := 29) C dX9_copyRow_8 (by decide) (by omega) (by omega) (fun h8 => ?_) (fun h8 => ?_)
      · exact absurd h8 (by omega)
      · refine z_aload_n C dX9_copyRow_11 rfl ?_
        refine z_iload_n C dX9_copyRow_12 rfl ?_
        refine z_iload C dX9_copyRow_13 rfl ?_
        refine z_iaddZ C dX9_copyRow_15 ?_
        refine z_aload_n C dX9_copyRow_16 rfl ?_
        refine z_iload_n C dX9_copyRow_17 rfl ?_
        refine z_iload C dX9_copyRow_18 rfl ?_
        refine z_iaddZ C dX9_copyRow_20 ?_
        refine z_aldN C dX9_copyRow_21 (by first | assumption | ((repeat (first | assumption | exact va_up_self _ _ _ | refine (va_up_ne _ _ (by assumption)).trans ?_)); done) | (simp [va_up, *] <;> rfl)) (by omega) (by omega) hf (fun hr21 => ?_)
        refine z_astN C dX9_copyRow_22 (by first | assumption | ((repeat (first | assumption | exact va_up_self _ _ _ | refine (va_up_ne _ _ (by assumption)).trans ?_)); done) | (simp [va_up, *] <;> rfl)) (by omega) (by omega) h4 rg (fun hr22 => ?_)
        refine z_iincZ C dX9_copyRow_23 rfl (by decide) ?_
        refine z_goto (tgt := 3) C dX9_copyRow_26 (by decide) ?_
        exact qq _ (hfr.u1 (by simp)) (va_up_self _ _ _) hr22
  refine z_iconst C dX9_copyRow_0 ?_
  refine z_istore C dX9_copyRow_1 (by decide) ?_
  exact loop 5987 M 0 (by omega) (by omega) zFr.rf hG hg
theorem mCp_at {f g : Nat → Int} {fa ga : Int} (h1 : 0 ≤ fa) (h2 : 0 ≤ ga) : ∀ (t : Nat) (j : Nat), mCp f fa g ga t j = if ga ≤ j ∧ (j : Int) < ga + t then f (fa + (j - ga)).toNat else g j
  | 0, j => by
    rw [if_neg (by omega)]
    rfl
  | t + 1, j => by
    unfold mCp va_up
    split
    · rename_i e
      rw [if_pos (by omega), e]
      congr 1
      omega
    · rename_i e
      rw [mCp_at h1 h2 t j]
      by_cases q : ga ≤ j ∧ (j : Int) < ga + t
      · rw [if_pos q, if_pos (by omega)]
      · rw [if_neg q, if_neg (by omega)]

