/-! the model: places in a row, the list of counts -/
set_option maxHeartbeats 4000000 in
set_option maxRecDepth 100000 in
theorem k_X9_isBetween {l : Launch} {γ : zG} {M : zM} {x a b : Int} (hx : zR x) (ha : zR a) (hb : zR b) :
    zCon l γ yX9_isBetween cX9_isBetween 3 (some .boolean) [.int (zi x), .int (zi a), .int (zi b)] M 0 0 0 0 (fun v' M' => ∃ r : Int, v' = some (.int (zi r)) ∧ M' = M ∧ zB r (a ≤ x ∧ x ≤ b)) (fun _ _ => False) := by
  unfold zR at hx ha hb
  refine zEnter [some (.int (zi x)), some (.int (zi a)), some (.int (zi b))] (by decide +kernel) rfl rfl (Nat.le_of_ble_eq_true rfl) ?_
  intro p e s m args below meth c Q C hin hQ
  refine z_iload_n C dX9_isBetween_0 rfl ?_
  refine z_iload_n C dX9_isBetween_1 rfl ?_
  refine z_icmp_ltZ (tgt := 14) C dX9_isBetween_2 (by decide) (by omega) (by omega) (fun h2 => ?_) (fun h2 => ?_)
  · refine z_iconst C dX9_isBetween_14 ?_
    refine z_iret C hQ dX9_isBetween_15 rfl (by decide) (by decide) ?_
    exact ⟨0, rfl, rfl, .inr ⟨rfl, by omega⟩⟩
  · refine z_iload_n C dX9_isBetween_5 rfl ?_
    refine z_iload_n C dX9_isBetween_6 rfl ?_
    refine z_icmp_gtZ (tgt := 14) C dX9_isBetween_7 (by decide) (by omega) (by omega) (fun h7 => ?_) (fun h7 => ?_)
    · refine z_iconst C dX9_isBetween_14 ?_
      refine z_iret C hQ dX9_isBetween_15 rfl (by decide) (by decide) ?_
      exact ⟨0, rfl, rfl, .inr ⟨rfl, by omega⟩⟩
    · refine z_iconst C dX9_isBetween_10 ?_
      refine z_goto (tgt := 15) C dX9_isBetween_11 (by decide) ?_
      refine z_iret C hQ dX9_isBetween_15 rfl (by decide) (by decide) ?_
      exact ⟨1, rfl, rfl, .inl ⟨rfl, by omega⟩⟩
set_option maxHeartbeats 4000000 in
set_option maxRecDepth 100000 in
theorem k_X9_atDocument {l : Launch} {γ : zG} {M : zM} {d : Int} :
    zCon l γ yX9_atDocument cX9_atDocument 1 (some .int) [.int (zi d)] M 0 0 0 0 (fun v' M' => v' = some (.int (zi (3 + 42 * d))) ∧ M' = M) (fun _ _ => False) := by
  refine zEnter [some (.int (zi d))] (by decide +kernel) rfl rfl (Nat.le_of_ble_eq_true rfl) ?_
  intro p e s m args below meth c Q C hin hQ
  refine z_iconst C dX9_atDocument_0 ?_
  refine z_bipush C dX9_atDocument_1 (by decide) ?_
  refine z_iload_n C dX9_atDocument_3 rfl ?_
  refine z_imulZ C dX9_atDocument_4 ?_
  refine z_iaddZ C dX9_atDocument_5 ?_
  refine z_iret C hQ dX9_atDocument_6 rfl (by decide) (by decide) ?_
  exact ⟨rfl, rfl⟩
set_option maxHeartbeats 4000000 in
set_option maxRecDepth 100000 in
theorem k_X9_atReader {l : Launch} {γ : zG} {M : zM} {r : Int} :
    zCon l γ yX9_atReader cX9_atReader 1 (some .int) [.int (zi r)] M 0 0 0 0 (fun v' M' => v' = some (.int (zi (339 + 1412 * r))) ∧ M' = M) (fun _ _ => False) := by
  refine zEnter [some (.int (zi r))] (by decide +kernel) rfl rfl (Nat.le_of_ble_eq_true rfl) ?_
  intro p e s m args below meth c Q C hin hQ
  refine z_sipush C dX9_atReader_0 (by decide) ?_
  refine z_sipush C dX9_atReader_3 (by decide) ?_
  refine z_iload_n C dX9_atReader_6 rfl ?_
  refine z_imulZ C dX9_atReader_7 ?_
  refine z_iaddZ C dX9_atReader_8 ?_
  refine z_iret C hQ dX9_atReader_9 rfl (by decide) (by decide) ?_
  exact ⟨rfl, rfl⟩
set_option maxHeartbeats 4000000 in
set_option maxRecDepth 100000 in
theorem k_X9_entryAt {l : Launch} {γ : zG} {M : zM} {r k : Int} :
    zCon l γ yX9_entryAt cX9_entryAt 2 (some .int) [.int (zi r), .int (zi k)] M 1 20 0 0 (fun v' M' => v' = some (.int (zi (339 + 1412 * r + 12 + 2 * k))) ∧ M' = M) (fun _ _ => False) := by
  refine zEnter [some (.int (zi r)), some (.int (zi k))] (by decide +kernel) rfl rfl (Nat.le_of_ble_eq_true rfl) ?_
  intro p e s m args below meth c Q C hin hQ
  refine z_iload_n C dX9_entryAt_0 rfl ?_
  refine z_callS C dX9_entryAt_1 lk_X9_92 mw_X9_atReader mst_X9_atReader k_X9_atReader rfl (by first | decide | exact Nat.le_of_ble_eq_true rfl) ⟨by decide, by decide, by decide, by decide⟩ (fun _ _ h => False.elim h) (fun v M' hp => ?_)
  obtain ⟨rfl, rfl⟩ := hp
  refine z_bipush C dX9_entryAt_4 (by decide) ?_
  refine z_iaddZ C dX9_entryAt_6 ?_
  refine z_iconst C dX9_entryAt_7 ?_
  refine z_iload_n C dX9_entryAt_8 rfl ?_
  refine z_imulZ C dX9_entryAt_9 ?_
  refine z_iaddZ C dX9_entryAt_10 ?_
  refine z_iret C hQ dX9_entryAt_11 rfl (by decide) (by decide) ?_
  exact ⟨rfl, rfl⟩
set_option maxHeartbeats 4000000 in
set_option maxRecDepth 100000 in
theorem k_X9_lengthOf {l : Launch} {γ : zG} {M : zM} {q : Nat} {g : Nat → Int} {d : Int} (hG : M q = some (zar γ 5987 g)) (hg : ∀ j, zR (g j)) (hd : 0 ≤ d ∧ d < 8) :
    zCon l γ yX9_lengthOf cX9_lengthOf 2 (some .int) [.ref q, .int (zi d)] M 1 20 0 0 (fun v' M' => v' = some (.int (zi (g (3 + 42 * d).toNat))) ∧ M' = M) (fun _ _ => False) := by
  refine zEnter [some (.ref q), some (.int (zi d))] (by decide +kernel) rfl rfl (Nat.le_of_ble_eq_true rfl) ?_
  intro p e s m args below meth c Q C hin hQ
  refine z_aload_n C dX9_lengthOf_0 rfl ?_
  refine z_iload_n C dX9_lengthOf_1 rfl ?_
  refine z_callS C dX9_lengthOf_2 lk_X9_88 mw_X9_atDocument mst_X9_atDocument k_X9_atDocument rfl (by first | decide | exact Nat.le_of_ble_eq_true rfl) ⟨by decide, by decide, by decide, by decide⟩ (fun _ _ h => False.elim h) (fun v M' hp => ?_)
  obtain ⟨rfl, rfl⟩ := hp
  refine z_iconst C dX9_lengthOf_5 ?_
  refine z_iaddZ C dX9_lengthOf_6 ?_
  refine z_aldN C dX9_lengthOf_7 (by first | assumption | ((repeat (first | assumption | exact va_up_self _ _ _ | refine (va_up_ne _ _ (by assumption)).trans ?_)); done) | (simp [va_up, *] <;> rfl)) (by omega) (by omega) (by assumption) (fun hr7 => ?_)
  refine z_iret C hQ dX9_lengthOf_8 rfl (by decide) (by decide) ?_
  exact ⟨by rw [Int.add_zero], rfl⟩
/-- a symbol of a document in a row; none ahead of the first -/
def mSy (g : Nat → Int) (d i : Int) : Int := if i < 0 then -1 else g (3 + 42 * d + 2 + i).toNat
set_option maxHeartbeats 4000000 in
set_option maxRecDepth 100000 in
theorem k_X9_symbolOf {l : Launch} {γ : zG} {M : zM} {q : Nat} {g : Nat → Int} {d i : Int} (hG : M q = some (zar γ 5987 g)) (hg : ∀ j, zR (g j)) (hd : 0 ≤ d ∧ d < 8) (hi : -40 ≤ i ∧ i < 40) :
    zCon l γ yX9_symbolOf cX9_symbolOf 3 (some .int) [.ref q, .int (zi d), .int (zi i)] M 1 20 0 0 (fun v' M' => v' = some (.int (zi (mSy g d i))) ∧ M' = M) (fun _ _ => False) := by
  refine zEnter [some (.ref q), some (.int (zi d)), some (.int (zi i))] (by decide +kernel) rfl rfl (Nat.le_of_ble_eq_true rfl) ?_
  intro p e s m args below meth c Q C hin hQ
  refine z_iload_n C dX9_symbolOf_0 rfl ?_
  refine z_if_geZ (tgt := 8) C dX9_symbolOf_1 (by decide) (by omega) (fun h1 => ?_) (fun h1 => ?_)
  · refine z_aload_n C dX9_symbolOf_8 rfl ?_
    refine z_iload_n C dX9_symbolOf_9 rfl ?_
    refine z_callS C dX9_symbolOf_10 lk_X9_88 mw_X9_atDocument mst_X9_atDocument k_X9_atDocument rfl (by first | decide | exact Nat.le_of_ble_eq_true rfl) ⟨by decide, by decide, by decide, by decide⟩ (fun _ _ h => False.elim h) (fun v M' hp => ?_)
    obtain ⟨rfl, rfl⟩ := hp
    refine z_iconst C dX9_symbolOf_13 ?_
    refine z_iaddZ C dX9_symbolOf_14 ?_
    refine z_iload_n C dX9_symbolOf_15 rfl ?_
    refine z_iaddZ C dX9_symbolOf_16 ?_
    refine z_aldN C dX9_symbolOf_17 (by first | assumption | ((repeat (first | assumption | exact va_up_self _ _ _ | refine (va_up_ne _ _ (by assumption)).trans ?_)); done) | (simp [va_up, *] <;> rfl)) (by omega) (by omega) (by assumption) (fun hr17 => ?_)
    refine z_iret C hQ dX9_symbolOf_18 rfl (by decide) (by decide) ?_
    exact ⟨by rw [mSy, if_neg (by omega)], rfl⟩
  · refine z_iconst C dX9_symbolOf_4 ?_
    refine z_goto (tgt := 18) C dX9_symbolOf_5 (by decide) ?_
    refine z_iret C hQ dX9_symbolOf_18 rfl (by decide) (by decide) ?_
    exact ⟨by rw [mSy, if_pos (by omega)], rfl⟩
/-- the key of a count -/
def mKy (b p s : Int) : Int := if b ≠ -1 then 756 + (b * 27 + p) * 27 + s else if p ≠ -1 then 27 + p * 27 + s else s
set_option maxHeartbeats 4000000 in
set_option maxRecDepth 100000 in
theorem k_X9_keyOf {l : Launch} {γ : zG} {M : zM} {b p0 s0 : Int} (hb : zR b) (hp0 : zR p0) :
    zCon l γ yX9_keyOf cX9_keyOf 3 (some .int) [.int (zi b), .int (zi p0), .int (zi s0)] M 0 0 0 0 (fun v' M' => v' = some (.int (zi (mKy b p0 s0))) ∧ M' = M) (fun _ _ => False) := by
  unfold zR at hb hp0
  refine zEnter [some (.int (zi b)), some (.int (zi p0)), some (.int (zi s0))] (by decide +kernel) rfl rfl (Nat.le_of_ble_eq_true rfl) ?_
  intro p e s m args below meth c Q C hin hQ
  refine z_iload_n C dX9_keyOf_0 rfl ?_
  refine z_iconst C dX9_keyOf_1 ?_
  refine z_icmp_eqZ (tgt := 23) C dX9_keyOf_2 (by decide) (by omega) (by omega) (fun h2 => ?_) (fun h2 => ?_)
  · refine z_iload_n C dX9_keyOf_23 rfl ?_
    refine z_iconst C dX9_keyOf_24 ?_
    refine z_icmp_eqZ (tgt := 40) C dX9_keyOf_25 (by decide) (by omega) (by omega) (fun h25 => ?_) (fun h25 => ?_)
    · refine z_iload_n C dX9_keyOf_40 rfl ?_
      refine z_iret C hQ dX9_keyOf_41 rfl (by decide) (by decide) ?_
      exact ⟨by rw [mKy, if_neg (by omega), if_neg (by omega)], rfl⟩
    · refine z_bipush C dX9_keyOf_28 (by decide) ?_
      refine z_iload_n C dX9_keyOf_30 rfl ?_
      refine z_bipush C dX9_keyOf_31 (by decide) ?_
      refine z_imulZ C dX9_keyOf_33 ?_
      refine z_iaddZ C dX9_keyOf_34 ?_
      refine z_iload_n C dX9_keyOf_35 rfl ?_
      refine z_iaddZ C dX9_keyOf_36 ?_
      refine z_goto (tgt := 41) C dX9_keyOf_37 (by decide) ?_
      refine z_iret C hQ dX9_keyOf_41 rfl (by decide) (by decide) ?_
      exact ⟨by rw [mKy, if_neg (by omega), if_pos (by omega)], rfl⟩
  · refine z_sipush C dX9_keyOf_5 (by decide) ?_
    refine z_iload_n C dX9_keyOf_8 rfl ?_
    refine z_bipush C dX9_keyOf_9 (by decide) ?_
    refine z_imulZ C dX9_keyOf_11 ?_
    refine z_iload_n C dX9_keyOf_12 rfl ?_
    refine z_iaddZ C dX9_keyOf_13 ?_
    refine z_bipush C dX9_keyOf_14 (by decide) ?_
    refine z_imulZ C dX9_keyOf_16 ?_
    refine z_iaddZ C dX9_keyOf_17 ?_
    refine z_iload_n C dX9_keyOf_18 rfl ?_
    refine z_iaddZ C dX9_keyOf_19 ?_
    refine z_goto (tgt := 41) C dX9_keyOf_20 (by decide) ?_
    refine z_iret C hQ dX9_keyOf_41 rfl (by decide) (by decide) ?_
    exact ⟨by rw [mKy, if_pos (by omega)], rfl⟩
/-- the place of a key's count in a reader's list, from entry k on; none -/
def mfn (g : Nat → Int) (r key : Int) : Nat → Int → Int
  | 0, _ => -1
  | t + 1, k => if g (339 + 1412 * r + 12 + 2 * k).toNat = key then 339 + 1412 * r + 12 + 2 * k + 1 else mfn g r key t (k + 1)
theorem mfn_rng {g : Nat → Int} {r key : Int} (hr : 0 ≤ r) : ∀ (t : Nat) (k : Int), 0 ≤ k → mfn g r key t k = -1 ∨ (339 + 1412 * r + 13 + 2 * k ≤ mfn g r key t k ∧ mfn g r key t k ≤ 339 + 1412 * r + 11 + 2 * (k + t))
  | 0, _, _ => .inl rfl
  | t + 1, k, hk => by
    unfold mfn
    split
    · right
      omega
    · have := mfn_rng (key := key) (g := g) hr t (k + 1) (by omega)
      omega
def mMa (g : Nat → Int) (r : Int) : Int := g (339 + 1412 * r + 11).toNat
def mFi (g : Nat → Int) (r key : Int) : Int := mfn g r key (mMa g r).toNat 0
set_option maxHeartbeats 4000000 in
set_option maxRecDepth 100000 in
theorem k_X9_find {l : Launch} {γ : zG} {M : zM} {q : Nat} {g : Nat → Int} {r key : Int} (hG : M q = some (zar γ 5987 g)) (hg : ∀ j, zR (g j)) (hr : 0 ≤ r ∧ r < 4) (hm : 0 ≤ mMa g r ∧ mMa g r ≤ 700) (hk : zR key) :
    zCon l γ yX9_find cX9_find 5 (some .int) [.ref q, .int (zi r), .int (zi key)] M 2 41 0 0 (fun v' M' => v' = some (.int (zi (mFi g r key))) ∧ M' = M) (fun _ _ => False) := by
  unfold zR at hk
  refine zEnter [some (.ref q), some (.int (zi r)), some (.int (zi key)), none, none] (by decide +kernel) rfl rfl (Nat.le_of_ble_eq_true rfl) ?_
  intro p e s m args below meth c Q C hin hQ
  have loop : ∀ (t : Nat) (i : Int), mMa g r - i = t → 0 ≤ i ∧ i ≤ mMa g r → mfn g r key t i = mFi g r key → zAW p l e { frames := 2, cells := 0, slots := 0, locals := 41 } s m args below meth c γ 5 Q M 0 0 13 [some (.ref q), some (.int (zi r)), some (.int (zi key)), some (.int (zi (mMa g r))), some (.int (zi i))] [] := by
    intro t
    induction t with
    | zero =>
      intro i ht hi he
      obtain rfl : i = mMa g r := by omega
      refine z_iload C dX9_find_13 rfl ?_
      refine z_iload_n C dX9_find_15 rfl ?_
      refine z_icmp_geZ (tgt := 46) C dX9_find_16 (by decide) (by omega) (by omega) (fun h16 => ?_) (fun h16 => ?_)
      · refine z_iconst C dX9_find_46 ?_
        refine z_iret C hQ dX9_find_47 rfl (by decide) (by decide) ?_
        rw [← he]
        exact ⟨rfl, rfl⟩
      · exact absurd h16 (by omega)
    | succ t ih =>
      intro i ht hi he
      have he : (if g (339 + 1412 * r + 12 + 2 * i).toNat = key then 339 + 1412 * r + 12 + 2 * i + 1 else mfn g r key t (i + 1)) = mFi g r key := he
      have ge := hg (339 + 1412 * r + 12 + 2 * i).toNat
      unfold zR at ge
      refine z_iload C dX9_find_13 rfl ?_
      refine z_iload_n C dX9_find_15 rfl ?_
      refine z_icmp_geZ (tgt := 46) C dX9_find_16 (by decide) (by omega) (by omega) (fun h16 => ?_) (fun h16 => ?_)
      · exact absurd h16 (by omega)
      · refine z_aload_n C dX9_find_19 rfl ?_
        refine z_iload_n C dX9_find_20 rfl ?_
        refine z_iload C dX9_find_21 rfl ?_
        refine z_callS C dX9_find_23 lk_X9_95 mw_X9_entryAt mst_X9_entryAt k_X9_entryAt rfl (by first | decide | exact Nat.le_of_ble_eq_true rfl) ⟨by decide, by decide, by decide, by decide⟩ (fun _ _ h => False.elim h) (fun v M' hp => ?_)
        obtain ⟨rfl, rfl⟩ := hp
        refine z_aldN C dX9_find_26 (by first | assumption | ((repeat (first | assumption | exact va_up_self _ _ _ | refine (va_up_ne _ _ (by assumption)).trans ?_)); done) | (simp [va_up, *] <;> rfl)) (by omega) (by omega) (by assumption) (fun hr26 => ?_)
        refine z_iload_n C dX9_find_27 rfl ?_
        refine z_icmp_neZ (tgt := 40) C dX9_find_28 (by decide) (by omega) (by omega) (fun h28 => ?_) (fun h28 => ?_)
        · refine z_iincZ C dX9_find_40 rfl (by decide) ?_
          refine z_goto (tgt := 13) C dX9_find_43 (by decide) ?_
          rw [if_neg (by omega)] at he
          exact ih (i + 1) (by omega) (by omega) he
        · refine z_iload_n C dX9_find_31 rfl ?_
          refine z_iload C dX9_find_32 rfl ?_
          refine z_callS C dX9_find_34 lk_X9_95 mw_X9_entryAt mst_X9_entryAt k_X9_entryAt rfl (by first | decide | exact Nat.le_of_ble_eq_true rfl) ⟨by decide, by decide, by decide, by decide⟩ (fun _ _ h => False.elim h) (fun v M' hp => ?_)
          obtain ⟨rfl, rfl⟩ := hp
          refine z_iconst C dX9_find_37 ?_
          refine z_iaddZ C dX9_find_38 ?_
          refine z_iret C hQ dX9_find_39 rfl (by decide) (by decide) ?_
          rw [if_pos (by omega)] at he
          rw [← he]
          exact ⟨rfl, rfl⟩
  refine z_aload_n C dX9_find_0 rfl ?_
  refine z_iload_n C dX9_find_1 rfl ?_
  refine z_callS C dX9_find_2 lk_X9_92 mw_X9_atReader mst_X9_atReader k_X9_atReader rfl (by first | decide | exact Nat.le_of_ble_eq_true rfl) ⟨by decide, by decide, by decide, by decide⟩ (fun _ _ h => False.elim h) (fun v M' hp => ?_)
  obtain ⟨rfl, rfl⟩ := hp
  refine z_bipush C dX9_find_5 (by decide) ?_
  refine z_iaddZ C dX9_find_7 ?_
  refine z_aldN C dX9_find_8 (by first | assumption | ((repeat (first | assumption | exact va_up_self _ _ _ | refine (va_up_ne _ _ (by assumption)).trans ?_)); done) | (simp [va_up, *] <;> rfl)) (by omega) (by omega) (by assumption) (fun hr8 => ?_)
  refine z_istore_n C dX9_find_9 (by decide) ?_
  refine z_iconst C dX9_find_10 ?_
  refine z_istore C dX9_find_11 (by decide) ?_
  exact loop (mMa g r).toNat 0 (by omega) (by omega) rfl
/-- a count as the list tells it -/
def mCo (g : Nat → Int) (r key : Int) : Int := if mFi g r key = -1 then 0 else g (mFi g r key).toNat
set_option maxHeartbeats 4000000 in
set_option maxRecDepth 100000 in
theorem k_X9_countOf {l : Launch} {γ : zG} {M : zM} {q : Nat} {g : Nat → Int} {r key : Int} (hG : M q = some (zar γ 5987 g)) (hg : ∀ j, zR (g j)) (hr : 0 ≤ r ∧ r < 4) (hm : 0 ≤ mMa g r ∧ mMa g r ≤ 700) (hk : zR key) :
    zCon l γ yX9_countOf cX9_countOf 4 (some .int) [.ref q, .int (zi r), .int (zi key)] M 3 66 0 0 (fun v' M' => v' = some (.int (zi (mCo g r key))) ∧ M' = M) (fun _ _ => False) := by
  have rg := mfn_rng (g := g) (key := key) hr.1 (mMa g r).toNat 0 (by omega)
  rw [show mfn g r key (mMa g r).toNat 0 = mFi g r key from rfl] at rg
  refine zEnter [some (.ref q), some (.int (zi r)), some (.int (zi key)), none] (by decide +kernel) rfl rfl (Nat.le_of_ble_eq_true rfl) ?_
  intro p e s m args below meth c Q C hin hQ
  refine z_aload_n C dX9_countOf_0 rfl ?_
  refine z_iload_n C dX9_countOf_1 rfl ?_
  refine z_iload_n C dX9_countOf_2 rfl ?_
  refine z_callS C dX9_countOf_3 lk_X9_99 mw_X9_find mst_X9_find (k_X9_find hG hg hr hm hk) rfl (by first | decide | exact Nat.le_of_ble_eq_true rfl) ⟨by decide, by decide, by decide, by decide⟩ (fun _ _ h => False.elim h) (fun v M' hp => ?_)
  obtain ⟨rfl, rfl⟩ := hp
  refine z_istore_n C dX9_countOf_6 (by decide) ?_
  refine z_iload_n C dX9_countOf_7 rfl ?_
  refine z_iconst C dX9_countOf_8 ?_
  refine z_icmp_neZ (tgt := 16) C dX9_countOf_9 (by decide) (by omega) (by omega) (fun h9 => ?_) (fun h9 => ?_)
  · refine z_aload_n C dX9_countOf_16 rfl ?_
    refine z_iload_n C dX9_countOf_17 rfl ?_
    refine z_aldN C dX9_countOf_18 (by first | assumption | ((repeat (first | assumption | exact va_up_self _ _ _ | refine (va_up_ne _ _ (by assumption)).trans ?_)); done) | (simp [va_up, *] <;> rfl)) (by omega) (by omega) (by assumption) (fun hr18 => ?_)
    refine z_iret C hQ dX9_countOf_19 rfl (by decide) (by decide) ?_
    exact ⟨by rw [mCo, if_neg (by omega)], rfl⟩
  · refine z_iconst C dX9_countOf_12 ?_
    refine z_goto (tgt := 19) C dX9_countOf_13 (by decide) ?_
    refine z_iret C hQ dX9_countOf_19 rfl (by decide) (by decide) ?_
    exact ⟨by rw [mCo, if_pos (by omega)], rfl⟩
set_option maxHeartbeats 4000000 in
set_option maxRecDepth 100000 in
theorem k_X9_isLetter {l : Launch} {γ : zG} {M : zM} {x : Int} (hx : zR x) :
    zCon l γ yX9_isLetter cX9_isLetter 1 (some .boolean) [.int (zi x)] M 1 22 0 0 (fun v' M' => ∃ r : Int, v' = some (.int (zi r)) ∧ M' = M ∧ zB r (97 ≤ x ∧ x ≤ 122)) (fun _ _ => False) := by
  refine zEnter [some (.int (zi x))] (by decide +kernel) rfl rfl (Nat.le_of_ble_eq_true rfl) ?_
  intro p e s m args below meth c Q C hin hQ
  refine z_iload_n C dX9_isLetter_0 rfl ?_
  refine z_bipush C dX9_isLetter_1 (by decide) ?_
  refine z_bipush C dX9_isLetter_3 (by decide) ?_
  refine z_callS C dX9_isLetter_5 lk_X9_128 mw_X9_isBetween mst_X9_isBetween (k_X9_isBetween hx (a := 97) (by unfold zR; omega) (b := 122) (by unfold zR; omega)) rfl (by first | decide | exact Nat.le_of_ble_eq_true rfl) ⟨by decide, by decide, by decide, by decide⟩ (fun _ _ h => False.elim h) (fun v M' hp => ?_)
  obtain ⟨r5, rfl, rfl, hr5⟩ := hp
  have q5 := hr5.rng
  refine z_iret C hQ dX9_isLetter_8 (by rcases hr5 with ⟨w, -⟩ | ⟨w, -⟩ <;> subst w <;> rfl) (by decide) (by decide) ?_
  exact ⟨r5, rfl, rfl, hr5⟩

