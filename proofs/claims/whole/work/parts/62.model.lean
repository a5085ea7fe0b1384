/-! the model: adding to a count, a training noted, the entries above 0 -/
/-- a number kept in range -/
def zw (x : Int) : Int := Int.bmod x 4294967296
theorem zw_rng (x : Int) : zR (zw x) := by
  unfold zR zw
  have h1 := Int.le_bmod (x := x) (m := 4294967296) (by decide)
  have h2 := Int.bmod_lt (x := x) (m := 4294967296) (by decide)
  omega
theorem zw_eq {x : Int} (h : zR x) : zw x = x := by
  unfold zR at h
  unfold zw
  exact Int.bmod_eq_of_le (by omega) (by omega)
theorem zi_zw (x : Int) : zi (zw x) = zi x := by
  apply Int32.toInt_inj.mp
  rw [Int32.toInt_ofInt, Int32.toInt_ofInt]
  unfold zw
  exact Int.bmod_bmod
theorem mfn_at {g : Nat → Int} {r key : Int} : ∀ (t : Nat) (k : Int), 0 ≤ k → mfn g r key t k ≠ -1 → ∃ j : Int, k ≤ j ∧ j < k + t ∧ mfn g r key t k = 339 + 1412 * r + 12 + 2 * j + 1 ∧ g (339 + 1412 * r + 12 + 2 * j).toNat = key
  | 0, _, _, h => absurd rfl h
  | t + 1, k, hk, h => by
    unfold mfn at h ⊢
    by_cases q : g (339 + 1412 * r + 12 + 2 * k).toNat = key
    · rw [if_pos q]
      exact ⟨k, by omega, by omega, rfl, q⟩
    · rw [if_neg q] at h ⊢
      obtain ⟨j, h1, h2, h3, h4⟩ := mfn_at t (k + 1) (by omega) h
      exact ⟨j, by omega, by omega, h3, h4⟩
theorem mFi_at {g : Nat → Int} {r key : Int} (hm : 0 ≤ mMa g r ∧ mMa g r ≤ 700) (h : mFi g r key ≠ -1) : ∃ j : Int, 0 ≤ j ∧ j < mMa g r ∧ mFi g r key = 339 + 1412 * r + 12 + 2 * j + 1 ∧ g (339 + 1412 * r + 12 + 2 * j).toNat = key := by
  obtain ⟨j, h1, h2, h3, h4⟩ := mfn_at (g := g) (r := r) (key := key) (mMa g r).toNat 0 (by omega) h
  exact ⟨j, h1, by omega, h3, h4⟩
theorem mFi_rng {g : Nat → Int} {r key : Int} (hr : 0 ≤ r ∧ r < 4) (hm : 0 ≤ mMa g r ∧ mMa g r ≤ 700) : -1 ≤ mFi g r key ∧ mFi g r key ≤ 5987 := by
  have := mfn_rng (g := g) (key := key) hr.1 (mMa g r).toNat 0 (by omega)
  unfold mFi
  omega
/-- a reader's list: how many, its counts -/
def mLi (g : Nat → Int) (r : Int) : Prop := (0 ≤ mMa g r ∧ mMa g r ≤ 700) ∧ ∀ j : Int, 0 ≤ j → j < mMa g r → 0 ≤ g (339 + 1412 * r + 12 + 2 * j + 1).toNat ∧ g (339 + 1412 * r + 12 + 2 * j + 1).toNat ≤ 999
def mPu (g : Nat → Int) (w v : Int) : Nat → Int := va_up g w.toNat (min (g w.toNat + v) 999)
def mNw (g : Nat → Int) (r key : Int) : Nat → Int := va_up (va_up (va_up g (339 + 1412 * r + 12 + 2 * mMa g r).toNat key) (339 + 1412 * r + 12 + 2 * mMa g r + 1).toNat 0) (339 + 1412 * r + 11).toNat (mMa g r + 1)
def mAd (g : Nat → Int) (r key v : Int) : Nat → Int := if mFi g r key = -1 then mPu (mNw g r key) (339 + 1412 * r + 12 + 2 * mMa g r + 1) v else mPu g (mFi g r key) v
set_option maxHeartbeats 4000000 in
set_option maxRecDepth 100000 in
theorem k_X9_addTo {l : Launch} {γ : zG} {M : zM} {q : Nat} {g : Nat → Int} {r key v : Int} (hG : M q = some (zar γ 5987 g)) (hg : ∀ j, zR (g j)) (hr : 0 ≤ r ∧ r < 4) (hm : mLi g r) (hm2 : mMa g r < 700) (hk : zR key) (hv : 0 ≤ v ∧ v ≤ 999) :
    zCon l γ yX9_addTo cX9_addTo 6 none [.ref q, .int (zi r), .int (zi key), .int (zi v)] M 4 88 0 0 (fun v' M' => v' = none ∧ zFr M M' [q] ∧ M' q = some (zar γ 5987 (mAd g r key v)) ∧ ∀ j, zR (mAd g r key v j)) (fun _ _ => False) := by
  have hmm := hm.1
  have hk0 := hk
  unfold zR at hk0
  have e56 : va_up (va_up g (339 + 1412 * r + 12 + 2 * mMa g r + 1 - 1).toNat key) (339 + 1412 * r + 12 + 2 * mMa g r + 1).toNat 0 (339 + 1412 * r + 11).toNat = mMa g r := by
    rw [va_up_ne _ _ (by omega), va_up_ne _ _ (by omega)]
    rfl
  have hfr := mFi_rng (key := key) hr hmm
  refine zEnter [some (.ref q), some (.int (zi r)), some (.int (zi key)), some (.int (zi v)), none, none] (by decide +kernel) rfl rfl (Nat.le_of_ble_eq_true rfl) ?_
  intro p e s m args below meth c Q C hin hQ
  have tail : ∀ (M1 : zM) (g1 : Nat → Int) (w : Int) (x5 : Option Value), M1 q = some (zar γ 5987 g1) → (∀ j, zR (g1 j)) → (0 ≤ w ∧ w < 5987) → (0 ≤ g1 w.toNat ∧ g1 w.toNat ≤ 999) → zFr M M1 [q] → mPu g1 w v = mAd g r key v → zAW p l e { frames := 4, cells := 0, slots := 0, locals := 88 } s m args below meth c γ 6 Q M1 0 0 60 [some (.ref q), some (.int (zi r)), some (.int (zi key)), some (.int (zi v)), some (.int (zi w)), x5] [] := by
    intro M1 g1 w x5 h1 h2 h3 h4 h5 h6
    unfold mPu at h6
    refine z_aload_n C dX9_addTo_60 rfl ?_
    refine z_iload C dX9_addTo_61 rfl ?_
    refine z_aload_n C dX9_addTo_63 rfl ?_
    refine z_iload C dX9_addTo_64 rfl ?_
    refine z_aldN C dX9_addTo_66 (by first | assumption | ((repeat (first | assumption | exact va_up_self _ _ _ | refine (va_up_ne _ _ (by assumption)).trans ?_)); done) | (simp [va_up, *] <;> rfl)) (by omega) (by omega) (by assumption) (fun hr66 => ?_)
    refine z_iload_n C dX9_addTo_67 rfl ?_
    refine z_iaddZ C dX9_addTo_68 ?_
    refine z_sipush C dX9_addTo_69 (by decide) ?_
    refine z_icmp_leZ (tgt := 81) C dX9_addTo_72 (by decide) (by omega) (by omega) (fun h72 => ?_) (fun h72 => ?_)
    · refine z_aload_n C dX9_addTo_81 rfl ?_
      refine z_iload C dX9_addTo_82 rfl ?_
      refine z_aldN C dX9_addTo_84 (by first | assumption | ((repeat (first | assumption | exact va_up_self _ _ _ | refine (va_up_ne _ _ (by assumption)).trans ?_)); done) | (simp [va_up, *] <;> rfl)) (by omega) (by omega) (by assumption) (fun hr84 => ?_)
      refine z_iload_n C dX9_addTo_85 rfl ?_
      refine z_iaddZ C dX9_addTo_86 ?_
      refine z_astN C dX9_addTo_87 (by first | assumption | ((repeat (first | assumption | exact va_up_self _ _ _ | refine (va_up_ne _ _ (by assumption)).trans ?_)); done) | (simp [va_up, *] <;> rfl)) (by omega) (by omega) (by assumption) (by omega) (fun hr87 => ?_)
      refine z_vret C hQ dX9_addTo_88 (by decide) (by decide) ?_
      rw [show g1 w.toNat + v = min (g1 w.toNat + v) 999 by omega, h6] at hr87 ⊢
      exact ⟨rfl, h5.u1 (by simp), va_up_self _ _ _, hr87⟩
    · refine z_sipush C dX9_addTo_75 (by decide) ?_
      refine z_goto (tgt := 87) C dX9_addTo_78 (by decide) ?_
      refine z_astN C dX9_addTo_87 (by first | assumption | ((repeat (first | assumption | exact va_up_self _ _ _ | refine (va_up_ne _ _ (by assumption)).trans ?_)); done) | (simp [va_up, *] <;> rfl)) (by omega) (by omega) (by assumption) (by omega) (fun hr87 => ?_)
      refine z_vret C hQ dX9_addTo_88 (by decide) (by decide) ?_
      rw [show (999 : Int) = min (g1 w.toNat + v) 999 by omega, h6] at hr87 ⊢
      exact ⟨rfl, h5.u1 (by simp), va_up_self _ _ _, hr87⟩
  refine z_aload_n C dX9_addTo_0 rfl ?_
  refine z_iload_n C dX9_addTo_1 rfl ?_
  refine z_iload_n C dX9_addTo_2 rfl ?_
  refine z_callS C dX9_addTo_3 lk_X9_99 mw_X9_find mst_X9_find (k_X9_find hG hg hr hmm hk) rfl (by first | decide | exact Nat.le_of_ble_eq_true rfl) ⟨by decide, by decide, by decide, by decide⟩ (fun _ _ h => False.elim h) (fun v M' hp => ?_)
  obtain ⟨rfl, rfl⟩ := hp
  refine z_istore C dX9_addTo_6 (by decide) ?_
  refine z_iload C dX9_addTo_8 rfl ?_
  refine z_iconst C dX9_addTo_10 ?_
  refine z_icmp_neZ (tgt := 60) C dX9_addTo_11 (by decide) (by omega) (by omega) (fun h11 => ?_) (fun h11 => ?_)
  · obtain ⟨j, j1, j2, j3, j4⟩ := mFi_at hmm h11
    have := hm.2 j j1 (by omega)
    exact tail _ g _ _ hG hg (by omega) (by rw [j3]; exact this) zFr.rf (by rw [mAd, if_neg h11])
  · refine z_aload_n C dX9_addTo_14 rfl ?_
    refine z_iload_n C dX9_addTo_15 rfl ?_
    refine z_callS C dX9_addTo_16 lk_X9_92 mw_X9_atReader mst_X9_atReader k_X9_atReader rfl (by first | decide | exact Nat.le_of_ble_eq_true rfl) ⟨by decide, by decide, by decide, by decide⟩ (fun _ _ h => False.elim h) (fun v M' hp => ?_)
    obtain ⟨rfl, rfl⟩ := hp
    refine z_bipush C dX9_addTo_19 (by decide) ?_
    refine z_iaddZ C dX9_addTo_21 ?_
    refine z_aldN C dX9_addTo_22 (by first | assumption | ((repeat (first | assumption | exact va_up_self _ _ _ | refine (va_up_ne _ _ (by assumption)).trans ?_)); done) | (simp [va_up, *] <;> rfl)) (by omega) (by omega) (by assumption) (fun hr22 => ?_)
    rw [show g (339 + 1412 * r + 11).toNat = mMa g r from rfl]
    refine z_istore C dX9_addTo_23 (by decide) ?_
    refine z_iload_n C dX9_addTo_25 rfl ?_
    refine z_iload C dX9_addTo_26 rfl ?_
    refine z_callS C dX9_addTo_28 lk_X9_95 mw_X9_entryAt mst_X9_entryAt k_X9_entryAt rfl (by first | decide | exact Nat.le_of_ble_eq_true rfl) ⟨by decide, by decide, by decide, by decide⟩ (fun _ _ h => False.elim h) (fun v M' hp => ?_)
    obtain ⟨rfl, rfl⟩ := hp
    refine z_iconst C dX9_addTo_31 ?_
    refine z_iaddZ C dX9_addTo_32 ?_
    refine z_istore C dX9_addTo_33 (by decide) ?_
    refine z_aload_n C dX9_addTo_35 rfl ?_
    refine z_iload C dX9_addTo_36 rfl ?_
    refine z_iconst C dX9_addTo_38 ?_
    refine z_isubZ C dX9_addTo_39 ?_
    refine z_iload_n C dX9_addTo_40 rfl ?_
    refine z_astN C dX9_addTo_41 (by first | assumption | ((repeat (first | assumption | exact va_up_self _ _ _ | refine (va_up_ne _ _ (by assumption)).trans ?_)); done) | (simp [va_up, *] <;> rfl)) (by omega) (by omega) (by assumption) (by omega) (fun hr41 => ?_)
    refine z_aload_n C dX9_addTo_42 rfl ?_
    refine z_iload C dX9_addTo_43 rfl ?_
    refine z_iconst C dX9_addTo_45 ?_
    refine z_astN C dX9_addTo_46 (by first | assumption | ((repeat (first | assumption | exact va_up_self _ _ _ | refine (va_up_ne _ _ (by assumption)).trans ?_)); done) | (simp [va_up, *] <;> rfl)) (by omega) (by omega) (by assumption) (by omega) (fun hr46 => ?_)
    refine z_aload_n C dX9_addTo_47 rfl ?_
    refine z_iload_n C dX9_addTo_48 rfl ?_
    refine z_callS C dX9_addTo_49 lk_X9_92 mw_X9_atReader mst_X9_atReader k_X9_atReader rfl (by first | decide | exact Nat.le_of_ble_eq_true rfl) ⟨by decide, by decide, by decide, by decide⟩ (fun _ _ h => False.elim h) (fun v M' hp => ?_)
    obtain ⟨rfl, rfl⟩ := hp
    refine z_bipush C dX9_addTo_52 (by decide) ?_
    refine z_iaddZ C dX9_addTo_54 ?_
    refine z_dup2 C dX9_addTo_55 rfl rfl ?_
    refine z_aldN C dX9_addTo_56 (by first | assumption | ((repeat (first | assumption | exact va_up_self _ _ _ | refine (va_up_ne _ _ (by assumption)).trans ?_)); done) | (simp [va_up, *] <;> rfl)) (by omega) (by omega) (by assumption) (fun hr56 => ?_)
    rw [e56]
    refine z_iconst C dX9_addTo_57 ?_
    refine z_iaddZ C dX9_addTo_58 ?_
    refine z_astN C dX9_addTo_59 (by first | assumption | ((repeat (first | assumption | exact va_up_self _ _ _ | refine (va_up_ne _ _ (by assumption)).trans ?_)); done) | (simp [va_up, *] <;> rfl)) (by omega) (by omega) (by assumption) (by omega) (fun hr59 => ?_)
    refine tail _ _ _ _ (va_up_self _ _ _) hr59 (by omega) ?_ (zFr.u1 (zFr.u1 (zFr.u1 zFr.rf (by simp)) (by simp)) (by simp)) ?_
    · rw [va_up_ne _ _ (by omega), va_up_self]
      omega
    · rw [mAd, if_pos (by omega), mNw, Int.add_sub_cancel]
def mNo (g : Nat → Int) (r d : Int) : Nat → Int := va_up (va_up g (339 + 1412 * r + 3 + d).toNat (zw (g (339 + 1412 * r + 3 + d).toNat + 1))) (339 + 1412 * r + 2).toNat (zw (g (339 + 1412 * r + 2).toNat + g (3 + 42 * d).toNat))
set_option maxHeartbeats 4000000 in
set_option maxRecDepth 100000 in
theorem k_X9_noteTraining {l : Launch} {γ : zG} {M : zM} {q : Nat} {g : Nat → Int} {r d : Int} (hG : M q = some (zar γ 5987 g)) (hg : ∀ j, zR (g j)) (hr : 0 ≤ r ∧ r < 4) (hd : 0 ≤ d ∧ d < 8) :
    zCon l γ yX9_noteTraining cX9_noteTraining 3 none [.ref q, .int (zi r), .int (zi d)] M 2 42 0 0 (fun v' M' => v' = none ∧ zFr M M' [q] ∧ M' q = some (zar γ 5987 (mNo g r d)) ∧ ∀ j, zR (mNo g r d j)) (fun _ _ => False) := by
  have e22 : va_up g (339 + 1412 * r + 3 + d).toNat (zw (g (339 + 1412 * r + 3 + d).toNat + 1)) (339 + 1412 * r + 2).toNat = g (339 + 1412 * r + 2).toNat := va_up_ne _ _ (by omega)
  have e25 : va_up g (339 + 1412 * r + 3 + d).toNat (zw (g (339 + 1412 * r + 3 + d).toNat + 1)) (3 + 42 * d).toNat = g (3 + 42 * d).toNat := va_up_ne _ _ (by omega)
  refine zEnter [some (.ref q), some (.int (zi r)), some (.int (zi d))] (by decide +kernel) rfl rfl (Nat.le_of_ble_eq_true rfl) ?_
  intro p e s m args below meth c Q C hin hQ
  refine z_aload_n C dX9_noteTraining_0 rfl ?_
  refine z_iload_n C dX9_noteTraining_1 rfl ?_
  refine z_callS C dX9_noteTraining_2 lk_X9_92 mw_X9_atReader mst_X9_atReader k_X9_atReader rfl (by first | decide | exact Nat.le_of_ble_eq_true rfl) ⟨by decide, by decide, by decide, by decide⟩ (fun _ _ h => False.elim h) (fun v M' hp => ?_)
  obtain ⟨rfl, rfl⟩ := hp
  refine z_iconst C dX9_noteTraining_5 ?_
  refine z_iaddZ C dX9_noteTraining_6 ?_
  refine z_iload_n C dX9_noteTraining_7 rfl ?_
  refine z_iaddZ C dX9_noteTraining_8 ?_
  refine z_dup2 C dX9_noteTraining_9 rfl rfl ?_
  refine z_aldN C dX9_noteTraining_10 (by first | assumption | ((repeat (first | assumption | exact va_up_self _ _ _ | refine (va_up_ne _ _ (by assumption)).trans ?_)); done) | (simp [va_up, *] <;> rfl)) (by omega) (by omega) (by assumption) (fun hr10 => ?_)
  refine z_iconst C dX9_noteTraining_11 ?_
  refine z_iaddZ C dX9_noteTraining_12 ?_
  rw [← zi_zw (g (339 + 1412 * r + 3 + d).toNat + 1)]
  refine z_astN C dX9_noteTraining_13 (by first | assumption | ((repeat (first | assumption | exact va_up_self _ _ _ | refine (va_up_ne _ _ (by assumption)).trans ?_)); done) | (simp [va_up, *] <;> rfl)) (by omega) (by omega) (by assumption) (zw_rng _) (fun hr13 => ?_)
  refine z_aload_n C dX9_noteTraining_14 rfl ?_
  refine z_iload_n C dX9_noteTraining_15 rfl ?_
  refine z_callS C dX9_noteTraining_16 lk_X9_92 mw_X9_atReader mst_X9_atReader k_X9_atReader rfl (by first | decide | exact Nat.le_of_ble_eq_true rfl) ⟨by decide, by decide, by decide, by decide⟩ (fun _ _ h => False.elim h) (fun v M' hp => ?_)
  obtain ⟨rfl, rfl⟩ := hp
  refine z_iconst C dX9_noteTraining_19 ?_
  refine z_iaddZ C dX9_noteTraining_20 ?_
  refine z_dup2 C dX9_noteTraining_21 rfl rfl ?_
  refine z_aldN C dX9_noteTraining_22 (by first | assumption | ((repeat (first | assumption | exact va_up_self _ _ _ | refine (va_up_ne _ _ (by assumption)).trans ?_)); done) | (simp [va_up, *] <;> rfl)) (by omega) (by omega) (by assumption) (fun hr22 => ?_)
  rw [e22]
  refine z_aload_n C dX9_noteTraining_23 rfl ?_
  refine z_iload_n C dX9_noteTraining_24 rfl ?_
  refine z_callS C dX9_noteTraining_25 lk_X9_114 mw_X9_lengthOf mst_X9_lengthOf (k_X9_lengthOf (va_up_self _ _ _) hr13 hd) rfl (by first | decide | exact Nat.le_of_ble_eq_true rfl) ⟨by decide, by decide, by decide, by decide⟩ (fun _ _ h => False.elim h) (fun v M' hp => ?_)
  obtain ⟨rfl, rfl⟩ := hp
  rw [e25]
  refine z_iaddZ C dX9_noteTraining_28 ?_
  rw [← zi_zw (g (339 + 1412 * r + 2).toNat + g (3 + 42 * d).toNat)]
  refine z_astN C dX9_noteTraining_29 (by first | assumption | ((repeat (first | assumption | exact va_up_self _ _ _ | refine (va_up_ne _ _ (by assumption)).trans ?_)); done) | (simp [va_up, *] <;> rfl)) (by omega) (by omega) (by assumption) (zw_rng _) (fun hr29 => ?_)
  refine z_vret C hQ dX9_noteTraining_30 (by decide) (by decide) ?_
  exact ⟨rfl, zFr.u1 (zFr.u1 zFr.rf (by simp)) (by simp), va_up_self _ _ _, hr29⟩

