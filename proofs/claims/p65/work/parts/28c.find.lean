/-- so many divisions are enough -/
def zFu : Nat → Int → Int → Prop
  | 0, _, r => r = 0
  | t + 1, d, r => r = 0 ∨ zFu t r (d % r)
theorem zFu_of : ∀ (j : Nat) (d r : Int), 0 ≤ d → 0 ≤ r → r < 2 ^ j → zFu (2 * j) d r
  | 0, d, r, _, h1, h2 => by
    show r = 0
    simp at h2
    omega
  | j + 1, d, r, h0, h1, h2 => by
    show r = 0 ∨ (d % r = 0 ∨ zFu (2 * j) (d % r) (r % (d % r)))
    by_cases e : r = 0
    · exact .inl e
    refine .inr ?_
    have k1 := Int.emod_nonneg d e
    have k2 := Int.emod_lt_of_pos d (show 0 < r by omega)
    by_cases e1 : d % r = 0
    · exact .inl e1
    refine .inr ?_
    generalize d % r = m at *
    have k3 := Int.emod_nonneg r e1
    have k4 := Int.emod_lt_of_pos r (show 0 < m by omega)
    have k5 : r % m ≤ r - m := by
      have q1 := Int.emod_add_mul_ediv r m
      have q2 : 1 ≤ r / m := by
        rw [Int.le_ediv_iff_mul_le (by omega)]
        omega
      have q3 : m * 1 ≤ m * (r / m) := Int.mul_le_mul_of_nonneg_left q2 (by omega)
      omega
    refine zFu_of j m (r % m) (by omega) k3 ?_
    have : (2 : Int) ^ (j + 1) = 2 ^ j * 2 := Int.pow_succ 2 j
    omega
theorem zgd_st (d r : Int) (hd : 0 ≤ d) (hr : 0 < r) : zgd r (d % r) = zgd d r := by
  unfold zgd
  rw [Int.gcd_comm d r]
  congr 1
  show Nat.gcd r.natAbs (d % r).natAbs = Nat.gcd r.natAbs d.natAbs
  rw [show (d % r).natAbs = d.natAbs % r.natAbs from Int.natAbs_emod_of_nonneg hd r]
  rw [Nat.gcd_rec r.natAbs d.natAbs]
  exact Nat.gcd_comm _ _
theorem zgd_0 (d : Int) (hd : 0 ≤ d) : zgd d 0 = d := by
  unfold zgd
  rw [Int.gcd_zero_right]
  omega
theorem zgd_pos {x y : Int} (h : 0 < x) : 1 ≤ zgd x y := by
  unfold zgd
  have : 0 < x.gcd y := Int.gcd_pos_of_ne_zero_left y (by omega)
  omega
theorem zgd_cm (x y : Int) : zgd x y = zgd y x := by
  unfold zgd
  rw [Int.gcd_comm]
theorem zgd_dv (x y : Int) : zgd x y ∣ x ∧ zgd x y ∣ y := ⟨Int.gcd_dvd_left x y, Int.gcd_dvd_right x y⟩
theorem zdv_le {g x : Int} (h : g ∣ x) (hg : 1 ≤ g) (hx : 1 ≤ x) : 1 ≤ x / g ∧ x / g ≤ x := by
  obtain ⟨k, rfl⟩ := h
  rw [Int.mul_ediv_cancel_left _ (by omega)]
  have hk : 1 ≤ k := by
    by_cases e : 1 ≤ k
    · exact e
    · have : g * k ≤ g * 0 := Int.mul_le_mul_of_nonneg_left (by omega) (by omega)
      omega
  refine ⟨hk, ?_⟩
  have : 1 * k ≤ g * k := Int.mul_le_mul_of_nonneg_right hg (by omega)
  omega
set_option maxHeartbeats 4000000 in
set_option maxRecDepth 100000 in
theorem k_X1_reduce {l : Launch} {γ : zG} {M : zM} {a : Nat} {T B E : Int} {mk : Int32} (hH : hCh γ M a T B E mk) (hT : 1 ≤ T ∧ T < 9007199254740992) (hB : 1 ≤ B ∧ B < 9007199254740992) :
    zCon l γ yX1_reduce cX1_reduce 8 none [.ref a] M 0 0 0 0 (fun v' M' => v' = none ∧ zFr M M' [a] ∧ hCh γ M' a (T / zgd T B) (B / zgd T B) E mk) (fun _ _ => False) := by
  have hg := zgd_pos (y := B) (show 0 < T by omega)
  have hd := zgd_dv T B
  have h1 := zdv_le hd.1 hg hT.1
  have h2 := zdv_le hd.2 hg hB.1
  have hgl : zgd T B ≤ T := Int.le_of_dvd (by omega) hd.1
  have hH2 := hH
  unfold hCh at hH2
  refine zEnter [some (.ref a), none, none, none, none, none, none, none] (by decide +kernel) rfl rfl (Nat.le_of_ble_eq_true rfl) ?_
  intro p e s m args below meth c Q C hin hQ
  have loop : ∀ (t : Nat) (i d r : Int) (x6 x7 : Option Value), 0 ≤ i ∧ i + t = 200 → 0 ≤ d ∧ d < 9007199254740992 → 0 ≤ r ∧ r < 9007199254740992 → zFu t d r → zgd d r = zgd T B → zAW p l e { frames := 0, cells := 0, slots := 0, locals := 0 } s m args below meth c γ 8 Q M 0 0 13 [some (.ref a), some (.long (zl d)), none, some (.long (zl r)), none, some (.int (zi i)), x6, x7] [] := by
    have fin : ∀ (i d : Int) (x6 x7 : Option Value), 0 ≤ d ∧ d < 9007199254740992 → zgd d 0 = zgd T B → zAW p l e { frames := 0, cells := 0, slots := 0, locals := 0 } s m args below meth c γ 8 Q M 0 0 43 [some (.ref a), some (.long (zl d)), none, some (.long (zl 0)), none, some (.int (zi i)), x6, x7] [] := by
      intro i d x6 x7 hd1 hg1
      rw [zgd_0 d hd1.1] at hg1
      subst hg1
      have hc1 := zcmp_rng (zgd T B) 1
      have hc2 : zcmp (zgd T B) 1 ≤ 0 ↔ zgd T B ≤ 1 := by
        unfold zcmp
        split
        · omega
        · split <;> omega
      refine z_lload_n C dX1_reduce_43 rfl ?_
      refine z_lconstZ (x := 1) C dX1_reduce_44 rfl ?_
      refine z_lcmpZ C dX1_reduce_45 (by unfold zZ; omega) (by unfold zZ; omega) ?_
      refine z_if_leZ (tgt := 69) C dX1_reduce_46 (by decide) (by omega) (fun h46 => ?_) (fun h46 => ?_)
      · refine z_vret C hQ dX1_reduce_69 (by decide) (by decide) ?_
        have e : zgd T B = 1 := by omega
        refine ⟨rfl, zFr.rf, ?_⟩
        rw [e, Int.ediv_one, Int.ediv_one]
        exact hH
      · refine z_aload_n C dX1_reduce_49 rfl ?_
        refine z_dup C dX1_reduce_50 rfl ?_
        refine z_get C dX1_reduce_51 fl_X1_9 (by first | assumption | ((repeat (first | assumption | exact va_up_self _ _ _ | refine (va_up_ne _ _ (by assumption)).trans ?_)); done) | (simp [va_up, *] <;> rfl)) rfl ?_
        refine z_lload_n C dX1_reduce_54 rfl ?_
        refine z_ldivZ C dX1_reduce_55 (by unfold zZ; omega) (by unfold zZ; omega) ?_
        refine z_put C dX1_reduce_56 fl_X1_9 (by first | assumption | ((repeat (first | assumption | exact va_up_self _ _ _ | refine (va_up_ne _ _ (by assumption)).trans ?_)); done) | (simp [va_up, *] <;> rfl)) rfl rfl (by simp) ?_
        refine z_aload_n C dX1_reduce_59 rfl ?_
        refine z_dup C dX1_reduce_60 rfl ?_
        refine z_get C dX1_reduce_61 fl_X1_15 (by first | assumption | ((repeat (first | assumption | exact va_up_self _ _ _ | refine (va_up_ne _ _ (by assumption)).trans ?_)); done) | (simp [va_up, *] <;> rfl)) rfl ?_
        refine z_lload_n C dX1_reduce_64 rfl ?_
        refine z_ldivZ C dX1_reduce_65 (by unfold zZ; omega) (by unfold zZ; omega) ?_
        refine z_put C dX1_reduce_66 fl_X1_15 (by first | assumption | ((repeat (first | assumption | exact va_up_self _ _ _ | refine (va_up_ne _ _ (by assumption)).trans ?_)); done) | (simp [va_up, *] <;> rfl)) rfl rfl (by simp) ?_
        refine z_vret C hQ dX1_reduce_69 (by decide) (by decide) ?_
        exact ⟨rfl, zFr.u2 zFr.rf (by simp) (by simp), va_up_self _ _ _⟩
    have hcz : ∀ r : Int, 0 ≤ r → (zcmp r 0 = 0 ↔ r = 0) := fun r hr => by
      unfold zcmp
      split
      · omega
      · split <;> omega
    intro t
    induction t with
    | zero =>
      intro i d r x6 x7 hi hd1 hr1 hf hg1
      have hf : r = 0 := hf
      subst hf
      have hc1 := zcmp_rng 0 0
      have hc2 := hcz 0 (by omega)
      refine z_iload C dX1_reduce_13 rfl ?_
      refine z_sipush C dX1_reduce_15 (by decide) ?_
      refine z_icmp_geZ (tgt := 43) C dX1_reduce_18 (by decide) (by omega) (by omega) (fun h18 => ?_) (fun h18 => ?_)
      · exact fin _ _ _ _ hd1 hg1
      · refine z_lload_n C dX1_reduce_21 rfl ?_
        refine z_lconstZ (x := 0) C dX1_reduce_22 rfl ?_
        refine z_lcmpZ C dX1_reduce_23 (by unfold zZ; omega) (by unfold zZ; omega) ?_
        refine z_if_eqZ (tgt := 43) C dX1_reduce_24 (by decide) (by omega) (fun h24 => ?_) (fun h24 => ?_)
        · exact fin _ _ _ _ hd1 hg1
        · exact absurd h24 (by omega)
    | succ t ih =>
      intro i d r x6 x7 hi hd1 hr1 hf hg1
      have hc1 := zcmp_rng r 0
      have hc2 := hcz r hr1.1
      refine z_iload C dX1_reduce_13 rfl ?_
      refine z_sipush C dX1_reduce_15 (by decide) ?_
      refine z_icmp_geZ (tgt := 43) C dX1_reduce_18 (by decide) (by omega) (by omega) (fun h18 => ?_) (fun h18 => ?_)
      · have e : r = 0 := by omega
        subst e
        exact fin _ _ _ _ hd1 hg1
      · refine z_lload_n C dX1_reduce_21 rfl ?_
        refine z_lconstZ (x := 0) C dX1_reduce_22 rfl ?_
        refine z_lcmpZ C dX1_reduce_23 (by unfold zZ; omega) (by unfold zZ; omega) ?_
        refine z_if_eqZ (tgt := 43) C dX1_reduce_24 (by decide) (by omega) (fun h24 => ?_) (fun h24 => ?_)
        · have e : r = 0 := by omega
          subst e
          exact fin _ _ _ _ hd1 hg1
        · have e : r ≠ 0 := by omega
          have k1 := Int.emod_nonneg d e
          have k2 := Int.emod_lt_of_pos d (show 0 < r by omega)
          refine z_lload_n C dX1_reduce_27 rfl ?_
          refine z_lload_n C dX1_reduce_28 rfl ?_
          refine z_lremZ C dX1_reduce_29 (by unfold zZ; omega) (by unfold zZ; omega) ?_
          refine z_lstore C dX1_reduce_30 (by decide) ?_
          refine z_lload_n C dX1_reduce_32 rfl ?_
          refine z_lstore_n C dX1_reduce_33 (by decide) ?_
          refine z_lload C dX1_reduce_34 rfl ?_
          refine z_lstore_n C dX1_reduce_36 (by decide) ?_
          refine z_iincZ C dX1_reduce_37 rfl (by decide) ?_
          refine z_goto (tgt := 13) C dX1_reduce_40 (by decide) ?_
          refine ih (i + 1) r (d % r) _ _ (by omega) hr1 (by omega) ?_ ((zgd_st d r hd1.1 (by omega)).trans hg1)
          rcases hf with hf | hf
          · exact absurd hf e
          · exact hf
  refine z_aload_n C dX1_reduce_0 rfl ?_
  refine z_get C dX1_reduce_1 fl_X1_15 (by first | assumption | ((repeat (first | assumption | exact va_up_self _ _ _ | refine (va_up_ne _ _ (by assumption)).trans ?_)); done) | (simp [va_up, *] <;> rfl)) rfl ?_
  refine z_lstore_n C dX1_reduce_4 (by decide) ?_
  refine z_aload_n C dX1_reduce_5 rfl ?_
  refine z_get C dX1_reduce_6 fl_X1_9 (by first | assumption | ((repeat (first | assumption | exact va_up_self _ _ _ | refine (va_up_ne _ _ (by assumption)).trans ?_)); done) | (simp [va_up, *] <;> rfl)) rfl ?_
  refine z_lstore_n C dX1_reduce_9 (by decide) ?_
  refine z_iconst C dX1_reduce_10 ?_
  refine z_istore C dX1_reduce_11 (by decide) ?_
  exact loop 200 0 B T none none (by omega) (by omega) (by omega) (zFu_of 100 B T (by omega) (by omega) (by
    have : (2 : Int) ^ 100 = 1267650600228229401496703205376 := by decide
    omega)) (zgd_cm B T)
/-- how often the top must be doubled -/
def zbt : Nat → Int → Int → Int
  | 0, _, _ => 0
  | f + 1, d, B => if d < B then zbt f (d * 2) B + 1 else 0
theorem zcmp_ge (x y : Int) : 0 ≤ zcmp x y ↔ y ≤ x := by
  unfold zcmp
  split
  · omega
  · split <;> omega
set_option maxHeartbeats 4000000 in
set_option maxRecDepth 100000 in
theorem k_X1_bits {l : Launch} {γ : zG} {M : zM} {a : Nat} {T B E : Int} {mk : Int32} (hH : hCh γ M a T B E mk) (hT : 1 ≤ T ∧ T < 9007199254740992) (hB : 1 ≤ B ∧ B < 9007199254740992) :
    zCon l γ yX1_bits cX1_bits 4 (some .int) [.ref a] M 0 0 0 0 (fun v' M' => ∃ r : Int, v' = some (.int (zi r)) ∧ M' = M ∧ r = zbt 62 T B) (fun _ _ => False) := by
  unfold hCh at hH
  refine zEnter [some (.ref a), none, none, none] (by decide +kernel) rfl rfl (Nat.le_of_ble_eq_true rfl) ?_
  intro p e s m args below meth c Q C hin hQ
  have loop : ∀ (t : Nat) (i d : Int), 0 ≤ i ∧ i + t = 62 → 1 ≤ d ∧ d < 18014398509481984 → i + zbt t d B = zbt 62 T B → zAW p l e { frames := 0, cells := 0, slots := 0, locals := 0 } s m args below meth c γ 4 Q M 0 0 7 [some (.ref a), some (.int (zi i)), some (.long (zl d)), none] [] := by
    intro t
    induction t with
    | zero =>
      intro i d hi hd hz
      have hc1 := zcmp_rng d B
      have hz : i + 0 = zbt 62 T B := hz
      refine z_lload_n C dX1_bits_7 rfl ?_
      refine z_aload_n C dX1_bits_8 rfl ?_
      refine z_get C dX1_bits_9 fl_X1_15 (by first | assumption | ((repeat (first | assumption | exact va_up_self _ _ _ | refine (va_up_ne _ _ (by assumption)).trans ?_)); done) | (simp [va_up, *] <;> rfl)) rfl ?_
      refine z_lcmpZ C dX1_bits_12 (by unfold zZ; omega) (by unfold zZ; omega) ?_
      refine z_if_geZ (tgt := 34) C dX1_bits_13 (by decide) (by omega) (fun h13 => ?_) (fun h13 => ?_)
      · refine z_iload_n C dX1_bits_34 rfl ?_
        refine z_iret C hQ dX1_bits_35 rfl (by decide) (by decide) ?_
        exact ⟨i, rfl, rfl, by omega⟩
      · refine z_iload_n C dX1_bits_16 rfl ?_
        refine z_bipush C dX1_bits_17 (by decide) ?_
        refine z_icmp_geZ (tgt := 34) C dX1_bits_19 (by decide) (by omega) (by omega) (fun h19 => ?_) (fun h19 => ?_)
        · refine z_iload_n C dX1_bits_34 rfl ?_
          refine z_iret C hQ dX1_bits_35 rfl (by decide) (by decide) ?_
          exact ⟨i, rfl, rfl, by omega⟩
        · exact absurd h19 (by omega)
    | succ t ih =>
      intro i d hi hd hz
      have hc1 := zcmp_rng d B
      have hc2 := zcmp_ge d B
      have hz : i + (if d < B then zbt t (d * 2) B + 1 else 0) = zbt 62 T B := hz
      refine z_lload_n C dX1_bits_7 rfl ?_
      refine z_aload_n C dX1_bits_8 rfl ?_
      refine z_get C dX1_bits_9 fl_X1_15 (by first | assumption | ((repeat (first | assumption | exact va_up_self _ _ _ | refine (va_up_ne _ _ (by assumption)).trans ?_)); done) | (simp [va_up, *] <;> rfl)) rfl ?_
      refine z_lcmpZ C dX1_bits_12 (by unfold zZ; omega) (by unfold zZ; omega) ?_
      refine z_if_geZ (tgt := 34) C dX1_bits_13 (by decide) (by omega) (fun h13 => ?_) (fun h13 => ?_)
      · refine z_iload_n C dX1_bits_34 rfl ?_
        refine z_iret C hQ dX1_bits_35 rfl (by decide) (by decide) ?_
        rw [if_neg (by omega)] at hz
        exact ⟨i, rfl, rfl, by omega⟩
      · refine z_iload_n C dX1_bits_16 rfl ?_
        refine z_bipush C dX1_bits_17 (by decide) ?_
        refine z_icmp_geZ (tgt := 34) C dX1_bits_19 (by decide) (by omega) (by omega) (fun h19 => ?_) (fun h19 => ?_)
        · exact absurd h19 (by omega)
        · refine z_iincZ C dX1_bits_22 rfl (by decide) ?_
          refine z_lload_n C dX1_bits_25 rfl ?_
          refine z_ldc2 C dX1_bits_26 t6_3 ?_
          rw [show (2 : Int64) = zl 2 by rfl]
          refine z_lmulZ C dX1_bits_29 ?_
          refine z_lstore_n C dX1_bits_30 (by decide) ?_
          refine z_goto (tgt := 7) C dX1_bits_31 (by decide) ?_
          rw [if_pos (by omega)] at hz
          exact ih (i + 1) (d * 2) (by omega) (by omega) (by omega)
  refine z_iconst C dX1_bits_0 ?_
  refine z_istore_n C dX1_bits_1 (by decide) ?_
  refine z_aload_n C dX1_bits_2 rfl ?_
  refine z_get C dX1_bits_3 fl_X1_9 (by first | assumption | ((repeat (first | assumption | exact va_up_self _ _ _ | refine (va_up_ne _ _ (by assumption)).trans ?_)); done) | (simp [va_up, *] <;> rfl)) rfl ?_
  refine z_lstore_n C dX1_bits_6 (by decide) ?_
  exact loop 62 0 T (by omega) (by omega) (by omega)
set_option maxHeartbeats 4000000 in
set_option maxRecDepth 100000 in
theorem k_X1_init {l : Launch} {γ : zG} {M : zM} {a : Nat} (hM : M a = some (.inr (1, [.long 0, .long 0, .int 0, .int 0]))) :
    zCon l γ yX1_init cX1_init 1 none [.ref a] M 1 12 0 0 (fun v' M' => v' = none ∧ zFr M M' [a] ∧ hCh γ M' a 1 1 0 0) (fun _ _ => False) := by
  refine zEnter [some (.ref a)] (by decide +kernel) rfl rfl (Nat.le_of_ble_eq_true rfl) ?_
  intro p e s m args below meth c Q C hin hQ
  refine z_aload_n C dX1_init_0 rfl ?_
  refine z_objInit C dX1_init_1 t2_198 ob_in ob_co ⟨by decide, (by first | decide | exact Nat.le_of_ble_eq_true rfl)⟩ ?_
  refine z_aload_n C dX1_init_4 rfl ?_
  refine z_lconstZ (x := 1) C dX1_init_5 rfl ?_
  refine z_put C dX1_init_6 fl_X1_9 (by first | assumption | ((repeat (first | assumption | exact va_up_self _ _ _ | refine (va_up_ne _ _ (by assumption)).trans ?_)); done) | (simp [va_up, *] <;> rfl)) rfl rfl (by simp) ?_
  refine z_aload_n C dX1_init_9 rfl ?_
  refine z_lconstZ (x := 1) C dX1_init_10 rfl ?_
  refine z_put C dX1_init_11 fl_X1_15 (by first | assumption | ((repeat (first | assumption | exact va_up_self _ _ _ | refine (va_up_ne _ _ (by assumption)).trans ?_)); done) | (simp [va_up, *] <;> rfl)) rfl rfl (by simp) ?_
  refine z_aload_n C dX1_init_14 rfl ?_
  refine z_iconst C dX1_init_15 ?_
  refine z_put C dX1_init_16 fl_X1_18 (by first | assumption | ((repeat (first | assumption | exact va_up_self _ _ _ | refine (va_up_ne _ _ (by assumption)).trans ?_)); done) | (simp [va_up, *] <;> rfl)) rfl rfl (by simp) ?_
  refine z_aload_n C dX1_init_19 rfl ?_
  refine z_iconst C dX1_init_20 ?_
  refine z_put C dX1_init_21 fl_X1_22 (by first | assumption | ((repeat (first | assumption | exact va_up_self _ _ _ | refine (va_up_ne _ _ (by assumption)).trans ?_)); done) | (simp [va_up, *] <;> rfl)) rfl rfl (by simp) ?_
  refine z_vret C hQ dX1_init_24 (by decide) (by decide) ?_
  exact ⟨rfl, zFr.u2 (zFr.u2 zFr.rf (by simp) (by simp)) (by simp) (by simp), va_up_self _ _ _⟩
theorem zXm.ini {c : Int → Int} {b p : Int} : zXm c b p (zFo b p) 0 := fun i => by
  have := zlv_rng c b p i
  rw [zbit_0]
  constructor
  · intro q
    cases q
  · omega
set_option maxHeartbeats 4000000 in
set_option maxRecDepth 100000 in
theorem k_X1_find {l : Launch} {γ : zG} {M : zM} {a : Nat} {A : Nat → Nat} {R : zRdr} {T B E : Int} {mk : Int32} {pb pp s0 : Int} (hH : hCh γ M a T B E mk) (hD : hRd γ M A R) (hx : zCx pb pp) (hs : 0 ≤ s0 ∧ s0 < 27) (hm : 0 ≤ rMe R ∧ rMe R ≤ 2) :
    zCon l γ yX1_find cX1_find 7 none [.ref a, .ref (A 0), .int (zi pb), .int (zi pp), .int (zi s0)] M 2 54 0 0 (fun v' M' => v' = none ∧ zFr M M' [a] ∧ ∃ mk', hCh γ M' a (zcT (rC R) pb pp s0 (rMe R)) (zcB (rC R) pb pp s0 (rMe R)) (zcE (rC R) pb pp s0 (rMe R)) mk') (fun _ _ => False) := by
  have hH2 := hH
  unfold hCh at hH2
  have hob := hD.1
  have hC := hD.2.2.1
  have hcR : zcR (rC R) := fun x => hC.rng x
  have hfo := zFo_rng pb pp
  have dA : A 0 ∉ [a] := by
    have := zne_kk hob hH2 (by decide)
    simp [this]
  have dC : A 2 ∉ [a] ∧ A 3 ∉ [a] ∧ A 4 ∉ [a] := by
    obtain ⟨-, n, ks, vs, ⟨c1, c2, c3⟩, -⟩ := hC
    have q1 := zne_kk c1 hH2 (by decide)
    have q2 := (zne_ka hH2 c2).symm
    have q3 := (zne_ka hH2 c3).symm
    simp [q1, q2, q3]
  obtain ⟨x1, x2⟩ := id hx
  refine zEnter [some (.ref a), some (.ref (A 0)), some (.int (zi pb)), some (.int (zi pp)), some (.int (zi s0)), none, none] (by decide +kernel) rfl rfl (Nat.le_of_ble_eq_true rfl) ?_
  intro p e s m args below meth c Q C hin hQ
  have fin : ∀ (M1 : zM) (T1 B1 E1 f o : Int) (mk1 : Int32), zFr M M1 [a] → hCh γ M1 a T1 B1 E1 mk1 → 1 ≤ T1 ∧ T1 < 9007199254740992 → 1 ≤ B1 ∧ B1 < 9007199254740992 → zcf (rC R) pb pp s0 (rMe R) = (T1, B1, E1) → zAW p l e { frames := 2, cells := 0, slots := 0, locals := 54 } s m args below meth c γ 7 Q M1 0 0 94 [some (.ref a), some (.ref (A 0)), some (.int (zi pb)), some (.int (zi pp)), some (.int (zi s0)), some (.int (zi f)), some (.int (zi o))] [] := by
    intro M1 T1 B1 E1 f o mk1 hf hH1 hT hB he
    have hH3 := hH1
    unfold hCh at hH3
    refine z_aload_n C dX1_find_94 rfl ?_
    refine z_callV C dX1_find_95 lk_X1_52 mw_X1_reduce mi_X1_reduce ms_X1_reduce rfl (by first | assumption | ((repeat (first | assumption | exact va_up_self _ _ _ | refine (va_up_ne _ _ (by assumption)).trans ?_)); done) | (simp [va_up, *] <;> rfl)) (k_X1_reduce hH1 hT hB) rfl (by first | decide | exact Nat.le_of_ble_eq_true rfl) ⟨by decide, by decide, by decide, by decide⟩ (fun _ _ h => False.elim h) (fun v M' hp => ?_)
    obtain ⟨rfl, hf2, hH4⟩ := hp
    refine z_vret C hQ dX1_find_98 (by decide) (by decide) ?_
    refine ⟨rfl, hf.tr hf2 (fun _ h => h) (fun _ h => h), mk1, ?_⟩
    unfold zcT zcB zcE
    rw [he]
    exact hH4
  have fin1 : ∀ (M1 : zM) (T1 B1 E1 o : Int) (mk1 : Int32), -1 ≤ o ∧ o ≤ 2 → zFr M M1 [a] → hCh γ M1 a T1 B1 E1 mk1 → 1 ≤ T1 ∧ T1 < 9007199254740992 → 1 ≤ B1 ∧ B1 < 9007199254740992 → zcf (rC R) pb pp s0 (rMe R) = (T1, B1, E1) → zAW p l e { frames := 2, cells := 0, slots := 0, locals := 54 } s m args below meth c γ 7 Q M1 0 0 30 [some (.ref a), some (.ref (A 0)), some (.int (zi pb)), some (.int (zi pp)), some (.int (zi s0)), some (.int (zi 1)), some (.int (zi o))] [] := by
    intro M1 T1 B1 E1 o mk1 ho hf hH1 hT hB he
    refine z_iload C dX1_find_30 rfl ?_
    refine z_if_ltZ (tgt := 69) C dX1_find_32 (by decide) (by omega) (fun h32 => ?_) (fun h32 => ?_)
    · refine z_iload C dX1_find_69 rfl ?_
      refine z_if_neZ (tgt := 94) C dX1_find_71 (by decide) (by omega) (fun h71 => ?_) (fun h71 => ?_)
      · exact fin M1 T1 B1 E1 1 o mk1 hf hH1 hT hB he
      · exact absurd h71 (by decide)
    · refine z_iload C dX1_find_35 rfl ?_
      refine z_if_neZ (tgt := 69) C dX1_find_37 (by decide) (by omega) (fun h37 => ?_) (fun h37 => ?_)
      · refine z_iload C dX1_find_69 rfl ?_
        refine z_if_neZ (tgt := 94) C dX1_find_71 (by decide) (by omega) (fun h71 => ?_) (fun h71 => ?_)
        · exact fin M1 T1 B1 E1 1 o mk1 hf hH1 hT hB he
        · exact absurd h71 (by decide)
      · exact absurd h37 (by decide)
  have loop : ∀ (t k : Nat) (M1 : zM) (T1 B1 E1 : Int) (mk1 : Int32), (t : Int) + k = zFo pb pp + 1 → zFr M M1 [a] → hCh γ M1 a T1 B1 E1 mk1 → 1 ≤ T1 ∧ T1 ≤ zbd k → 1 ≤ B1 ∧ B1 ≤ zbd k → zXm (rC R) pb pp (t - 1) mk1 → zlv (rC R) pb pp s0 < t → zch (rC R) pb pp s0 (rMe R) t T1 B1 E1 = zcf (rC R) pb pp s0 (rMe R) → zAW p l e { frames := 2, cells := 0, slots := 0, locals := 54 } s m args below meth c γ 7 Q M1 0 0 30 [some (.ref a), some (.ref (A 0)), some (.int (zi pb)), some (.int (zi pp)), some (.int (zi s0)), some (.int (zi 0)), some (.int (zi (t - 1)))] [] := by
    intro t
    have hlr := zlv_rng (rC R) pb pp s0
    induction t with
    | zero =>
      intro k M1 T1 B1 E1 mk1 hk hf hH1 hT hB hX hlt he
      have hbk := zbd_le k (by omega)
      have hH3 := hH1
      unfold hCh at hH3
      have hlf := hX.left
      have hno := zxn_no (c := rC R) (b := pb) (p := pp) hs (by omega)
      refine z_iload C dX1_find_30 rfl ?_
      refine z_if_ltZ (tgt := 69) C dX1_find_32 (by decide) (by omega) (fun h32 => ?_) (fun h32 => ?_)
      · refine z_iload C dX1_find_69 rfl ?_
        refine z_if_neZ (tgt := 94) C dX1_find_71 (by decide) (by omega) (fun h71 => ?_) (fun h71 => ?_)
        · exact absurd rfl h71
        · refine z_aload_n C dX1_find_74 rfl ?_
          refine z_dup C dX1_find_75 rfl ?_
          refine z_get C dX1_find_76 fl_X1_15 (by first | assumption | ((repeat (first | assumption | exact va_up_self _ _ _ | refine (va_up_ne _ _ (by assumption)).trans ?_)); done) | (simp [va_up, *] <;> rfl)) rfl ?_
          refine z_bipush C dX1_find_79 (by decide) ?_
          refine z_aload_n C dX1_find_81 rfl ?_
          refine z_get C dX1_find_82 fl_X1_22 (by first | assumption | ((repeat (first | assumption | exact va_up_self _ _ _ | refine (va_up_ne _ _ (by assumption)).trans ?_)); done) | (simp [va_up, *] <;> rfl)) rfl ?_
          refine z_callS C dX1_find_85 lk_X1_46 mw_J6_bitCount_0f7a4 mst_J6_bitCount_0f7a4 (k_J6_bitCount) rfl (by first | decide | exact Nat.le_of_ble_eq_true rfl) ⟨by decide, by decide, by decide, by decide⟩ (fun _ _ h => False.elim h) (fun v M' hp => ?_)
          obtain ⟨r85, rfl, rfl, hr85⟩ := hp
          refine z_isubZ C dX1_find_88 ?_
          refine z_i2lZ C dX1_find_89 (by unfold zR; omega) ?_
          refine z_lmulZ C dX1_find_90 ?_
          refine z_put C dX1_find_91 fl_X1_15 (by first | assumption | ((repeat (first | assumption | exact va_up_self _ _ _ | refine (va_up_ne _ _ (by assumption)).trans ?_)); done) | (simp [va_up, *] <;> rfl)) rfl rfl (by simp) ?_
          have hB2 : 1 ≤ B1 * (27 - r85) ∧ B1 * (27 - r85) < 9007199254740992 := by
            rw [hr85, hlf]
            have q1 := Int.mul_le_mul hB.1 hno.1 (by omega) (by omega)
            have q2 := Int.mul_le_mul hB.2 hno.2 (by omega) (by omega)
            omega
          refine fin _ T1 (B1 * (27 - r85)) E1 0 _ mk1 (hf.u1 (by simp)) (va_up_self _ _ _) (by omega) hB2 ?_
          rw [← he, hr85, hlf]
          rfl
      · exact absurd h32 (by omega)
    | succ t ih =>
      intro k M1 T1 B1 E1 mk1 hk hf hH1 hT hB hX hlt he
      have hbk := zbd_le k (by omega)
      have hbk1 := zbd_le (k + 1) (by omega)
      have hH3 := hH1
      unfold hCh at hH3
      have ob := hf.at dA hob
      have hC1 := hC.fr hf dC.1 dC.2.1 dC.2.2
      obtain ⟨fs, hco⟩ := hC1.ob
      rw [show ((t + 1 : Nat) : Int) - 1 = t by omega] at hX ⊢
      refine z_iload C dX1_find_30 rfl ?_
      refine z_if_ltZ (tgt := 69) C dX1_find_32 (by decide) (by omega) (fun h32 => ?_) (fun h32 => ?_)
      · exact absurd h32 (by omega)
      · refine z_iload C dX1_find_35 rfl ?_
        refine z_if_neZ (tgt := 69) C dX1_find_37 (by decide) (by omega) (fun h37 => ?_) (fun h37 => ?_)
        · exact absurd rfl h37
        · refine z_aload_n C dX1_find_40 rfl ?_
          refine z_aload_n C dX1_find_41 rfl ?_
          refine z_get C dX1_find_42 fl_X1_29 (by first | assumption | ((repeat (first | assumption | exact va_up_self _ _ _ | refine (va_up_ne _ _ (by assumption)).trans ?_)); done) | (simp [va_up, *] <;> rfl)) rfl ?_
          refine z_aload_n C dX1_find_45 rfl ?_
          refine z_get C dX1_find_46 fl_X1_35 (by first | assumption | ((repeat (first | assumption | exact va_up_self _ _ _ | refine (va_up_ne _ _ (by assumption)).trans ?_)); done) | (simp [va_up, *] <;> rfl)) rfl ?_
          refine z_iload C dX1_find_49 rfl ?_
          refine z_iload_n C dX1_find_51 rfl ?_
          refine z_iload_n C dX1_find_52 rfl ?_
          refine z_callSN C dX1_find_53 nk_X1_38 mw_X8_contextStart mst_X8_contextStart (k_X8_contextStart (by unfold zR; omega)) rfl (by first | decide | exact Nat.le_of_ble_eq_true rfl) ⟨by decide, by decide, by decide, by decide⟩ (fun _ _ h => False.elim h) (fun v M' hp => ?_)
          obtain ⟨r53, rfl, rfl, hr53⟩ := hp
          subst hr53
          refine z_iload C dX1_find_56 rfl ?_
          refine z_callV C dX1_find_58 lk_X1_42 mw_X1_visit mi_X1_visit ms_X1_visit rfl (by first | assumption | ((repeat (first | assumption | exact va_up_self _ _ _ | refine (va_up_ne _ _ (by assumption)).trans ?_)); done) | (simp [va_up, *] <;> rfl)) (k_X1_visit hH1 hX hC1 (by omega) (zCs_rng hx (by omega)) hs hm) rfl (by first | decide | exact Nat.le_of_ble_eq_true rfl) ⟨by decide, by decide, by decide, by decide⟩ (fun _ _ h => False.elim h) (fun v M' hp => ?_)
          obtain ⟨r58, T2, B2, E2, mk2, rfl, hf2, hH4, hV⟩ := hp
          have hf3 := hf.tr hf2 (fun _ h => h) (fun _ h => h) (S := [a])
          refine z_istore C dX1_find_61 (by decide) ?_
          refine z_iincZ C dX1_find_63 rfl (by decide) ?_
          refine z_goto (tgt := 30) C dX1_find_66 (by decide) ?_
          rw [show (t : Int) + -1 = t - 1 by omega]
          rcases hV with ⟨z1, rfl, rfl, rfl, rfl, rfl⟩ | ⟨z1, z2, rfl, rfl, rfl, rfl⟩ | ⟨z1, z2, rfl, rfl, rfl, rfl, z3⟩
          · have z4 : zlv (rC R) pb pp s0 ≠ t := fun q => by
              have := zxn_pos hs q
              omega
            refine ih (k + 1) _ _ _ _ _ (by omega) hf3 hH4 ?_ ?_ (hX.no z1) (by omega) ?_
            · have e : zbd (k + 1) = zbd k * 54000 := rfl
              omega
            · have e : zbd (k + 1) = zbd k * 54000 := rfl
              omega
            · rw [← he]
              show _ = (if zxn (rC R) pb pp t = 0 then _ else _)
              rw [if_pos z1]
          · have z4 := zbd_mul (f := zxg (rMe R) (rC R (zCs t pb pp + s0))) hT (zxg_rng (by
              have q1 := hcR (zCs t pb pp + s0)
              by_cases q2 : rC R (zCs t pb pp + s0) = 0
              · exact absurd z2 (zlv_ne (by omega) q2)
              · omega))
            have z5 := zbd_mul hB (zxd_rng hcR (me := rMe R) (show (0 : Int) ≤ t by omega) z1)
            refine fin1 _ _ _ _ _ _ (by omega) hf3 hH4 (by omega) (by omega) ?_
            rw [← he]
            show (if zxn (rC R) pb pp t = 0 then _ else _) = _
            rw [if_neg z1, if_pos z2]
          · have z4 := zbd_mul hT (zxf_rng (me := rMe R) z1)
            have z5 := zbd_mul hB (zxd_rng hcR (me := rMe R) (show (0 : Int) ≤ t by omega) z1)
            refine ih (k + 1) _ _ _ _ _ (by omega) hf3 hH4 z4 z5 z3 (by omega) ?_
            rw [← he]
            show _ = (if zxn (rC R) pb pp t = 0 then _ else _)
            rw [if_neg z1, if_neg z2]
  refine z_aload_n C dX1_find_0 rfl ?_
  refine z_lconstZ (x := 1) C dX1_find_1 rfl ?_
  refine z_put C dX1_find_2 fl_X1_9 (by first | assumption | ((repeat (first | assumption | exact va_up_self _ _ _ | refine (va_up_ne _ _ (by assumption)).trans ?_)); done) | (simp [va_up, *] <;> rfl)) rfl rfl (by simp) ?_
  refine z_aload_n C dX1_find_5 rfl ?_
  refine z_lconstZ (x := 1) C dX1_find_6 rfl ?_
  refine z_put C dX1_find_7 fl_X1_15 (by first | assumption | ((repeat (first | assumption | exact va_up_self _ _ _ | refine (va_up_ne _ _ (by assumption)).trans ?_)); done) | (simp [va_up, *] <;> rfl)) rfl rfl (by simp) ?_
  refine z_aload_n C dX1_find_10 rfl ?_
  refine z_iconst C dX1_find_11 ?_
  refine z_put C dX1_find_12 fl_X1_18 (by first | assumption | ((repeat (first | assumption | exact va_up_self _ _ _ | refine (va_up_ne _ _ (by assumption)).trans ?_)); done) | (simp [va_up, *] <;> rfl)) rfl rfl (by simp) ?_
  refine z_aload_n C dX1_find_15 rfl ?_
  refine z_iconst C dX1_find_16 ?_
  refine z_put C dX1_find_17 fl_X1_22 (by first | assumption | ((repeat (first | assumption | exact va_up_self _ _ _ | refine (va_up_ne _ _ (by assumption)).trans ?_)); done) | (simp [va_up, *] <;> rfl)) rfl rfl (by simp) ?_
  refine z_iconst C dX1_find_20 ?_
  refine z_istore C dX1_find_21 (by decide) ?_
  refine z_iload_n C dX1_find_23 rfl ?_
  refine z_iload_n C dX1_find_24 rfl ?_
  refine z_callSN C dX1_find_25 nk_X1_25 mw_X8_firstOrder mst_X8_firstOrder (k_X8_firstOrder (b := pb) (p0 := pp) (by unfold zR; omega) (by unfold zR; omega)) rfl (by first | decide | exact Nat.le_of_ble_eq_true rfl) ⟨by decide, by decide, by decide, by decide⟩ (fun _ _ h => False.elim h) (fun v M' hp => ?_)
  obtain ⟨r25, rfl, rfl, hr25⟩ := hp
  subst hr25
  refine z_istore C dX1_find_28 (by decide) ?_
  have hlr := zlv_rng (rC R) pb pp s0
  obtain ⟨t, ht⟩ : ∃ t : Nat, (t : Int) = zFo pb pp + 1 := ⟨(zFo pb pp + 1).toNat, by omega⟩
  have q := fun M1 h1 h2 h3 => loop t 0 M1 1 1 0 0 (by omega) h1 h2 (by decide) (by decide) h3 (by omega) (by
    show _ = zch _ _ _ _ _ (zFo pb pp + 1).toNat 1 1 0
    rw [show (zFo pb pp + 1).toNat = t by omega])
  rw [show (t : Int) - 1 = zFo pb pp by omega] at q
  exact q _ (zFr.u2 (zFr.u2 zFr.rf (by simp) (by simp)) (by simp) (by simp)) (va_up_self _ _ _) zXm.ini

