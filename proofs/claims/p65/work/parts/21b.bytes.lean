/-! more of Bytes: four bytes of a whole number, numbers as digits, a new one -/
def zby (x : Int) (d : Int) : Int := (x / d) % 256
theorem zby_rng (x d : Int) : 0 ≤ zby x d ∧ zby x d ≤ 255 := by
  unfold zby
  omega
theorem zub (x : Int) : (zi x).toUInt32.toNat = (x % 4294967296).toNat := by
  show (BitVec.ofInt 32 x).toNat = _
  rw [BitVec.toNat_ofInt]
  rfl
theorem zi_of_u {u : UInt32} {y : Int} (hy : 0 ≤ y ∧ y ≤ 255) (h : u.toNat = y.toNat) : u.toInt32 = zi y := by
  apply Int32.toBitVec_inj.mp
  show u.toBitVec = BitVec.ofInt 32 y
  apply BitVec.eq_of_toNat_eq
  rw [BitVec.toNat_ofInt]
  show u.toNat = _
  rw [h]
  omega
theorem z_sh24 (x : Int) : ((zi x).toUInt32 >>> ((zi 24).toUInt32 &&& Int32.toUInt32 31)).toInt32 = zi (zby x 16777216) := by
  refine zi_of_u (zby_rng _ _) ?_
  rw [show (zi 24).toUInt32 &&& Int32.toUInt32 31 = 24 by decide, UInt32.toNat_shiftRight, zub]
  show (x % 4294967296).toNat >>> 24 = _
  rw [Nat.shiftRight_eq_div_pow]
  unfold zby
  omega
theorem z_and {u : UInt32} : u.toInt32 &&& zi 255 = (u &&& 255).toInt32 := rfl
theorem z_m255 (u : UInt32) {y : Int} (h : u.toNat % 256 = y.toNat) (hy : 0 ≤ y ∧ y ≤ 255) : u.toInt32 &&& zi 255 = zi y := by
  rw [z_and]
  refine zi_of_u hy ?_
  rw [UInt32.toNat_and]
  show u.toNat &&& 255 = _
  rw [show (255 : Nat) = 2 ^ 8 - 1 by rfl, Nat.and_two_pow_sub_one_eq_mod]
  exact h
theorem z_sh16 (x : Int) : ((zi x).toUInt32 >>> ((zi 16).toUInt32 &&& Int32.toUInt32 31)).toInt32 &&& zi 255 = zi (zby x 65536) := by
  refine z_m255 _ ?_ (zby_rng _ _)
  rw [show (zi 16).toUInt32 &&& Int32.toUInt32 31 = 16 by decide, UInt32.toNat_shiftRight, zub]
  show (x % 4294967296).toNat >>> 16 % 256 = _
  rw [Nat.shiftRight_eq_div_pow]
  unfold zby
  omega
theorem z_sh8 (x : Int) : ((zi x).toUInt32 >>> ((zi 8).toUInt32 &&& Int32.toUInt32 31)).toInt32 &&& zi 255 = zi (zby x 256) := by
  refine z_m255 _ ?_ (zby_rng _ _)
  rw [show (zi 8).toUInt32 &&& Int32.toUInt32 31 = 8 by decide, UInt32.toNat_shiftRight, zub]
  show (x % 4294967296).toNat >>> 8 % 256 = _
  rw [Nat.shiftRight_eq_div_pow]
  unfold zby
  omega
theorem z_sh0 (x : Int) : zi x &&& zi 255 = zi (zby x 1) := by
  have h : zi x = (zi x).toUInt32.toInt32 := rfl
  rw [h]
  refine z_m255 _ ?_ (zby_rng _ _)
  rw [zub]
  unfold zby
  omega
/-- one more byte -/
theorem hBo.up {f : Nat → Int} {n x : Int} (h : hBo f n) (hn : n < 500) (hx : 0 ≤ x ∧ x ≤ 255) : hBo (va_up f n.toNat x) (n + 1) := ⟨by have := h.1; omega, zR_up h.2.1 (by unfold zR; omega), fun j hj => by
  unfold va_up
  split
  · exact hx
  · exact h.2.2 j (by omega)⟩
def za4 (f : Nat → Int) (n x : Int) : Nat → Int := va_up (va_up (va_up (va_up f n.toNat (zby x 16777216)) (n + 1).toNat (zby x 65536)) (n + 2).toNat (zby x 256)) (n + 3).toNat (zby x 1)
theorem za4_ok {f : Nat → Int} {n x : Int} (h : hBo f n) (hn : n + 4 ≤ 500) : hBo (za4 f n x) (n + 4) := by
  have h1 := h.up (by omega) (zby_rng x 16777216)
  have h2 := h1.up (by omega) (zby_rng x 65536)
  have h3 := h2.up (by omega) (zby_rng x 256)
  have h4 := h3.up (by omega) (zby_rng x 1)
  rw [show n + 1 + 1 = n + 2 by omega, show n + 2 + 1 = n + 3 by omega, show n + 3 + 1 = n + 4 by omega] at h4
  exact h4
set_option maxHeartbeats 4000000 in
set_option maxRecDepth 100000 in
theorem k_X0_appendFour {l : Launch} {γ : zG} {M : zM} {a r : Nat} {f : Nat → Int} {n x : Int} (hB : hBy γ M a r f n) (hO : hBo f n) (hn : n + 4 ≤ 500) :
    zCon l γ yX0_appendFour cX0_appendFour 2 none [.ref a, .int (zi x)] M 1 21 0 0 (fun v' M' => v' = none ∧ zFr M M' [a, r] ∧ hBy γ M' a r (za4 f n x) (n + 4)) (fun _ _ => False) := by
  have o1 := hO.up (x := zby x 16777216) (by omega) (zby_rng x 16777216)
  have o2 := o1.up (x := zby x 65536) (by omega) (zby_rng x 65536)
  have o3 := o2.up (x := zby x 256) (by omega) (zby_rng x 256)
  have hT : ∀ M1, hBy γ M1 a r (va_up (va_up (va_up (va_up f n.toNat (zby x 16777216)) (n + 1).toNat (zby x 65536)) (n + 1 + 1).toNat (zby x 256)) (n + 1 + 1 + 1).toNat (zby x 1)) (n + 1 + 1 + 1 + 1) → hBy γ M1 a r (za4 f n x) (n + 4) := fun M1 h => by
    rw [show n + 1 + 1 = n + 2 by omega, show n + 2 + 1 = n + 3 by omega, show n + 3 + 1 = n + 4 by omega] at h
    exact h
  have ob := hB.1
  refine zEnter [some (.ref a), some (.int (zi x))] (by decide +kernel) rfl rfl (Nat.le_of_ble_eq_true rfl) ?_
  intro p e s m args below meth c Q C hin hQ
  refine z_aload_n C dX0_appendFour_0 rfl ?_
  refine z_iload_n C dX0_appendFour_1 rfl ?_
  refine z_bipush C dX0_appendFour_2 (by decide) ?_
  refine z_iushr C dX0_appendFour_4 ?_
  rw [z_sh24]
  refine z_callV C dX0_appendFour_5 lk_X0_19 mw_X0_append mi_X0_append ms_X0_append rfl (by first | assumption | ((repeat (first | assumption | exact va_up_self _ _ _ | refine (va_up_ne _ _ (by assumption)).trans ?_)); done) | (simp [va_up, *] <;> rfl)) (k_X0_append hB hO (zby_rng _ _)) rfl (by first | decide | exact Nat.le_of_ble_eq_true rfl) ⟨by decide, by decide, by decide, by decide⟩ (fun _ _ h => False.elim h) (fun v M' hp => ?_)
  obtain ⟨rfl, g1, ⟨-, B1, -⟩ | ⟨c1, -⟩⟩ := hp
  case inr => omega
  have ob1 := B1.1
  refine z_aload_n C dX0_appendFour_8 rfl ?_
  refine z_iload_n C dX0_appendFour_9 rfl ?_
  refine z_bipush C dX0_appendFour_10 (by decide) ?_
  refine z_iushr C dX0_appendFour_12 ?_
  refine z_sipush C dX0_appendFour_13 (by decide) ?_
  refine z_iand C dX0_appendFour_16 ?_
  rw [z_sh16]
  refine z_callV C dX0_appendFour_17 lk_X0_19 mw_X0_append mi_X0_append ms_X0_append rfl (by first | assumption | ((repeat (first | assumption | exact va_up_self _ _ _ | refine (va_up_ne _ _ (by assumption)).trans ?_)); done) | (simp [va_up, *] <;> rfl)) (k_X0_append B1 o1 (zby_rng _ _)) rfl (by first | decide | exact Nat.le_of_ble_eq_true rfl) ⟨by decide, by decide, by decide, by decide⟩ (fun _ _ h => False.elim h) (fun v M' hp => ?_)
  obtain ⟨rfl, g2, ⟨-, B2, -⟩ | ⟨c1, -⟩⟩ := hp
  case inr => omega
  have ob2 := B2.1
  refine z_aload_n C dX0_appendFour_20 rfl ?_
  refine z_iload_n C dX0_appendFour_21 rfl ?_
  refine z_bipush C dX0_appendFour_22 (by decide) ?_
  refine z_iushr C dX0_appendFour_24 ?_
  refine z_sipush C dX0_appendFour_25 (by decide) ?_
  refine z_iand C dX0_appendFour_28 ?_
  rw [z_sh8]
  refine z_callV C dX0_appendFour_29 lk_X0_19 mw_X0_append mi_X0_append ms_X0_append rfl (by first | assumption | ((repeat (first | assumption | exact va_up_self _ _ _ | refine (va_up_ne _ _ (by assumption)).trans ?_)); done) | (simp [va_up, *] <;> rfl)) (k_X0_append B2 o2 (zby_rng _ _)) rfl (by first | decide | exact Nat.le_of_ble_eq_true rfl) ⟨by decide, by decide, by decide, by decide⟩ (fun _ _ h => False.elim h) (fun v M' hp => ?_)
  obtain ⟨rfl, g3, ⟨-, B3, -⟩ | ⟨c1, -⟩⟩ := hp
  case inr => omega
  have ob3 := B3.1
  refine z_aload_n C dX0_appendFour_32 rfl ?_
  refine z_iload_n C dX0_appendFour_33 rfl ?_
  refine z_sipush C dX0_appendFour_34 (by decide) ?_
  refine z_iand C dX0_appendFour_37 ?_
  rw [z_sh0]
  refine z_callV C dX0_appendFour_38 lk_X0_19 mw_X0_append mi_X0_append ms_X0_append rfl (by first | assumption | ((repeat (first | assumption | exact va_up_self _ _ _ | refine (va_up_ne _ _ (by assumption)).trans ?_)); done) | (simp [va_up, *] <;> rfl)) (k_X0_append B3 o3 (zby_rng _ _)) rfl (by first | decide | exact Nat.le_of_ble_eq_true rfl) ⟨by decide, by decide, by decide, by decide⟩ (fun _ _ h => False.elim h) (fun v M' hp => ?_)
  obtain ⟨rfl, g4, ⟨-, B4, -⟩ | ⟨c1, -⟩⟩ := hp
  case inr => omega
  refine z_vret C hQ dX0_appendFour_41 (by decide) (by decide) ?_
  exact ⟨rfl, ((g1.tr g2 (fun _ h => h) (fun _ h => h)).tr g3 (fun _ h => h) (fun _ h => h)).tr g4 (fun _ h => h) (fun _ h => h), hT _ B4⟩
/-- the digits of a number below 100 -/
def zdg (f : Nat → Int) (n x : Int) : Nat → Int := if 10 ≤ x then va_up (va_up f n.toNat (48 + x / 10)) (n + 1).toNat (48 + x % 10) else va_up f n.toNat (48 + x % 10)
def zdl (x : Int) : Int := if 10 ≤ x then 2 else 1
theorem zdg_ok {f : Nat → Int} {n x : Int} (h : hBo f n) (hn : n + 2 ≤ 500) (hx : 0 ≤ x ∧ x ≤ 99) : hBo (zdg f n x) (n + zdl x) := by
  unfold zdg zdl
  split
  · have h1 := (h.up (x := 48 + x / 10) (by omega) (by omega)).up (x := 48 + x % 10) (by omega) (by omega)
    rw [show n + 1 + 1 = n + 2 by omega] at h1
    exact h1
  · exact h.up (by omega) (by omega)
set_option maxHeartbeats 4000000 in
set_option maxRecDepth 100000 in
theorem k_X0_init {l : Launch} {γ : zG} {M : zM} {a : Nat} (hM : M a = some (.inr (0, [.null, .int 0]))) :
    zCon l γ yX0_init cX0_init 1 none [.ref a] M 1 12 1 500 (fun v' M' => v' = none ∧ ∃ r, M r = none ∧ zFr M M' [a, r] ∧ hBy γ M' a r (fun _ => 0) 0) (fun _ _ => False) := by
  refine zEnter [some (.ref a)] (by decide +kernel) rfl rfl (Nat.le_of_ble_eq_true rfl) ?_
  intro p e s m args below meth c Q C hin hQ
  refine z_aload_n C dX0_init_0 rfl ?_
  refine z_objInit C dX0_init_1 t1_45 ob_in ob_co ⟨by decide, (by first | decide | exact Nat.le_of_ble_eq_true rfl)⟩ ?_
  refine z_aload_n C dX0_init_4 rfl ?_
  refine z_sipush C dX0_init_5 (by decide) ?_
  refine z_newI C dX0_init_8 t1_55 (by omega) ⟨by decide, by decide⟩ (fun q8 hq8 => ?_)
  have n1 : a ≠ q8 := fun q => by rw [q, hq8] at hM; cases hM
  have n2 := n1.symm
  refine z_putF C dX0_init_10 fl_X0_9 hin (by first | assumption | ((repeat (first | assumption | exact va_up_self _ _ _ | refine (va_up_ne _ _ (by assumption)).trans ?_)); done) | (simp [va_up, *] <;> rfl)) (fun _ _ _ h => by cases h; rfl) rfl rfl (by simp) ?_
  refine z_aload_n C dX0_init_13 rfl ?_
  refine z_iconst C dX0_init_14 ?_
  refine z_put C dX0_init_15 fl_X0_15 (by first | assumption | ((repeat (first | assumption | exact va_up_self _ _ _ | refine (va_up_ne _ _ (by assumption)).trans ?_)); done) | (simp [va_up, *] <;> rfl)) rfl rfl (by simp) ?_
  refine z_vret C hQ dX0_init_18 (by decide) (by decide) ?_
  exact ⟨rfl, q8, hq8, zFr.u2 (zFr.up (by simp)) (by simp) (by simp), by simp [va_up], by simp [va_up, n2]; rfl⟩

