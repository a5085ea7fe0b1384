/-! the model's fractions: the steps -/
theorem zl_addc (a b : Int) : zl a + zl b = zl (a + b) := (Int64.ofInt_add a b).symm
theorem zl_subc (a b : Int) : zl a - zl b = zl (a - b) := (Int64.ofInt_sub a b).symm
section ZM2
variable {p : Program} {l : Launch} {e : Env} {R : Room} {s : State} {m : MethodId} {args : Array Value} {below : List Frame} {meth : Method} {c : Code} {γ : zG} {cc : ByteArray} {nL : Nat} {ret : Option FieldType} {own : String} {xt : List ExceptionTableEntry} {Q : State → Prop} {M : zM} {k n pc : Nat} {L : zL} {st : List Value}
/-- a row of booleans, told by whole numbers -/
abbrev zaz (γ : zG) (N : Nat) (g : Nat → Int) : va_E := zaZ γ N (fun j => zi (g j))
theorem zaz_up (g : Nat → Int) (k : Nat) {x : Int} (hx : x = 0 ∨ x = 1) : (fun j => zi (va_up g k x j)) = va_up (fun j => zi (g j)) k (vp_nar .boolean (zi x)) := by
  have : vp_nar .boolean (zi x) = zi x := by rcases hx with rfl | rfl <;> rfl
  rw [this]
  funext j
  unfold va_up
  split <;> rfl
theorem z_aldZi (C : zC p l s m args meth c γ cc nL ret own xt) {a N : Nat} {g : Nat → Int} {i : Int} (hd : decode cc pc = .ok (.baload, 1)) (hM : M a = some (zaz γ N g)) (hi : 0 ≤ i ∧ i < N) (hN : N ≤ 2147483648) (kk : zAW p l e R s m args below meth c γ nL Q M k n (pc + 1) L (.int (zi (g i.toNat)) :: st)) : zAW p l e R s m args below meth c γ nL Q M k n pc L (.int (zi i) :: .ref a :: st) := z_aldZ C hd hM hi hN kk
theorem z_astZi (C : zC p l s m args meth c γ cc nL ret own xt) {a N : Nat} {g : Nat → Int} {i x : Int} (hd : decode cc pc = .ok (.bastore, 1)) (hM : M a = some (zaz γ N g)) (hi : 0 ≤ i ∧ i < N) (hN : N ≤ 2147483648) (hx : x = 0 ∨ x = 1) (kk : zAW p l e R s m args below meth c γ nL Q (va_up M a (some (zaz γ N (va_up g i.toNat x)))) k n (pc + 1) L st) : zAW p l e R s m args below meth c γ nL Q M k n pc L (.int (zi x) :: .int (zi i) :: .ref a :: st) := z_astZ C hd hM hi hN (by rw [← zaz_up g i.toNat hx]; exact kk)
end ZM2
/-! reduced fractions -/
theorem zgd_ml (g x y : Int) (hg : 0 ≤ g) : zgd (g * x) (g * y) = g * zgd x y := by
  unfold zgd
  rw [Int.gcd_mul_left]
  push_cast
  rw [Int.natAbs_of_nonneg hg]
theorem mrd_mul {T B t b : Int} (hT : 1 ≤ T) (hB : 1 ≤ B) : zgd (T / zgd T B * t) (B / zgd T B * b) * zgd T B = zgd (T * t) (B * b) ∧ T / zgd T B * t * zgd T B = T * t ∧ B / zgd T B * b * zgd T B = B * b := by
  obtain ⟨⟨u, hu⟩, ⟨v, hv⟩⟩ := zgd_dv T B
  have hg : 1 ≤ zgd T B := zgd_pos (by omega)
  generalize zgd T B = g at *
  subst hu
  subst hv
  rw [Int.mul_ediv_cancel_left _ (by omega), Int.mul_ediv_cancel_left _ (by omega)]
  refine ⟨?_, by rw [Int.mul_comm (u * t) g, Int.mul_assoc], by rw [Int.mul_comm (v * b) g, Int.mul_assoc]⟩
  rw [Int.mul_assoc g u t, Int.mul_assoc g v b, zgd_ml g _ _ (by omega), Int.mul_comm]
theorem mrd_fin {T B t b : Int} (hT : 1 ≤ T) (hB : 1 ≤ B) (ht : 1 ≤ T * t) : T / zgd T B * t / zgd (T / zgd T B * t) (B / zgd T B * b) = T * t / zgd (T * t) (B * b) ∧ B / zgd T B * b / zgd (T / zgd T B * t) (B / zgd T B * b) = B * b / zgd (T * t) (B * b) := by
  obtain ⟨h1, h2, h3⟩ := mrd_mul (t := t) (b := b) hT hB
  have hg : 1 ≤ zgd T B := zgd_pos (by omega)
  rw [← h1, ← h2, ← h3]
  exact ⟨(Int.mul_ediv_mul_of_pos_left _ _ (by omega)).symm, (Int.mul_ediv_mul_of_pos_left _ _ (by omega)).symm⟩
set_option maxHeartbeats 4000000 in
set_option maxRecDepth 100000 in
theorem k_X9_times {l : Launch} {γ : zG} {M : zM} {A : Nat → Nat} {F : Nat → Int} {T B t0 b0 : Int} (hA : mIA A) (hO : M (A 0) = some (mOb A F)) (hT : F 15 = T) (hB : F 16 = B) (h1 : 1 ≤ T * t0 ∧ T * t0 < 9007199254740992) (h2 : 1 ≤ B * b0 ∧ B * b0 < 9007199254740992) :
    zCon l γ yX9_times cX9_times 7 none [.ref (A 0), .long (zl t0), .long (zl b0)] M 1 29 0 0 (fun v' M' => v' = none ∧ mF A M M' [0] ∧ ∃ F', M' (A 0) = some (mOb A F') ∧ mKp [15, 16] F F' ∧ F' 15 = T * t0 / zgd (T * t0) (B * b0) ∧ F' 16 = B * b0 / zgd (T * t0) (B * b0)) (fun _ _ => False) := by
  have hg := zgd_pos (x := T * t0) (y := B * b0) (by omega)
  have hdv := zgd_dv (T * t0) (B * b0)
  have k1 := zdv_le hdv.1 hg h1.1
  have k2 := zdv_le hdv.2 hg h2.1
  have k3 : zgd (T * t0) (B * b0) ≤ T * t0 := Int.le_of_dvd (by omega) hdv.1
  refine zEnter [some (.ref (A 0)), some (.long (zl t0)), none, some (.long (zl b0)), none, none, none] (by decide +kernel) rfl rfl (Nat.le_of_ble_eq_true rfl) ?_
  intro p e s m args below meth c Q C hin hQ
  refine z_aload_n C dX9_times_0 rfl ?_
  refine z_dup C dX9_times_1 rfl ?_
  refine z_getMJ C dX9_times_2 fl_X9_152 (by first | assumption | ((repeat (first | assumption | exact va_up_self _ _ _ | refine (va_up_ne _ _ (by first | assumption | exact hA.ne (by decide) | exact hA.ne (by omega))).trans ?_)); done)) rfl (by first | assumption | ((repeat (first | assumption | exact va_up_self _ _ _ | rewrite [va_up_ne _ _ (by decide)])); (first | done | exact rfl))) ?_
  refine z_lload_n C dX9_times_5 rfl ?_
  refine z_lmulZ C dX9_times_6 ?_
  refine z_putMJ C dX9_times_7 fl_X9_152 (by first | assumption | ((repeat (first | assumption | exact va_up_self _ _ _ | refine (va_up_ne _ _ (by first | assumption | exact hA.ne (by decide) | exact hA.ne (by omega))).trans ?_)); done)) rfl ?_
  refine z_aload_n C dX9_times_10 rfl ?_
  refine z_dup C dX9_times_11 rfl ?_
  refine z_getMJ C dX9_times_12 fl_X9_156 (by first | assumption | ((repeat (first | assumption | exact va_up_self _ _ _ | refine (va_up_ne _ _ (by first | assumption | exact hA.ne (by decide) | exact hA.ne (by omega))).trans ?_)); done)) rfl (by first | assumption | ((repeat (first | assumption | exact va_up_self _ _ _ | rewrite [va_up_ne _ _ (by decide)])); (first | done | exact rfl))) ?_
  refine z_lload_n C dX9_times_15 rfl ?_
  refine z_lmulZ C dX9_times_16 ?_
  refine z_putMJ C dX9_times_17 fl_X9_156 (by first | assumption | ((repeat (first | assumption | exact va_up_self _ _ _ | refine (va_up_ne _ _ (by first | assumption | exact hA.ne (by decide) | exact hA.ne (by omega))).trans ?_)); done)) rfl ?_
  refine z_aload_n C dX9_times_20 rfl ?_
  refine z_getMJ C dX9_times_21 fl_X9_152 (by first | assumption | ((repeat (first | assumption | exact va_up_self _ _ _ | refine (va_up_ne _ _ (by first | assumption | exact hA.ne (by decide) | exact hA.ne (by omega))).trans ?_)); done)) rfl (by first | assumption | ((repeat (first | assumption | exact va_up_self _ _ _ | rewrite [va_up_ne _ _ (by decide)])); (first | done | exact rfl))) ?_
  refine z_aload_n C dX9_times_24 rfl ?_
  refine z_getMJ C dX9_times_25 fl_X9_156 (by first | assumption | ((repeat (first | assumption | exact va_up_self _ _ _ | refine (va_up_ne _ _ (by first | assumption | exact hA.ne (by decide) | exact hA.ne (by omega))).trans ?_)); done)) rfl (by first | assumption | ((repeat (first | assumption | exact va_up_self _ _ _ | rewrite [va_up_ne _ _ (by decide)])); (first | done | exact rfl))) ?_
  refine z_callS C dX9_times_28 lk_X9_159 mw_X9_divisor mst_X9_divisor (k_X9_divisor (x := T * t0) (y := B * b0) (by omega) (by omega)) rfl (by first | decide | exact Nat.le_of_ble_eq_true rfl) ⟨by decide, by decide, by decide, by decide⟩ (fun _ _ h => False.elim h) (fun v M' hp => ?_)
  obtain ⟨rfl, rfl⟩ := hp
  refine z_lstore C dX9_times_31 (by decide) ?_
  refine z_aload_n C dX9_times_33 rfl ?_
  refine z_dup C dX9_times_34 rfl ?_
  refine z_getMJ C dX9_times_35 fl_X9_152 (by first | assumption | ((repeat (first | assumption | exact va_up_self _ _ _ | refine (va_up_ne _ _ (by first | assumption | exact hA.ne (by decide) | exact hA.ne (by omega))).trans ?_)); done)) rfl (by first | assumption | ((repeat (first | assumption | exact va_up_self _ _ _ | rewrite [va_up_ne _ _ (by decide)])); (first | done | exact rfl))) ?_
  refine z_lload C dX9_times_38 rfl ?_
  refine z_ldivZ C dX9_times_40 (by unfold zZ; omega) (by unfold zZ; omega) ?_
  refine z_putMJ C dX9_times_41 fl_X9_152 (by first | assumption | ((repeat (first | assumption | exact va_up_self _ _ _ | refine (va_up_ne _ _ (by first | assumption | exact hA.ne (by decide) | exact hA.ne (by omega))).trans ?_)); done)) rfl ?_
  refine z_aload_n C dX9_times_44 rfl ?_
  refine z_dup C dX9_times_45 rfl ?_
  refine z_getMJ C dX9_times_46 fl_X9_156 (by first | assumption | ((repeat (first | assumption | exact va_up_self _ _ _ | refine (va_up_ne _ _ (by first | assumption | exact hA.ne (by decide) | exact hA.ne (by omega))).trans ?_)); done)) rfl (by first | assumption | ((repeat (first | assumption | exact va_up_self _ _ _ | rewrite [va_up_ne _ _ (by decide)])); (first | done | exact rfl))) ?_
  refine z_lload C dX9_times_49 rfl ?_
  refine z_ldivZ C dX9_times_51 (by unfold zZ; omega) (by unfold zZ; omega) ?_
  refine z_putMJ C dX9_times_52 fl_X9_156 (by first | assumption | ((repeat (first | assumption | exact va_up_self _ _ _ | refine (va_up_ne _ _ (by first | assumption | exact hA.ne (by decide) | exact hA.ne (by omega))).trans ?_)); done)) rfl ?_
  refine z_vret C hQ dX9_times_55 (by decide) (by decide) ?_
  refine ⟨rfl, (((mF.rf.up rfl).up rfl).up rfl).up rfl, _, va_up_self _ _ _, (((mKp.rf.up rfl).up rfl).up rfl).up rfl, ?_, va_up_self _ _ _⟩
  rw [va_up_ne _ _ (by decide)]
  exact va_up_self _ _ _
set_option maxHeartbeats 4000000 in
set_option maxRecDepth 100000 in
theorem k_X9_codeBits {l : Launch} {γ : zG} {M : zM} {A : Nat → Nat} {F : Nat → Int} {T B : Int} (hO : M (A 0) = some (mOb A F)) (hT : F 15 = T) (hB : F 16 = B) (h1 : 1 ≤ T ∧ T < 9007199254740992) (h2 : 1 ≤ B ∧ B < 9007199254740992) :
    zCon l γ yX9_codeBits cX9_codeBits 4 (some .int) [.ref (A 0)] M 0 0 0 0 (fun v' M' => v' = some (.int (zi (zbt 62 T B))) ∧ M' = M) (fun _ _ => False) := by
  refine zEnter [some (.ref (A 0)), none, none, none] (by decide +kernel) rfl rfl (Nat.le_of_ble_eq_true rfl) ?_
  intro p e s m args below meth c Q C hin hQ
  have loop : ∀ (t : Nat) (i d : Int), 0 ≤ i ∧ i + t = 62 → 1 ≤ d ∧ d < 18014398509481984 → B ≤ d * 2 ^ t → i + zbt t d B = zbt 62 T B → zAW p l e { frames := 0, cells := 0, slots := 0, locals := 0 } s m args below meth c γ 4 Q M 0 0 7 [some (.ref (A 0)), some (.int (zi i)), some (.long (zl d)), none] [] := by
    intro t
    induction t with
    | zero =>
      intro i d hi hd hpw hz
      have hc1 := zcmp_rng d B
      have hc2 := zcmp_ge d B
      have hz : i + 0 = zbt 62 T B := hz
      have hpw : B ≤ d * 1 := hpw
      refine z_lload_n C dX9_codeBits_7 rfl ?_
      refine z_aload_n C dX9_codeBits_8 rfl ?_
      refine z_getMJ C dX9_codeBits_9 fl_X9_156 (by first | assumption | ((repeat (first | assumption | exact va_up_self _ _ _ | refine (va_up_ne _ _ (by first | assumption | exact hA.ne (by decide) | exact hA.ne (by omega))).trans ?_)); done)) rfl (by first | assumption | ((repeat (first | assumption | exact va_up_self _ _ _ | rewrite [va_up_ne _ _ (by decide)])); (first | done | exact rfl))) ?_
      refine z_lcmpZ C dX9_codeBits_12 (by unfold zZ; omega) (by unfold zZ; omega) ?_
      refine z_if_geZ (tgt := 28) C dX9_codeBits_13 (by decide) (by omega) (fun h13 => ?_) (fun h13 => ?_)
      · refine z_iload_n C dX9_codeBits_28 rfl ?_
        refine z_iret C hQ dX9_codeBits_29 rfl (by decide) (by decide) ?_
        rw [← hz, Int.add_zero]
        exact ⟨rfl, rfl⟩
      · exact absurd h13 (by omega)
    | succ t ih =>
      intro i d hi hd hpw hz
      have hc1 := zcmp_rng d B
      have hc2 := zcmp_ge d B
      have hz : i + (if d < B then zbt t (d * 2) B + 1 else 0) = zbt 62 T B := hz
      rw [Int.pow_succ, Int.mul_comm (2 ^ t) 2, ← Int.mul_assoc] at hpw
      refine z_lload_n C dX9_codeBits_7 rfl ?_
      refine z_aload_n C dX9_codeBits_8 rfl ?_
      refine z_getMJ C dX9_codeBits_9 fl_X9_156 (by first | assumption | ((repeat (first | assumption | exact va_up_self _ _ _ | refine (va_up_ne _ _ (by first | assumption | exact hA.ne (by decide) | exact hA.ne (by omega))).trans ?_)); done)) rfl (by first | assumption | ((repeat (first | assumption | exact va_up_self _ _ _ | rewrite [va_up_ne _ _ (by decide)])); (first | done | exact rfl))) ?_
      refine z_lcmpZ C dX9_codeBits_12 (by unfold zZ; omega) (by unfold zZ; omega) ?_
      refine z_if_geZ (tgt := 28) C dX9_codeBits_13 (by decide) (by omega) (fun h13 => ?_) (fun h13 => ?_)
      · refine z_iload_n C dX9_codeBits_28 rfl ?_
        refine z_iret C hQ dX9_codeBits_29 rfl (by decide) (by decide) ?_
        rw [if_neg (by omega), Int.add_zero] at hz
        rw [← hz]
        exact ⟨rfl, rfl⟩
      · refine z_iincZ C dX9_codeBits_16 rfl (by decide) ?_
        refine z_lload_n C dX9_codeBits_19 rfl ?_
        refine z_ldc2 C dX9_codeBits_20 t8_39 ?_
        rw [show (2 : Int64) = zl 2 by rfl]
        refine z_lmulZ C dX9_codeBits_23 ?_
        refine z_lstore_n C dX9_codeBits_24 (by decide) ?_
        refine z_goto (tgt := 7) C dX9_codeBits_25 (by decide) ?_
        rw [if_pos (by omega)] at hz
        exact ih (i + 1) (d * 2) (by omega) (by omega) hpw (by omega)
  refine z_iconst C dX9_codeBits_0 ?_
  refine z_istore_n C dX9_codeBits_1 (by decide) ?_
  refine z_aload_n C dX9_codeBits_2 rfl ?_
  refine z_getMJ C dX9_codeBits_3 fl_X9_152 (by first | assumption | ((repeat (first | assumption | exact va_up_self _ _ _ | refine (va_up_ne _ _ (by first | assumption | exact hA.ne (by decide) | exact hA.ne (by omega))).trans ?_)); done)) rfl (by first | assumption | ((repeat (first | assumption | exact va_up_self _ _ _ | rewrite [va_up_ne _ _ (by decide)])); (first | done | exact rfl))) ?_
  refine z_lstore_n C dX9_codeBits_6 (by decide) ?_
  refine loop 62 0 T (by omega) (by omega) ?_ (by omega)
  have : (2 : Int) ^ 62 = 4611686018427387904 := by decide
  rw [this]
  omega
/-- the symbols that stand in an order above o are excluded -/
def mEx (c : Int → Int) (b p o : Int) (e : Nat → Int) : Prop := ∀ s : Int, 0 ≤ s → s < 27 → e s.toNat = if o < zlv c b p s then 1 else 0
theorem mEx.it {c : Int → Int} {b p o s : Int} {e : Nat → Int} (h : mEx c b p o e) (hc : zcR c) (ho : 0 ≤ o ∧ o ≤ zFo b p) (hs : 0 ≤ s ∧ s < 27) : (0 < c (zCs o b p + s) ∧ e s.toNat = 0) ↔ zlv c b p s = o := by
  rw [h s hs.1 hs.2]
  have := hc (zCs o b p + s)
  constructor
  · rintro ⟨h1, h2⟩
    have := zlv_ge ho (c := c) (s := s) (by omega)
    by_cases q : o < zlv c b p s
    · rw [if_pos q] at h2
      omega
    · omega
  · intro q
    have h1 : c (zCs o b p + s) ≠ 0 := fun z => zlv_ne ho.1 z q
    exact ⟨by omega, if_neg (by omega)⟩
theorem mEx.nx {c : Int → Int} {b p o s : Int} {e : Nat → Int} (h : mEx c b p o e) (hc : zcR c) (ho : 0 ≤ o ∧ o ≤ zFo b p) (hs : 0 ≤ s ∧ s < 27) : (e s.toNat ≠ 0 ∨ 0 < c (zCs o b p + s)) ↔ o - 1 < zlv c b p s := by
  rw [h s hs.1 hs.2]
  have := hc (zCs o b p + s)
  constructor
  · rintro (h1 | h1)
    · by_cases q : o < zlv c b p s
      · omega
      · rw [if_neg q] at h1
        omega
    · have := zlv_ge ho (c := c) (s := s) (by omega)
      omega
  · intro q
    by_cases e1 : o < zlv c b p s
    · left
      rw [if_pos e1]
      decide
    · right
      have h1 : c (zCs o b p + s) ≠ 0 := fun z => zlv_ne ho.1 z (by omega)
      omega
set_option maxHeartbeats 4000000 in
set_option maxRecDepth 100000 in
theorem k_X9_isThere {l : Launch} {γ : zG} {M : zM} {A : Nat → Nat} {F : Nat → Int} {c7 e0 : Nat → Int} {x s0 b0 p0 : Int} {c0 : Int → Int} (hO : M (A 0) = some (mOb A F)) (hC : M (A 7) = some (zar γ 81 c7)) (hc7 : ∀ j, zR (c7 j)) (hE : M (A 10) = some (zaz γ 27 e0)) (hK : mLk c0 b0 p0 c7) (hX : mEx c0 b0 p0 (zFo b0 p0 - x) e0) (hc : zcR c0) (hx : 0 ≤ x ∧ x ≤ zFo b0 p0) (hs : 0 ≤ s0 ∧ s0 < 27) :
    zCon l γ yX9_isThere cX9_isThere 3 (some .boolean) [.ref (A 0), .int (zi x), .int (zi s0)] M 0 0 0 0 (fun v' M' => ∃ r : Int, v' = some (.int (zi r)) ∧ M' = M ∧ zB r (zlv c0 b0 p0 s0 = zFo b0 p0 - x)) (fun _ _ => False) := by
  have fo := zFo_rng b0 p0
  have kx := hK (zFo b0 p0 - x) s0 (by omega) (by omega) hs.1 hs.2
  rw [show zFo b0 p0 - (zFo b0 p0 - x) = x by omega] at kx
  have it := hX.it hc (by omega) hs
  have es := hX s0 hs.1 hs.2
  have rs : 0 ≤ e0 s0.toNat ∧ e0 s0.toNat ≤ 1 := by
    rw [es]
    split <;> decide
  have rc := hc (zCs (zFo b0 p0 - x) b0 p0 + s0)
  refine zEnter [some (.ref (A 0)), some (.int (zi x)), some (.int (zi s0))] (by decide +kernel) rfl rfl (Nat.le_of_ble_eq_true rfl) ?_
  intro p e s m args below meth c Q C hin hQ
  refine z_aload_n C dX9_isThere_0 rfl ?_
  refine z_get C dX9_isThere_1 fl_X9_30 (by first | assumption | ((repeat (first | assumption | exact va_up_self _ _ _ | refine (va_up_ne _ _ (by first | assumption | exact hA.ne (by decide) | exact hA.ne (by omega))).trans ?_)); done)) rfl ?_
  refine z_bipush C dX9_isThere_4 (by decide) ?_
  refine z_iload_n C dX9_isThere_6 rfl ?_
  refine z_imulZ C dX9_isThere_7 ?_
  refine z_iload_n C dX9_isThere_8 rfl ?_
  refine z_iaddZ C dX9_isThere_9 ?_
  refine z_aldN C dX9_isThere_10 (by first | assumption | ((repeat (first | assumption | exact va_up_self _ _ _ | refine (va_up_ne _ _ (by first | assumption | exact hA.ne (by decide) | exact hA.ne (by omega))).trans ?_)); done)) (by omega) (by omega) (by assumption) (fun hr10 => ?_)
  rw [kx]
  refine z_if_leZ (tgt := 27) C dX9_isThere_11 (by decide) (by omega) (fun h11 => ?_) (fun h11 => ?_)
  · refine z_iconst C dX9_isThere_27 ?_
    refine z_iret C hQ dX9_isThere_28 rfl (by decide) (by decide) ?_
    exact ⟨0, rfl, rfl, .inr ⟨rfl, by rw [← it]; omega⟩⟩
  · refine z_aload_n C dX9_isThere_14 rfl ?_
    refine z_get C dX9_isThere_15 fl_X9_39 (by first | assumption | ((repeat (first | assumption | exact va_up_self _ _ _ | refine (va_up_ne _ _ (by first | assumption | exact hA.ne (by decide) | exact hA.ne (by omega))).trans ?_)); done)) rfl ?_
    refine z_iload_n C dX9_isThere_18 rfl ?_
    refine z_aldZi C dX9_isThere_19 hE (by omega) (by omega) ?_
    refine z_if_neZ (tgt := 27) C dX9_isThere_20 (by decide) (by omega) (fun h20 => ?_) (fun h20 => ?_)
    · refine z_iconst C dX9_isThere_27 ?_
      refine z_iret C hQ dX9_isThere_28 rfl (by decide) (by decide) ?_
      exact ⟨0, rfl, rfl, .inr ⟨rfl, by rw [← it]; omega⟩⟩
    · refine z_iconst C dX9_isThere_23 ?_
      refine z_goto (tgt := 28) C dX9_isThere_24 (by decide) ?_
      refine z_iret C hQ dX9_isThere_28 rfl (by decide) (by decide) ?_
      exact ⟨1, rfl, rfl, .inl ⟨rfl, by rw [← it]; omega⟩⟩

