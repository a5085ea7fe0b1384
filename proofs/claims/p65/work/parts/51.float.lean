/-! quotients of whole numbers are numbers -/
section ZFP
def zEn (n : Nat) : Prop := n < 18446744073709551616 ∧ n % 9223372036854775808 ≤ 9218868437227405312
theorem zb_t : FP.Core.b64.tails = 4503599627370496 := by decide +kernel
theorem zb_e : FP.Core.b64.exps = 2048 := by decide +kernel
theorem zb_m : FP.Core.b64.qmin = -1074 := by decide +kernel
theorem zb_x : FP.Core.b64.qmax = 971 := by decide +kernel
theorem zas {s : Bool} {E T : Nat} (h : (E ≤ 2046 ∧ T < 4503599627370496) ∨ (E = 2047 ∧ T = 0)) : zEn (FP.Core.assemble FP.Core.b64 s E T) := by
  unfold zEn FP.Core.assemble
  rw [zb_t, zb_e]
  cases s
  · simp only [Bool.toNat_false]
    omega
  · simp only [Bool.toNat_true]
    omega
theorem zbo {s : Bool} {c : Nat} {q : Int} (hc : c < 9007199254740992) : zEn (FP.Core.encode FP.Core.b64 (FP.Core.bound FP.Core.b64 s c q)) := by
  unfold FP.Core.bound
  rw [zb_x]
  split
  · unfold FP.Core.encode
    simp only
    rw [zb_t, zb_m]
    split
    · exact zas (by omega)
    · exact zas (by omega)
  · unfold FP.Core.encode
    simp only
    rw [zb_e]
    exact zas (by omega)
theorem zse {s : Bool} {c : Nat} {q : Int} : zEn (FP.Core.encode FP.Core.b64 (FP.Core.settle FP.Core.b64 s c q)) := by
  unfold FP.Core.settle
  split
  · rename_i h
    exact zbo (by have : (2 : Nat) ^ FP.Core.b64.p = 9007199254740992 := by decide +kernel
                  omega)
  · rw [zb_t]
    exact zbo (by omega)
theorem zrr_en {s : Bool} {num den : Nat} {e : Int} : zEn (FP.Core.encode FP.Core.b64 (FP.Core.roundRatio FP.Core.b64 s num den e)) := by
  unfold FP.Core.roundRatio
  split
  · unfold FP.Core.encode
    simp only
    rw [zb_t, if_pos (by omega)]
    exact zas (by omega)
  · exact zse
theorem zde {E T : Nat} (hE : E ≤ 2046) (hT : T < 4503599627370496) : ∃ t d r, FP.Core.decode FP.Core.b64 (FP.Core.assemble FP.Core.b64 false E T) = .fin t d r ∧ (E ≠ 0 ∨ T ≠ 0 → d ≠ 0) := by
  have e0 : FP.Core.assemble FP.Core.b64 false E T = E * 4503599627370496 + T := by
    unfold FP.Core.assemble
    rw [zb_t, zb_e]
    simp only [Bool.toNat_false]
    omega
  have e1 : FP.Core.fieldE FP.Core.b64 (FP.Core.assemble FP.Core.b64 false E T) = E := by
    unfold FP.Core.fieldE
    rw [e0, zb_t, zb_e]
    omega
  have e2 : FP.Core.fieldT FP.Core.b64 (FP.Core.assemble FP.Core.b64 false E T) = T := by
    unfold FP.Core.fieldT
    rw [e0, zb_t]
    omega
  unfold FP.Core.decode
  rw [e1, e2, zb_e, if_neg (by omega)]
  by_cases h : E = 0
  · rw [if_pos h]
    exact ⟨_, _, _, rfl, fun w => by omega⟩
  · rw [if_neg h, zb_t]
    exact ⟨_, _, _, rfl, fun _ => by omega⟩
theorem zbd_de {c : Nat} {q : Int} (hc : c < 9007199254740992) (hq : -1074 ≤ q ∧ q ≤ 971) : ∃ t d r, FP.Core.decode FP.Core.b64 (FP.Core.encode FP.Core.b64 (FP.Core.bound FP.Core.b64 false c q)) = .fin t d r ∧ (c ≠ 0 → d ≠ 0) := by
  unfold FP.Core.bound
  rw [zb_x, if_pos hq.2]
  unfold FP.Core.encode
  simp only
  rw [zb_t, zb_m]
  split
  · obtain ⟨t, d, r, h1, h2⟩ := zde (E := 0) (T := c) (by omega) (by omega)
    exact ⟨t, d, r, h1, fun w => h2 (.inr w)⟩
  · obtain ⟨t, d, r, h1, h2⟩ := zde (E := (q - -1074).toNat + 1) (T := c - 4503599627370496) (by omega) (by omega)
    exact ⟨t, d, r, h1, fun w => h2 (.inl (by omega))⟩
theorem zne_ge {N D : Nat} (h : D ≤ N) (hD : 0 < D) : FP.Core.nearest N D ≠ 0 := by
  have := Nat.div_pos h hD
  unfold FP.Core.nearest
  split
  · omega
  · split <;> omega
theorem zqu {b : Nat} (hb : 0 < b ∧ b < 9223372036854775808) : (-1074 ≤ FP.Core.quantum FP.Core.b64 b 1 0 ∧ FP.Core.quantum FP.Core.b64 b 1 0 ≤ 970) ∧ FP.Core.unitsDen 1 0 (FP.Core.quantum FP.Core.b64 b 1 0) ≤ FP.Core.unitsNum b 0 (FP.Core.quantum FP.Core.b64 b 1 0) := by
  have h1 : b.log2 < 63 := (Nat.log2_lt (by omega)).mpr (by omega)
  have h2 : 2 ^ b.log2 ≤ b := Nat.log2_self_le (by omega)
  have h3 : FP.Core.leading b 1 = b.log2 := by
    unfold FP.Core.leading
    have : Nat.log2 1 = 0 := by decide
    simp only [this]
    rw [if_pos]
    · omega
    · simp only [Int.natCast_zero, Int.sub_zero, Int.toNat_natCast, Nat.one_mul]
      exact Nat.le_trans h2 (Nat.le_mul_of_pos_right _ (Nat.two_pow_pos _))
  have h4 : FP.Core.quantum FP.Core.b64 b 1 0 = b.log2 - 52 := by
    unfold FP.Core.quantum
    rw [h3, zb_m, show (FP.Core.b64.p : Int) = 53 by decide]
    omega
  rw [h4]
  refine ⟨by omega, ?_⟩
  unfold FP.Core.unitsDen FP.Core.unitsNum
  by_cases q : (b.log2 : Int) - 52 ≤ 0
  · rw [show ((b.log2 : Int) - 52 - 0).toNat = 0 by omega]
    exact Nat.le_trans (show 1 * 2 ^ 0 ≤ b by omega) (Nat.le_mul_of_pos_right _ (Nat.two_pow_pos _))
  · rw [show (0 - ((b.log2 : Int) - 52)).toNat = 0 by omega, show ((b.log2 : Int) - 52 - 0).toNat = b.log2 - 52 by omega]
    have : 2 ^ (b.log2 - 52) ≤ 2 ^ b.log2 := Nat.pow_le_pow_right (by omega) (by omega)
    omega
theorem zin_de {i : Int} (h : 0 ≤ i ∧ i < 9223372036854775808) : zEn (FP.Core.fromInt FP.Core.b64 i) ∧ ∃ t d r, FP.Core.decode FP.Core.b64 (FP.Core.fromInt FP.Core.b64 i) = .fin t d r ∧ (i ≠ 0 → d ≠ 0) := by
  have e : FP.Core.fromInt FP.Core.b64 i = FP.Core.encode FP.Core.b64 (FP.Core.roundRatio FP.Core.b64 false i.natAbs 1 0) := by
    unfold FP.Core.fromInt FP.Core.ofInt
    rw [show decide (i < 0) = false from decide_eq_false (by omega)]
    rfl
  rw [e]
  refine ⟨zrr_en, ?_⟩
  unfold FP.Core.roundRatio
  by_cases q : i = 0
  · subst q
    rw [if_pos (by decide : Int.natAbs 0 = 0)]
    unfold FP.Core.encode
    simp only
    rw [zb_t, if_pos (by omega)]
    obtain ⟨t, d, r, h1, h2⟩ := zde (E := 0) (T := 0) (by omega) (by omega)
    exact ⟨t, d, r, h1, fun w => absurd rfl w⟩
  · rw [if_neg (by omega)]
    unfold FP.Core.roundAt
    obtain ⟨h1, h2⟩ := zqu (b := i.natAbs) (by omega)
    have h3 := zne_ge h2 (by unfold FP.Core.unitsDen; exact Nat.mul_pos (by omega) (Nat.two_pow_pos _))
    unfold FP.Core.settle
    split
    · rename_i w
      have hp : (2 : Nat) ^ FP.Core.b64.p = 9007199254740992 := by decide +kernel
      rw [hp] at w
      obtain ⟨t, d, r, g1, g2⟩ := zbd_de (q := FP.Core.quantum FP.Core.b64 i.natAbs 1 0) w (by omega)
      exact ⟨t, d, r, g1, fun _ => g2 h3⟩
    · rw [zb_t]
      obtain ⟨t, d, r, g1, g2⟩ := zbd_de (c := 4503599627370496) (q := FP.Core.quantum FP.Core.b64 i.natAbs 1 0 + 1) (by omega) (by omega)
      exact ⟨t, d, r, g1, fun _ => g2 (by omega)⟩
theorem zEn_n64 {n : Nat} (h : zEn n) : vf_n64 (.ofNat n) := by
  unfold vf_n64
  rw [UInt64.le_iff_toNat_le, UInt64.toNat_and, UInt64.toNat_ofNat']
  have h1 := h.1
  have h2 := h.2
  have e1 : n % 2 ^ 64 = n := Nat.mod_eq_of_lt h1
  have e2 : (0x7fffffffffffffff : UInt64).toNat = 2 ^ 63 - 1 := by decide +kernel
  have e3 : (0x7ff0000000000000 : UInt64).toNat = 9218868437227405312 := by decide +kernel
  rw [e1, e2, e3, Nat.and_two_pow_sub_one_eq_mod]
  exact h2
theorem zddiv {a b : Int} (ha : 0 ≤ a ∧ a < 9223372036854775808) (hb : 1 ≤ b ∧ b < 9223372036854775808) : vf_n64 (FP.ddiv (.ofNat (FP.Core.fromInt FP.Core.b64 a)) (.ofNat (FP.Core.fromInt FP.Core.b64 b))) := by
  obtain ⟨⟨a1, -⟩, t, d, r, a2, -⟩ := zin_de ha
  obtain ⟨⟨b1, -⟩, t', d', r', b2, b3⟩ := zin_de (i := b) (by omega)
  show vf_n64 (.ofNat (FP.Core.div FP.Core.b64 _ _))
  have ea : (UInt64.ofNat (FP.Core.fromInt FP.Core.b64 a)).toNat = FP.Core.fromInt FP.Core.b64 a := by
    rw [UInt64.toNat_ofNat']
    exact Nat.mod_eq_of_lt a1
  have eb : (UInt64.ofNat (FP.Core.fromInt FP.Core.b64 b)).toNat = FP.Core.fromInt FP.Core.b64 b := by
    rw [UInt64.toNat_ofNat']
    exact Nat.mod_eq_of_lt b1
  rw [ea, eb]
  refine zEn_n64 ?_
  unfold FP.Core.div
  rw [a2, b2]
  unfold FP.Core.quotient
  simp only
  rw [if_neg (b3 (by omega))]
  exact zrr_en
end ZFP
theorem zddiv_l {a b : Int} (ha : 0 ≤ a ∧ a < 9223372036854775808) (hb : 1 ≤ b ∧ b < 9223372036854775808) : vf_n64 (FP.ddiv (FP.l2d (zl a)) (FP.l2d (zl b))) := by
  have e : ∀ x : Int, 0 ≤ x ∧ x < 9223372036854775808 → (zl x).toInt = x := fun x hx => by
    unfold zl
    exact Int64.toInt_ofInt_of_le (by omega) (by omega)
  show vf_n64 (FP.ddiv (.ofNat (FP.Core.fromInt FP.Core.b64 (zl a).toInt)) (.ofNat (FP.Core.fromInt FP.Core.b64 (zl b).toInt)))
  rw [e a ha, e b (by omega)]
  exact zddiv ha hb
theorem zddiv_i {a b : Int} (ha : 0 ≤ a ∧ a < 2147483648) (hb : 1 ≤ b ∧ b < 2147483648) : vf_n64 (FP.ddiv (FP.i2d (zi a)) (FP.i2d (zi b))) := by
  have e : ∀ x : Int, 0 ≤ x ∧ x < 2147483648 → (zi x).toInt = x := fun x hx => by
    unfold zi
    exact Int32.toInt_ofInt_of_le (by omega) (by omega)
  show vf_n64 (FP.ddiv (.ofNat (FP.Core.fromInt FP.Core.b64 (zi a).toInt)) (.ofNat (FP.Core.fromInt FP.Core.b64 (zi b).toInt)))
  rw [e a ha, e b (by omega)]
  exact zddiv (by omega) (by omega)
theorem zfdiv_k : ∀ x : Fin 41, ∀ y : Fin 41, 1 ≤ y.val → vf_n32 (FP.fdiv (FP.i2f (zi x.val)) (FP.i2f (zi y.val))) := by
  unfold vf_n32
  decide +kernel
theorem zfdiv_i {a b : Int} (ha : 0 ≤ a ∧ a ≤ 40) (hb : 1 ≤ b ∧ b ≤ 40) : vf_n32 (FP.fdiv (FP.i2f (zi a)) (FP.i2f (zi b))) := by
  have := zfdiv_k ⟨a.toNat, by omega⟩ ⟨b.toNat, by omega⟩ (by show 1 ≤ b.toNat; omega)
  rw [show ((a.toNat : Nat) : Int) = a by omega, show ((b.toNat : Nat) : Int) = b by omega] at this
  exact this
section ZR51
variable {p : Program} {l : Launch} {e : Env} {R : Room} {s : State} {m : MethodId} {args : Array Value} {below : List Frame} {meth : Method} {c : Code} {γ : zG} {cc : ByteArray} {nL : Nat} {ret : Option FieldType} {own : String} {xt : List ExceptionTableEntry} {Q : State → Prop} {M : zM} {k n pc : Nat} {L : zL} {st : List Value}
theorem z_i2d (C : zC p l s m args meth c γ cc nL ret own xt) {x : Int32} (hd : decode cc pc = .ok (.i2d, 1)) (kk : zAW p l e R s m args below meth c γ nL Q M k n (pc + 1) L (.double (FP.i2d x) :: st)) : zAW p l e R s m args below meth c γ nL Q M k n pc L (.int x :: st) := by
  intro H locs ls hH hl hL hz
  exact lv_i2d C.ex C.by hd (kk H locs ls hH hl hL hz)
theorem z_l2d (C : zC p l s m args meth c γ cc nL ret own xt) {x : Int64} (hd : decode cc pc = .ok (.l2d, 1)) (kk : zAW p l e R s m args below meth c γ nL Q M k n (pc + 1) L (.double (FP.l2d x) :: st)) : zAW p l e R s m args below meth c γ nL Q M k n pc L (.long x :: st) := by
  intro H locs ls hH hl hL hz
  exact lv_l2d C.ex C.by hd (kk H locs ls hH hl hL hz)
theorem z_i2f (C : zC p l s m args meth c γ cc nL ret own xt) {x : Int32} (hd : decode cc pc = .ok (.i2f, 1)) (kk : zAW p l e R s m args below meth c γ nL Q M k n (pc + 1) L (.float (FP.i2f x) :: st)) : zAW p l e R s m args below meth c γ nL Q M k n pc L (.int x :: st) := by
  intro H locs ls hH hl hL hz
  exact lv_i2f C.ex C.by hd (kk H locs ls hH hl hL hz)
theorem z_ddiv (C : zC p l s m args meth c γ cc nL ret own xt) {x y : UInt64} (hd : decode cc pc = .ok (.ddiv, 1)) (hv : vf_n64 (FP.ddiv x y)) (kk : zAW p l e R s m args below meth c γ nL Q M k n (pc + 1) L (.double (FP.ddiv x y) :: st)) : zAW p l e R s m args below meth c γ nL Q M k n pc L (.double y :: .double x :: st) := by
  intro H locs ls hH hl hL hz
  exact lv_ddiv C.ex C.by hd hv (kk H locs ls hH hl hL hz)
theorem z_fdiv (C : zC p l s m args meth c γ cc nL ret own xt) {x y : UInt32} (hd : decode cc pc = .ok (.fdiv, 1)) (hv : vf_n32 (FP.fdiv x y)) (kk : zAW p l e R s m args below meth c γ nL Q M k n (pc + 1) L (.float (FP.fdiv x y) :: st)) : zAW p l e R s m args below meth c γ nL Q M k n pc L (.float y :: .float x :: st) := by
  intro H locs ls hH hl hL hz
  exact lv_fdiv C.ex C.by hd hv (kk H locs ls hH hl hL hz)
end ZR51
/-- a good end with a double, a float -/
def fD (x : UInt64) (γ : zG) (M : zM) (U : Nat → Nat) (Y : zSys) (q : Int × Int) : Option Value → zM → Prop := fun v M' => fOk γ M M' U Y ∧ q.1 = 0 ∧ v = some (.double x)
def fF (x : UInt32) (γ : zG) (M : zM) (U : Nat → Nat) (Y : zSys) (q : Int × Int) : Option Value → zM → Prop := fun v M' => fOk γ M M' U Y ∧ q.1 = 0 ∧ v = some (.float x)
theorem fD.of {γ : zG} {M M' : zM} {U : Nat → Nat} {Y : zSys} {q : Int × Int} {x y : UInt64} {z : Int} (h : fOk γ M M' U Y) (hq : q = (0, z)) (e : x = y) : fD x γ M U Y q (some (.double y)) M' := by
  subst hq
  subst e
  exact ⟨h, rfl, rfl⟩
theorem fF.of {γ : zG} {M M' : zM} {U : Nat → Nat} {Y : zSys} {q : Int × Int} {x y : UInt32} {z : Int} (h : fOk γ M M' U Y) (hq : q = (0, z)) (e : x = y) : fF x γ M U Y q (some (.float y)) M' := by
  subst hq
  subst e
  exact ⟨h, rfl, rfl⟩
noncomputable def x_probability (S : zSt) (rr bb pp ss : Int) : UInt64 := FP.ddiv (FP.l2d (zl (zcT (rC (sRd S rr.toNat)) bb pp ss (rMe (sRd S rr.toNat))))) (FP.l2d (zl (zcB (rC (sRd S rr.toNat)) bb pp ss (rMe (sRd S rr.toNat)))))
noncomputable def x_meanGuesses (S : zSt) (rr dd : Int) : UInt64 := FP.ddiv (FP.i2d (zi (zgf (rC (sRd S rr.toNat)) (sDc S dd.toNat)))) (FP.i2d (zi (dLe (sDc S dd.toNat))))
noncomputable def x_hitShare (S : zSt) (rr dd : Int) : UInt32 := FP.fdiv (FP.i2f (zi (zhf (rC (sRd S rr.toNat)) (sDc S dd.toNat)))) (FP.i2f (zi (dLe (sDc S dd.toNat))))
noncomputable def q_probability (S : zSt) (rr bb pp ss : Int) : Int × Int := zqR S rr (zq2 (zCv bb pp ∧ zSy ss) (0, 0))
set_option maxHeartbeats 4000000 in
set_option maxRecDepth 100000 in
theorem k_X8_probability {l : Launch} {γ : zG} {M : zM} {U : Nat → Nat} {Y : zSys} {rr bb pp ss : Int} (hc : hFc γ M U Y) (hk : yOk Y) (hrr : zR rr) (hbb : zR bb) (hpp : zR pp) (hss : zR ss) :
    zCon l γ yX8_probability cX8_probability 6 (some .double) [.ref (U 0), .int (zi rr), .int (zi bb), .int (zi pp), .int (zi ss)] M 8 129 3 18 (fD (x_probability (yS Y) rr bb pp ss) γ M U Y (q_probability (yS Y) rr bb pp ss)) (fX γ M U Y (q_probability (yS Y) rr bb pp ss) xIOB xIAE) := by
  have hc0 := hc
  obtain ⟨hI, pn, Z, iF, oF, hZ, hF, hX, hi1, ho1⟩ := hc
  have hob := id hF
  unfold hFo at hob
  have hD : hSt γ M (zUb U 0) (yS Y) := hZ.2.1 ▸ hX.st0
  have hst := hD.ob
  have hkn := hk.1.1
  have hkk := hk.1.nk
  have hRQ := hX.2.2.2.2.2.2.1
  have hok := fun M' => @fOk.rk γ M M' U Y pn Z iF oF hI hZ hF hX hi1 ho1
  obtain ⟨T0, B0, E0, mk0, hch⟩ := hX.2.2.2.2.2.2.2.1
  refine zEnter [some (.ref (U 0)), some (.int (zi rr)), some (.int (zi bb)), some (.int (zi pp)), some (.int (zi ss)), none] (by decide +kernel) rfl rfl (Nat.le_of_ble_eq_true rfl) ?_
  intro p e s m args below meth c Q C hin hQ
  refine z_aload_n C dX8_probability_0 rfl ?_
  refine z_iload_n C dX8_probability_1 rfl ?_
  refine z_iload_n C dX8_probability_2 rfl ?_
  refine z_iload_n C dX8_probability_3 rfl ?_
  refine z_iload C dX8_probability_4 rfl ?_
  refine z_callV C dX8_probability_6 lk_X8_236 mw_X8_chanceOf mi_X8_chanceOf ms_X8_chanceOf rfl (by first | assumption | ((repeat (first | assumption | exact va_up_self _ _ _ | refine (va_up_ne _ _ (by assumption)).trans ?_)); done) | (simp [va_up, *] <;> rfl)) (k_X8_chanceOf hF hD hk.1 hch hrr hbb hpp hss) rfl (by first | decide | exact Nat.le_of_ble_eq_true rfl) ⟨by decide, by decide, by decide, by decide⟩ (fun X M' h => by
  obtain ⟨rfl, h⟩ := h
  rcases h with ⟨rfl, h⟩ | ⟨rfl, h, h2⟩
  · exact z_out C hQ (by decide) (by decide) (fX.o1 (.rf hc0) (zqR_f h))
  · exact z_out C hQ (by decide) (by decide) (fX.o2 (.rf hc0) ((zqR_t h).trans (zq2_f h2)))) (fun v M' hp => ?_)
  obtain ⟨rfl, f6, g2, g9, g14, mk2, hH2⟩ := hp
  have hob6 := id hH2
  unfold hCh at hob6
  have hok6 := fOk.ch hI hZ hF hX hi1 ho1 f6 hH2
  have hrr3 := (hk.1.2.2 rr.toNat (by omega)).1.2.2.1
  have hTB := zcT_rng hrr3 (b := bb) (p := pp) (s := ss) (me := rMe (sRd (yS Y) rr.toNat)) g14
  refine z_astore C dX8_probability_9 (by decide) ?_
  refine z_aload C dX8_probability_11 rfl ?_
  refine z_get C dX8_probability_13 fl_X8_247 (by first | assumption | ((repeat (first | assumption | exact va_up_self _ _ _ | refine (va_up_ne _ _ (by assumption)).trans ?_)); done) | (simp [va_up, *] <;> rfl)) rfl ?_
  refine z_lconstZ (x := 0) C dX8_probability_16 rfl ?_
  refine z_lcmpZ C dX8_probability_17 (by unfold zZ; omega) (by unfold zZ; omega) ?_
  have hzc : zcmp (zcB (rC (sRd (yS Y) rr.toNat)) bb pp ss (rMe (sRd (yS Y) rr.toNat))) 0 = 1 := by
    unfold zcmp
    repeat' split
    all_goals omega
  refine z_if_leZ (tgt := 37) C dX8_probability_18 (by decide) (by omega) (fun h18 => ?_) (fun h18 => ?_)
  · exact absurd h18 (by omega)
  · refine z_aload C dX8_probability_21 rfl ?_
    refine z_get C dX8_probability_23 fl_X8_243 (by first | assumption | ((repeat (first | assumption | exact va_up_self _ _ _ | refine (va_up_ne _ _ (by assumption)).trans ?_)); done) | (simp [va_up, *] <;> rfl)) rfl ?_
    refine z_l2d C dX8_probability_26 ?_
    refine z_aload C dX8_probability_27 rfl ?_
    refine z_get C dX8_probability_29 fl_X8_247 (by first | assumption | ((repeat (first | assumption | exact va_up_self _ _ _ | refine (va_up_ne _ _ (by assumption)).trans ?_)); done) | (simp [va_up, *] <;> rfl)) rfl ?_
    refine z_l2d C dX8_probability_32 ?_
    refine z_ddiv C dX8_probability_33 (zddiv_l (by omega) (by omega)) ?_
    refine z_goto (tgt := 38) C dX8_probability_34 (by decide) ?_
    refine z_dret C hQ dX8_probability_38 (by decide) (by decide) ?_
    exact fD.of hok6 ((zqR_t g2).trans (zq2_t ⟨g9, g14⟩)) rfl
noncomputable def q_meanGuesses (S : zSt) (rr dd : Int) : Int × Int := zqR S rr (zqD S dd (0, 0))
noncomputable def q_hitShare (S : zSt) (rr dd : Int) : Int × Int := zqR S rr (zqD S dd (0, 0))
