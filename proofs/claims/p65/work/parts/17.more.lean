/-! int arrays without ranges (whole numbers stand for their residues) -/
/-! long values as whole numbers -/
def zZ (x : Int) : Prop := -9223372036854775808 ≤ x ∧ x ≤ 9223372036854775807
theorem zl_toInt {a : Int} (h : zZ a) : (zl a).toInt = a := Int64.toInt_ofInt_of_le h.1 (by have := h.2; omega)
theorem zl_mul (a b : Int) : zl a * zl b = zl (a * b) := (Int64.ofInt_mul a b).symm
theorem zl_eq {a b : Int} (ha : zZ a) (hb : zZ b) : zl a = zl b ↔ a = b := by rw [← Int64.toInt_inj, zl_toInt ha, zl_toInt hb]
theorem zl_lt {a b : Int} (ha : zZ a) (hb : zZ b) : zl a < zl b ↔ a < b := by rw [Int64.lt_iff_toInt_lt, zl_toInt ha, zl_toInt hb]
theorem zl_div {a b : Int} (ha : 0 ≤ a ∧ zZ a) (hb : 0 < b ∧ zZ b) : zl a / zl b = zl (a / b) := by
  have h1 : 0 ≤ a / b := Int.ediv_nonneg ha.1 (by omega)
  have h2 : a / b ≤ a := Int.ediv_le_self b ha.1
  have h3 := ha.2
  unfold zZ at h3
  apply Int64.toInt_inj.mp
  rw [Int64.toInt_div, zl_toInt ha.2, zl_toInt hb.2, zl_toInt (by unfold zZ; omega), Int.tdiv_eq_ediv_of_nonneg ha.1]
  exact Int.bmod_eq_of_le (by omega) (by omega)
theorem zl_rem {a b : Int} (ha : 0 ≤ a ∧ zZ a) (hb : 0 < b ∧ zZ b) : zl a - zl a / zl b * zl b = zl (a % b) := by
  rw [zl_div ha hb, zl_mul, ← Int64.ofInt_sub, Int.emod_def, Int.mul_comm]
theorem zl_i2l {x : Int} (h : zR x) : (zi x).toInt64 = zl x := by
  apply Int64.toInt_inj.mp
  unfold zR at h
  rw [Int32.toInt_toInt64, zi_toInt h, zl_toInt (by unfold zZ; omega)]
/-- how two long values compare -/
def zcmp (x y : Int) : Int := if y < x then 1 else if x = y then 0 else -1
theorem zl_cmp {x y : Int} (hx : zZ x) (hy : zZ y) : lg_cmp (zl x) (zl y) = zi (zcmp x y) := by
  unfold lg_cmp zcmp
  by_cases h : y < x
  · rw [if_pos ((zl_lt hy hx).mpr h), if_pos h]
    rfl
  · rw [if_neg (fun q => h ((zl_lt hy hx).mp q)), if_neg h]
    by_cases h2 : x = y
    · rw [if_pos ((zl_eq hx hy).mpr h2), if_pos h2]
      rfl
    · rw [if_neg (fun q => h2 ((zl_eq hx hy).mp q)), if_neg h2]
      rfl
theorem zcmp_rng (x y : Int) : -1 ≤ zcmp x y ∧ zcmp x y ≤ 1 := by
  unfold zcmp
  split
  · omega
  · split <;> omega
section ZR8
variable {p : Program} {l : Launch} {e : Env} {R : Room} {s : State} {m : MethodId} {args : Array Value} {below : List Frame} {meth : Method} {c : Code} {γ : zG} {cc : ByteArray} {nL : Nat} {ret : Option FieldType} {own : String} {xt : List ExceptionTableEntry} {Q : State → Prop} {M : zM} {k n pc mc ms : Nat} {L : zL} {st : List Value}
theorem z_aldW (C : zC p l s m args meth c γ cc nL ret own xt) {a N : Nat} {g : Nat → Int} {i : Int} (hd : decode cc pc = .ok (.iaload, 1)) (hM : M a = some (zar γ N g)) (hi : 0 ≤ i ∧ i < N) (hN : N ≤ 2147483648) (kk : zAW p l e R s m args below meth c γ nL Q M k n (pc + 1) L (.int (zi (g i.toNat)) :: st)) : zAW p l e R s m args below meth c γ nL Q M k n pc L (.int (zi i) :: .ref a :: st) := z_aldI C hd hM hi hN kk
theorem z_astW (C : zC p l s m args meth c γ cc nL ret own xt) {a N : Nat} {g : Nat → Int} {i v : Int} (hd : decode cc pc = .ok (.iastore, 1)) (hM : M a = some (zar γ N g)) (hi : 0 ≤ i ∧ i < N) (hN : N ≤ 2147483648) (kk : zAW p l e R s m args below meth c γ nL Q (va_up M a (some (zar γ N (va_up g i.toNat v)))) k n (pc + 1) L st) : zAW p l e R s m args below meth c γ nL Q M k n pc L (.int (zi v) :: .int (zi i) :: .ref a :: st) := z_astI C hd hM hi hN (by rw [zar_up]; exact kk)
theorem z_copyW (C : zC p l s m args meth c γ cc nL ret own xt) {idx a0 a n0 n1 : Nat} {f g : Nat → Int} {sp dp q : Int} (hd : decode cc pc = .ok (.invokestatic idx, 3)) (hlk : Cond.methodLink own idx arraycopyName ∈ LW) (hnat : Cond.native arraycopyName ∈ LW) (hst : Cond.static arraycopyName ∈ LW) (hin : Cond.initialized "java/lang/System" ∈ LW) (h0 : M a0 = some (zar γ n0 f)) (h1 : M a = some (zar γ n1 g)) (hsp : 0 ≤ sp) (hdp : 0 ≤ dp) (hq : 0 ≤ q) (hb0 : sp + q ≤ n0) (hb1 : dp + q ≤ n1) (hn0 : n0 ≤ 2147483647) (hn1 : n1 ≤ 2147483647) (hR : 1 ≤ R.frames ∧ (st.map fun v => v.category).sum + 18 ≤ R.locals)
    (kk : zAW p l e R s m args below meth c γ nL Q (va_up M a (some (zar γ n1 (va_cpy f g sp.toNat dp.toNat q.toNat)))) k n (pc + 3) L st) : zAW p l e R s m args below meth c γ nL Q M k n pc L (.int (zi q) :: .int (zi dp) :: .ref a :: .int (zi sp) :: .ref a0 :: st) := z_copyI C hd hlk hnat hst hin h0 h1 hsp hdp hq hb0 hb1 hn0 hn1 hR (by rw [zar_cpy]; exact kk)
theorem z_aldR (C : zC p l s m args meth c γ cc nL ret own xt) {a N kd : Nat} {f : Nat → Nat} {i : Int} (hd : decode cc pc = .ok (.aaload, 1)) (hM : M a = some (zaQ γ kd N (fun j => some (f j)))) (hk : 5 ≤ kd ∧ kd < 8) (hi : 0 ≤ i ∧ i < N) (hN : N ≤ 2147483648) (kk : zAW p l e R s m args below meth c γ nL Q M k n (pc + 1) L (.ref (f i.toNat) :: st)) : zAW p l e R s m args below meth c γ nL Q M k n pc L (.int (zi i) :: .ref a :: st) := z_aldQ C hd hM hk hi hN kk
theorem z_ldc (C : zC p l s m args meth c γ cc nL ret own xt) {index : Nat} {v : Int32} (hd : decode cc pc = .ok (.ldc index, 2)) (hc : Cond.constant own index v ∈ LW)
    (kk : zAW p l e R s m args below meth c γ nL Q M k n (pc + 2) L (.int v :: st)) : zAW p l e R s m args below meth c γ nL Q M k n pc L st := by
  intro H locs ls hH hl hL hz
  exact lv_ldc C.ex C.by C.ow (C.ws _ hc) hd (kk H locs ls hH hl hL hz)
theorem z_ldcw (C : zC p l s m args meth c γ cc nL ret own xt) {index : Nat} {v : Int32} (hd : decode cc pc = .ok (.ldc_w index, 3)) (hc : Cond.constant own index v ∈ LW)
    (kk : zAW p l e R s m args below meth c γ nL Q M k n (pc + 3) L (.int v :: st)) : zAW p l e R s m args below meth c γ nL Q M k n pc L st := by
  intro H locs ls hH hl hL hz
  exact lv_ldcw C.ex C.by C.ow (C.ws _ hc) hd (kk H locs ls hH hl hL hz)
theorem z_ldc2 (C : zC p l s m args meth c γ cc nL ret own xt) {index : Nat} {v : Int64} (hd : decode cc pc = .ok (.ldc2_w index, 3)) (hc : Cond.constantLong own index v ∈ LW)
    (kk : zAW p l e R s m args below meth c γ nL Q M k n (pc + 3) L (.long v :: st)) : zAW p l e R s m args below meth c γ nL Q M k n pc L st := by
  intro H locs ls hH hl hL hz
  exact lv_ldc2 C.ex C.by C.ow (C.ws _ hc) hd (kk H locs ls hH hl hL hz)
theorem z_lmulZ (C : zC p l s m args meth c γ cc nL ret own xt) {x y : Int} (hd : decode cc pc = .ok (.lmul, 1)) (kk : zAW p l e R s m args below meth c γ nL Q M k n (pc + 1) L (.long (zl (x * y)) :: st)) : zAW p l e R s m args below meth c γ nL Q M k n pc L (.long (zl y) :: .long (zl x) :: st) := z_lmul C hd (by rw [zl_mul]; exact kk)
theorem z_ldivZ (C : zC p l s m args meth c γ cc nL ret own xt) {x y : Int} (hd : decode cc pc = .ok (.ldiv, 1)) (hx : 0 ≤ x ∧ zZ x) (hy : 0 < y ∧ zZ y) (kk : zAW p l e R s m args below meth c γ nL Q M k n (pc + 1) L (.long (zl (x / y)) :: st)) : zAW p l e R s m args below meth c γ nL Q M k n pc L (.long (zl y) :: .long (zl x) :: st) := z_ldiv C hd (fun h => by rw [show (0 : Int64) = zl 0 by rfl, zl_eq hy.2 (by unfold zZ; omega)] at h; omega) (by rw [zl_div hx hy]; exact kk)
theorem z_lremZ (C : zC p l s m args meth c γ cc nL ret own xt) {x y : Int} (hd : decode cc pc = .ok (.lrem, 1)) (hx : 0 ≤ x ∧ zZ x) (hy : 0 < y ∧ zZ y) (kk : zAW p l e R s m args below meth c γ nL Q M k n (pc + 1) L (.long (zl (x % y)) :: st)) : zAW p l e R s m args below meth c γ nL Q M k n pc L (.long (zl y) :: .long (zl x) :: st) := z_lrem C hd (fun h => by rw [show (0 : Int64) = zl 0 by rfl, zl_eq hy.2 (by unfold zZ; omega)] at h; omega) (by rw [zl_rem hx hy]; exact kk)
theorem z_i2lZ (C : zC p l s m args meth c γ cc nL ret own xt) {x : Int} (hd : decode cc pc = .ok (.i2l, 1)) (hx : zR x) (kk : zAW p l e R s m args below meth c γ nL Q M k n (pc + 1) L (.long (zl x) :: st)) : zAW p l e R s m args below meth c γ nL Q M k n pc L (.int (zi x) :: st) := z_i2l C hd (by rw [zl_i2l hx]; exact kk)
theorem z_lcmpZ (C : zC p l s m args meth c γ cc nL ret own xt) {x y : Int} (hd : decode cc pc = .ok (.lcmp, 1)) (hx : zZ x) (hy : zZ y) (kk : zAW p l e R s m args below meth c γ nL Q M k n (pc + 1) L (.int (zi (zcmp x y)) :: st)) : zAW p l e R s m args below meth c γ nL Q M k n pc L (.long (zl y) :: .long (zl x) :: st) := z_lcmp C hd (by rw [zl_cmp hx hy]; exact kk)
end ZR8

