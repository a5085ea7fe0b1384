/-! the number of bits of a mask, as the library reckons it -/
theorem zand256 {a b c d : Nat} (ha : a < 256) (hc : c < 256) : (a + 256 * b) &&& (c + 256 * d) = (a &&& c) + 256 * (b &&& d) := by
  have h1 := Nat.and_mod_two_pow (a := a + 256 * b) (b := c + 256 * d) (n := 8)
  have h2 := Nat.and_div_two_pow (a := a + 256 * b) (b := c + 256 * d) (n := 8)
  simp only [show (2 : Nat) ^ 8 = 256 by rfl] at h1 h2
  rw [show (a + 256 * b) % 256 = a by omega, show (c + 256 * d) % 256 = c by omega] at h1
  rw [show (a + 256 * b) / 256 = b by omega, show (c + 256 * d) / 256 = d by omega] at h2
  omega
def zb4 (a b c d : Nat) : Nat := a + 256 * (b + 256 * (c + 256 * d))
theorem zb4_and {a b c d a' b' c' d' : Nat} (ha : a < 256) (hb : b < 256) (hc : c < 256) (ha' : a' < 256) (hb' : b' < 256) (hc' : c' < 256) : zb4 a b c d &&& zb4 a' b' c' d' = zb4 (a &&& a') (b &&& b') (c &&& c') (d &&& d') := by
  unfold zb4
  rw [zand256 ha ha', zand256 hb hb', zand256 hc hc']
def zp1 (v : Nat) : Nat := v - ((v / 2) &&& 85)
def zp2 (w : Nat) : Nat := (w &&& 51) + ((w / 4) &&& 51)
def zp3 (u : Nat) : Nat := u % 16 + u / 16
/-- the ones of a byte -/
def zpb (v : Nat) : Nat := zp3 (zp2 (zp1 v))
theorem zp_a : ∀ v, v < 256 → ((v / 2) &&& 85) ≤ v ∧ ((v / 2 + 128) &&& 85) = ((v / 2) &&& 85) ∧ zp1 v < 256 := by decide +kernel
theorem zp_b : ∀ w, w < 256 → (((w / 4 + 64) &&& 51) = ((w / 4) &&& 51) ∧ ((w / 4 + 128) &&& 51) = ((w / 4) &&& 51) ∧ ((w / 4 + 192) &&& 51) = ((w / 4) &&& 51)) := by decide +kernel
theorem zp_c : ∀ v, v < 256 → zp2 (zp1 v) / 16 ≤ 4 ∧ zp2 (zp1 v) % 16 ≤ 4 ∧ (zp1 v &&& 51) < 256 ∧ ((zp1 v / 4) &&& 51) < 256 := by decide +kernel
theorem zp_d : ∀ v, v < 256 → (zpb v : Int) = zsn (fun i => if v.testBit i then 1 else 0) 8 := by decide +kernel
theorem zp_e : ∀ x, x < 256 → (x &&& 15) = x % 16 := by decide +kernel
theorem zp_a' {v e : Nat} (hv : v < 256) (he : e < 2) : ((v / 2 + 128 * e) &&& 85) = ((v / 2) &&& 85) := by
  rcases (show e = 0 ∨ e = 1 by omega) with h | h <;> subst h
  · rfl
  · exact (zp_a v hv).2.1
theorem zp_b' {w e : Nat} (hw : w < 256) (he : e < 4) : ((w / 4 + 64 * e) &&& 51) = ((w / 4) &&& 51) := by
  rcases (show e = 0 ∨ e = 1 ∨ e = 2 ∨ e = 3 by omega) with h | h | h | h <;> subst h
  · rfl
  · exact (zp_b w hw).1
  · exact (zp_b w hw).2.1
  · exact (zp_b w hw).2.2
theorem zs_1 {a b c d : Nat} (ha : a < 256) (hb : b < 256) (hc : c < 256) (hd : d < 256) : zb4 a b c d - ((zb4 a b c d / 2) &&& 1431655765) = zb4 (zp1 a) (zp1 b) (zp1 c) (zp1 d) := by
  have e : zb4 a b c d / 2 = zb4 (a / 2 + 128 * (b % 2)) (b / 2 + 128 * (c % 2)) (c / 2 + 128 * (d % 2)) (d / 2) := by
    unfold zb4
    omega
  rw [e, show (1431655765 : Nat) = zb4 85 85 85 85 by rfl, zb4_and (by omega) (by omega) (by omega) (by omega) (by omega) (by omega), zp_a' ha (by omega), zp_a' hb (by omega), zp_a' hc (by omega)]
  have h1 := (zp_a a ha).1
  have h2 := (zp_a b hb).1
  have h3 := (zp_a c hc).1
  have h4 := (zp_a d hd).1
  unfold zb4 zp1
  omega
theorem zs_2 {a b c d : Nat} (ha : a < 256) (hb : b < 256) (hc : c < 256) (hd : d < 256) : (zb4 a b c d &&& 858993459) + ((zb4 a b c d / 4) &&& 858993459) = zb4 (zp2 a) (zp2 b) (zp2 c) (zp2 d) := by
  have e : zb4 a b c d / 4 = zb4 (a / 4 + 64 * (b % 4)) (b / 4 + 64 * (c % 4)) (c / 4 + 64 * (d % 4)) (d / 4) := by
    unfold zb4
    omega
  rw [e, show (858993459 : Nat) = zb4 51 51 51 51 by rfl, zb4_and (by omega) (by omega) (by omega) (by omega) (by omega) (by omega), zb4_and (by omega) (by omega) (by omega) (by omega) (by omega) (by omega), zp_b' ha (by omega), zp_b' hb (by omega), zp_b' hc (by omega)]
  unfold zb4 zp2
  omega
theorem zs_3 {a b c d : Nat} (ha : a / 16 ≤ 4 ∧ a % 16 ≤ 4) (hb : b / 16 ≤ 4 ∧ b % 16 ≤ 4) (hc : c / 16 ≤ 4 ∧ c % 16 ≤ 4) (hd : d / 16 ≤ 4 ∧ d % 16 ≤ 4) : ((zb4 a b c d + zb4 a b c d / 16) &&& 252645135) = zb4 (zp3 a) (zp3 b) (zp3 c) (zp3 d) := by
  have e : zb4 a b c d + zb4 a b c d / 16 = zb4 (a + a / 16 + 16 * (b % 16)) (b + b / 16 + 16 * (c % 16)) (c + c / 16 + 16 * (d % 16)) (d + d / 16) := by
    unfold zb4
    omega
  rw [e, show (252645135 : Nat) = zb4 15 15 15 15 by rfl, zb4_and (by omega) (by omega) (by omega) (by omega) (by omega) (by omega), zp_e _ (by omega), zp_e _ (by omega), zp_e _ (by omega), zp_e _ (by omega)]
  clear e
  rw [show (a + a / 16 + 16 * (b % 16)) % 16 = zp3 a by unfold zp3; omega, show (b + b / 16 + 16 * (c % 16)) % 16 = zp3 b by unfold zp3; omega, show (c + c / 16 + 16 * (d % 16)) % 16 = zp3 c by unfold zp3; omega, show (d + d / 16) % 16 = zp3 d by unfold zp3; omega]
theorem zs_4 {a b c d : Nat} (ha : a ≤ 8) (hb : b ≤ 8) (hc : c ≤ 8) (hd : d ≤ 8) : (zb4 a b c d + zb4 a b c d / 256 + (zb4 a b c d + zb4 a b c d / 256) / 65536) &&& 63 = a + b + c + d := by
  rw [show (63 : Nat) = 2 ^ 6 - 1 by rfl, Nat.and_two_pow_sub_one_eq_mod]
  have e1 : zb4 a b c d / 256 = b + 256 * (c + 256 * d) := by
    unfold zb4
    omega
  have e2 : zb4 a b c d + (b + 256 * (c + 256 * d)) = (a + b) + 256 * ((b + c) + 256 * (c + d + 256 * d)) := by
    unfold zb4
    omega
  have e3 : ((a + b) + 256 * ((b + c) + 256 * (c + d + 256 * d))) / 65536 = c + d + 256 * d := by omega
  rw [e1, e2, e3]
  omega
theorem zsn_add (f : Nat → Int) (t : Nat) : ∀ u : Nat, zsn f (t + u) = zsn f t + zsn (fun i => f (t + i)) u
  | 0 => by simp [zsn]
  | u + 1 => by
    show zsn f (t + u) + f (t + u) = _ + (zsn _ u + f (t + u))
    rw [zsn_add f t u]
    omega
/-- the number of bits of a mask -/
def zpc (m : Int32) : Int := zsn (fun i => if zbit m i then 1 else 0) 32
theorem zpc_eq (m : Int32) {a b c d : Nat} (ha : a < 256) (hb : b < 256) (hc : c < 256) (hd : d < 256) (h : m.toBitVec.toNat = zb4 a b c d) : zpc m = ((zpb a + zpb b + zpb c + zpb d : Nat) : Int) := by
  have hbit : ∀ i, zbit m i = (zb4 a b c d).testBit i := fun i => by
    unfold zbit
    rw [← h]
    rfl
  have hb0 : ∀ (x y : Nat) (i : Nat), x < 256 → i < 8 → (x + 256 * y).testBit i = x.testBit i := fun x y i hx hi => by
    have := Nat.testBit_mod_two_pow (x + 256 * y) 8 i
    rw [show (x + 256 * y) % 2 ^ 8 = x by simp; omega] at this
    rw [this]
    simp [hi]
  have hb1 : ∀ (x y : Nat) (i : Nat), x < 256 → (x + 256 * y).testBit (8 + i) = y.testBit i := fun x y i hx => by
    have := @Nat.testBit_div_two_pow 8 (x + 256 * y) i
    rw [show (x + 256 * y) / 2 ^ 8 = y by simp; omega] at this
    rw [this, Nat.add_comm 8 i]
  unfold zpc
  rw [show (32 : Nat) = 8 + (8 + (8 + 8)) by rfl, zsn_add, zsn_add, zsn_add]
  rw [zsn_cg (g := fun i => if a.testBit i then 1 else 0) (fun i hi => by rw [hbit, zb4, hb0 _ _ i ha hi])]
  rw [zsn_cg (f := fun i => if zbit m (8 + i) then 1 else 0) (g := fun i => if b.testBit i then 1 else 0) (fun i hi => by rw [hbit, zb4, hb1 _ _ _ ha, hb0 _ _ i hb hi])]
  rw [zsn_cg (f := fun i => if zbit m (8 + (8 + i)) then 1 else 0) (g := fun i => if c.testBit i then 1 else 0) (fun i hi => by rw [hbit, zb4, hb1 _ _ _ ha, hb1 _ _ _ hb, hb0 _ _ i hc hi])]
  rw [zsn_cg (f := fun i => if zbit m (8 + (8 + (8 + i))) then 1 else 0) (g := fun i => if d.testBit i then 1 else 0) (fun i hi => by rw [hbit, zb4, hb1 _ _ _ ha, hb1 _ _ _ hb, hb1 _ _ _ hc])]
  have h1 := zp_d a ha
  have h2 := zp_d b hb
  have h3 := zp_d c hc
  have h4 := zp_d d hd
  omega
theorem zi_u (n : Nat) : (zi (n : Int)).toUInt32.toNat = n % 4294967296 := by
  rw [zub]
  omega
theorem zi_andN {n k : Nat} (hn : n < 4294967296) (hk : k < 4294967296) : zi (n : Int) &&& zi (k : Int) = zi ((n &&& k : Nat) : Int) := by
  apply Int32.toBitVec_inj.mp
  show (zi (n : Int)).toBitVec &&& (zi (k : Int)).toBitVec = BitVec.ofInt 32 _
  apply BitVec.eq_of_toNat_eq
  have e1 : (zi (n : Int)).toBitVec.toNat = n := by
    have := zi_u n
    rw [Nat.mod_eq_of_lt hn] at this
    exact this
  have e2 : (zi (k : Int)).toBitVec.toNat = k := by
    have := zi_u k
    rw [Nat.mod_eq_of_lt hk] at this
    exact this
  rw [BitVec.toNat_and, e1, e2, BitVec.toNat_ofInt]
  have h : (n &&& k) < 4294967296 := Nat.lt_of_le_of_lt Nat.and_le_left hn
  simp
  omega
theorem zi_ofU {u : UInt32} {n : Nat} (h : u.toNat = n) : u.toInt32 = zi (n : Int) := by
  apply Int32.toBitVec_inj.mp
  show u.toBitVec = BitVec.ofInt 32 _
  apply BitVec.eq_of_toNat_eq
  rw [BitVec.toNat_ofInt]
  have h1 : u.toBitVec.toNat = n := h
  have h2 := u.toBitVec.isLt
  rw [h1] at h2 ⊢
  simp
  omega
theorem zi_shrN {n j : Nat} (hn : n < 4294967296) (hj : j < 32) : ((zi (n : Int)).toUInt32 >>> ((zi (j : Int)).toUInt32 &&& Int32.toUInt32 31)).toInt32 = zi ((n / 2 ^ j : Nat) : Int) := by
  refine zi_ofU ?_
  have e : ∀ q : Fin 32, (zi ((q : Nat) : Int)).toUInt32 &&& Int32.toUInt32 31 = UInt32.ofNat q := by decide
  have e2 := e ⟨j, hj⟩
  simp only at e2
  rw [e2, UInt32.toNat_shiftRight, zi_u, Nat.mod_eq_of_lt hn, Nat.shiftRight_eq_div_pow]
  congr 2
  show (UInt32.ofNat j).toNat % 32 = j
  simp
  omega

