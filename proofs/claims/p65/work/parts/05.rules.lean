theorem zi_toInt {a : Int} (h : -2147483648 ≤ a ∧ a ≤ 2147483647) : (zi a).toInt = a := Int32.toInt_ofInt_of_le h.1 (by omega)
theorem zi_add (a b : Int) : zi a + zi b = zi (a + b) := (Int32.ofInt_add a b).symm
theorem zi_sub (a b : Int) : zi a - zi b = zi (a - b) := (Int32.ofInt_sub a b).symm
theorem zi_mul (a b : Int) : zi a * zi b = zi (a * b) := (Int32.ofInt_mul a b).symm
theorem zi_of (x : Int32) : x = zi x.toInt := (Int32.ofInt_toInt x).symm
theorem zi_rng (x : Int32) : -2147483648 ≤ x.toInt ∧ x.toInt ≤ 2147483647 := ⟨Int32.le_toInt x, by have := Int32.toInt_lt x; omega⟩
theorem zi_lt {a b : Int} (ha : -2147483648 ≤ a ∧ a ≤ 2147483647) (hb : -2147483648 ≤ b ∧ b ≤ 2147483647) : zi a < zi b ↔ a < b := by rw [Int32.lt_iff_toInt_lt, zi_toInt ha, zi_toInt hb]
theorem zi_le {a b : Int} (ha : -2147483648 ≤ a ∧ a ≤ 2147483647) (hb : -2147483648 ≤ b ∧ b ≤ 2147483647) : zi a ≤ zi b ↔ a ≤ b := by rw [Int32.le_iff_toInt_le, zi_toInt ha, zi_toInt hb]
theorem zi_eq {a b : Int} (ha : -2147483648 ≤ a ∧ a ≤ 2147483647) (hb : -2147483648 ≤ b ∧ b ≤ 2147483647) : zi a = zi b ↔ a = b := by rw [← Int32.toInt_inj, zi_toInt ha, zi_toInt hb]
theorem zi_0 : (0 : Int32) = zi 0 := rfl
theorem zi_nat {i : Int} {N : Nat} (h : 0 ≤ i ∧ i < N) (hN : N ≤ 2147483648) : (zi i).toNatClampNeg = i.toNat := by
  show (zi i).toInt.toNat = _
  rw [zi_toInt (by omega)]
theorem zi_in {i : Int} {N : Nat} (h : 0 ≤ i ∧ i < N) (hN : N ≤ 2147483648) : vp_in (zi i) N := by
  rw [vp_in_iff, zi_toInt (by omega)]
  exact h
theorem zi_nI {n : Nat} (h : n ≤ 2147483647) : nI n = zi n := Int32.toInt_inj.mp (by rw [nI_toInt (by omega), zi_toInt (by omega)])
theorem zi_div {a b : Int} (ha : 0 ≤ a ∧ a ≤ 2147483647) (hb : 0 < b ∧ b ≤ 2147483647) : zi a / zi b = zi (a / b) := by
  obtain ⟨x, rfl⟩ := Int.eq_ofNat_of_zero_le ha.1
  obtain ⟨y, rfl⟩ := Int.eq_ofNat_of_zero_le (Int.le_of_lt hb.1)
  have h := pk_div (a := x) (d := y) (by omega) (by omega) (by omega)
  have hle : x / y ≤ x := Nat.div_le_self _ _
  rw [zi_nI (by omega), zi_nI (by omega), zi_nI (by omega)] at h
  rw [h]
  rfl
theorem zi_rem {a b : Int} (ha : 0 ≤ a ∧ a ≤ 2147483647) (hb : 0 < b ∧ b ≤ 2147483647) : zi a - zi a / zi b * zi b = zi (a % b) := by
  rw [zi_div ha hb, zi_mul, zi_sub, Int.emod_def, Int.mul_comm]
section ZR3
variable {p : Program} {l : Launch} {e : Env} {R : Room} {s : State} {m : MethodId} {args : Array Value} {below : List Frame} {meth : Method} {c : Code} {γ : zG} {cc : ByteArray} {nL : Nat} {ret : Option FieldType} {own : String} {xt : List ExceptionTableEntry} {Q : State → Prop} {M : zM} {k n pc : Nat} {L : zL} {st : List Value}
theorem z_iaddZ (C : zC p l s m args meth c γ cc nL ret own xt) {x y : Int} (hd : decode cc pc = .ok (.iadd, 1)) (kk : zAW p l e R s m args below meth c γ nL Q M k n (pc + 1) L (.int (zi (x + y)) :: st)) : zAW p l e R s m args below meth c γ nL Q M k n pc L (.int (zi y) :: .int (zi x) :: st) := z_iadd C hd (by rw [zi_add]; exact kk)
theorem z_isubZ (C : zC p l s m args meth c γ cc nL ret own xt) {x y : Int} (hd : decode cc pc = .ok (.isub, 1)) (kk : zAW p l e R s m args below meth c γ nL Q M k n (pc + 1) L (.int (zi (x - y)) :: st)) : zAW p l e R s m args below meth c γ nL Q M k n pc L (.int (zi y) :: .int (zi x) :: st) := z_isub C hd (by rw [zi_sub]; exact kk)
theorem z_imulZ (C : zC p l s m args meth c γ cc nL ret own xt) {x y : Int} (hd : decode cc pc = .ok (.imul, 1)) (kk : zAW p l e R s m args below meth c γ nL Q M k n (pc + 1) L (.int (zi (x * y)) :: st)) : zAW p l e R s m args below meth c γ nL Q M k n pc L (.int (zi y) :: .int (zi x) :: st) := z_imul C hd (by rw [zi_mul]; exact kk)
theorem z_iincZ (C : zC p l s m args meth c γ cc nL ret own xt) {i : Nat} {v x : Int} (hd : decode cc pc = .ok (.iinc i v, 3)) (hg : zg L i = some (.int (zi x))) (hn : i < nL) (kk : zAW p l e R s m args below meth c γ nL Q M k n (pc + 3) (zs1 L i (.int (zi (x + v)))) st) : zAW p l e R s m args below meth c γ nL Q M k n pc L st := z_iinc C hd hg hn (by rw [zi_add]; exact kk)
theorem z_idivZ (C : zC p l s m args meth c γ cc nL ret own xt) {x y : Int} (hd : decode cc pc = .ok (.idiv, 1)) (hx : 0 ≤ x ∧ x ≤ 2147483647) (hy : 0 < y ∧ y ≤ 2147483647) (kk : zAW p l e R s m args below meth c γ nL Q M k n (pc + 1) L (.int (zi (x / y)) :: st)) : zAW p l e R s m args below meth c γ nL Q M k n pc L (.int (zi y) :: .int (zi x) :: st) := z_idiv C hd (fun h => by rw [zi_0, zi_eq (by omega) (by omega)] at h; omega) (by rw [zi_div hx hy]; exact kk)
theorem z_iremZ (C : zC p l s m args meth c γ cc nL ret own xt) {x y : Int} (hd : decode cc pc = .ok (.irem, 1)) (hx : 0 ≤ x ∧ x ≤ 2147483647) (hy : 0 < y ∧ y ≤ 2147483647) (kk : zAW p l e R s m args below meth c γ nL Q M k n (pc + 1) L (.int (zi (x % y)) :: st)) : zAW p l e R s m args below meth c γ nL Q M k n pc L (.int (zi y) :: .int (zi x) :: st) := z_irem C hd (fun h => by rw [zi_0, zi_eq (by omega) (by omega)] at h; omega) (by rw [zi_rem hx hy]; exact kk)
theorem z_icmp_eq (C : zC p l s m args meth c γ cc nL ret own xt) {x y : Int32} {off : Int} {tgt : Nat} (hd : decode cc pc = .ok (.if_icmp .eq off, 3)) (ht : (pc : Int) + off = (tgt : Int)) (kt : x = y → zAW p l e R s m args below meth c γ nL Q M k n tgt L st) (kf : ¬ x = y → zAW p l e R s m args below meth c γ nL Q M k n (pc + 3) L st) : zAW p l e R s m args below meth c γ nL Q M k n pc L (.int y :: .int x :: st) := by
  intro H locs ls hH hl hL hz
  exact lv_icmp_eq C.ex C.by hd ht (fun h => kt h H locs ls hH hl hL hz) (fun h => kf h H locs ls hH hl hL hz)
theorem z_icmp_eqZ (C : zC p l s m args meth c γ cc nL ret own xt) {x y : Int} {off : Int} {tgt : Nat} (hd : decode cc pc = .ok (.if_icmp .eq off, 3)) (ht : (pc : Int) + off = (tgt : Int)) (hx : -2147483648 ≤ x ∧ x ≤ 2147483647) (hy : -2147483648 ≤ y ∧ y ≤ 2147483647) (kt : x = y → zAW p l e R s m args below meth c γ nL Q M k n tgt L st) (kf : ¬ x = y → zAW p l e R s m args below meth c γ nL Q M k n (pc + 3) L st) : zAW p l e R s m args below meth c γ nL Q M k n pc L (.int (zi y) :: .int (zi x) :: st) := z_icmp_eq C hd ht (fun h => kt (by rwa [zi_eq hx hy] at h)) (fun h => kf (by rwa [zi_eq hx hy] at h))
theorem z_icmp_ne (C : zC p l s m args meth c γ cc nL ret own xt) {x y : Int32} {off : Int} {tgt : Nat} (hd : decode cc pc = .ok (.if_icmp .ne off, 3)) (ht : (pc : Int) + off = (tgt : Int)) (kt : ¬ x = y → zAW p l e R s m args below meth c γ nL Q M k n tgt L st) (kf : x = y → zAW p l e R s m args below meth c γ nL Q M k n (pc + 3) L st) : zAW p l e R s m args below meth c γ nL Q M k n pc L (.int y :: .int x :: st) := by
  intro H locs ls hH hl hL hz
  exact lv_icmp_ne C.ex C.by hd ht (fun h => kt h H locs ls hH hl hL hz) (fun h => kf h H locs ls hH hl hL hz)
theorem z_icmp_neZ (C : zC p l s m args meth c γ cc nL ret own xt) {x y : Int} {off : Int} {tgt : Nat} (hd : decode cc pc = .ok (.if_icmp .ne off, 3)) (ht : (pc : Int) + off = (tgt : Int)) (hx : -2147483648 ≤ x ∧ x ≤ 2147483647) (hy : -2147483648 ≤ y ∧ y ≤ 2147483647) (kt : ¬ x = y → zAW p l e R s m args below meth c γ nL Q M k n tgt L st) (kf : x = y → zAW p l e R s m args below meth c γ nL Q M k n (pc + 3) L st) : zAW p l e R s m args below meth c γ nL Q M k n pc L (.int (zi y) :: .int (zi x) :: st) := z_icmp_ne C hd ht (fun h => kt (by rwa [zi_eq hx hy] at h)) (fun h => kf (by rwa [zi_eq hx hy] at h))
theorem z_icmp_lt (C : zC p l s m args meth c γ cc nL ret own xt) {x y : Int32} {off : Int} {tgt : Nat} (hd : decode cc pc = .ok (.if_icmp .lt off, 3)) (ht : (pc : Int) + off = (tgt : Int)) (kt : x < y → zAW p l e R s m args below meth c γ nL Q M k n tgt L st) (kf : ¬ x < y → zAW p l e R s m args below meth c γ nL Q M k n (pc + 3) L st) : zAW p l e R s m args below meth c γ nL Q M k n pc L (.int y :: .int x :: st) := by
  intro H locs ls hH hl hL hz
  exact lv_icmp_lt C.ex C.by hd ht (fun h => kt h H locs ls hH hl hL hz) (fun h => kf h H locs ls hH hl hL hz)
theorem z_icmp_ltZ (C : zC p l s m args meth c γ cc nL ret own xt) {x y : Int} {off : Int} {tgt : Nat} (hd : decode cc pc = .ok (.if_icmp .lt off, 3)) (ht : (pc : Int) + off = (tgt : Int)) (hx : -2147483648 ≤ x ∧ x ≤ 2147483647) (hy : -2147483648 ≤ y ∧ y ≤ 2147483647) (kt : x < y → zAW p l e R s m args below meth c γ nL Q M k n tgt L st) (kf : ¬ x < y → zAW p l e R s m args below meth c γ nL Q M k n (pc + 3) L st) : zAW p l e R s m args below meth c γ nL Q M k n pc L (.int (zi y) :: .int (zi x) :: st) := z_icmp_lt C hd ht (fun h => kt (by rwa [zi_lt hx hy] at h)) (fun h => kf (by rwa [zi_lt hx hy] at h))
theorem z_icmp_ge (C : zC p l s m args meth c γ cc nL ret own xt) {x y : Int32} {off : Int} {tgt : Nat} (hd : decode cc pc = .ok (.if_icmp .ge off, 3)) (ht : (pc : Int) + off = (tgt : Int)) (kt : y ≤ x → zAW p l e R s m args below meth c γ nL Q M k n tgt L st) (kf : ¬ y ≤ x → zAW p l e R s m args below meth c γ nL Q M k n (pc + 3) L st) : zAW p l e R s m args below meth c γ nL Q M k n pc L (.int y :: .int x :: st) := by
  intro H locs ls hH hl hL hz
  exact lv_icmp_ge C.ex C.by hd ht (fun h => kt h H locs ls hH hl hL hz) (fun h => kf h H locs ls hH hl hL hz)
theorem z_icmp_geZ (C : zC p l s m args meth c γ cc nL ret own xt) {x y : Int} {off : Int} {tgt : Nat} (hd : decode cc pc = .ok (.if_icmp .ge off, 3)) (ht : (pc : Int) + off = (tgt : Int)) (hx : -2147483648 ≤ x ∧ x ≤ 2147483647) (hy : -2147483648 ≤ y ∧ y ≤ 2147483647) (kt : y ≤ x → zAW p l e R s m args below meth c γ nL Q M k n tgt L st) (kf : ¬ y ≤ x → zAW p l e R s m args below meth c γ nL Q M k n (pc + 3) L st) : zAW p l e R s m args below meth c γ nL Q M k n pc L (.int (zi y) :: .int (zi x) :: st) := z_icmp_ge C hd ht (fun h => kt (by rwa [zi_le hy hx] at h)) (fun h => kf (by rwa [zi_le hy hx] at h))
theorem z_icmp_gt (C : zC p l s m args meth c γ cc nL ret own xt) {x y : Int32} {off : Int} {tgt : Nat} (hd : decode cc pc = .ok (.if_icmp .gt off, 3)) (ht : (pc : Int) + off = (tgt : Int)) (kt : y < x → zAW p l e R s m args below meth c γ nL Q M k n tgt L st) (kf : ¬ y < x → zAW p l e R s m args below meth c γ nL Q M k n (pc + 3) L st) : zAW p l e R s m args below meth c γ nL Q M k n pc L (.int y :: .int x :: st) := by
  intro H locs ls hH hl hL hz
  exact lv_icmp_gt C.ex C.by hd ht (fun h => kt h H locs ls hH hl hL hz) (fun h => kf h H locs ls hH hl hL hz)
theorem z_icmp_gtZ (C : zC p l s m args meth c γ cc nL ret own xt) {x y : Int} {off : Int} {tgt : Nat} (hd : decode cc pc = .ok (.if_icmp .gt off, 3)) (ht : (pc : Int) + off = (tgt : Int)) (hx : -2147483648 ≤ x ∧ x ≤ 2147483647) (hy : -2147483648 ≤ y ∧ y ≤ 2147483647) (kt : y < x → zAW p l e R s m args below meth c γ nL Q M k n tgt L st) (kf : ¬ y < x → zAW p l e R s m args below meth c γ nL Q M k n (pc + 3) L st) : zAW p l e R s m args below meth c γ nL Q M k n pc L (.int (zi y) :: .int (zi x) :: st) := z_icmp_gt C hd ht (fun h => kt (by rwa [zi_lt hy hx] at h)) (fun h => kf (by rwa [zi_lt hy hx] at h))
theorem z_icmp_le (C : zC p l s m args meth c γ cc nL ret own xt) {x y : Int32} {off : Int} {tgt : Nat} (hd : decode cc pc = .ok (.if_icmp .le off, 3)) (ht : (pc : Int) + off = (tgt : Int)) (kt : x ≤ y → zAW p l e R s m args below meth c γ nL Q M k n tgt L st) (kf : ¬ x ≤ y → zAW p l e R s m args below meth c γ nL Q M k n (pc + 3) L st) : zAW p l e R s m args below meth c γ nL Q M k n pc L (.int y :: .int x :: st) := by
  intro H locs ls hH hl hL hz
  exact lv_icmp_le C.ex C.by hd ht (fun h => kt h H locs ls hH hl hL hz) (fun h => kf h H locs ls hH hl hL hz)
theorem z_icmp_leZ (C : zC p l s m args meth c γ cc nL ret own xt) {x y : Int} {off : Int} {tgt : Nat} (hd : decode cc pc = .ok (.if_icmp .le off, 3)) (ht : (pc : Int) + off = (tgt : Int)) (hx : -2147483648 ≤ x ∧ x ≤ 2147483647) (hy : -2147483648 ≤ y ∧ y ≤ 2147483647) (kt : x ≤ y → zAW p l e R s m args below meth c γ nL Q M k n tgt L st) (kf : ¬ x ≤ y → zAW p l e R s m args below meth c γ nL Q M k n (pc + 3) L st) : zAW p l e R s m args below meth c γ nL Q M k n pc L (.int (zi y) :: .int (zi x) :: st) := z_icmp_le C hd ht (fun h => kt (by rwa [zi_le hx hy] at h)) (fun h => kf (by rwa [zi_le hx hy] at h))
theorem z_if_eq (C : zC p l s m args meth c γ cc nL ret own xt) {x : Int32} {off : Int} {tgt : Nat} (hd : decode cc pc = .ok (.ifCond .eq off, 3)) (ht : (pc : Int) + off = (tgt : Int)) (kt : x = 0 → zAW p l e R s m args below meth c γ nL Q M k n tgt L st) (kf : ¬ x = 0 → zAW p l e R s m args below meth c γ nL Q M k n (pc + 3) L st) : zAW p l e R s m args below meth c γ nL Q M k n pc L (.int x :: st) := by
  intro H locs ls hH hl hL hz
  exact lv_if_eq C.ex C.by hd ht (fun h => kt h H locs ls hH hl hL hz) (fun h => kf h H locs ls hH hl hL hz)
theorem z_if_eqZ (C : zC p l s m args meth c γ cc nL ret own xt) {x : Int} {off : Int} {tgt : Nat} (hd : decode cc pc = .ok (.ifCond .eq off, 3)) (ht : (pc : Int) + off = (tgt : Int)) (hx : -2147483648 ≤ x ∧ x ≤ 2147483647) (kt : x = 0 → zAW p l e R s m args below meth c γ nL Q M k n tgt L st) (kf : ¬ x = 0 → zAW p l e R s m args below meth c γ nL Q M k n (pc + 3) L st) : zAW p l e R s m args below meth c γ nL Q M k n pc L (.int (zi x) :: st) :=
  have z : (-2147483648 : Int) ≤ 0 ∧ (0 : Int) ≤ 2147483647 := by omega
  z_if_eq C hd ht (fun h => kt (by rwa [zi_0, zi_eq hx z] at h)) (fun h => kf (by rwa [zi_0, zi_eq hx z] at h))
theorem z_if_ne (C : zC p l s m args meth c γ cc nL ret own xt) {x : Int32} {off : Int} {tgt : Nat} (hd : decode cc pc = .ok (.ifCond .ne off, 3)) (ht : (pc : Int) + off = (tgt : Int)) (kt : ¬ x = 0 → zAW p l e R s m args below meth c γ nL Q M k n tgt L st) (kf : x = 0 → zAW p l e R s m args below meth c γ nL Q M k n (pc + 3) L st) : zAW p l e R s m args below meth c γ nL Q M k n pc L (.int x :: st) := by
  intro H locs ls hH hl hL hz
  exact lv_if_ne C.ex C.by hd ht (fun h => kt h H locs ls hH hl hL hz) (fun h => kf h H locs ls hH hl hL hz)
theorem z_if_neZ (C : zC p l s m args meth c γ cc nL ret own xt) {x : Int} {off : Int} {tgt : Nat} (hd : decode cc pc = .ok (.ifCond .ne off, 3)) (ht : (pc : Int) + off = (tgt : Int)) (hx : -2147483648 ≤ x ∧ x ≤ 2147483647) (kt : ¬ x = 0 → zAW p l e R s m args below meth c γ nL Q M k n tgt L st) (kf : x = 0 → zAW p l e R s m args below meth c γ nL Q M k n (pc + 3) L st) : zAW p l e R s m args below meth c γ nL Q M k n pc L (.int (zi x) :: st) :=
  have z : (-2147483648 : Int) ≤ 0 ∧ (0 : Int) ≤ 2147483647 := by omega
  z_if_ne C hd ht (fun h => kt (by rwa [zi_0, zi_eq hx z] at h)) (fun h => kf (by rwa [zi_0, zi_eq hx z] at h))
theorem z_if_lt (C : zC p l s m args meth c γ cc nL ret own xt) {x : Int32} {off : Int} {tgt : Nat} (hd : decode cc pc = .ok (.ifCond .lt off, 3)) (ht : (pc : Int) + off = (tgt : Int)) (kt : x < 0 → zAW p l e R s m args below meth c γ nL Q M k n tgt L st) (kf : ¬ x < 0 → zAW p l e R s m args below meth c γ nL Q M k n (pc + 3) L st) : zAW p l e R s m args below meth c γ nL Q M k n pc L (.int x :: st) := by
  intro H locs ls hH hl hL hz
  exact lv_if_lt C.ex C.by hd ht (fun h => kt h H locs ls hH hl hL hz) (fun h => kf h H locs ls hH hl hL hz)
theorem z_if_ltZ (C : zC p l s m args meth c γ cc nL ret own xt) {x : Int} {off : Int} {tgt : Nat} (hd : decode cc pc = .ok (.ifCond .lt off, 3)) (ht : (pc : Int) + off = (tgt : Int)) (hx : -2147483648 ≤ x ∧ x ≤ 2147483647) (kt : x < 0 → zAW p l e R s m args below meth c γ nL Q M k n tgt L st) (kf : ¬ x < 0 → zAW p l e R s m args below meth c γ nL Q M k n (pc + 3) L st) : zAW p l e R s m args below meth c γ nL Q M k n pc L (.int (zi x) :: st) :=
  have z : (-2147483648 : Int) ≤ 0 ∧ (0 : Int) ≤ 2147483647 := by omega
  z_if_lt C hd ht (fun h => kt (by rwa [zi_0, zi_lt hx z] at h)) (fun h => kf (by rwa [zi_0, zi_lt hx z] at h))
theorem z_if_ge (C : zC p l s m args meth c γ cc nL ret own xt) {x : Int32} {off : Int} {tgt : Nat} (hd : decode cc pc = .ok (.ifCond .ge off, 3)) (ht : (pc : Int) + off = (tgt : Int)) (kt : 0 ≤ x → zAW p l e R s m args below meth c γ nL Q M k n tgt L st) (kf : ¬ 0 ≤ x → zAW p l e R s m args below meth c γ nL Q M k n (pc + 3) L st) : zAW p l e R s m args below meth c γ nL Q M k n pc L (.int x :: st) := by
  intro H locs ls hH hl hL hz
  exact lv_if_ge C.ex C.by hd ht (fun h => kt h H locs ls hH hl hL hz) (fun h => kf h H locs ls hH hl hL hz)
theorem z_if_geZ (C : zC p l s m args meth c γ cc nL ret own xt) {x : Int} {off : Int} {tgt : Nat} (hd : decode cc pc = .ok (.ifCond .ge off, 3)) (ht : (pc : Int) + off = (tgt : Int)) (hx : -2147483648 ≤ x ∧ x ≤ 2147483647) (kt : 0 ≤ x → zAW p l e R s m args below meth c γ nL Q M k n tgt L st) (kf : ¬ 0 ≤ x → zAW p l e R s m args below meth c γ nL Q M k n (pc + 3) L st) : zAW p l e R s m args below meth c γ nL Q M k n pc L (.int (zi x) :: st) :=
  have z : (-2147483648 : Int) ≤ 0 ∧ (0 : Int) ≤ 2147483647 := by omega
  z_if_ge C hd ht (fun h => kt (by rwa [zi_0, zi_le z hx] at h)) (fun h => kf (by rwa [zi_0, zi_le z hx] at h))
theorem z_if_gt (C : zC p l s m args meth c γ cc nL ret own xt) {x : Int32} {off : Int} {tgt : Nat} (hd : decode cc pc = .ok (.ifCond .gt off, 3)) (ht : (pc : Int) + off = (tgt : Int)) (kt : 0 < x → zAW p l e R s m args below meth c γ nL Q M k n tgt L st) (kf : ¬ 0 < x → zAW p l e R s m args below meth c γ nL Q M k n (pc + 3) L st) : zAW p l e R s m args below meth c γ nL Q M k n pc L (.int x :: st) := by
  intro H locs ls hH hl hL hz
  exact lv_if_gt C.ex C.by hd ht (fun h => kt h H locs ls hH hl hL hz) (fun h => kf h H locs ls hH hl hL hz)
theorem z_if_gtZ (C : zC p l s m args meth c γ cc nL ret own xt) {x : Int} {off : Int} {tgt : Nat} (hd : decode cc pc = .ok (.ifCond .gt off, 3)) (ht : (pc : Int) + off = (tgt : Int)) (hx : -2147483648 ≤ x ∧ x ≤ 2147483647) (kt : 0 < x → zAW p l e R s m args below meth c γ nL Q M k n tgt L st) (kf : ¬ 0 < x → zAW p l e R s m args below meth c γ nL Q M k n (pc + 3) L st) : zAW p l e R s m args below meth c γ nL Q M k n pc L (.int (zi x) :: st) :=
  have z : (-2147483648 : Int) ≤ 0 ∧ (0 : Int) ≤ 2147483647 := by omega
  z_if_gt C hd ht (fun h => kt (by rwa [zi_0, zi_lt z hx] at h)) (fun h => kf (by rwa [zi_0, zi_lt z hx] at h))
theorem z_if_le (C : zC p l s m args meth c γ cc nL ret own xt) {x : Int32} {off : Int} {tgt : Nat} (hd : decode cc pc = .ok (.ifCond .le off, 3)) (ht : (pc : Int) + off = (tgt : Int)) (kt : x ≤ 0 → zAW p l e R s m args below meth c γ nL Q M k n tgt L st) (kf : ¬ x ≤ 0 → zAW p l e R s m args below meth c γ nL Q M k n (pc + 3) L st) : zAW p l e R s m args below meth c γ nL Q M k n pc L (.int x :: st) := by
  intro H locs ls hH hl hL hz
  exact lv_if_le C.ex C.by hd ht (fun h => kt h H locs ls hH hl hL hz) (fun h => kf h H locs ls hH hl hL hz)
theorem z_if_leZ (C : zC p l s m args meth c γ cc nL ret own xt) {x : Int} {off : Int} {tgt : Nat} (hd : decode cc pc = .ok (.ifCond .le off, 3)) (ht : (pc : Int) + off = (tgt : Int)) (hx : -2147483648 ≤ x ∧ x ≤ 2147483647) (kt : x ≤ 0 → zAW p l e R s m args below meth c γ nL Q M k n tgt L st) (kf : ¬ x ≤ 0 → zAW p l e R s m args below meth c γ nL Q M k n (pc + 3) L st) : zAW p l e R s m args below meth c γ nL Q M k n pc L (.int (zi x) :: st) :=
  have z : (-2147483648 : Int) ≤ 0 ∧ (0 : Int) ≤ 2147483647 := by omega
  z_if_le C hd ht (fun h => kt (by rwa [zi_0, zi_le hx z] at h)) (fun h => kf (by rwa [zi_0, zi_le hx z] at h))
theorem z_goto (C : zC p l s m args meth c γ cc nL ret own xt) {off : Int} {tgt : Nat} (hd : decode cc pc = .ok (.goto off, 3)) (ht : (pc : Int) + off = (tgt : Int)) (kk : zAW p l e R s m args below meth c γ nL Q M k n tgt L st) : zAW p l e R s m args below meth c γ nL Q M k n pc L st := by
  intro H locs ls hH hl hL hz
  exact lv_goto C.ex C.by hd ht (kk H locs ls hH hl hL hz)
theorem z_ifnull (C : zC p l s m args meth c γ cc nL ret own xt) {x : Nat} {off : Int} (hd : decode cc pc = .ok (.ifnull off, 3)) (kk : zAW p l e R s m args below meth c γ nL Q M k n (pc + 3) L st) : zAW p l e R s m args below meth c γ nL Q M k n pc L (.ref x :: st) := by
  intro H locs ls hH hl hL hz
  exact lv_ifnull C.ex C.by hd (kk H locs ls hH hl hL hz)
theorem z_ifnonnull (C : zC p l s m args meth c γ cc nL ret own xt) {x : Nat} {off : Int} {tgt : Nat} (hd : decode cc pc = .ok (.ifnonnull off, 3)) (ht : (pc : Int) + off = (tgt : Int)) (kk : zAW p l e R s m args below meth c γ nL Q M k n tgt L st) : zAW p l e R s m args below meth c γ nL Q M k n pc L (.ref x :: st) := by
  intro H locs ls hH hl hL hz
  exact lv_ifnonnull C.ex C.by hd ht (kk H locs ls hH hl hL hz)
theorem z_ifnullN (C : zC p l s m args meth c γ cc nL ret own xt) {off : Int} {tgt : Nat} (hd : decode cc pc = .ok (.ifnull off, 3)) (ht : (pc : Int) + off = (tgt : Int)) (kk : zAW p l e R s m args below meth c γ nL Q M k n tgt L st) : zAW p l e R s m args below meth c γ nL Q M k n pc L (.null :: st) := by
  intro H locs ls hH hl hL hz
  exact lv_ifnullN C.ex C.by hd ht (kk H locs ls hH hl hL hz)
theorem z_ifnonnullN (C : zC p l s m args meth c γ cc nL ret own xt) {off : Int} (hd : decode cc pc = .ok (.ifnonnull off, 3)) (kk : zAW p l e R s m args below meth c γ nL Q M k n (pc + 3) L st) : zAW p l e R s m args below meth c γ nL Q M k n pc L (.null :: st) := by
  intro H locs ls hH hl hL hz
  exact lv_ifnonnullN C.ex C.by hd (kk H locs ls hH hl hL hz)
/-- a field's link: class code own, its entry; which class's objects (its place in vwCl), which field -/
def zFL (own : String) (index ci kf : Nat) (fin : Bool) (ty : FieldType) : Prop := ∃ (ref Cn : String) (T : u_T) (N : Nat) (ty0 : Nat → FieldType), Cond.fieldLink own index ref (T kf).2.1 (T kf).2.2.1 ∈ LW ∧ (∀ w ∈ u_ws Cn T N, w ∈ LW) ∧ vwCl[ci]? = some (Cn, T, N) ∧ kf < N ∧ ref = (T kf).1 ∧ (∀ k, k < N → parseFieldDescriptor (T k).2.2.1 = some (ty0 k)) ∧ (∀ a, a < N → ∀ b, b < N → a ≠ b → (T a).2.1 ≠ (T b).2.1) ∧ (T kf).2.2.2 = fin ∧ ty0 kf = ty
theorem z_get (C : zC p l s m args meth c γ cc nL ret own xt) {a ci kf index : Nat} {fin : Bool} {ty : FieldType} {fs : List Value} {v : Value} (hd : decode cc pc = .ok (.getfield index, 3)) (hF : zFL own index ci kf fin ty) (hM : M a = some (.inr (ci, fs))) (hv : fs[kf]? = some v) (kk : zAW p l e R s m args below meth c γ nL Q M k n (pc + 3) L (v :: st)) : zAW p l e R s m args below meth c γ nL Q M k n pc L (.ref a :: st) := by
  intro H locs ls hH hl hL hz
  obtain ⟨ref, Cn, T, N, ty0, h1, h2, h3, h4, h5, -⟩ := hF
  subst h5
  have hP : va_P γ.1 vwCl [(a, .inr (ci, fs))] H := by
    intro j q hq
    have hj : j < 1 := (List.getElem?_eq_some_iff.mp hq).1
    rw [show j = 0 by omega] at hq
    cases hq
    exact (hH.2 a _ hM).2
  exact va_get (D := γ.1) (cl := vwCl) C.ex C.by C.ws h2 C.ow C.K hP 0 rfl h3 kf h4 (C.ws _ h1) (fun _ h => h) hv hd (kk H locs ls hH hl hL hz)
theorem z_put (C : zC p l s m args meth c γ cc nL ret own xt) {a ci kf index : Nat} {ty : FieldType} {fs : List Value} {v : Value} (hd : decode cc pc = .ok (.putfield index, 3)) (hF : zFL own index ci kf false ty) (hM : M a = some (.inr (ci, fs))) (hn : narrow ty v = v) (hfit : fits ty v = true) (hlen : kf < fs.length) (kk : zAW p l e R s m args below meth c γ nL Q (va_up M a (some (.inr (ci, fs.set kf v)))) k n (pc + 3) L st) : zAW p l e R s m args below meth c γ nL Q M k n pc L (v :: .ref a :: st) := by
  intro H locs ls hH hl hL hz
  obtain ⟨ref, Cn, T, N, ty0, h1, h2, h3, h4, h5, h6, h7, h8, h9⟩ := hF
  subst h5
  subst h9
  obtain ⟨hba, hat⟩ := hH.2 a _ hM
  have hP : va_P γ.1 vwCl [(a, .inr (ci, fs))] H := by
    intro j q hq
    have hj : j < 1 := (List.getElem?_eq_some_iff.mp hq).1
    rw [show j = 0 by omega] at hq
    cases hq
    exact hat
  have hap := va_apart (own := own) C.ws h2 ty0 h6 h7 C.K h3
  obtain ⟨r, g1, cell, q1, q2, q3, q4⟩ := hat
  have hr : r = (Cn, T, N) := Option.some.inj (g1.symm.trans h3)
  subst hr
  obtain ⟨hS, hfc, kC, hkC, hkind⟩ := C.K.1 ci _ h3
  obtain ⟨cf, kf', fi, f, hi, hsl⟩ := hS kf h4
  have hlay := C.ws _ (h2 _ (u_in_lay h4))
  unfold u_lay at hlay
  rw [if_neg (by rw [h8]; decide)] at hlay
  have hst := (u_facts hfc hkC (u_lays C.ws h2 h4) hi).1
  have h6' := u_store hfc hkC hkind hlay hi (h6 kf h4) hn hfit
  refine W.putK C.ex C.by (f := f) ⟨C.ow, C.ws _ h1, ⟨_, _, _, hi⟩, hst⟩ (by rw [q2]; exact h6') q1 q3 (by rw [hsl]; exact k2_hasslot (q4 kf h4)) rfl rfl hd fun H1 e1 e2 e3 => ?_
  rw [hsl] at e1 ⊢
  refine kk H1 _ ls (hH.set hba e2 e3 ⟨_, h3, t_OB.to (V := updV (vp_V fs) kf v) ⟨_, e1, q2, q3, t_set q4 hap h4 v⟩ (fun j _ => vp_updV_set hlen v j)⟩) ?_ hL (by rw [e2]; exact hz)
  intro q hq
  rcases List.mem_append.mp hq with h | h
  · exact hl q h
  · rw [List.mem_singleton.mp h]; exact hba
theorem z_putF (C : zC p l s m args meth c γ cc nL ret own xt) {a ci kf index : Nat} {ty : FieldType} {fs : List Value} {v : Value} (hd : decode cc pc = .ok (.putfield index, 3)) (hF : zFL own index ci kf true ty) (hin : meth.name = "<init>") (hM : M a = some (.inr (ci, fs))) (hdecl : ∀ Cn T N, vwCl[ci]? = some (Cn, T, N) → (T kf).1 = own) (hn : narrow ty v = v) (hfit : fits ty v = true) (hlen : kf < fs.length) (kk : zAW p l e R s m args below meth c γ nL Q (va_up M a (some (.inr (ci, fs.set kf v)))) k n (pc + 3) L st) : zAW p l e R s m args below meth c γ nL Q M k n pc L (v :: .ref a :: st) := by
  intro H locs ls hH hl hL hz
  obtain ⟨ref, Cn, T, N, ty0, h1, h2, h3, h4, h5, h6, h7, h8, h9⟩ := hF
  subst h5
  subst h9
  obtain ⟨hba, hat⟩ := hH.2 a _ hM
  have hP : va_P γ.1 vwCl [(a, .inr (ci, fs))] H := by
    intro j q hq
    have hj : j < 1 := (List.getElem?_eq_some_iff.mp hq).1
    rw [show j = 0 by omega] at hq
    cases hq
    exact hat
  have hap := va_apart (own := own) C.ws h2 ty0 h6 h7 C.K h3
  obtain ⟨r, g1, cell, q1, q2, q3, q4⟩ := hat
  have hr : r = (Cn, T, N) := Option.some.inj (g1.symm.trans h3)
  subst hr
  obtain ⟨hS, hfc, kC, hkC, hkind⟩ := C.K.1 ci _ h3
  obtain ⟨cf, kf', fi, f, hi, hsl⟩ := hS kf h4
  have hlay := C.ws _ (h2 _ (u_in_lay h4))
  unfold u_lay at hlay
  rw [if_pos h8] at hlay
  have hst := (u_facts hfc hkC (u_lays C.ws h2 h4) hi).1
  have hcf : m.cls = cf := by
    obtain ⟨_, _, c', _, _, _, -, -, hf', -, -, -, hown2, -⟩ := Cond.laysFinal_spec hlay
    have e1 : c' = cf := by have := hi.symm.trans hf'; simp at this; exact this.1.symm
    rw [hdecl _ _ _ h3] at hown2
    rw [← e1]; exact Option.some.inj (C.ow.symm.trans hown2)
  have h6' := u_fits hfc hkC hkind (Or.inr hlay) hi (h6 kf h4) hn hfit
  refine W.putFinK C.ex C.by C.ow (C.ws _ h1) hi hst hcf hin (by rw [q2]; exact h6') q1 q3 (by rw [hsl]; exact k2_hasslot (q4 kf h4)) rfl rfl hd fun H1 e1 e2 e3 => ?_
  rw [hsl] at e1 ⊢
  refine kk H1 _ ls (hH.set hba e2 e3 ⟨_, h3, t_OB.to (V := updV (vp_V fs) kf v) ⟨_, e1, q2, q3, t_set q4 hap h4 v⟩ (fun j _ => vp_updV_set hlen v j)⟩) ?_ hL (by rw [e2]; exact hz)
  intro q hq
  rcases List.mem_append.mp hq with h | h
  · exact hl q h
  · rw [List.mem_singleton.mp h]; exact hba
abbrev zaI (γ : zG) (N : Nat) (f : Nat → Int32) : va_E := .inl (γ.2.2.1 0, N, .inl f)
abbrev zaZ (γ : zG) (N : Nat) (f : Nat → Int32) : va_E := .inl (γ.2.2.1 1, N, .inl f)
abbrev zaB (γ : zG) (N : Nat) (f : Nat → Int32) : va_E := .inl (γ.2.2.1 2, N, .inl f)
abbrev zaQ (γ : zG) (kd N : Nat) (f : Nat → Option Nat) : va_E := .inl (γ.2.2.1 kd, N, .inr (.inr (.inr (.inr f))))
theorem zK_ty (C : zC p l s m args meth c γ cc nL ret own xt) {i : Nat} (h : i < 8) : ArrOfT s (γ.2.2.1 i) (zT i) ∧ va_RA s (γ.2.2.1 i) (zT i) := C.K.2 i (γ.2.2.1 i, zT i) (by simp [zTys, h])
theorem z_aldI (C : zC p l s m args meth c γ cc nL ret own xt) {a N : Nat} {f : Nat → Int32} {i : Int} (hd : decode cc pc = .ok (.iaload, 1)) (hM : M a = some (zaI γ N f)) (hi : 0 ≤ i ∧ i < N) (hN : N ≤ 2147483648) (kk : zAW p l e R s m args below meth c γ nL Q M k n (pc + 1) L (.int (f i.toNat) :: st)) : zAW p l e R s m args below meth c γ nL Q M k n pc L (.int (zi i) :: .ref a :: st) := by
  intro H locs ls hH hl hL hz
  have hin := zi_in hi hN
  have hcl := zi_nat hi hN
  refine W.iald (v := .int (f i.toNat)) C.ex C.by (hH.2 a _ hM).2 ((zK_ty C (i := 0) (by omega)).1 N (fun j => .int (f j))) (fun q => by cases q) (by show ¬ (_ < 0 ∨ (arrV _ _ _).slots.size ≤ _); rw [arrV_size]; exact hin) ?_ rfl rfl hd (kk H locs ls hH hl hL hz)
  show (arrV _ _ _).slots[_]? = _
  have hlt : (zi i).toNatClampNeg < N := by rw [hcl]; omega
  rw [arrV_read _ _ hlt, hcl]
theorem z_astI (C : zC p l s m args meth c γ cc nL ret own xt) {a N : Nat} {f : Nat → Int32} {i : Int} {x : Int32} (hd : decode cc pc = .ok (.iastore, 1)) (hM : M a = some (zaI γ N f)) (hi : 0 ≤ i ∧ i < N) (hN : N ≤ 2147483648) (kk : zAW p l e R s m args below meth c γ nL Q (va_up M a (some (zaI γ N (va_up f i.toNat x)))) k n (pc + 1) L st) : zAW p l e R s m args below meth c γ nL Q M k n pc L (.int x :: .int (zi i) :: .ref a :: st) := by
  intro H locs ls hH hl hL hz
  have hin := zi_in hi hN
  have hcl := zi_nat hi hN
  obtain ⟨hba, hat⟩ := hH.2 a _ hM
  refine W.iast C.ex C.by hat ((zK_ty C (i := 0) (by omega)).1 N (fun j => .int (f j))) (fun q => by cases q) (by show ¬ (_ < 0 ∨ (arrV _ _ _).slots.size ≤ _); rw [arrV_size]; exact hin) rfl rfl hd fun H1 e1 e2 e3 => ?_
  refine kk H1 _ ls (hH.set hba e2 e3 ?_) ?_ hL (by rw [e2]; exact hz)
  · show H1[a]? = some (vp_cell _ _)
    rw [e1]
    rw [vp_cell_i, vp_cell_i, arrV_store, hcl]
    congr 2
    funext q
    by_cases hq : q = i.toNat
    · subst hq
      simp [updV, va_up, vp_nar, narrow]
    · simp [updV, va_up, hq]
  · intro q hq
    rcases List.mem_append.mp hq with h | h
    · exact hl q h
    · rw [List.mem_singleton.mp h]; exact hba
theorem z_aldZ (C : zC p l s m args meth c γ cc nL ret own xt) {a N : Nat} {f : Nat → Int32} {i : Int} (hd : decode cc pc = .ok (.baload, 1)) (hM : M a = some (zaZ γ N f)) (hi : 0 ≤ i ∧ i < N) (hN : N ≤ 2147483648) (kk : zAW p l e R s m args below meth c γ nL Q M k n (pc + 1) L (.int (f i.toNat) :: st)) : zAW p l e R s m args below meth c γ nL Q M k n pc L (.int (zi i) :: .ref a :: st) := by
  intro H locs ls hH hl hL hz
  have hin := zi_in hi hN
  have hcl := zi_nat hi hN
  refine W.zald (v := .int (f i.toNat)) C.ex C.by (hH.2 a _ hM).2 ((zK_ty C (i := 1) (by omega)).1 N (fun j => .int (f j))) (fun q => by cases q) (by show ¬ (_ < 0 ∨ (arrV _ _ _).slots.size ≤ _); rw [arrV_size]; exact hin) ?_ rfl rfl hd (kk H locs ls hH hl hL hz)
  show (arrV _ _ _).slots[_]? = _
  have hlt : (zi i).toNatClampNeg < N := by rw [hcl]; omega
  rw [arrV_read _ _ hlt, hcl]
theorem z_astZ (C : zC p l s m args meth c γ cc nL ret own xt) {a N : Nat} {f : Nat → Int32} {i : Int} {x : Int32} (hd : decode cc pc = .ok (.bastore, 1)) (hM : M a = some (zaZ γ N f)) (hi : 0 ≤ i ∧ i < N) (hN : N ≤ 2147483648) (kk : zAW p l e R s m args below meth c γ nL Q (va_up M a (some (zaZ γ N (va_up f i.toNat (vp_nar .boolean x))))) k n (pc + 1) L st) : zAW p l e R s m args below meth c γ nL Q M k n pc L (.int x :: .int (zi i) :: .ref a :: st) := by
  intro H locs ls hH hl hL hz
  have hin := zi_in hi hN
  have hcl := zi_nat hi hN
  obtain ⟨hba, hat⟩ := hH.2 a _ hM
  refine W.zast C.ex C.by hat ((zK_ty C (i := 1) (by omega)).1 N (fun j => .int (f j))) (fun q => by cases q) (by show ¬ (_ < 0 ∨ (arrV _ _ _).slots.size ≤ _); rw [arrV_size]; exact hin) rfl rfl hd fun H1 e1 e2 e3 => ?_
  refine kk H1 _ ls (hH.set hba e2 e3 ?_) ?_ hL (by rw [e2]; exact hz)
  · show H1[a]? = some (vp_cell _ _)
    rw [e1]
    rw [vp_cell_i, vp_cell_i, arrV_store, hcl]
    congr 2
    funext q
    by_cases hq : q = i.toNat
    · subst hq
      simp [updV, va_up, vp_nar, narrow]
    · simp [updV, va_up, hq]
  · intro q hq
    rcases List.mem_append.mp hq with h | h
    · exact hl q h
    · rw [List.mem_singleton.mp h]; exact hba
theorem z_aldB (C : zC p l s m args meth c γ cc nL ret own xt) {a N : Nat} {f : Nat → Int32} {i : Int} (hd : decode cc pc = .ok (.baload, 1)) (hM : M a = some (zaB γ N f)) (hi : 0 ≤ i ∧ i < N) (hN : N ≤ 2147483648) (kk : zAW p l e R s m args below meth c γ nL Q M k n (pc + 1) L (.int (f i.toNat) :: st)) : zAW p l e R s m args below meth c γ nL Q M k n pc L (.int (zi i) :: .ref a :: st) := by
  intro H locs ls hH hl hL hz
  have hin := zi_in hi hN
  have hcl := zi_nat hi hN
  refine W.bald (v := .int (f i.toNat)) C.ex C.by (hH.2 a _ hM).2 ((zK_ty C (i := 2) (by omega)).1 N (fun j => .int (f j))) (fun q => by cases q) (by show ¬ (_ < 0 ∨ (arrV _ _ _).slots.size ≤ _); rw [arrV_size]; exact hin) ?_ rfl rfl hd (kk H locs ls hH hl hL hz)
  show (arrV _ _ _).slots[_]? = _
  have hlt : (zi i).toNatClampNeg < N := by rw [hcl]; omega
  rw [arrV_read _ _ hlt, hcl]
theorem z_astB (C : zC p l s m args meth c γ cc nL ret own xt) {a N : Nat} {f : Nat → Int32} {i : Int} {x : Int32} (hd : decode cc pc = .ok (.bastore, 1)) (hM : M a = some (zaB γ N f)) (hi : 0 ≤ i ∧ i < N) (hN : N ≤ 2147483648) (kk : zAW p l e R s m args below meth c γ nL Q (va_up M a (some (zaB γ N (va_up f i.toNat (vp_nar .byte x))))) k n (pc + 1) L st) : zAW p l e R s m args below meth c γ nL Q M k n pc L (.int x :: .int (zi i) :: .ref a :: st) := by
  intro H locs ls hH hl hL hz
  have hin := zi_in hi hN
  have hcl := zi_nat hi hN
  obtain ⟨hba, hat⟩ := hH.2 a _ hM
  refine W.bast C.ex C.by hat ((zK_ty C (i := 2) (by omega)).1 N (fun j => .int (f j))) (fun q => by cases q) (by show ¬ (_ < 0 ∨ (arrV _ _ _).slots.size ≤ _); rw [arrV_size]; exact hin) rfl rfl hd fun H1 e1 e2 e3 => ?_
  refine kk H1 _ ls (hH.set hba e2 e3 ?_) ?_ hL (by rw [e2]; exact hz)
  · show H1[a]? = some (vp_cell _ _)
    rw [e1]
    rw [vp_cell_i, vp_cell_i, arrV_store, hcl]
    congr 2
    funext q
    by_cases hq : q = i.toNat
    · subst hq
      simp [updV, va_up, vp_nar, narrow]
    · simp [updV, va_up, hq]
  · intro q hq
    rcases List.mem_append.mp hq with h | h
    · exact hl q h
    · rw [List.mem_singleton.mp h]; exact hba
theorem z_aldQ (C : zC p l s m args meth c γ cc nL ret own xt) {a N kd : Nat} {f : Nat → Option Nat} {i : Int} (hd : decode cc pc = .ok (.aaload, 1)) (hM : M a = some (zaQ γ kd N f)) (hk : 5 ≤ kd ∧ kd < 8) (hi : 0 ≤ i ∧ i < N) (hN : N ≤ 2147483648) (kk : zAW p l e R s m args below meth c γ nL Q M k n (pc + 1) L (va_rf (f i.toNat) :: st)) : zAW p l e R s m args below meth c γ nL Q M k n pc L (.int (zi i) :: .ref a :: st) := by
  intro H locs ls hH hl hL hz
  have hin := zi_in hi hN
  have hcl := zi_nat hi hN
  have hT : ∃ Cn : String, zT kd = .object Cn := by
    rcases (show kd = 5 ∨ kd = 6 ∨ kd = 7 by omega) with h | h | h <;> subst h <;> exact ⟨_, rfl⟩
  obtain ⟨Cn, hT⟩ := hT
  have hA := (zK_ty C (i := kd) (by omega)).1
  rw [hT] at hA
  refine W.aald (v := va_rf (f i.toNat)) (ty := .object Cn) C.ex C.by (hH.2 a _ hM).2 (hA N (fun j => va_rf (f j))) rfl (fun q => by cases q) (by show ¬ (_ < 0 ∨ (arrV _ _ _).slots.size ≤ _); rw [arrV_size]; exact hin) ?_ rfl rfl hd (kk H locs ls hH hl hL hz)
  show (arrV _ _ _).slots[_]? = _
  have hlt : (zi i).toNatClampNeg < N := by rw [hcl]; omega
  rw [arrV_read _ _ hlt, hcl]
theorem z_alenI (C : zC p l s m args meth c γ cc nL ret own xt) {a N : Nat} {f : Nat → Int32} (hd : decode cc pc = .ok (.arraylength, 1)) (hM : M a = some (zaI γ N f)) (hN : N ≤ 2147483647) (kk : zAW p l e R s m args below meth c γ nL Q M k n (pc + 1) L (.int (zi N) :: st)) : zAW p l e R s m args below meth c γ nL Q M k n pc L (.ref a :: st) := by
  intro H locs ls hH hl hL hz
  refine W.alen (n := Int32.ofNat N) C.ex C.by (hH.2 a _ hM).2 ((zK_ty C (i := 0) (by omega)).1 N (fun j => .int (f j))) (by rw [vp_cell_i, arrV_size] <;> rfl) rfl rfl hd ?_
  rw [show Int32.ofNat N = zi N from zi_nI hN]
  exact kk H locs ls hH hl hL hz
end ZR3
