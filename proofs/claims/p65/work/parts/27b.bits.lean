set_option maxHeartbeats 4000000 in
set_option maxRecDepth 100000 in
theorem k_J6_bitCount {l : Launch} {γ : zG} {M : zM} {x : Int32} :
    zCon l γ yJ6_bitCount_0f7a4 cJ6_bitCount_0f7a4 1 (some .int) [.int x] M 0 0 0 0 (fun v' M' => ∃ r : Int, v' = some (.int (zi r)) ∧ M' = M ∧ r = zpc x) (fun _ _ => False) := by
  obtain ⟨N, hN⟩ : ∃ N, x.toBitVec.toNat = N := ⟨_, rfl⟩
  have hlt : N < 4294967296 := hN ▸ x.toBitVec.isLt
  obtain ⟨a, b, c1, d, ha, hb, hc, hd, hv⟩ : ∃ a b c1 d, a < 256 ∧ b < 256 ∧ c1 < 256 ∧ d < 256 ∧ N = zb4 a b c1 d := ⟨N % 256, N / 256 % 256, N / 65536 % 256, N / 16777216, by omega, by omega, by omega, by omega, by unfold zb4; omega⟩
  have hx : x = zi (N : Int) := zi_ofU (u := x.toUInt32) hN
  have hpc := zpc_eq x ha hb hc hd (hN.trans hv)
  have s1 := zs_1 ha hb hc hd
  rw [← hv] at s1
  have w1 := zp_a a ha
  have w2 := zp_a b hb
  have w3 := zp_a c1 hc
  have w4 := zp_a d hd
  have s2 := zs_2 w1.2.2 w2.2.2 w3.2.2 w4.2.2
  have u1 := zp_c a ha
  have u2 := zp_c b hb
  have u3 := zp_c c1 hc
  have u4 := zp_c d hd
  have s3 := zs_3 ⟨u1.1, u1.2.1⟩ ⟨u2.1, u2.2.1⟩ ⟨u3.1, u3.2.1⟩ ⟨u4.1, u4.2.1⟩
  have p1 : zpb a ≤ 8 := by unfold zpb zp3; omega
  have p2 : zpb b ≤ 8 := by unfold zpb zp3; omega
  have p3 : zpb c1 ≤ 8 := by unfold zpb zp3; omega
  have p4 : zpb d ≤ 8 := by unfold zpb zp3; omega
  have s4 := zs_4 p1 p2 p3 p4
  have l1 : zb4 (zp1 a) (zp1 b) (zp1 c1) (zp1 d) < 4294967296 := by
    have := w1.2.2
    have := w2.2.2
    have := w3.2.2
    have := w4.2.2
    unfold zb4
    omega
  have l2 : zb4 (zp2 (zp1 a)) (zp2 (zp1 b)) (zp2 (zp1 c1)) (zp2 (zp1 d)) + zb4 (zp2 (zp1 a)) (zp2 (zp1 b)) (zp2 (zp1 c1)) (zp2 (zp1 d)) / 16 < 4294967296 := by
    unfold zb4
    omega
  have l3 : zb4 (zpb a) (zpb b) (zpb c1) (zpb d) < 268435456 := by
    unfold zb4
    omega
  have t2 : (zp3 (zp2 (zp1 a))) = zpb a ∧ (zp3 (zp2 (zp1 b))) = zpb b ∧ (zp3 (zp2 (zp1 c1))) = zpb c1 ∧ (zp3 (zp2 (zp1 d))) = zpb d := ⟨rfl, rfl, rfl, rfl⟩
  rw [t2.1, t2.2.1, t2.2.2.1, t2.2.2.2] at s3
  have j1 : (N / 2 &&& 1431655765) ≤ N := Nat.le_trans Nat.and_le_left (Nat.div_le_self _ _)
  generalize hA1 : zb4 (zp1 a) (zp1 b) (zp1 c1) (zp1 d) = B1 at *
  generalize hA2 : zb4 (zp2 (zp1 a)) (zp2 (zp1 b)) (zp2 (zp1 c1)) (zp2 (zp1 d)) = B2 at *
  generalize hA3 : zb4 (zpb a) (zpb b) (zpb c1) (zpb d) = B3 at *
  subst hx
  refine zEnter [some (.int (zi (N : Int)))] (by decide +kernel) rfl rfl (Nat.le_of_ble_eq_true rfl) ?_
  intro p e s m args below meth c Q C hin hQ
  refine z_iload_n C dJ6_bitCount_0f7a4_0 rfl ?_
  refine z_iload_n C dJ6_bitCount_0f7a4_1 rfl ?_
  refine z_iconst C dJ6_bitCount_0f7a4_2 ?_
  refine z_iushr C dJ6_bitCount_0f7a4_3 ?_
  rw [show zi 1 = zi ((1 : Nat) : Int) by rfl, zi_shrN hlt (by decide)]
  refine z_ldcw C dJ6_bitCount_0f7a4_4 t5_219 ?_
  rw [show (1431655765 : Int32) = zi ((1431655765 : Nat) : Int) by rfl]
  refine z_iand C dJ6_bitCount_0f7a4_7 ?_
  rw [zi_andN (by simp; omega) (by decide)]
  refine z_isubZ C dJ6_bitCount_0f7a4_8 ?_
  rw [show (N : Int) - ((N / 2 ^ 1 &&& 1431655765 : Nat) : Int) = ((B1 : Nat) : Int) by rw [← s1]; simp; omega]
  refine z_istore_n C dJ6_bitCount_0f7a4_9 (by decide) ?_
  refine z_iload_n C dJ6_bitCount_0f7a4_10 rfl ?_
  refine z_ldcw C dJ6_bitCount_0f7a4_11 t5_220 ?_
  rw [show (858993459 : Int32) = zi ((858993459 : Nat) : Int) by rfl]
  refine z_iand C dJ6_bitCount_0f7a4_14 ?_
  rw [zi_andN l1 (by decide)]
  refine z_iload_n C dJ6_bitCount_0f7a4_15 rfl ?_
  refine z_iconst C dJ6_bitCount_0f7a4_16 ?_
  refine z_iushr C dJ6_bitCount_0f7a4_17 ?_
  rw [show zi 2 = zi ((2 : Nat) : Int) by rfl, zi_shrN l1 (by decide)]
  refine z_ldcw C dJ6_bitCount_0f7a4_18 t5_220 ?_
  rw [show (858993459 : Int32) = zi ((858993459 : Nat) : Int) by rfl]
  refine z_iand C dJ6_bitCount_0f7a4_21 ?_
  rw [zi_andN (by simp; omega) (by decide)]
  refine z_iaddZ C dJ6_bitCount_0f7a4_22 ?_
  rw [show ((B1 &&& 858993459 : Nat) : Int) + ((B1 / 2 ^ 2 &&& 858993459 : Nat) : Int) = ((B2 : Nat) : Int) by rw [← s2]; simp]
  refine z_istore_n C dJ6_bitCount_0f7a4_23 (by decide) ?_
  refine z_iload_n C dJ6_bitCount_0f7a4_24 rfl ?_
  refine z_iload_n C dJ6_bitCount_0f7a4_25 rfl ?_
  refine z_iconst C dJ6_bitCount_0f7a4_26 ?_
  refine z_iushr C dJ6_bitCount_0f7a4_27 ?_
  rw [show zi 4 = zi ((4 : Nat) : Int) by rfl, zi_shrN (by omega) (by decide)]
  refine z_iaddZ C dJ6_bitCount_0f7a4_28 ?_
  rw [show ((B2 : Nat) : Int) + ((B2 / 2 ^ 4 : Nat) : Int) = ((B2 + B2 / 16 : Nat) : Int) by simp]
  refine z_ldcw C dJ6_bitCount_0f7a4_29 t5_221 ?_
  rw [show (252645135 : Int32) = zi ((252645135 : Nat) : Int) by rfl]
  refine z_iand C dJ6_bitCount_0f7a4_32 ?_
  rw [zi_andN l2 (by decide), s3]
  refine z_istore_n C dJ6_bitCount_0f7a4_33 (by decide) ?_
  refine z_iload_n C dJ6_bitCount_0f7a4_34 rfl ?_
  refine z_iload_n C dJ6_bitCount_0f7a4_35 rfl ?_
  refine z_bipush C dJ6_bitCount_0f7a4_36 (by decide) ?_
  refine z_iushr C dJ6_bitCount_0f7a4_38 ?_
  rw [show zi 8 = zi ((8 : Nat) : Int) by rfl, zi_shrN (by omega) (by decide)]
  refine z_iaddZ C dJ6_bitCount_0f7a4_39 ?_
  rw [show ((B3 : Nat) : Int) + ((B3 / 2 ^ 8 : Nat) : Int) = ((B3 + B3 / 256 : Nat) : Int) by simp]
  refine z_istore_n C dJ6_bitCount_0f7a4_40 (by decide) ?_
  refine z_iload_n C dJ6_bitCount_0f7a4_41 rfl ?_
  refine z_iload_n C dJ6_bitCount_0f7a4_42 rfl ?_
  refine z_bipush C dJ6_bitCount_0f7a4_43 (by decide) ?_
  refine z_iushr C dJ6_bitCount_0f7a4_45 ?_
  rw [show zi 16 = zi ((16 : Nat) : Int) by rfl, zi_shrN (by omega) (by decide)]
  refine z_iaddZ C dJ6_bitCount_0f7a4_46 ?_
  rw [show ((B3 + B3 / 256 : Nat) : Int) + (((B3 + B3 / 256) / 2 ^ 16 : Nat) : Int) = ((B3 + B3 / 256 + (B3 + B3 / 256) / 65536 : Nat) : Int) by simp]
  refine z_istore_n C dJ6_bitCount_0f7a4_47 (by decide) ?_
  refine z_iload_n C dJ6_bitCount_0f7a4_48 rfl ?_
  refine z_bipush C dJ6_bitCount_0f7a4_49 (by decide) ?_
  rw [show zi 63 = zi ((63 : Nat) : Int) by rfl]
  refine z_iand C dJ6_bitCount_0f7a4_51 ?_
  rw [zi_andN (by omega) (by decide), s4]
  refine z_iret C hQ dJ6_bitCount_0f7a4_52 rfl (by decide) (by decide) ?_
  exact ⟨_, rfl, rfl, hpc.symm⟩

