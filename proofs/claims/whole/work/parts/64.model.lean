/-! the model: divisor, letters of a name -/
set_option maxHeartbeats 4000000 in
set_option maxRecDepth 100000 in
theorem k_X9_divisor {l : Launch} {γ : zG} {M : zM} {x y : Int} (hx : 0 ≤ x ∧ x < 9007199254740992) (hy : 0 ≤ y ∧ y < 9007199254740992) :
    zCon l γ yX9_divisor cX9_divisor 10 (some .long) [.long (zl x), .long (zl y)] M 0 0 0 0 (fun v' M' => v' = some (.long (zl (zgd x y))) ∧ M' = M) (fun _ _ => False) := by
  refine zEnter [some (.long (zl x)), none, some (.long (zl y)), none, none, none, none, none, none, none] (by decide +kernel) rfl rfl (Nat.le_of_ble_eq_true rfl) ?_
  intro p e s m args below meth c Q C hin hQ
  have hcz : ∀ r : Int, 0 ≤ r → (zcmp r 0 = 0 ↔ r = 0) := fun r hr => by
    unfold zcmp
    split
    · omega
    · split <;> omega
  have loop : ∀ (t : Nat) (d r : Int) (x8 x9 : Option Value), r ≤ t → 0 ≤ d ∧ d < 9007199254740992 → 0 ≤ r ∧ r < 9007199254740992 → zgd d r = zgd x y → zAW p l e { frames := 0, cells := 0, slots := 0, locals := 0 } s m args below meth c γ 10 Q M 0 0 6 [some (.long (zl x)), none, some (.long (zl y)), none, some (.long (zl d)), none, some (.long (zl r)), none, x8, x9] [] := by
    intro t
    induction t with
    | zero =>
      intro d r x8 x9 ht hd hr hg1
      obtain rfl : r = 0 := by omega
      have hc1 := zcmp_rng 0 0
      have hc2 := hcz 0 (by omega)
      rw [zgd_0 d hd.1] at hg1
      refine z_lload C dX9_divisor_6 rfl ?_
      refine z_lconstZ (x := 0) C dX9_divisor_8 rfl ?_
      refine z_lcmpZ C dX9_divisor_9 (by unfold zZ; omega) (by unfold zZ; omega) ?_
      refine z_if_eqZ (tgt := 31) C dX9_divisor_10 (by decide) (by omega) (fun h10 => ?_) (fun h10 => ?_)
      · refine z_lload C dX9_divisor_31 rfl ?_
        refine z_lret C hQ dX9_divisor_33 (by decide) (by decide) ?_
        rw [hg1]
        exact ⟨rfl, rfl⟩
      · exact absurd h10 (by omega)
    | succ t ih =>
      intro d r x8 x9 ht hd hr hg1
      have hc1 := zcmp_rng r 0
      have hc2 := hcz r hr.1
      by_cases hz : r = 0
      · subst hz
        rw [zgd_0 d hd.1] at hg1
        refine z_lload C dX9_divisor_6 rfl ?_
        refine z_lconstZ (x := 0) C dX9_divisor_8 rfl ?_
        refine z_lcmpZ C dX9_divisor_9 (by unfold zZ; omega) (by unfold zZ; omega) ?_
        refine z_if_eqZ (tgt := 31) C dX9_divisor_10 (by decide) (by omega) (fun h10 => ?_) (fun h10 => ?_)
        · refine z_lload C dX9_divisor_31 rfl ?_
          refine z_lret C hQ dX9_divisor_33 (by decide) (by decide) ?_
          rw [hg1]
          exact ⟨rfl, rfl⟩
        · exact absurd h10 (by omega)
      · have m1 := Int.emod_nonneg d hz
        have m2 := Int.emod_lt_of_pos d (show 0 < r by omega)
        refine z_lload C dX9_divisor_6 rfl ?_
        refine z_lconstZ (x := 0) C dX9_divisor_8 rfl ?_
        refine z_lcmpZ C dX9_divisor_9 (by unfold zZ; omega) (by unfold zZ; omega) ?_
        refine z_if_eqZ (tgt := 31) C dX9_divisor_10 (by decide) (by omega) (fun h10 => ?_) (fun h10 => ?_)
        · exact absurd h10 (by omega)
        · refine z_lload C dX9_divisor_13 rfl ?_
          refine z_lload C dX9_divisor_15 rfl ?_
          refine z_lremZ C dX9_divisor_17 (by unfold zZ; omega) (by unfold zZ; omega) ?_
          refine z_lstore C dX9_divisor_18 (by decide) ?_
          refine z_lload C dX9_divisor_20 rfl ?_
          refine z_lstore C dX9_divisor_22 (by decide) ?_
          refine z_lload C dX9_divisor_24 rfl ?_
          refine z_lstore C dX9_divisor_26 (by decide) ?_
          refine z_goto (tgt := 6) C dX9_divisor_28 (by decide) ?_
          exact ih r (d % r) _ _ (by omega) hr (by omega) (by rw [zgd_st d r hd.1 (by omega)]; exact hg1)
  refine z_lload_n C dX9_divisor_0 rfl ?_
  refine z_lstore C dX9_divisor_1 (by decide) ?_
  refine z_lload_n C dX9_divisor_3 rfl ?_
  refine z_lstore C dX9_divisor_4 (by decide) ?_
  exact loop y.toNat x y none none (by omega) hx hy rfl
set_option maxHeartbeats 4000000 in
set_option maxRecDepth 100000 in
theorem k_X9_isSymbolByte {l : Launch} {γ : zG} {M : zM} {x : Int} (hx : zR x) :
    zCon l γ yX9_isSymbolByte cX9_isSymbolByte 1 (some .boolean) [.int (zi x)] M 2 42 0 0 (fun v' M' => ∃ r : Int, v' = some (.int (zi r)) ∧ M' = M ∧ zB r (zLet x ∨ x = 95)) (fun _ _ => False) := by
  have hx0 := hx
  unfold zR at hx0
  refine zEnter [some (.int (zi x))] (by decide +kernel) rfl rfl (Nat.le_of_ble_eq_true rfl) ?_
  intro p e s m args below meth c Q C hin hQ
  refine z_iload_n C dX9_isSymbolByte_0 rfl ?_
  refine z_callS C dX9_isSymbolByte_1 lk_X9_202 mw_X9_isLetter mst_X9_isLetter (k_X9_isLetter hx) rfl (by first | decide | exact Nat.le_of_ble_eq_true rfl) ⟨by decide, by decide, by decide, by decide⟩ (fun _ _ h => False.elim h) (fun v M' hp => ?_)
  obtain ⟨r1, rfl, rfl, hr1⟩ := hp
  have q1 := hr1.rng
  refine z_if_neZ (tgt := 13) C dX9_isSymbolByte_4 (by decide) (by omega) (fun h4 => ?_) (fun h4 => ?_)
  · refine z_iconst C dX9_isSymbolByte_13 ?_
    refine z_goto (tgt := 18) C dX9_isSymbolByte_14 (by decide) ?_
    refine z_iret C hQ dX9_isSymbolByte_18 rfl (by decide) (by decide) ?_
    exact ⟨1, rfl, rfl, .inl ⟨rfl, .inl (hr1.t h4)⟩⟩
  · refine z_iload_n C dX9_isSymbolByte_7 rfl ?_
    refine z_bipush C dX9_isSymbolByte_8 (by decide) ?_
    refine z_icmp_neZ (tgt := 17) C dX9_isSymbolByte_10 (by decide) (by omega) (by omega) (fun h10 => ?_) (fun h10 => ?_)
    · refine z_iconst C dX9_isSymbolByte_17 ?_
      refine z_iret C hQ dX9_isSymbolByte_18 rfl (by decide) (by decide) ?_
      exact ⟨0, rfl, rfl, .inr ⟨rfl, fun w => w.elim (hr1.f h4) (by omega)⟩⟩
    · refine z_iconst C dX9_isSymbolByte_13 ?_
      refine z_goto (tgt := 18) C dX9_isSymbolByte_14 (by decide) ?_
      refine z_iret C hQ dX9_isSymbolByte_18 rfl (by decide) (by decide) ?_
      exact ⟨1, rfl, rfl, .inl ⟨rfl, .inr (by omega)⟩⟩
/-- a letter of a name held as a number: its four letters in base 27 -/
def mLf (x : Int) : Nat → Int
  | 0 => x
  | t + 1 => mLf x t / 27
theorem mLf_rng {x : Int} (hx : 0 ≤ x ∧ x ≤ 2147483647) : ∀ t : Nat, 0 ≤ mLf x t ∧ mLf x t ≤ 2147483647
  | 0 => hx
  | t + 1 => by
    have := mLf_rng hx t
    unfold mLf
    omega
def mLe (x i : Int) : Int := mLf x (3 - i).toNat % 27
set_option maxHeartbeats 4000000 in
set_option maxRecDepth 100000 in
theorem k_X9_letterOf {l : Launch} {γ : zG} {M : zM} {x i : Int} (hx : 0 ≤ x ∧ x ≤ 2147483647) (hi : 0 ≤ i ∧ i ≤ 3) :
    zCon l γ yX9_letterOf cX9_letterOf 4 (some .int) [.int (zi x), .int (zi i)] M 0 0 0 0 (fun v' M' => v' = some (.int (zi (mLe x i))) ∧ M' = M) (fun _ _ => False) := by
  refine zEnter [some (.int (zi x)), some (.int (zi i)), none, none] (by decide +kernel) rfl rfl (Nat.le_of_ble_eq_true rfl) ?_
  intro p e s m args below meth c Q C hin hQ
  have loop : ∀ (t : Nat) (k : Int), k - i = t → k ≤ 3 → zAW p l e { frames := 0, cells := 0, slots := 0, locals := 0 } s m args below meth c γ 4 Q M 0 0 4 [some (.int (zi x)), some (.int (zi i)), some (.int (zi (mLf x (3 - k).toNat))), some (.int (zi k))] [] := by
    intro t
    induction t with
    | zero =>
      intro k ht hk
      obtain rfl : k = i := by omega
      have rg := mLf_rng hx (3 - k).toNat
      refine z_iload_n C dX9_letterOf_4 rfl ?_
      refine z_iload_n C dX9_letterOf_5 rfl ?_
      refine z_icmp_leZ (tgt := 20) C dX9_letterOf_6 (by decide) (by omega) (by omega) (fun h6 => ?_) (fun h6 => ?_)
      · refine z_iload_n C dX9_letterOf_20 rfl ?_
        refine z_bipush C dX9_letterOf_21 (by decide) ?_
        refine z_iremZ C dX9_letterOf_23 (by omega) (by omega) ?_
        refine z_iret C hQ dX9_letterOf_24 rfl (by decide) (by decide) ?_
        exact ⟨rfl, rfl⟩
      · exact absurd h6 (by omega)
    | succ t ih =>
      intro k ht hk
      have rg := mLf_rng hx (3 - k).toNat
      have qq := ih (k - 1) (by omega) (by omega)
      rw [show (3 - (k - 1)).toNat = (3 - k).toNat + 1 by omega, mLf] at qq
      refine z_iload_n C dX9_letterOf_4 rfl ?_
      refine z_iload_n C dX9_letterOf_5 rfl ?_
      refine z_icmp_leZ (tgt := 20) C dX9_letterOf_6 (by decide) (by omega) (by omega) (fun h6 => ?_) (fun h6 => ?_)
      · exact absurd h6 (by omega)
      · refine z_iload_n C dX9_letterOf_9 rfl ?_
        refine z_bipush C dX9_letterOf_10 (by decide) ?_
        refine z_idivZ C dX9_letterOf_12 (by omega) (by omega) ?_
        refine z_istore_n C dX9_letterOf_13 (by decide) ?_
        refine z_iincZ C dX9_letterOf_14 rfl (by decide) ?_
        refine z_goto (tgt := 4) C dX9_letterOf_17 (by decide) ?_
        exact qq
  refine z_iload_n C dX9_letterOf_0 rfl ?_
  refine z_istore_n C dX9_letterOf_1 (by decide) ?_
  refine z_iconst C dX9_letterOf_2 ?_
  refine z_istore_n C dX9_letterOf_3 (by decide) ?_
  exact loop (3 - i).toNat 3 (by omega) (by omega)

