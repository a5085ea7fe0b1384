/-! Counts: the positive counts of a reader, sorted by key -/
/-- the cells of a Counts object: at a, its rows at k and v, n of them used -/
def hCt (γ : zG) (M : zM) (a k v : Nat) (ks vs : Nat → Int) (n : Int) : Prop := M a = some (.inr (2, [.ref k, .ref v, .int (zi n)])) ∧ M k = some (zar γ 643 ks) ∧ M v = some (zar γ 643 vs)
/-- what holds of the rows: used places, sorted keys, ranges -/
def hSo (ks vs : Nat → Int) (n : Int) : Prop := (0 ≤ n ∧ n ≤ 643) ∧ (∀ j, zR (ks j)) ∧ (∀ j, zR (vs j)) ∧ ∀ i j : Nat, i < j → j < n → ks i < ks j
/-- the place of a key -/
def hPl (ks : Nat → Int) (n key r : Int) : Prop := 0 ≤ r ∧ r ≤ n ∧ (∀ j : Nat, j < r → ks j < key) ∧ ∀ j : Nat, r ≤ j → j < n → key ≤ ks j
/-- how far the search still reaches: 2 ^ t - 1 -/
def hW : Nat → Int
  | 0 => 0
  | t + 1 => 2 * hW t + 1
theorem hW_le : ∀ t, t ≤ 10 → 0 ≤ hW t ∧ hW t ≤ 1023 := by decide
set_option maxHeartbeats 4000000 in
set_option maxRecDepth 100000 in
theorem k_X2_placeOf {l : Launch} {γ : zG} {M : zM} {a k v : Nat} {ks vs : Nat → Int} {n key : Int} (hC : hCt γ M a k v ks vs n) (hS : hSo ks vs n) (hkey : zR key) :
    zCon l γ yX2_placeOf cX2_placeOf 5 (some .int) [.ref a, .int (zi key)] M 0 0 0 0 (fun v' M' => ∃ r : Int, v' = some (.int (zi r)) ∧ M' = M ∧ hPl ks n key r) (fun _ _ => False) := by
  obtain ⟨hC, hK, -⟩ := hC
  obtain ⟨hn, hks, -, hsort⟩ := hS
  unfold zR at hkey
  refine zEnter [some (.ref a), some (.int (zi key)), none, none, none] (by decide +kernel) rfl rfl (Nat.le_of_ble_eq_true rfl) ?_
  intro p e s m args below meth c Q C hin hQ
  have loop : ∀ (t : Nat) (P : Int) (x4 : Option Value), t ≤ 10 → 0 ≤ P ∧ P ≤ n → (∀ j : Nat, j < P → ks j < key) → (∀ j : Nat, P + hW t ≤ j → j < n → key ≤ ks j) → zAW p l e { frames := 0, cells := 0, slots := 0, locals := 0 } s m args below meth c γ 5 Q M 0 0 6 [some (.ref a), some (.int (zi key)), some (.int (zi P)), some (.int (zi ((hW t + 1) / 2))), x4] [] := by
    intro t
    induction t with
    | zero =>
      intro P x4 ht hP h1 h2
      refine z_iload_n C dX2_placeOf_6 rfl ?_
      refine z_if_leZ (tgt := 48) C dX2_placeOf_7 (by decide) (by decide) (fun h7 => ?_) (fun h7 => ?_)
      · refine z_iload_n C dX2_placeOf_48 rfl ?_
        refine z_iret C hQ dX2_placeOf_49 rfl (by decide) (by decide) ?_
        exact ⟨P, rfl, rfl, hP.1, hP.2, h1, fun j hj hjn => h2 j (by simpa [hW] using hj) hjn⟩
      · exact absurd h7 (by decide)
    | succ t ih =>
      intro P x4 ht hP h1 h2
      have hw := hW_le t (by omega)
      have e1 : hW (t + 1) = 2 * hW t + 1 := rfl
      rw [e1] at h2
      rw [show (hW (t + 1) + 1) / 2 = hW t + 1 by omega]
      generalize hW t = w at *
      refine z_iload_n C dX2_placeOf_6 rfl ?_
      refine z_if_leZ (tgt := 48) C dX2_placeOf_7 (by decide) (by omega) (fun h7 => ?_) (fun h7 => ?_)
      · exact absurd h7 (by omega)
      · refine z_iload_n C dX2_placeOf_10 rfl ?_
        refine z_iload_n C dX2_placeOf_11 rfl ?_
        refine z_iaddZ C dX2_placeOf_12 ?_
        refine z_iconst C dX2_placeOf_13 ?_
        refine z_isubZ C dX2_placeOf_14 ?_
        refine z_istore C dX2_placeOf_15 (by decide) ?_
        refine z_iload C dX2_placeOf_17 rfl ?_
        refine z_aload_n C dX2_placeOf_19 rfl ?_
        refine z_get C dX2_placeOf_20 fl_X2_18 (by first | assumption | simp [va_up, *]) rfl ?_
        refine z_icmp_geZ (tgt := 41) C dX2_placeOf_23 (by decide) (by omega) (by omega) (fun h23 => ?_) (fun h23 => ?_)
        · refine z_iload_n C dX2_placeOf_41 rfl ?_
          refine z_iconst C dX2_placeOf_42 ?_
          refine z_idivZ C dX2_placeOf_43 (by omega) (by omega) ?_
          refine z_istore_n C dX2_placeOf_44 (by decide) ?_
          refine z_goto (tgt := 6) C dX2_placeOf_45 (by decide) ?_
          exact ih _ _ (by omega) hP h1 (fun j hj hjn => by omega)
        · refine z_aload_n C dX2_placeOf_26 rfl ?_
          refine z_get C dX2_placeOf_27 fl_X2_9 (by first | assumption | simp [va_up, *]) rfl ?_
          refine z_iload C dX2_placeOf_30 rfl ?_
          refine z_aldN C dX2_placeOf_32 (by first | assumption | simp [va_up, *]) (by omega) (by omega) (by assumption) (fun hr32 => ?_)
          refine z_iload_n C dX2_placeOf_33 rfl ?_
          refine z_icmp_geZ (tgt := 41) C dX2_placeOf_34 (by decide) (by omega) (by omega) (fun h34 => ?_) (fun h34 => ?_)
          · refine z_iload_n C dX2_placeOf_41 rfl ?_
            refine z_iconst C dX2_placeOf_42 ?_
            refine z_idivZ C dX2_placeOf_43 (by omega) (by omega) ?_
            refine z_istore_n C dX2_placeOf_44 (by decide) ?_
            refine z_goto (tgt := 6) C dX2_placeOf_45 (by decide) ?_
            refine ih _ _ (by omega) hP h1 (fun j hj hjn => ?_)
            by_cases hj2 : j = (P + (w + 1) - 1).toNat
            · rw [hj2]; exact h34
            · have := hsort (P + (w + 1) - 1).toNat j (by omega) hjn
              omega
          · refine z_iload_n C dX2_placeOf_37 rfl ?_
            refine z_iload_n C dX2_placeOf_38 rfl ?_
            refine z_iaddZ C dX2_placeOf_39 ?_
            refine z_istore_n C dX2_placeOf_40 (by decide) ?_
            refine z_iload_n C dX2_placeOf_41 rfl ?_
            refine z_iconst C dX2_placeOf_42 ?_
            refine z_idivZ C dX2_placeOf_43 (by omega) (by omega) ?_
            refine z_istore_n C dX2_placeOf_44 (by decide) ?_
            refine z_goto (tgt := 6) C dX2_placeOf_45 (by decide) ?_
            refine ih _ _ (by omega) (by omega) (fun j hj => ?_) (fun j hj hjn => h2 j (by omega) hjn)
            by_cases hj2 : j = (P + (w + 1) - 1).toNat
            · rw [hj2]; omega
            · have := hsort j (P + (w + 1) - 1).toNat (by omega) (by omega)
              omega
  have hw : hW 10 = 1023 := by decide
  have h0 := loop 10 0 none (by omega) (by omega) (fun j hj => by omega) (fun j hj hjn => by omega)
  rw [hw, show ((1023 : Int) + 1) / 2 = 512 by decide] at h0
  refine z_iconst C dX2_placeOf_0 ?_
  refine z_istore_n C dX2_placeOf_1 (by decide) ?_
  refine z_sipush C dX2_placeOf_2 (by decide) ?_
  refine z_istore_n C dX2_placeOf_5 (by decide) ?_
  exact h0
/-- the count of a key, as the rows have it -/
def hVal (ks vs : Nat → Int) (n key c : Int) : Prop := (∀ j : Nat, j < n → ks j = key → c = vs j) ∧ ((∀ j : Nat, j < n → ks j ≠ key) → c = 0)
set_option maxHeartbeats 4000000 in
set_option maxRecDepth 100000 in
theorem k_X2_valueOf {l : Launch} {γ : zG} {M : zM} {a k v : Nat} {ks vs : Nat → Int} {n key : Int} (hC : hCt γ M a k v ks vs n) (hS : hSo ks vs n) (hkey : zR key) :
    zCon l γ yX2_valueOf cX2_valueOf 3 (some .int) [.ref a, .int (zi key)] M 1 24 0 0 (fun v' M' => ∃ r : Int, v' = some (.int (zi r)) ∧ M' = M ∧ hVal ks vs n key r ∧ zR r) (fun _ _ => False) := by
  have hcp := @k_X2_placeOf l γ M a k v ks vs n key hC hS hkey
  obtain ⟨hC, hK, hV⟩ := hC
  obtain ⟨hn, hks, hvs, hsort⟩ := hS
  unfold zR at hkey
  refine zEnter [some (.ref a), some (.int (zi key)), none] (by decide +kernel) rfl rfl (Nat.le_of_ble_eq_true rfl) ?_
  intro p e s m args below meth c Q C hin hQ
  refine z_aload_n C dX2_valueOf_0 rfl ?_
  refine z_iload_n C dX2_valueOf_1 rfl ?_
  refine z_callV C dX2_valueOf_2 lk_X2_28 mw_X2_placeOf mi_X2_placeOf ms_X2_placeOf rfl (by first | assumption | simp [va_up, *]) hcp rfl (by decide) ⟨by decide, by decide, by decide, by decide⟩ (fun _ _ h => h.elim) (fun v M' hp => ?_)
  obtain ⟨r2, rfl, rfl, hr2⟩ := hp
  refine z_istore_n C dX2_valueOf_5 (by decide) ?_
  refine z_iload_n C dX2_valueOf_6 rfl ?_
  refine z_aload_n C dX2_valueOf_7 rfl ?_
  refine z_get C dX2_valueOf_8 fl_X2_18 (by first | assumption | simp [va_up, *]) rfl ?_
  refine z_icmp_geZ (tgt := 33) C dX2_valueOf_11 (by decide) (by omega) (by omega) (fun h11 => ?_) (fun h11 => ?_)
  · refine z_iconst C dX2_valueOf_33 ?_
    refine z_iret C hQ dX2_valueOf_34 rfl (by decide) (by decide) ?_
    sorry -- return 34
  · refine z_aload_n C dX2_valueOf_14 rfl ?_
    refine z_get C dX2_valueOf_15 fl_X2_9 (by first | assumption | simp [va_up, *]) rfl ?_
    refine z_iload_n C dX2_valueOf_18 rfl ?_
    refine z_aldN C dX2_valueOf_19 (by first | assumption | simp [va_up, *]) (by omega) (by omega) (by assumption) (fun hr19 => ?_)
    refine z_iload_n C dX2_valueOf_20 rfl ?_
    refine z_icmp_neZ (tgt := 33) C dX2_valueOf_21 (by decide) (by omega) (by omega) (fun h21 => ?_) (fun h21 => ?_)
    · refine z_iconst C dX2_valueOf_33 ?_
      refine z_iret C hQ dX2_valueOf_34 rfl (by decide) (by decide) ?_
      sorry -- return 34
    · refine z_aload_n C dX2_valueOf_24 rfl ?_
      refine z_get C dX2_valueOf_25 fl_X2_15 (by first | assumption | simp [va_up, *]) rfl ?_
      refine z_iload_n C dX2_valueOf_28 rfl ?_
      refine z_aldN C dX2_valueOf_29 (by first | assumption | simp [va_up, *]) (by omega) (by omega) (by assumption) (fun hr29 => ?_)
      refine z_goto (tgt := 34) C dX2_valueOf_30 (by decide) ?_
      refine z_iret C hQ dX2_valueOf_34 rfl (by decide) (by decide) ?_
      sorry -- return 34

