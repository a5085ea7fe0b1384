set_option maxHeartbeats 4000000 in
set_option maxRecDepth 100000 in
theorem k_X2_symbolsIn {l : Launch} {γ : zG} {M : zM} {a k v : Nat} {c0 : Int → Int} {x : Int} (hC : hCn γ M a k v c0) (hx : 0 ≤ x ∧ x ≤ 30000) :
    zCon l γ yX2_symbolsIn cX2_symbolsIn 2 (some .int) [.ref a, .int (zi x)] M 1 24 0 0 (fun v' M' => ∃ r : Int, v' = some (.int (zi r)) ∧ M' = M ∧ r = zsum (zind c0) x 27) (fun _ _ => False) := by
  obtain ⟨-, n, ks, vs, hC, hS, hR⟩ := hC
  have hcp := fun key h => @k_X2_placeOf l γ M a k v ks vs n key hC hS h
  have ob := hC.1
  refine zEnter [some (.ref a), some (.int (zi x))] (by decide +kernel) rfl rfl (Nat.le_of_ble_eq_true rfl) ?_
  intro p e s m args below meth c Q C hin hQ
  refine z_aload_n C dX2_symbolsIn_0 rfl ?_
  refine z_iload_n C dX2_symbolsIn_1 rfl ?_
  refine z_bipush C dX2_symbolsIn_2 (by decide) ?_
  refine z_iaddZ C dX2_symbolsIn_4 ?_
  refine z_callV C dX2_symbolsIn_5 lk_X2_28 mw_X2_placeOf mi_X2_placeOf ms_X2_placeOf rfl (by first | assumption | ((repeat (first | assumption | exact va_up_self _ _ _ | refine (va_up_ne _ _ (by assumption)).trans ?_)); done) | (simp [va_up, *] <;> rfl)) (hcp (x + 27) (by unfold zR; omega)) rfl (by first | decide | exact Nat.le_of_ble_eq_true rfl) ⟨by decide, by decide, by decide, by decide⟩ (fun _ _ h => False.elim h) (fun v M' hp => ?_)
  obtain ⟨r5, rfl, rfl, hr5⟩ := hp
  refine z_aload_n C dX2_symbolsIn_8 rfl ?_
  refine z_iload_n C dX2_symbolsIn_9 rfl ?_
  refine z_callV C dX2_symbolsIn_10 lk_X2_28 mw_X2_placeOf mi_X2_placeOf ms_X2_placeOf rfl (by first | assumption | ((repeat (first | assumption | exact va_up_self _ _ _ | refine (va_up_ne _ _ (by assumption)).trans ?_)); done) | (simp [va_up, *] <;> rfl)) (hcp x (by unfold zR; omega)) rfl (by first | decide | exact Nat.le_of_ble_eq_true rfl) ⟨by decide, by decide, by decide, by decide⟩ (fun _ _ h => False.elim h) (fun v M' hp => ?_)
  obtain ⟨r10, rfl, rfl, hr10⟩ := hp
  refine z_isubZ C dX2_symbolsIn_13 ?_
  refine z_iret C hQ dX2_symbolsIn_14 rfl (by decide) (by decide) ?_
  exact ⟨_, rfl, rfl, (hr10.ind hS hR (t := 27) hr5).2.symm⟩
set_option maxHeartbeats 4000000 in
set_option maxRecDepth 100000 in
theorem k_X2_sumIn {l : Launch} {γ : zG} {M : zM} {a k v : Nat} {c0 : Int → Int} {x : Int} (hC : hCn γ M a k v c0) (hx : 0 ≤ x ∧ x ≤ 30000) :
    zCon l γ yX2_sumIn cX2_sumIn 4 (some .int) [.ref a, .int (zi x)] M 1 24 0 0 (fun v' M' => ∃ r : Int, v' = some (.int (zi r)) ∧ M' = M ∧ r = zsum c0 x 27) (fun _ _ => False) := by
  obtain ⟨-, n, ks, vs, hC, hS, hR⟩ := hC
  have hcp := fun key h => @k_X2_placeOf l γ M a k v ks vs n key hC hS h
  obtain ⟨hC, hK, hV⟩ := hC
  obtain ⟨hn, hks, hvs, hsort⟩ := id hS
  refine zEnter [some (.ref a), some (.int (zi x)), none, none] (by decide +kernel) rfl rfl (Nat.le_of_ble_eq_true rfl) ?_
  intro p e s m args below meth c Q C hin hQ
  have loop : ∀ (t : Nat) (P i : Int), hPl ks n x P → (P ≤ i ∧ i ≤ n) → n - i = t → (∀ j : Nat, j < i → ks j < x + 27) → zAW p l e { frames := 1, cells := 0, slots := 0, locals := 24 } s m args below meth c γ 4 Q M 0 0 8 [some (.ref a), some (.int (zi x)), some (.int (zi (zsn (fun j => c0 (ks (P.toNat + j))) (i - P).toNat))), some (.int (zi i))] [] := by
    intro t
    induction t with
    | zero =>
      intro P i hP hi ht hj
      have := hP.1
      refine z_iload_n C dX2_sumIn_8 rfl ?_
      refine z_aload_n C dX2_sumIn_9 rfl ?_
      refine z_get C dX2_sumIn_10 fl_X2_18 (by first | assumption | ((repeat (first | assumption | exact va_up_self _ _ _ | refine (va_up_ne _ _ (by assumption)).trans ?_)); done) | (simp [va_up, *] <;> rfl)) rfl ?_
      refine z_icmp_geZ (tgt := 44) C dX2_sumIn_13 (by decide) (by omega) (by omega) (fun h13 => ?_) (fun h13 => ?_)
      · refine z_iload_n C dX2_sumIn_44 rfl ?_
        refine z_iret C hQ dX2_sumIn_45 rfl (by decide) (by decide) ?_
        refine ⟨_, rfl, rfl, ((hP.cnt hS hR (t := 27) (r' := i) ⟨by omega, by omega, hj, fun j h1 h2 => by omega⟩ fun k h => h).2).symm⟩
      · exact absurd h13 (by omega)
    | succ t ih =>
      intro P i hP hi ht hj
      have := hP.1
      have hsj := fun (j : Nat) (h1 : i.toNat < j) (h2 : j < n) => hsort i.toNat j h1 h2
      refine z_iload_n C dX2_sumIn_8 rfl ?_
      refine z_aload_n C dX2_sumIn_9 rfl ?_
      refine z_get C dX2_sumIn_10 fl_X2_18 (by first | assumption | ((repeat (first | assumption | exact va_up_self _ _ _ | refine (va_up_ne _ _ (by assumption)).trans ?_)); done) | (simp [va_up, *] <;> rfl)) rfl ?_
      refine z_icmp_geZ (tgt := 44) C dX2_sumIn_13 (by decide) (by omega) (by omega) (fun h13 => ?_) (fun h13 => ?_)
      · exact absurd h13 (by omega)
      · refine z_aload_n C dX2_sumIn_16 rfl ?_
        refine z_get C dX2_sumIn_17 fl_X2_9 (by first | assumption | ((repeat (first | assumption | exact va_up_self _ _ _ | refine (va_up_ne _ _ (by assumption)).trans ?_)); done) | (simp [va_up, *] <;> rfl)) rfl ?_
        refine z_iload_n C dX2_sumIn_20 rfl ?_
        refine z_aldN C dX2_sumIn_21 (by first | assumption | ((repeat (first | assumption | exact va_up_self _ _ _ | refine (va_up_ne _ _ (by assumption)).trans ?_)); done) | (simp [va_up, *] <;> rfl)) (by omega) (by omega) (by assumption) (fun hr21 => ?_)
        refine z_iload_n C dX2_sumIn_22 rfl ?_
        refine z_bipush C dX2_sumIn_23 (by decide) ?_
        refine z_iaddZ C dX2_sumIn_25 ?_
        refine z_icmp_geZ (tgt := 44) C dX2_sumIn_26 (by decide) (by omega) (by omega) (fun h26 => ?_) (fun h26 => ?_)
        · refine z_iload_n C dX2_sumIn_44 rfl ?_
          refine z_iret C hQ dX2_sumIn_45 rfl (by decide) (by decide) ?_
          refine ⟨_, rfl, rfl, ((hP.cnt hS hR (t := 27) (r' := i) ⟨by omega, by omega, hj, fun j h1 h2 => ?_⟩ fun k h => h).2).symm⟩
          by_cases e : j = i.toNat
          · subst e; omega
          · have := hsj j (by omega) h2
            omega
        · refine z_iload_n C dX2_sumIn_29 rfl ?_
          refine z_aload_n C dX2_sumIn_30 rfl ?_
          refine z_get C dX2_sumIn_31 fl_X2_15 (by first | assumption | ((repeat (first | assumption | exact va_up_self _ _ _ | refine (va_up_ne _ _ (by assumption)).trans ?_)); done) | (simp [va_up, *] <;> rfl)) rfl ?_
          refine z_iload_n C dX2_sumIn_34 rfl ?_
          refine z_aldN C dX2_sumIn_35 (by first | assumption | ((repeat (first | assumption | exact va_up_self _ _ _ | refine (va_up_ne _ _ (by assumption)).trans ?_)); done) | (simp [va_up, *] <;> rfl)) (by omega) (by omega) (by assumption) (fun hr35 => ?_)
          refine z_iaddZ C dX2_sumIn_36 ?_
          refine z_istore_n C dX2_sumIn_37 (by decide) ?_
          refine z_iincZ C dX2_sumIn_38 rfl (by decide) ?_
          refine z_goto (tgt := 8) C dX2_sumIn_41 (by decide) ?_
          rw [show vs i.toNat = c0 (ks (P.toNat + (i - P).toNat)) by rw [show P.toNat + (i - P).toNat = i.toNat by omega]; exact (hR.1 i.toNat (by omega)).2.2.symm]
          have e := ih P (i + 1) hP (by omega) (by omega) (fun j h1 => ?_)
          · rw [show (i + 1 - P).toNat = (i - P).toNat + 1 by omega] at e
            exact e
          · by_cases e : j = i.toNat
            · subst e; omega
            · exact hj j (by omega)
  refine z_iconst C dX2_sumIn_0 ?_
  refine z_istore_n C dX2_sumIn_1 (by decide) ?_
  refine z_aload_n C dX2_sumIn_2 rfl ?_
  refine z_iload_n C dX2_sumIn_3 rfl ?_
  refine z_callV C dX2_sumIn_4 lk_X2_28 mw_X2_placeOf mi_X2_placeOf ms_X2_placeOf rfl (by first | assumption | ((repeat (first | assumption | exact va_up_self _ _ _ | refine (va_up_ne _ _ (by assumption)).trans ?_)); done) | (simp [va_up, *] <;> rfl)) (hcp x (by unfold zR; omega)) rfl (by first | decide | exact Nat.le_of_ble_eq_true rfl) ⟨by decide, by decide, by decide, by decide⟩ (fun _ _ h => False.elim h) (fun v M' hp => ?_)
  obtain ⟨r, rfl, rfl, hp2⟩ := hp
  have hp3 := hp2.1
  have hp4 := hp2.2.1
  refine z_istore_n C dX2_sumIn_7 (by decide) ?_
  have e := loop (n - r).toNat r r hp2 (by omega) (by omega) (fun j h1 => by have := hp2.2.2.1 j h1; omega)
  rw [show (r - r).toNat = 0 by omega] at e
  exact e
/-- the greatest count -/
def zGr (c : Int → Int) (r : Int) : Prop := 0 ≤ r ∧ (∀ k, c k ≤ r) ∧ (r = 0 ∨ ∃ k, c k = r)
theorem zGr.uq {c : Int → Int} {r r' : Int} (h : zGr c r) (h' : zGr c r') : r = r' := by
  obtain ⟨h1, h2, h3⟩ := h
  obtain ⟨q1, q2, q3⟩ := h'
  rcases h3 with rfl | ⟨k, rfl⟩
  · rcases q3 with rfl | ⟨k, rfl⟩
    · rfl
    · have := h2 k; omega
  · rcases q3 with rfl | ⟨k', rfl⟩
    · have := q2 k; omega
    · have := h2 k'; have := q2 k; omega
