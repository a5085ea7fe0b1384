/-! the model's fractions: sums, factors, exclusions -/
set_option maxHeartbeats 4000000 in
set_option maxRecDepth 100000 in
theorem k_X9_sumAt {l : Launch} {γ : zG} {M : zM} {A : Nat → Nat} {F : Nat → Int} {c7 e0 : Nat → Int} {x b0 p0 : Int} {c0 : Int → Int} (hO : M (A 0) = some (mOb A F)) (hC : M (A 7) = some (zar γ 81 c7)) (hc7 : ∀ j, zR (c7 j)) (hE : M (A 10) = some (zaz γ 27 e0)) (hK : mLk c0 b0 p0 c7) (hX : mEx c0 b0 p0 (zFo b0 p0 - x) e0) (hc : zcR c0) (hx : 0 ≤ x ∧ x ≤ zFo b0 p0) :
    zCon l γ yX9_sumAt cX9_sumAt 4 (some .int) [.ref (A 0), .int (zi x)] M 1 23 0 0 (fun v' M' => v' = some (.int (zi (zxs c0 b0 p0 (zFo b0 p0 - x)))) ∧ M' = M) (fun _ _ => False) := by
  have fo := zFo_rng b0 p0
  refine zEnter [some (.ref (A 0)), some (.int (zi x)), none, none] (by decide +kernel) rfl rfl (Nat.le_of_ble_eq_true rfl) ?_
  intro p e s m args below meth c Q C hin hQ
  have loop : ∀ (t : Nat) (i : Int), 27 - i = t → 0 ≤ i ∧ i ≤ 27 → zAW p l e { frames := 1, cells := 0, slots := 0, locals := 23 } s m args below meth c γ 4 Q M 0 0 4 [some (.ref (A 0)), some (.int (zi x)), some (.int (zi (zsum (zvF c0 b0 p0 (zFo b0 p0 - x)) 0 i.toNat))), some (.int (zi i))] [] := by
    intro t
    induction t with
    | zero =>
      intro i ht hi
      obtain rfl : i = 27 := by omega
      refine z_iload_n C dX9_sumAt_4 rfl ?_
      refine z_bipush C dX9_sumAt_5 (by decide) ?_
      refine z_icmp_geZ (tgt := 43) C dX9_sumAt_7 (by decide) (by omega) (by omega) (fun h7 => ?_) (fun h7 => ?_)
      · refine z_iload_n C dX9_sumAt_43 rfl ?_
        refine z_iret C hQ dX9_sumAt_44 rfl (by decide) (by decide) ?_
        exact ⟨rfl, rfl⟩
      · exact absurd h7 (by omega)
    | succ t ih =>
      intro i ht hi
      have kx := hK (zFo b0 p0 - x) i (by omega) (by omega) hi.1 (by omega)
      rw [show zFo b0 p0 - (zFo b0 p0 - x) = x by omega] at kx
      have qq := ih (i + 1) (by omega) (by omega)
      rw [zsum_nx hi.1, zvF] at qq
      refine z_iload_n C dX9_sumAt_4 rfl ?_
      refine z_bipush C dX9_sumAt_5 (by decide) ?_
      refine z_icmp_geZ (tgt := 43) C dX9_sumAt_7 (by decide) (by omega) (by omega) (fun h7 => ?_) (fun h7 => ?_)
      · exact absurd h7 (by omega)
      · refine z_iload_n C dX9_sumAt_10 rfl ?_
        refine z_aload_n C dX9_sumAt_11 rfl ?_
        refine z_iload_n C dX9_sumAt_12 rfl ?_
        refine z_iload_n C dX9_sumAt_13 rfl ?_
        refine z_callV C dX9_sumAt_14 lk_X9_163 mw_X9_isThere mi_X9_isThere ms_X9_isThere rfl (by first | assumption | ((repeat (first | assumption | exact va_up_self _ _ _ | refine (va_up_ne _ _ (by first | assumption | exact hA.ne (by decide) | exact hA.ne (by omega))).trans ?_)); done)) (k_X9_isThere hO hC hc7 hE hK hX hc hx (s0 := i) (by omega)) rfl (by first | decide | exact Nat.le_of_ble_eq_true rfl) ⟨by decide, by decide, by decide, by decide⟩ (fun _ _ h => False.elim h) (fun v M' hp => ?_)
        obtain ⟨r14, rfl, rfl, q14⟩ := hp
        have s14 := q14.rng
        refine z_if_eqZ (tgt := 34) C dX9_sumAt_17 (by decide) (by omega) (fun h17 => ?_) (fun h17 => ?_)
        · refine z_iconst C dX9_sumAt_34 ?_
          refine z_iaddZ C dX9_sumAt_35 ?_
          refine z_istore_n C dX9_sumAt_36 (by decide) ?_
          refine z_iincZ C dX9_sumAt_37 rfl (by decide) ?_
          refine z_goto (tgt := 4) C dX9_sumAt_40 (by decide) ?_
          rw [if_neg (q14.f h17)] at qq
          exact qq
        · refine z_aload_n C dX9_sumAt_20 rfl ?_
          refine z_get C dX9_sumAt_21 fl_X9_30 (by first | assumption | ((repeat (first | assumption | exact va_up_self _ _ _ | refine (va_up_ne _ _ (by first | assumption | exact hA.ne (by decide) | exact hA.ne (by omega))).trans ?_)); done)) rfl ?_
          refine z_bipush C dX9_sumAt_24 (by decide) ?_
          refine z_iload_n C dX9_sumAt_26 rfl ?_
          refine z_imulZ C dX9_sumAt_27 ?_
          refine z_iload_n C dX9_sumAt_28 rfl ?_
          refine z_iaddZ C dX9_sumAt_29 ?_
          refine z_aldN C dX9_sumAt_30 (by first | assumption | ((repeat (first | assumption | exact va_up_self _ _ _ | refine (va_up_ne _ _ (by first | assumption | exact hA.ne (by decide) | exact hA.ne (by omega))).trans ?_)); done)) (by omega) (by omega) (by assumption) (fun hr30 => ?_)
          rw [kx]
          refine z_goto (tgt := 35) C dX9_sumAt_31 (by decide) ?_
          refine z_iaddZ C dX9_sumAt_35 ?_
          refine z_istore_n C dX9_sumAt_36 (by decide) ?_
          refine z_iincZ C dX9_sumAt_37 rfl (by decide) ?_
          refine z_goto (tgt := 4) C dX9_sumAt_40 (by decide) ?_
          rw [if_pos (q14.t h17)] at qq
          exact qq
  refine z_iconst C dX9_sumAt_0 ?_
  refine z_istore_n C dX9_sumAt_1 (by decide) ?_
  refine z_iconst C dX9_sumAt_2 ?_
  refine z_istore_n C dX9_sumAt_3 (by decide) ?_
  exact loop 27 0 (by omega) (by omega)
set_option maxHeartbeats 4000000 in
set_option maxRecDepth 100000 in
theorem k_X9_manyAt {l : Launch} {γ : zG} {M : zM} {A : Nat → Nat} {F : Nat → Int} {c7 e0 : Nat → Int} {x b0 p0 : Int} {c0 : Int → Int} (hO : M (A 0) = some (mOb A F)) (hC : M (A 7) = some (zar γ 81 c7)) (hc7 : ∀ j, zR (c7 j)) (hE : M (A 10) = some (zaz γ 27 e0)) (hK : mLk c0 b0 p0 c7) (hX : mEx c0 b0 p0 (zFo b0 p0 - x) e0) (hc : zcR c0) (hx : 0 ≤ x ∧ x ≤ zFo b0 p0) :
    zCon l γ yX9_manyAt cX9_manyAt 4 (some .int) [.ref (A 0), .int (zi x)] M 1 23 0 0 (fun v' M' => v' = some (.int (zi (zxn c0 b0 p0 (zFo b0 p0 - x)))) ∧ M' = M) (fun _ _ => False) := by
  have fo := zFo_rng b0 p0
  refine zEnter [some (.ref (A 0)), some (.int (zi x)), none, none] (by decide +kernel) rfl rfl (Nat.le_of_ble_eq_true rfl) ?_
  intro p e s m args below meth c Q C hin hQ
  have loop : ∀ (t : Nat) (i : Int), 27 - i = t → 0 ≤ i ∧ i ≤ 27 → zAW p l e { frames := 1, cells := 0, slots := 0, locals := 23 } s m args below meth c γ 4 Q M 0 0 4 [some (.ref (A 0)), some (.int (zi x)), some (.int (zi (zsum (zvG c0 b0 p0 (zFo b0 p0 - x)) 0 i.toNat))), some (.int (zi i))] [] := by
    intro t
    induction t with
    | zero =>
      intro i ht hi
      obtain rfl : i = 27 := by omega
      refine z_iload_n C dX9_manyAt_4 rfl ?_
      refine z_bipush C dX9_manyAt_5 (by decide) ?_
      refine z_icmp_geZ (tgt := 33) C dX9_manyAt_7 (by decide) (by omega) (by omega) (fun h7 => ?_) (fun h7 => ?_)
      · refine z_iload_n C dX9_manyAt_33 rfl ?_
        refine z_iret C hQ dX9_manyAt_34 rfl (by decide) (by decide) ?_
        exact ⟨rfl, rfl⟩
      · exact absurd h7 (by omega)
    | succ t ih =>
      intro i ht hi
      have qq := ih (i + 1) (by omega) (by omega)
      rw [zsum_nx hi.1, zvG] at qq
      refine z_iload_n C dX9_manyAt_4 rfl ?_
      refine z_bipush C dX9_manyAt_5 (by decide) ?_
      refine z_icmp_geZ (tgt := 33) C dX9_manyAt_7 (by decide) (by omega) (by omega) (fun h7 => ?_) (fun h7 => ?_)
      · exact absurd h7 (by omega)
      · refine z_iload_n C dX9_manyAt_10 rfl ?_
        refine z_aload_n C dX9_manyAt_11 rfl ?_
        refine z_iload_n C dX9_manyAt_12 rfl ?_
        refine z_iload_n C dX9_manyAt_13 rfl ?_
        refine z_callV C dX9_manyAt_14 lk_X9_163 mw_X9_isThere mi_X9_isThere ms_X9_isThere rfl (by first | assumption | ((repeat (first | assumption | exact va_up_self _ _ _ | refine (va_up_ne _ _ (by first | assumption | exact hA.ne (by decide) | exact hA.ne (by omega))).trans ?_)); done)) (k_X9_isThere hO hC hc7 hE hK hX hc hx (s0 := i) (by omega)) rfl (by first | decide | exact Nat.le_of_ble_eq_true rfl) ⟨by decide, by decide, by decide, by decide⟩ (fun _ _ h => False.elim h) (fun v M' hp => ?_)
        obtain ⟨r14, rfl, rfl, q14⟩ := hp
        have s14 := q14.rng
        refine z_if_eqZ (tgt := 24) C dX9_manyAt_17 (by decide) (by omega) (fun h17 => ?_) (fun h17 => ?_)
        · refine z_iconst C dX9_manyAt_24 ?_
          refine z_iaddZ C dX9_manyAt_25 ?_
          refine z_istore_n C dX9_manyAt_26 (by decide) ?_
          refine z_iincZ C dX9_manyAt_27 rfl (by decide) ?_
          refine z_goto (tgt := 4) C dX9_manyAt_30 (by decide) ?_
          rw [if_neg (q14.f h17)] at qq
          exact qq
        · refine z_iconst C dX9_manyAt_20 ?_
          refine z_goto (tgt := 25) C dX9_manyAt_21 (by decide) ?_
          refine z_iaddZ C dX9_manyAt_25 ?_
          refine z_istore_n C dX9_manyAt_26 (by decide) ?_
          refine z_iincZ C dX9_manyAt_27 rfl (by decide) ?_
          refine z_goto (tgt := 4) C dX9_manyAt_30 (by decide) ?_
          rw [if_pos (q14.t h17)] at qq
          exact qq
  refine z_iconst C dX9_manyAt_0 ?_
  refine z_istore_n C dX9_manyAt_1 (by decide) ?_
  refine z_iconst C dX9_manyAt_2 ?_
  refine z_istore_n C dX9_manyAt_3 (by decide) ?_
  exact loop 27 0 (by omega) (by omega)
set_option maxHeartbeats 4000000 in
set_option maxRecDepth 100000 in
theorem k_X9_exclude {l : Launch} {γ : zG} {M : zM} {A : Nat → Nat} {F : Nat → Int} {c7 e0 : Nat → Int} {x b0 p0 : Int} {c0 : Int → Int} (hA : mIA A) (hO : M (A 0) = some (mOb A F)) (hC : M (A 7) = some (zar γ 81 c7)) (hc7 : ∀ j, zR (c7 j)) (hE : M (A 10) = some (zaz γ 27 e0)) (hK : mLk c0 b0 p0 c7) (hX : mEx c0 b0 p0 (zFo b0 p0 - x) e0) (hc : zcR c0) (hx : 0 ≤ x ∧ x ≤ zFo b0 p0) :
    zCon l γ yX9_exclude cX9_exclude 3 none [.ref (A 0), .int (zi x)] M 0 0 0 0 (fun v' M' => v' = none ∧ mF A M M' [10] ∧ ∃ e1, M' (A 10) = some (zaz γ 27 e1) ∧ mEx c0 b0 p0 (zFo b0 p0 - (x + 1)) e1) (fun _ _ => False) := by
  have fo := zFo_rng b0 p0
  refine zEnter [some (.ref (A 0)), some (.int (zi x)), none] (by decide +kernel) rfl rfl (Nat.le_of_ble_eq_true rfl) ?_
  intro p e s m args below meth c Q C hin hQ
  have loop : ∀ (t : Nat) (M1 : zM) (i : Int) (e1 : Nat → Int), 27 - i = t → 0 ≤ i ∧ i ≤ 27 → mF A M M1 [10] → M1 (A 0) = some (mOb A F) → M1 (A 7) = some (zar γ 81 c7) → M1 (A 10) = some (zaz γ 27 e1) → (∀ s : Int, i ≤ s → s < 27 → e1 s.toNat = e0 s.toNat) → (∀ s : Int, 0 ≤ s → s < i → e1 s.toNat = if zFo b0 p0 - (x + 1) < zlv c0 b0 p0 s then 1 else 0) → zAW p l e { frames := 0, cells := 0, slots := 0, locals := 0 } s m args below meth c γ 3 Q M1 0 0 2 [some (.ref (A 0)), some (.int (zi x)), some (.int (zi i))] [] := by
    intro t
    induction t with
    | zero =>
      intro M1 i e1 ht hi hf hO1 hC1 hE1 ha hb
      obtain rfl : i = 27 := by omega
      refine z_iload_n C dX9_exclude_2 rfl ?_
      refine z_bipush C dX9_exclude_3 (by decide) ?_
      refine z_icmp_geZ (tgt := 48) C dX9_exclude_5 (by decide) (by omega) (by omega) (fun h5 => ?_) (fun h5 => ?_)
      · refine z_vret C hQ dX9_exclude_48 (by decide) (by decide) ?_
        exact ⟨rfl, hf, e1, hE1, hb⟩
      · exact absurd h5 (by omega)
    | succ t ih =>
      intro M1 i e1 ht hi hf hO1 hC1 hE1 ha hb
      have kx := hK (zFo b0 p0 - x) i (by omega) (by omega) hi.1 (by omega)
      rw [show zFo b0 p0 - (zFo b0 p0 - x) = x by omega] at kx
      have nx := hX.nx hc (by omega) (s := i) (by omega)
      rw [show zFo b0 p0 - x - 1 = zFo b0 p0 - (x + 1) by omega] at nx
      have es := hX i hi.1 (by omega)
      have rs : 0 ≤ e0 i.toNat ∧ e0 i.toNat ≤ 1 := by
        rw [es]
        split <;> decide
      have rc := hc (zCs (zFo b0 p0 - x) b0 p0 + i)
      have ei := ha i (by omega) (by omega)
      have st : ∀ v : Int, v = (if zFo b0 p0 - (x + 1) < zlv c0 b0 p0 i then 1 else 0) → (∀ s : Int, i + 1 ≤ s → s < 27 → va_up e1 i.toNat v s.toNat = e0 s.toNat) ∧ ∀ s : Int, 0 ≤ s → s < i + 1 → va_up e1 i.toNat v s.toNat = if zFo b0 p0 - (x + 1) < zlv c0 b0 p0 s then 1 else 0 := fun v hv => by
        refine ⟨fun s s1 s2 => ?_, fun s s1 s2 => ?_⟩
        · rw [va_up_ne _ _ (by omega)]
          exact ha s (by omega) s2
        · by_cases w : s = i
          · subst w
            rw [va_up_self, hv]
          · rw [va_up_ne _ _ (by omega)]
            exact hb s s1 (by omega)
      have nxt : ∀ v : Int, v = (if zFo b0 p0 - (x + 1) < zlv c0 b0 p0 i then 1 else 0) → zAW p l e { frames := 0, cells := 0, slots := 0, locals := 0 } s m args below meth c γ 3 Q (va_up M1 (A 10) (some (zaz γ 27 (va_up e1 i.toNat v)))) 0 0 2 [some (.ref (A 0)), some (.int (zi x)), some (.int (zi (i + 1)))] [] := fun v hv => ih _ (i + 1) _ (by omega) (by omega) (hf.up rfl) (by rw [va_up_ne _ _ (hA.ne (by decide))]; exact hO1) (by rw [va_up_ne _ _ (hA.ne (by decide))]; exact hC1) (va_up_self _ _ _) (st v hv).1 (st v hv).2
      refine z_iload_n C dX9_exclude_2 rfl ?_
      refine z_bipush C dX9_exclude_3 (by decide) ?_
      refine z_icmp_geZ (tgt := 48) C dX9_exclude_5 (by decide) (by omega) (by omega) (fun h5 => ?_) (fun h5 => ?_)
      · exact absurd h5 (by omega)
      · refine z_aload_n C dX9_exclude_8 rfl ?_
        refine z_get C dX9_exclude_9 fl_X9_39 (by first | assumption | ((repeat (first | assumption | exact va_up_self _ _ _ | refine (va_up_ne _ _ (by first | assumption | exact hA.ne (by decide) | exact hA.ne (by omega))).trans ?_)); done)) rfl ?_
        refine z_iload_n C dX9_exclude_12 rfl ?_
        refine z_aload_n C dX9_exclude_13 rfl ?_
        refine z_get C dX9_exclude_14 fl_X9_39 (by first | assumption | ((repeat (first | assumption | exact va_up_self _ _ _ | refine (va_up_ne _ _ (by first | assumption | exact hA.ne (by decide) | exact hA.ne (by omega))).trans ?_)); done)) rfl ?_
        refine z_iload_n C dX9_exclude_17 rfl ?_
        refine z_aldZi C dX9_exclude_18 hE1 (by omega) (by omega) ?_
        rw [ei]
        refine z_if_neZ (tgt := 36) C dX9_exclude_19 (by decide) (by omega) (fun h19 => ?_) (fun h19 => ?_)
        · refine z_iconst C dX9_exclude_36 ?_
          refine z_goto (tgt := 41) C dX9_exclude_37 (by decide) ?_
          refine z_astZi C dX9_exclude_41 hE1 (by omega) (by omega) (by decide) ?_
          refine z_iincZ C dX9_exclude_42 rfl (by decide) ?_
          refine z_goto (tgt := 2) C dX9_exclude_45 (by decide) ?_
          exact nxt 1 (by rw [if_pos (nx.mp (by omega))])
        · refine z_aload_n C dX9_exclude_22 rfl ?_
          refine z_get C dX9_exclude_23 fl_X9_30 (by first | assumption | ((repeat (first | assumption | exact va_up_self _ _ _ | refine (va_up_ne _ _ (by first | assumption | exact hA.ne (by decide) | exact hA.ne (by omega))).trans ?_)); done)) rfl ?_
          refine z_bipush C dX9_exclude_26 (by decide) ?_
          refine z_iload_n C dX9_exclude_28 rfl ?_
          refine z_imulZ C dX9_exclude_29 ?_
          refine z_iload_n C dX9_exclude_30 rfl ?_
          refine z_iaddZ C dX9_exclude_31 ?_
          refine z_aldN C dX9_exclude_32 (by first | assumption | ((repeat (first | assumption | exact va_up_self _ _ _ | refine (va_up_ne _ _ (by first | assumption | exact hA.ne (by decide) | exact hA.ne (by omega))).trans ?_)); done)) (by omega) (by omega) (by assumption) (fun hr32 => ?_)
          rw [kx]
          refine z_if_leZ (tgt := 40) C dX9_exclude_33 (by decide) (by omega) (fun h33 => ?_) (fun h33 => ?_)
          · refine z_iconst C dX9_exclude_40 ?_
            refine z_astZi C dX9_exclude_41 hE1 (by omega) (by omega) (by decide) ?_
            refine z_iincZ C dX9_exclude_42 rfl (by decide) ?_
            refine z_goto (tgt := 2) C dX9_exclude_45 (by decide) ?_
            exact nxt 0 (by rw [if_neg (fun w => by have := nx.mpr w; omega)])
          · refine z_iconst C dX9_exclude_36 ?_
            refine z_goto (tgt := 41) C dX9_exclude_37 (by decide) ?_
            refine z_astZi C dX9_exclude_41 hE1 (by omega) (by omega) (by decide) ?_
            refine z_iincZ C dX9_exclude_42 rfl (by decide) ?_
            refine z_goto (tgt := 2) C dX9_exclude_45 (by decide) ?_
            exact nxt 1 (by rw [if_pos (nx.mp (by omega))])
  refine z_iconst C dX9_exclude_0 ?_
  refine z_istore_n C dX9_exclude_1 (by decide) ?_
  exact loop 27 M 0 e0 (by omega) (by omega) mF.rf hO hC hE (fun _ _ _ => rfl) (fun s s1 s2 => by omega)
set_option maxHeartbeats 4000000 in
set_option maxRecDepth 100000 in
theorem k_X9_factor {l : Launch} {γ : zG} {M : zM} {A : Nat → Nat} {F : Nat → Int} {T B E t0 b0 me nn sm d : Int} (hA : mIA A) (hO : M (A 0) = some (mOb A F)) (hT : F 15 = T) (hB : F 16 = B) (hE : F 17 = E) (hme : 0 ≤ me ∧ me ≤ 2) (hn : 0 ≤ nn ∧ nn ≤ 999) (hsm : 0 ≤ sm ∧ sm ≤ 30000) (hd : 0 ≤ d ∧ d ≤ 27) (et : t0 = if nn = 0 then zxf me d else zxg me nn) (eb : b0 = zxd me sm d) (h1 : 1 ≤ T * t0 ∧ T * t0 < 9007199254740992) (h2 : 1 ≤ B * b0 ∧ B * b0 < 9007199254740992) :
    zCon l γ yX9_factor cX9_factor 6 none [.ref (A 0), .int (zi me), .int (zi nn), .int (zi sm), .int (zi d)] M 2 55 0 0 (fun v' M' => v' = none ∧ mF A M M' [0] ∧ ∃ F', M' (A 0) = some (mOb A F') ∧ mKp [15, 16, 17] F F' ∧ F' 15 = T * t0 / zgd (T * t0) (B * b0) ∧ F' 16 = B * b0 / zgd (T * t0) (B * b0) ∧ F' 17 = E + (if nn = 0 then 1 else 0)) (fun _ _ => False) := by
  unfold zxf zxg at et
  unfold zxd at eb
  refine zEnter [some (.ref (A 0)), some (.int (zi me)), some (.int (zi nn)), some (.int (zi sm)), some (.int (zi d)), none] (by decide +kernel) rfl rfl (Nat.le_of_ble_eq_true rfl) ?_
  intro p e s m args below meth c Q C hin hQ
  have t11 : ∀ z : Int, z = (if nn = 0 then 1 else 0) → zAW p l e { frames := 2, cells := 0, slots := 0, locals := 55 } s m args below meth c γ 6 Q M 0 0 11 [some (.ref (A 0)), some (.int (zi me)), some (.int (zi nn)), some (.int (zi sm)), some (.int (zi d)), some (.int (zi z))] [] := by
    intro z hz
    have hz2 : 0 ≤ z ∧ z ≤ 1 := by
      rw [hz]
      split <;> decide
    have hz3 : z = 0 → nn ≠ 0 := fun w q => by rw [if_pos q] at hz; omega
    have hz4 : ¬ z = 0 → nn = 0 := fun w => by
      by_cases q : nn = 0
      · exact q
      · rw [if_neg q] at hz
        omega
    have t97 : ∀ (M1 : zM) (F1 : Nat → Int), mF A M M1 [0] → M1 (A 0) = some (mOb A F1) → mKp [15, 16] F F1 → F1 15 = T * t0 / zgd (T * t0) (B * b0) → F1 16 = B * b0 / zgd (T * t0) (B * b0) → zAW p l e { frames := 2, cells := 0, slots := 0, locals := 55 } s m args below meth c γ 6 Q M1 0 0 97 [some (.ref (A 0)), some (.int (zi me)), some (.int (zi nn)), some (.int (zi sm)), some (.int (zi d)), some (.int (zi z))] [] := by
      intro M1 F1 hf hM1 hp1 h15 h16
      have h17 : F1 17 = E := (hp1 17 (by decide)).trans hE
      have fin : ∀ v : Int, v = E + (if nn = 0 then 1 else 0) → mKp [15, 16, 17] F (va_up F1 17 v) ∧ va_up F1 17 v 15 = T * t0 / zgd (T * t0) (B * b0) ∧ va_up F1 17 v 16 = B * b0 / zgd (T * t0) (B * b0) ∧ va_up F1 17 v 17 = E + (if nn = 0 then 1 else 0) := fun v hv => by
        refine ⟨(hp1.tr (K := [15, 16, 17]) (K2 := []) mKp.rf ⟨rfl, rfl⟩).up rfl, ?_, ?_, ?_⟩
        · rw [va_up_ne _ _ (by decide)]
          exact h15
        · rw [va_up_ne _ _ (by decide)]
          exact h16
        · rw [va_up_self]
          exact hv
      refine z_aload_n C dX9_factor_97 rfl ?_
      refine z_dup C dX9_factor_98 rfl ?_
      refine z_getM C dX9_factor_99 fl_X9_173 (by first | assumption | ((repeat (first | assumption | exact va_up_self _ _ _ | refine (va_up_ne _ _ (by first | assumption | exact hA.ne (by decide) | exact hA.ne (by omega))).trans ?_)); done)) rfl (by first | assumption | ((repeat (first | assumption | exact va_up_self _ _ _ | rewrite [va_up_ne _ _ (by decide)])); (first | done | exact rfl))) ?_
      refine z_iload C dX9_factor_102 rfl ?_
      refine z_if_eqZ (tgt := 111) C dX9_factor_104 (by decide) (by omega) (fun h104 => ?_) (fun h104 => ?_)
      · refine z_iconst C dX9_factor_111 ?_
        refine z_iaddZ C dX9_factor_112 ?_
        refine z_putM C dX9_factor_113 fl_X9_173 (by first | assumption | ((repeat (first | assumption | exact va_up_self _ _ _ | refine (va_up_ne _ _ (by first | assumption | exact hA.ne (by decide) | exact hA.ne (by omega))).trans ?_)); done)) rfl ?_
        refine z_vret C hQ dX9_factor_116 (by decide) (by decide) ?_
        exact ⟨rfl, hf.up rfl, _, va_up_self _ _ _, fin _ (by rw [if_neg (hz3 h104)])⟩
      · refine z_iconst C dX9_factor_107 ?_
        refine z_goto (tgt := 112) C dX9_factor_108 (by decide) ?_
        refine z_iaddZ C dX9_factor_112 ?_
        refine z_putM C dX9_factor_113 fl_X9_173 (by first | assumption | ((repeat (first | assumption | exact va_up_self _ _ _ | refine (va_up_ne _ _ (by first | assumption | exact hA.ne (by decide) | exact hA.ne (by omega))).trans ?_)); done)) rfl ?_
        refine z_vret C hQ dX9_factor_116 (by decide) (by decide) ?_
        exact ⟨rfl, hf.up rfl, _, va_up_self _ _ _, fin _ (by rw [if_pos (hz4 h104)])⟩
    have tm : ∀ {t1 b1 : Int}, t1 = t0 → b1 = b0 → (1 ≤ T * t1 ∧ T * t1 < 9007199254740992) ∧ (1 ≤ B * b1 ∧ B * b1 < 9007199254740992) := fun e1 e2 => by
      subst e1
      subst e2
      exact ⟨h1, h2⟩
    have t31 : ∀ t1 : Int, me = 0 → t1 = t0 → zAW p l e { frames := 2, cells := 0, slots := 0, locals := 55 } s m args below meth c γ 6 Q M 0 0 27 [some (.ref (A 0)), some (.int (zi me)), some (.int (zi nn)), some (.int (zi sm)), some (.int (zi d)), some (.int (zi z))] [.long (zl t1), .ref (A 0)] := by
      intro t1 hm e1
      have e2 : sm + 1 = b0 := by rw [eb, if_pos hm]
      refine z_iload_n C dX9_factor_27 rfl ?_
      refine z_i2lZ C dX9_factor_28 (by unfold zR; omega) ?_
      refine z_lconstZ (x := 1) C dX9_factor_29 rfl ?_
      refine z_ladd C dX9_factor_30 ?_
      rw [zl_addc]
      refine z_callV C dX9_factor_31 lk_X9_167 mw_X9_times mi_X9_times ms_X9_times rfl (by first | assumption | ((repeat (first | assumption | exact va_up_self _ _ _ | refine (va_up_ne _ _ (by first | assumption | exact hA.ne (by decide) | exact hA.ne (by omega))).trans ?_)); done)) (k_X9_times hA hO hT hB (t0 := t1) (b0 := sm + 1) (tm e1 e2).1 (tm e1 e2).2) rfl (by first | decide | exact Nat.le_of_ble_eq_true rfl) ⟨by decide, by decide, by decide, by decide⟩ (fun _ _ h => False.elim h) (fun v M' hp => ?_)
      obtain ⟨rfl, a1, F1, a2, a3, a4, a5⟩ := hp
      rw [e1, e2] at a4 a5
      refine z_goto (tgt := 97) C dX9_factor_34 (by decide) ?_
      exact t97 _ F1 a1 a2 a3 a4 a5
    have t56 : ∀ t1 : Int, me = 1 → t1 = t0 → zAW p l e { frames := 2, cells := 0, slots := 0, locals := 55 } s m args below meth c γ 6 Q M 0 0 56 [some (.ref (A 0)), some (.int (zi me)), some (.int (zi nn)), some (.int (zi sm)), some (.int (zi d)), some (.int (zi z))] [.long (zl t1), .ref (A 0)] := by
      intro t1 hm e1
      have e2 : sm + d = b0 := by rw [eb, if_neg (by omega), if_pos hm]
      refine z_iload_n C dX9_factor_56 rfl ?_
      refine z_i2lZ C dX9_factor_57 (by unfold zR; omega) ?_
      refine z_iload C dX9_factor_58 rfl ?_
      refine z_i2lZ C dX9_factor_60 (by unfold zR; omega) ?_
      refine z_ladd C dX9_factor_61 ?_
      rw [zl_addc]
      refine z_callV C dX9_factor_62 lk_X9_167 mw_X9_times mi_X9_times ms_X9_times rfl (by first | assumption | ((repeat (first | assumption | exact va_up_self _ _ _ | refine (va_up_ne _ _ (by first | assumption | exact hA.ne (by decide) | exact hA.ne (by omega))).trans ?_)); done)) (k_X9_times hA hO hT hB (t0 := t1) (b0 := sm + d) (tm e1 e2).1 (tm e1 e2).2) rfl (by first | decide | exact Nat.le_of_ble_eq_true rfl) ⟨by decide, by decide, by decide, by decide⟩ (fun _ _ h => False.elim h) (fun v M' hp => ?_)
      obtain ⟨rfl, a1, F1, a2, a3, a4, a5⟩ := hp
      rw [e1, e2] at a4 a5
      refine z_goto (tgt := 97) C dX9_factor_65 (by decide) ?_
      exact t97 _ F1 a1 a2 a3 a4 a5
    have t88 : ∀ t1 : Int, me = 2 → t1 = t0 → zAW p l e { frames := 2, cells := 0, slots := 0, locals := 55 } s m args below meth c γ 6 Q M 0 0 88 [some (.ref (A 0)), some (.int (zi me)), some (.int (zi nn)), some (.int (zi sm)), some (.int (zi d)), some (.int (zi z))] [.long (zl t1), .ref (A 0)] := by
      intro t1 hm e1
      have e2 : 2 * sm = b0 := by rw [eb, if_neg (by omega), if_neg (by omega)]
      refine z_ldc2 C dX9_factor_88 t8_39 ?_
      rw [show (2 : Int64) = zl 2 by rfl]
      refine z_iload_n C dX9_factor_91 rfl ?_
      refine z_i2lZ C dX9_factor_92 (by unfold zR; omega) ?_
      refine z_lmulZ C dX9_factor_93 ?_
      refine z_callV C dX9_factor_94 lk_X9_167 mw_X9_times mi_X9_times ms_X9_times rfl (by first | assumption | ((repeat (first | assumption | exact va_up_self _ _ _ | refine (va_up_ne _ _ (by first | assumption | exact hA.ne (by decide) | exact hA.ne (by omega))).trans ?_)); done)) (k_X9_times hA hO hT hB (t0 := t1) (b0 := 2 * sm) (tm e1 e2).1 (tm e1 e2).2) rfl (by first | decide | exact Nat.le_of_ble_eq_true rfl) ⟨by decide, by decide, by decide, by decide⟩ (fun _ _ h => False.elim h) (fun v M' hp => ?_)
      obtain ⟨rfl, a1, F1, a2, a3, a4, a5⟩ := hp
      rw [e1, e2] at a4 a5
      exact t97 _ F1 a1 a2 a3 a4 a5
    refine z_iload_n C dX9_factor_11 rfl ?_
    refine z_if_neZ (tgt := 37) C dX9_factor_12 (by decide) (by omega) (fun h12 => ?_) (fun h12 => ?_)
    · refine z_iload_n C dX9_factor_37 rfl ?_
      refine z_iconst C dX9_factor_38 ?_
      refine z_icmp_neZ (tgt := 68) C dX9_factor_39 (by decide) (by omega) (by omega) (fun h39 => ?_) (fun h39 => ?_)
      · refine z_aload_n C dX9_factor_68 rfl ?_
        refine z_iload C dX9_factor_69 rfl ?_
        refine z_if_eqZ (tgt := 80) C dX9_factor_71 (by decide) (by omega) (fun h71 => ?_) (fun h71 => ?_)
        · refine z_ldc2 C dX9_factor_80 t8_39 ?_
          rw [show (2 : Int64) = zl 2 by rfl]
          refine z_iload_n C dX9_factor_83 rfl ?_
          refine z_i2lZ C dX9_factor_84 (by unfold zR; omega) ?_
          refine z_lmulZ C dX9_factor_85 ?_
          refine z_lconstZ (x := 1) C dX9_factor_86 rfl ?_
          refine z_lsub C dX9_factor_87 ?_
          rw [zl_subc]
          exact t88 _ (by omega) (by rw [et, if_neg (hz3 h71), if_pos (by omega)])
        · refine z_iload C dX9_factor_74 rfl ?_
          refine z_i2lZ C dX9_factor_76 (by unfold zR; omega) ?_
          refine z_goto (tgt := 88) C dX9_factor_77 (by decide) ?_
          exact t88 _ (by omega) (by rw [et, if_pos (hz4 h71), if_neg (by omega)])
      · refine z_aload_n C dX9_factor_42 rfl ?_
        refine z_iload C dX9_factor_43 rfl ?_
        refine z_if_eqZ (tgt := 54) C dX9_factor_45 (by decide) (by omega) (fun h45 => ?_) (fun h45 => ?_)
        · refine z_iload_n C dX9_factor_54 rfl ?_
          refine z_i2lZ C dX9_factor_55 (by unfold zR; omega) ?_
          exact t56 _ (by omega) (by rw [et, if_neg (hz3 h45), if_neg (by omega)])
        · refine z_iload C dX9_factor_48 rfl ?_
          refine z_i2lZ C dX9_factor_50 (by unfold zR; omega) ?_
          refine z_goto (tgt := 56) C dX9_factor_51 (by decide) ?_
          exact t56 _ (by omega) (by rw [et, if_pos (hz4 h45), if_neg (by omega)])
    · refine z_aload_n C dX9_factor_15 rfl ?_
      refine z_iload C dX9_factor_16 rfl ?_
      refine z_if_eqZ (tgt := 25) C dX9_factor_18 (by decide) (by omega) (fun h18 => ?_) (fun h18 => ?_)
      · refine z_iload_n C dX9_factor_25 rfl ?_
        refine z_i2lZ C dX9_factor_26 (by unfold zR; omega) ?_
        exact t31 _ h12 (by rw [et, if_neg (hz3 h18), if_neg (by omega)])
      · refine z_lconstZ (x := 1) C dX9_factor_21 rfl ?_
        refine z_goto (tgt := 27) C dX9_factor_22 (by decide) ?_
        exact t31 _ h12 (by rw [et, if_pos (hz4 h18), if_pos h12])
  refine z_iload_n C dX9_factor_0 rfl ?_
  refine z_if_neZ (tgt := 8) C dX9_factor_1 (by decide) (by omega) (fun h1 => ?_) (fun h1 => ?_)
  · refine z_iconst C dX9_factor_8 ?_
    refine z_istore C dX9_factor_9 (by decide) ?_
    exact t11 _ (by rw [if_neg (by omega)])
  · refine z_iconst C dX9_factor_4 ?_
    refine z_goto (tgt := 9) C dX9_factor_5 (by decide) ?_
    refine z_istore C dX9_factor_9 (by decide) ?_
    exact t11 _ (by rw [if_pos (by omega)])

