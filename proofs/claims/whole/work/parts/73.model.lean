/-! the model ranks: appending, the best of an order -/
def mKp (K : List Nat) (F F' : Nat → Int) : Prop := ∀ j, j ∉ K → F' j = F j
theorem mKp.rf {K : List Nat} {F : Nat → Int} : mKp K F F := fun _ _ => rfl
theorem mKp.up {K : List Nat} {F F1 : Nat → Int} (h : mKp K F F1) {i : Nat} {x : Int} (hi : K.contains i = true) : mKp K F (va_up F1 i x) := fun j hj => by
  rw [va_up_ne _ _ (fun e => hj (by subst e; simpa using hi))]
  exact h j hj
theorem mKp.tr {K K1 K2 : List Nat} {F F1 F2 : Nat → Int} (h1 : mKp K1 F F1) (h2 : mKp K2 F1 F2) (s : K1.all (fun i => K.contains i) = true ∧ K2.all (fun i => K.contains i) = true) : mKp K F F2 := fun j hj => by
  have aux : ∀ {K1 : List Nat}, K1.all (fun i => K.contains i) = true → j ∉ K1 := fun h w => hj (by simpa using List.all_eq_true.mp h j w)
  exact (h2 j (aux s.2)).trans (h1 j (aux s.1))
set_option maxHeartbeats 4000000 in
set_option maxRecDepth 100000 in
theorem k_X9_append {l : Launch} {γ : zG} {M : zM} {A : Nat → Nat} {F : Nat → Int} {f h : Nat → Int} {n s0 : Int} (hA : mIA A) (hO : M (A 0) = some (mOb A F)) (hn : F 13 = n) (hn2 : 0 ≤ n ∧ n < 27) (hs : 0 ≤ s0 ∧ s0 < 27) (hF : M (A 8) = some (zar γ 27 f)) (hf : ∀ j, zR (f j)) (hH : M (A 9) = some (zar γ 27 h)) (hh : ∀ j, zR (h j)) :
    zCon l γ yX9_append cX9_append 2 none [.ref (A 0), .int (zi s0)] M 0 0 0 0 (fun v' M' => v' = none ∧ mF A M M' [0, 8, 9] ∧ M' (A 0) = some (mOb A (va_up F 13 (n + 1))) ∧ M' (A 8) = some (zar γ 27 (va_up f n.toNat s0)) ∧ (∀ j, zR (va_up f n.toNat s0 j)) ∧ M' (A 9) = some (zar γ 27 (va_up h s0.toNat (n + 1))) ∧ ∀ j, zR (va_up h s0.toNat (n + 1) j)) (fun _ _ => False) := by
  refine zEnter [some (.ref (A 0)), some (.int (zi s0))] (by decide +kernel) rfl rfl (Nat.le_of_ble_eq_true rfl) ?_
  intro p e s m args below meth c Q C hin hQ
  refine z_aload_n C dX9_append_0 rfl ?_
  refine z_get C dX9_append_1 fl_X9_33 (by first | assumption | ((repeat (first | assumption | exact va_up_self _ _ _ | refine (va_up_ne _ _ (by first | assumption | exact hA.ne (by decide) | exact hA.ne (by omega))).trans ?_)); done)) rfl ?_
  refine z_aload_n C dX9_append_4 rfl ?_
  refine z_getM C dX9_append_5 fl_X9_132 (by first | assumption | ((repeat (first | assumption | exact va_up_self _ _ _ | refine (va_up_ne _ _ (by first | assumption | exact hA.ne (by decide) | exact hA.ne (by omega))).trans ?_)); done)) rfl (by first | assumption | ((repeat (first | assumption | exact va_up_self _ _ _ | exact rfl | refine (va_up_ne _ _ (by decide)).trans ?_)); done)) ?_
  refine z_iload_n C dX9_append_8 rfl ?_
  refine z_astN C dX9_append_9 (by first | assumption | ((repeat (first | assumption | exact va_up_self _ _ _ | refine (va_up_ne _ _ (by first | assumption | exact hA.ne (by decide) | exact hA.ne (by omega))).trans ?_)); done)) (by omega) (by omega) (by assumption) (by omega) (fun hr9 => ?_)
  refine z_aload_n C dX9_append_10 rfl ?_
  refine z_dup C dX9_append_11 rfl ?_
  refine z_getM C dX9_append_12 fl_X9_132 (by first | assumption | ((repeat (first | assumption | exact va_up_self _ _ _ | refine (va_up_ne _ _ (by first | assumption | exact hA.ne (by decide) | exact hA.ne (by omega))).trans ?_)); done)) rfl (by first | assumption | ((repeat (first | assumption | exact va_up_self _ _ _ | exact rfl | refine (va_up_ne _ _ (by decide)).trans ?_)); done)) ?_
  refine z_iconst C dX9_append_15 ?_
  refine z_iaddZ C dX9_append_16 ?_
  refine z_putM C dX9_append_17 fl_X9_132 (by first | assumption | ((repeat (first | assumption | exact va_up_self _ _ _ | refine (va_up_ne _ _ (by first | assumption | exact hA.ne (by decide) | exact hA.ne (by omega))).trans ?_)); done)) rfl ?_
  refine z_aload_n C dX9_append_20 rfl ?_
  refine z_get C dX9_append_21 fl_X9_36 (by first | assumption | ((repeat (first | assumption | exact va_up_self _ _ _ | refine (va_up_ne _ _ (by first | assumption | exact hA.ne (by decide) | exact hA.ne (by omega))).trans ?_)); done)) rfl ?_
  refine z_iload_n C dX9_append_24 rfl ?_
  refine z_aload_n C dX9_append_25 rfl ?_
  refine z_getM C dX9_append_26 fl_X9_132 (by first | assumption | ((repeat (first | assumption | exact va_up_self _ _ _ | refine (va_up_ne _ _ (by first | assumption | exact hA.ne (by decide) | exact hA.ne (by omega))).trans ?_)); done)) rfl (by first | assumption | ((repeat (first | assumption | exact va_up_self _ _ _ | exact rfl | refine (va_up_ne _ _ (by decide)).trans ?_)); done)) ?_
  refine z_astN C dX9_append_29 (by first | assumption | ((repeat (first | assumption | exact va_up_self _ _ _ | refine (va_up_ne _ _ (by first | assumption | exact hA.ne (by decide) | exact hA.ne (by omega))).trans ?_)); done)) (by omega) (by omega) (by assumption) (by omega) (fun hr29 => ?_)
  refine z_vret C hQ dX9_append_30 (by decide) (by decide) ?_
  refine ⟨rfl, ((mF.rf.up rfl).up rfl).up rfl, ?_, ?_, hr9, va_up_self _ _ _, hr29⟩
  · rw [va_up_ne _ _ (hA.ne (by decide))]
    exact va_up_self _ _ _
  · rw [va_up_ne _ _ (hA.ne (by decide)), va_up_ne _ _ (hA.ne (by decide))]
    exact va_up_self _ _ _
def mbs (c7 h : Nat → Int) (o : Int) : Nat → Int
  | 0 => -1
  | t + 1 => if 0 < c7 (27 * o + t).toNat ∧ h t = 0 ∧ (mbs c7 h o t = -1 ∨ c7 (27 * o + mbs c7 h o t).toNat < c7 (27 * o + t).toNat) then t else mbs c7 h o t
theorem mbs_rng (c7 h : Nat → Int) (o : Int) : ∀ t : Nat, -1 ≤ mbs c7 h o t ∧ mbs c7 h o t < t
  | 0 => by
    unfold mbs
    omega
  | t + 1 => by
    have := mbs_rng c7 h o t
    unfold mbs
    split <;> omega
theorem mbs_sp (c7 h : Nat → Int) (o : Int) : ∀ t : Nat, (mbs c7 h o t = -1 ∧ ∀ s : Nat, s < t → ¬ (0 < c7 (27 * o + s).toNat ∧ h s = 0)) ∨ (0 ≤ mbs c7 h o t ∧ 0 < c7 (27 * o + mbs c7 h o t).toNat ∧ h (mbs c7 h o t).toNat = 0 ∧ ∀ s : Nat, s < t → 0 < c7 (27 * o + s).toNat → h s = 0 → c7 (27 * o + s).toNat < c7 (27 * o + mbs c7 h o t).toNat ∨ (c7 (27 * o + s).toNat = c7 (27 * o + mbs c7 h o t).toNat ∧ mbs c7 h o t ≤ s))
  | 0 => .inl ⟨rfl, fun s hs => by omega⟩
  | t + 1 => by
    have ih := mbs_sp c7 h o t
    have rg := mbs_rng c7 h o t
    unfold mbs
    split
    · rename_i q
      right
      refine ⟨by omega, q.1, q.2.1, fun s s1 s2 s3 => ?_⟩
      by_cases e : s = t
      · subst e
        exact .inr ⟨rfl, by omega⟩
      · rcases ih with ⟨i1, i2⟩ | ⟨i1, i2, i3, i4⟩
        · exact absurd ⟨s2, s3⟩ (i2 s (by omega))
        · have := i4 s (by omega) s2 s3
          have := q.2.2
          left
          omega
    · rename_i q
      rcases ih with ⟨i1, i2⟩ | ⟨i1, i2, i3, i4⟩
      · left
        refine ⟨i1, fun s hs w => ?_⟩
        by_cases e : s = t
        · subst e
          exact q ⟨w.1, w.2, .inl i1⟩
        · exact i2 s (by omega) w
      · right
        refine ⟨i1, i2, i3, fun s s1 s2 s3 => ?_⟩
        by_cases e : s = t
        · subst e
          have : ¬ c7 (27 * o + mbs c7 h o s).toNat < c7 (27 * o + s).toNat := fun w => q ⟨s2, s3, .inr w⟩
          omega
        · exact i4 s (by omega) s2 s3
set_option maxHeartbeats 4000000 in
set_option maxRecDepth 100000 in
theorem k_X9_bestOf {l : Launch} {γ : zG} {M : zM} {A : Nat → Nat} {F : Nat → Int} {c7 h : Nat → Int} {o : Int} (hA : mIA A) (hO : M (A 0) = some (mOb A F)) (ho : 0 ≤ o ∧ o ≤ 2) (hC : M (A 7) = some (zar γ 81 c7)) (hc : ∀ j, zR (c7 j)) (hH : M (A 9) = some (zar γ 27 h)) (hh : ∀ j, zR (h j)) :
    zCon l γ yX9_bestOf cX9_bestOf 5 (some .int) [.ref (A 0), .int (zi o)] M 0 0 0 0 (fun v' M' => v' = some (.int (zi (mbs c7 h o 27))) ∧ M' = M) (fun _ _ => False) := by
  refine zEnter [some (.ref (A 0)), some (.int (zi o)), none, none, none] (by decide +kernel) rfl rfl (Nat.le_of_ble_eq_true rfl) ?_
  intro p e s m args below meth c Q C hin hQ
  have loop : ∀ (t : Nat) (i : Int) (x4 : Option Value), 27 - i = t → 0 ≤ i ∧ i ≤ 27 → zAW p l e { frames := 0, cells := 0, slots := 0, locals := 0 } s m args below meth c γ 5 Q M 0 0 4 [some (.ref (A 0)), some (.int (zi o)), some (.int (zi (mbs c7 h o i.toNat))), some (.int (zi i)), x4] [] := by
    intro t
    induction t with
    | zero =>
      intro i x4 ht hi
      obtain rfl : i = 27 := by omega
      refine z_iload_n C dX9_bestOf_4 rfl ?_
      refine z_bipush C dX9_bestOf_5 (by decide) ?_
      refine z_icmp_geZ (tgt := 66) C dX9_bestOf_7 (by decide) (by omega) (by omega) (fun h7 => ?_) (fun h7 => ?_)
      · refine z_iload_n C dX9_bestOf_66 rfl ?_
        refine z_iret C hQ dX9_bestOf_67 rfl (by decide) (by decide) ?_
        exact ⟨rfl, rfl⟩
      · exact absurd h7 (by omega)
    | succ t ih =>
      intro i x4 ht hi
      have rg := mbs_rng c7 h o i.toNat
      have qq := fun x4 => ih (i + 1) x4 (by omega) (by omega)
      rw [show (i + 1).toNat = i.toNat + 1 by omega, mbs, show ((i.toNat : Nat) : Int) = i by omega] at qq
      have rq := hc (27 * o + mbs c7 h o i.toNat).toNat
      unfold zR at rq
      refine z_iload_n C dX9_bestOf_4 rfl ?_
      refine z_bipush C dX9_bestOf_5 (by decide) ?_
      refine z_icmp_geZ (tgt := 66) C dX9_bestOf_7 (by decide) (by omega) (by omega) (fun h7 => ?_) (fun h7 => ?_)
      · exact absurd h7 (by omega)
      · refine z_aload_n C dX9_bestOf_10 rfl ?_
        refine z_get C dX9_bestOf_11 fl_X9_30 (by first | assumption | ((repeat (first | assumption | exact va_up_self _ _ _ | refine (va_up_ne _ _ (by first | assumption | exact hA.ne (by decide) | exact hA.ne (by omega))).trans ?_)); done)) rfl ?_
        refine z_bipush C dX9_bestOf_14 (by decide) ?_
        refine z_iload_n C dX9_bestOf_16 rfl ?_
        refine z_imulZ C dX9_bestOf_17 ?_
        refine z_iload_n C dX9_bestOf_18 rfl ?_
        refine z_iaddZ C dX9_bestOf_19 ?_
        refine z_aldN C dX9_bestOf_20 (by first | assumption | ((repeat (first | assumption | exact va_up_self _ _ _ | refine (va_up_ne _ _ (by first | assumption | exact hA.ne (by decide) | exact hA.ne (by omega))).trans ?_)); done)) (by omega) (by omega) (by assumption) (fun hr20 => ?_)
        refine z_istore C dX9_bestOf_21 (by decide) ?_
        refine z_iload C dX9_bestOf_23 rfl ?_
        refine z_if_leZ (tgt := 60) C dX9_bestOf_25 (by decide) (by omega) (fun h25 => ?_) (fun h25 => ?_)
        · refine z_iincZ C dX9_bestOf_60 rfl (by decide) ?_
          refine z_goto (tgt := 4) C dX9_bestOf_63 (by decide) ?_
          rw [if_neg (by omega)] at qq
          exact qq _
        · refine z_aload_n C dX9_bestOf_28 rfl ?_
          refine z_get C dX9_bestOf_29 fl_X9_36 (by first | assumption | ((repeat (first | assumption | exact va_up_self _ _ _ | refine (va_up_ne _ _ (by first | assumption | exact hA.ne (by decide) | exact hA.ne (by omega))).trans ?_)); done)) rfl ?_
          refine z_iload_n C dX9_bestOf_32 rfl ?_
          refine z_aldN C dX9_bestOf_33 (by first | assumption | ((repeat (first | assumption | exact va_up_self _ _ _ | refine (va_up_ne _ _ (by first | assumption | exact hA.ne (by decide) | exact hA.ne (by omega))).trans ?_)); done)) (by omega) (by omega) (by assumption) (fun hr33 => ?_)
          refine z_if_neZ (tgt := 60) C dX9_bestOf_34 (by decide) (by omega) (fun h34 => ?_) (fun h34 => ?_)
          · refine z_iincZ C dX9_bestOf_60 rfl (by decide) ?_
            refine z_goto (tgt := 4) C dX9_bestOf_63 (by decide) ?_
            rw [if_neg (by omega)] at qq
            exact qq _
          · refine z_iload_n C dX9_bestOf_37 rfl ?_
            refine z_iconst C dX9_bestOf_38 ?_
            refine z_icmp_eqZ (tgt := 58) C dX9_bestOf_39 (by decide) (by omega) (by omega) (fun h39 => ?_) (fun h39 => ?_)
            · refine z_iload_n C dX9_bestOf_58 rfl ?_
              refine z_istore_n C dX9_bestOf_59 (by decide) ?_
              refine z_iincZ C dX9_bestOf_60 rfl (by decide) ?_
              refine z_goto (tgt := 4) C dX9_bestOf_63 (by decide) ?_
              rw [if_pos (by omega)] at qq
              exact qq _
            · refine z_iload C dX9_bestOf_42 rfl ?_
              refine z_aload_n C dX9_bestOf_44 rfl ?_
              refine z_get C dX9_bestOf_45 fl_X9_30 (by first | assumption | ((repeat (first | assumption | exact va_up_self _ _ _ | refine (va_up_ne _ _ (by first | assumption | exact hA.ne (by decide) | exact hA.ne (by omega))).trans ?_)); done)) rfl ?_
              refine z_bipush C dX9_bestOf_48 (by decide) ?_
              refine z_iload_n C dX9_bestOf_50 rfl ?_
              refine z_imulZ C dX9_bestOf_51 ?_
              refine z_iload_n C dX9_bestOf_52 rfl ?_
              refine z_iaddZ C dX9_bestOf_53 ?_
              refine z_aldN C dX9_bestOf_54 (by first | assumption | ((repeat (first | assumption | exact va_up_self _ _ _ | refine (va_up_ne _ _ (by first | assumption | exact hA.ne (by decide) | exact hA.ne (by omega))).trans ?_)); done)) (by omega) (by omega) (by assumption) (fun hr54 => ?_)
              refine z_icmp_leZ (tgt := 60) C dX9_bestOf_55 (by decide) (by omega) (by omega) (fun h55 => ?_) (fun h55 => ?_)
              · refine z_iincZ C dX9_bestOf_60 rfl (by decide) ?_
                refine z_goto (tgt := 4) C dX9_bestOf_63 (by decide) ?_
                rw [if_neg (by omega)] at qq
                exact qq _
              · refine z_iload_n C dX9_bestOf_58 rfl ?_
                refine z_istore_n C dX9_bestOf_59 (by decide) ?_
                refine z_iincZ C dX9_bestOf_60 rfl (by decide) ?_
                refine z_goto (tgt := 4) C dX9_bestOf_63 (by decide) ?_
                rw [if_pos (by omega)] at qq
                exact qq _
  refine z_iconst C dX9_bestOf_0 ?_
  refine z_istore_n C dX9_bestOf_1 (by decide) ?_
  refine z_iconst C dX9_bestOf_2 ?_
  refine z_istore_n C dX9_bestOf_3 (by decide) ?_
  exact loop 27 0 none (by omega) (by omega)

