/-! the model's constructor -/
theorem nd_inj : ∀ (L : List Nat), L.Nodup → ∀ i j, i < L.length → j < L.length → L.getD i 0 = L.getD j 0 → i = j
  | [], _, i, j, hi, _, _ => absurd hi (by simp)
  | b :: L, h, i, j, hi, hj, q => by
    have hm : ∀ k, k < L.length → L.getD k 0 ∈ L := fun k hk => by
      rw [List.getD_eq_getElem?_getD, List.getElem?_eq_getElem hk]
      exact List.getElem_mem hk
    obtain ⟨h1, h2⟩ := List.nodup_cons.mp h
    cases i with
    | zero =>
      cases j with
      | zero => rfl
      | succ j => exact absurd (by rw [show b = L.getD j 0 from q]; exact hm j (Nat.lt_of_succ_lt_succ hj)) h1
    | succ i =>
      cases j with
      | zero => exact absurd (by rw [show b = L.getD i 0 from q.symm]; exact hm i (Nat.lt_of_succ_lt_succ hi)) h1
      | succ j => exact congrArg Nat.succ (nd_inj L h2 i j (Nat.lt_of_succ_lt_succ hi) (Nat.lt_of_succ_lt_succ hj) q)
/-- cells made for a: each with its row -/
def mPr (Mo : zM) (a : Nat) (L : List (Nat × va_E)) (M : zM) : Prop := (L.map Prod.fst ++ [a]).Nodup ∧ (∀ q ∈ L, M q.1 = some q.2 ∧ Mo q.1 = none) ∧ M a ≠ none ∧ ∀ b, b ∉ L.map Prod.fst ++ [a] → M b = Mo b
theorem mPr.put {Mo M : zM} {a : Nat} {L : List (Nat × va_E)} {y : va_E} (h : mPr Mo a L M) : mPr Mo a L (va_up M a (some y)) := by
  obtain ⟨h1, h2, h3, h4⟩ := h
  have hd : ∀ q ∈ L, q.1 ≠ a := fun q hq w => by
    have := (List.nodup_append.mp h1).2.2 q.1 (List.mem_map.mpr ⟨q, hq, rfl⟩) a (by simp)
    exact this w
  refine ⟨h1, fun q hq => ⟨by rw [va_up_ne _ _ (hd q hq)]; exact (h2 q hq).1, (h2 q hq).2⟩, by rw [va_up_self]; simp, fun b hb => ?_⟩
  rw [va_up_ne _ _ (fun w => hb (by rw [w]; simp))]
  exact h4 b hb
theorem mPr.ext {Mo M : zM} {a q : Nat} {L : List (Nat × va_E)} {x y : va_E} (h : mPr Mo a L M) (hq : M q = none) : mPr Mo a ((q, x) :: L) (va_up (va_up M q (some x)) a (some y)) := by
  obtain ⟨h1, h2, h3, h4⟩ := h
  have hn : q ∉ L.map Prod.fst ++ [a] := fun w => by
    rcases List.mem_append.mp w with w | w
    · obtain ⟨b, hb, e1⟩ := List.mem_map.mp w
      have := (h2 b hb).1
      rw [e1, hq] at this
      cases this
    · rw [List.mem_singleton.mp w] at hq
      exact h3 hq
  refine mPr.put ⟨List.nodup_cons.mpr ⟨hn, h1⟩, fun b hb => ?_, ?_, fun b hb => ?_⟩
  · rcases List.mem_cons.mp hb with e1 | e1
    · rw [e1]
      exact ⟨va_up_self _ _ _, by rw [← h4 q hn]; exact hq⟩
    · have hne : b.1 ≠ q := fun w => hn (by rw [← w]; exact List.mem_append_left _ (List.mem_map.mpr ⟨b, e1, rfl⟩))
      rw [va_up_ne _ _ hne]
      exact h2 b e1
  · rw [va_up_ne _ _ (fun w => hn (by rw [← w]; simp))]
    exact h3
  · rw [va_up_ne _ _ (fun w => hb (by rw [w]; exact List.mem_cons_self))]
    exact h4 b (fun w => hb (List.mem_cons_of_mem _ w))
section ZM4
variable {p : Program} {l : Launch} {e : Env} {R : Room} {s : State} {m : MethodId} {args : Array Value} {below : List Frame} {meth : Method} {c : Code} {γ : zG} {cc : ByteArray} {nL : Nat} {ret : Option FieldType} {own : String} {xt : List ExceptionTableEntry} {Q : State → Prop} {M : zM} {k n pc : Nat} {L : zL} {st : List Value}
theorem z_gen {P : zM → Prop} (hp : P M) (kk : ∀ M', P M' → zAW p l e R s m args below meth c γ nL Q M' k n pc L st) : zAW p l e R s m args below meth c γ nL Q M k n pc L st := kk M hp
end ZM4
set_option maxHeartbeats 4000000 in
set_option maxRecDepth 100000 in
theorem k_X9_layInput {l : Launch} {γ : zG} {M : zM} {A : Nat → Nat} {F f : Nat → Int} (hA : mIA A) (hO : M (A 0) = some (mOb A F)) (hI : M (A 11) = some (zar γ 500 f)) (hf : ∀ j, zR (f j)) :
    zCon l γ yX9_layInput cX9_layInput 3 none [.ref (A 0), .ref (γ.2.2.2.1 0)] M 4 85 0 0 (fun v' M' => v' = none ∧ mF A M M' [0, 11] ∧ M' (A 0) = some (mOb A (va_up F 19 117)) ∧ ∃ f', M' (A 11) = some (zar γ 500 f') ∧ (∀ j, zR (f' j)) ∧ ∀ j : Nat, (j : Int) < 117 → f' j = zF0 j) (fun _ _ => False) := by
  have hlk := fun M => @k_J0_length l γ M 0 (by decide)
  have hch := fun M i h => @k_J0_charAt l γ M 0 i (by decide) h
  have hL : (zStrLen.getD 0 0 : Nat) = 117 := by decide
  refine zEnter [some (.ref (A 0)), some (.ref (γ.2.2.2.1 0)), none] (by decide +kernel) rfl rfl (Nat.le_of_ble_eq_true rfl) ?_
  intro p e s m args below meth c Q C hin hQ
  have loop : ∀ (t : Nat) (M1 : zM) (i : Int) (f1 : Nat → Int), 117 - i = t → 0 ≤ i ∧ i ≤ 117 → mF A M M1 [11] → M1 (A 11) = some (zar γ 500 f1) → (∀ j, zR (f1 j)) → (∀ j : Nat, (j : Int) < i → f1 j = zF0 j) → zAW p l e { frames := 4, cells := 0, slots := 0, locals := 85 } s m args below meth c γ 3 Q M1 0 0 2 [some (.ref (A 0)), some (.ref (γ.2.2.2.1 0)), some (.int (zi i))] [] := by
    intro t
    induction t with
    | zero =>
      intro M1 i f1 ht hi hm hI1 hf1 he
      obtain rfl : i = 117 := by omega
      have hO1 := hm.at hA (.of rfl) hO
      refine z_iload_n C dX9_layInput_2 rfl ?_
      refine z_aload_n C dX9_layInput_3 rfl ?_
      refine z_callVS C (show 0 < 30 by decide) dX9_layInput_4 lk_X9_75 mw_J0_length_8abf5 mi_J0_length_8abf5 ms_J0_length_8abf5 (hlk _) rfl (by first | decide | exact Nat.le_of_ble_eq_true rfl) ⟨by decide, by decide, by decide, by decide⟩ (fun _ _ h => False.elim h) (fun v M' hp => ?_)
      obtain ⟨rfl, rfl⟩ := hp
      rw [hL]
      refine z_icmp_geZ (tgt := 27) C dX9_layInput_7 (by decide) (by omega) (by omega) (fun h7 => ?_) (fun h7 => ?_)
      · refine z_aload_n C dX9_layInput_27 rfl ?_
        refine z_aload_n C dX9_layInput_28 rfl ?_
        refine z_callVS C (show 0 < 30 by decide) dX9_layInput_29 lk_X9_75 mw_J0_length_8abf5 mi_J0_length_8abf5 ms_J0_length_8abf5 (hlk _) rfl (by first | decide | exact Nat.le_of_ble_eq_true rfl) ⟨by decide, by decide, by decide, by decide⟩ (fun _ _ h => False.elim h) (fun v M' hp => ?_)
        obtain ⟨rfl, rfl⟩ := hp
        rw [hL]
        refine z_putM C dX9_layInput_32 fl_X9_68 (by first | assumption | ((repeat (first | assumption | exact va_up_self _ _ _ | refine (va_up_ne _ _ (by first | assumption | exact hA.ne (by decide) | exact hA.ne (by omega))).trans ?_)); done)) rfl ?_
        refine z_vret C hQ dX9_layInput_35 (by decide) (by decide) ?_
        refine ⟨rfl, (hm.tr (K := [0, 11]) (K2 := []) mF.rf ⟨rfl, rfl⟩).up rfl, va_up_self _ _ _, f1, ?_, hf1, he⟩
        rw [va_up_ne _ _ (hA.ne (by decide))]
        exact hI1
      · exact absurd h7 (by omega)
    | succ t ih =>
      intro M1 i f1 ht hi hm hI1 hf1 he
      have hO1 := hm.at hA (.of rfl) hO
      have rg := zF0_rng i.toNat
      have rg2 : 0 ≤ zSc 0 i.toNat ∧ zSc 0 i.toNat ≤ 127 := rg
      refine z_iload_n C dX9_layInput_2 rfl ?_
      refine z_aload_n C dX9_layInput_3 rfl ?_
      refine z_callVS C (show 0 < 30 by decide) dX9_layInput_4 lk_X9_75 mw_J0_length_8abf5 mi_J0_length_8abf5 ms_J0_length_8abf5 (hlk _) rfl (by first | decide | exact Nat.le_of_ble_eq_true rfl) ⟨by decide, by decide, by decide, by decide⟩ (fun _ _ h => False.elim h) (fun v M' hp => ?_)
      obtain ⟨rfl, rfl⟩ := hp
      rw [hL]
      refine z_icmp_geZ (tgt := 27) C dX9_layInput_7 (by decide) (by omega) (by omega) (fun h7 => ?_) (fun h7 => ?_)
      · exact absurd h7 (by omega)
      · refine z_aload_n C dX9_layInput_10 rfl ?_
        refine z_get C dX9_layInput_11 fl_X9_42 (by first | assumption | ((repeat (first | assumption | exact va_up_self _ _ _ | refine (va_up_ne _ _ (by first | assumption | exact hA.ne (by decide) | exact hA.ne (by omega))).trans ?_)); done)) rfl ?_
        refine z_iload_n C dX9_layInput_14 rfl ?_
        refine z_aload_n C dX9_layInput_15 rfl ?_
        refine z_iload_n C dX9_layInput_16 rfl ?_
        refine z_callVS C (show 0 < 30 by decide) dX9_layInput_17 lk_X9_81 mw_J0_charAt_5068e mi_J0_charAt_5068e ms_J0_charAt_5068e (hch _ i (by rw [hL]; omega)) rfl (by first | decide | exact Nat.le_of_ble_eq_true rfl) ⟨by decide, by decide, by decide, by decide⟩ (fun _ _ h => False.elim h) (fun v M' hp => ?_)
        obtain ⟨rfl, rfl⟩ := hp
        refine z_astN C dX9_layInput_20 (by first | assumption | ((repeat (first | assumption | exact va_up_self _ _ _ | refine (va_up_ne _ _ (by first | assumption | exact hA.ne (by decide) | exact hA.ne (by omega))).trans ?_)); done)) (by omega) (by omega) (by assumption) (by omega) (fun hr20 => ?_)
        refine z_iincZ C dX9_layInput_21 rfl (by decide) ?_
        refine z_goto (tgt := 2) C dX9_layInput_24 (by decide) ?_
        refine ih _ (i + 1) _ (by omega) (by omega) (hm.up rfl) (va_up_self _ _ _) hr20 (fun j hj => ?_)
        unfold va_up
        split
        · rename_i e1
          rw [e1]
          rfl
        · exact he j (by omega)
  refine z_iconst C dX9_layInput_0 ?_
  refine z_istore_n C dX9_layInput_1 (by decide) ?_
  exact loop 117 M 0 f (by omega) (by omega) mF.rf hI hf (fun j hj => by omega)
/-- how all begins -/
def zY0 : zSys := (zFs9, 0, fun _ => zFs9, fun _ => 0, fun _ => zFs9, (fun _ => 0, 0), (fun _ => 0, 0), 0, -1)
def mF0 : Nat → Int := fun k => if k = 26 then -1 else 0
set_option maxHeartbeats 4000000 in
set_option maxRecDepth 100000 in
theorem k_X9_init {l : Launch} {γ : zG} {M : zM} {a : Nat} (hM : M a = some (.inr (9, [.null, .null, .null, .null, .null, .null, .int 0, .int 0, .int 0, .null, .int 0, .null, .null, .int 0, .null, .long 0, .long 0, .int 0, .null, .int 0, .int 0, .int 0, .int 0, .int 0, .int 0, .int 0, .int 0, .null, .null, .int 0, .null, .int 0, .int 0]))) :
    zCon l γ yX9_init cX9_init 1 none [.ref a] M 9 230 14 79464 (fun v' M' => v' = none ∧ ∃ A : Nat → Nat, A 0 = a ∧ (∀ j, 1 ≤ j → j < 15 → M (A j) = none) ∧ mAll A M M' ∧ hMo γ M' A zY0 0) (fun _ _ => False) := by
  refine zEnter [some (.ref a)] (by decide +kernel) rfl rfl (Nat.le_of_ble_eq_true rfl) ?_
  intro p e s m args below meth c Q C hin hQ
  have pr0 : mPr M a [] M := ⟨by simp, fun q hq => (by cases hq), (by rw [hM]; simp), fun b _ => rfl⟩
  refine z_aload_n C dX9_init_0 rfl ?_
  refine z_objInit C dX9_init_1 t6_69 ob_in ob_co ⟨by decide, (by first | decide | exact Nat.le_of_ble_eq_true rfl)⟩ ?_
  refine z_aload_n C dX9_init_4 rfl ?_
  refine z_sipush C dX9_init_5 (by decide) ?_
  refine z_newI C dX9_init_8 t1_51 (by omega) ⟨by decide, by decide⟩ (fun q8 hq8 => ?_)
  have n8 : a ≠ q8 := fun w => by rw [← w, hM] at hq8; cases hq8
  have m8 := (va_up_ne _ (some (zaI γ 5987 (fun _ => 0))) n8).trans hM
  refine z_putF C dX9_init_10 fl_X9_7 hin m8 (fun _ _ _ h => by cases h; rfl) rfl rfl (by simp) ?_
  refine z_gen (P := fun M1 => mPr M a [(q8, zaI γ 5987 (fun _ => 0))] M1 ∧ M1 a = some (.inr (9, [.ref q8, .null, .null, .null, .null, .null, .int 0, .int 0, .int 0, .null, .int 0, .null, .null, .int 0, .null, .long 0, .long 0, .int 0, .null, .int 0, .int 0, .int 0, .int 0, .int 0, .int 0, .int 0, .int 0, .null, .null, .int 0, .null, .int 0, .int 0]))) ⟨pr0.ext hq8, va_up_self _ _ _⟩ (fun M8 h8 => ?_)
  obtain ⟨pr8, o8⟩ := h8
  refine z_aload_n C dX9_init_13 rfl ?_
  refine z_sipush C dX9_init_14 (by decide) ?_
  refine z_newI C dX9_init_17 t1_51 (by omega) ⟨by decide, by decide⟩ (fun q17 hq17 => ?_)
  have n17 : a ≠ q17 := fun w => by rw [← w, o8] at hq17; cases hq17
  have m17 := (va_up_ne _ (some (zaI γ 5987 (fun _ => 0))) n17).trans o8
  refine z_putF C dX9_init_19 fl_X9_13 hin m17 (fun _ _ _ h => by cases h; rfl) rfl rfl (by simp) ?_
  refine z_gen (P := fun M1 => mPr M a [(q17, zaI γ 5987 (fun _ => 0)), (q8, zaI γ 5987 (fun _ => 0))] M1 ∧ M1 a = some (.inr (9, [.ref q8, .ref q17, .null, .null, .null, .null, .int 0, .int 0, .int 0, .null, .int 0, .null, .null, .int 0, .null, .long 0, .long 0, .int 0, .null, .int 0, .int 0, .int 0, .int 0, .int 0, .int 0, .int 0, .int 0, .null, .null, .int 0, .null, .int 0, .int 0]))) ⟨pr8.ext hq17, va_up_self _ _ _⟩ (fun M17 h17 => ?_)
  obtain ⟨pr17, o17⟩ := h17
  refine z_aload_n C dX9_init_22 rfl ?_
  refine z_sipush C dX9_init_23 (by decide) ?_
  refine z_newI C dX9_init_26 t1_51 (by omega) ⟨by decide, by decide⟩ (fun q26 hq26 => ?_)
  have n26 : a ≠ q26 := fun w => by rw [← w, o17] at hq26; cases hq26
  have m26 := (va_up_ne _ (some (zaI γ 5987 (fun _ => 0))) n26).trans o17
  refine z_putF C dX9_init_28 fl_X9_16 hin m26 (fun _ _ _ h => by cases h; rfl) rfl rfl (by simp) ?_
  refine z_gen (P := fun M1 => mPr M a [(q26, zaI γ 5987 (fun _ => 0)), (q17, zaI γ 5987 (fun _ => 0)), (q8, zaI γ 5987 (fun _ => 0))] M1 ∧ M1 a = some (.inr (9, [.ref q8, .ref q17, .ref q26, .null, .null, .null, .int 0, .int 0, .int 0, .null, .int 0, .null, .null, .int 0, .null, .long 0, .long 0, .int 0, .null, .int 0, .int 0, .int 0, .int 0, .int 0, .int 0, .int 0, .int 0, .null, .null, .int 0, .null, .int 0, .int 0]))) ⟨pr17.ext hq26, va_up_self _ _ _⟩ (fun M26 h26 => ?_)
  obtain ⟨pr26, o26⟩ := h26
  refine z_aload_n C dX9_init_31 rfl ?_
  refine z_ldc (v := zi 47896) C dX9_init_32 ((show (47896 : Int32) = zi 47896 by decide) ▸ t6_70) ?_
  refine z_newI C dX9_init_34 t1_51 (by omega) ⟨by decide, by decide⟩ (fun q34 hq34 => ?_)
  have n34 : a ≠ q34 := fun w => by rw [← w, o26] at hq34; cases hq34
  have m34 := (va_up_ne _ (some (zaI γ 47896 (fun _ => 0))) n34).trans o26
  refine z_putF C dX9_init_36 fl_X9_20 hin m34 (fun _ _ _ h => by cases h; rfl) rfl rfl (by simp) ?_
  refine z_gen (P := fun M1 => mPr M a [(q34, zaI γ 47896 (fun _ => 0)), (q26, zaI γ 5987 (fun _ => 0)), (q17, zaI γ 5987 (fun _ => 0)), (q8, zaI γ 5987 (fun _ => 0))] M1 ∧ M1 a = some (.inr (9, [.ref q8, .ref q17, .ref q26, .ref q34, .null, .null, .int 0, .int 0, .int 0, .null, .int 0, .null, .null, .int 0, .null, .long 0, .long 0, .int 0, .null, .int 0, .int 0, .int 0, .int 0, .int 0, .int 0, .int 0, .int 0, .null, .null, .int 0, .null, .int 0, .int 0]))) ⟨pr26.ext hq34, va_up_self _ _ _⟩ (fun M34 h34 => ?_)
  obtain ⟨pr34, o34⟩ := h34
  refine z_aload_n C dX9_init_39 rfl ?_
  refine z_sipush C dX9_init_40 (by decide) ?_
  refine z_newI C dX9_init_43 t1_51 (by omega) ⟨by decide, by decide⟩ (fun q43 hq43 => ?_)
  have n43 : a ≠ q43 := fun w => by rw [← w, o34] at hq43; cases hq43
  have m43 := (va_up_ne _ (some (zaI γ 11974 (fun _ => 0))) n43).trans o34
  refine z_putF C dX9_init_45 fl_X9_23 hin m43 (fun _ _ _ h => by cases h; rfl) rfl rfl (by simp) ?_
  refine z_gen (P := fun M1 => mPr M a [(q43, zaI γ 11974 (fun _ => 0)), (q34, zaI γ 47896 (fun _ => 0)), (q26, zaI γ 5987 (fun _ => 0)), (q17, zaI γ 5987 (fun _ => 0)), (q8, zaI γ 5987 (fun _ => 0))] M1 ∧ M1 a = some (.inr (9, [.ref q8, .ref q17, .ref q26, .ref q34, .ref q43, .null, .int 0, .int 0, .int 0, .null, .int 0, .null, .null, .int 0, .null, .long 0, .long 0, .int 0, .null, .int 0, .int 0, .int 0, .int 0, .int 0, .int 0, .int 0, .int 0, .null, .null, .int 0, .null, .int 0, .int 0]))) ⟨pr34.ext hq43, va_up_self _ _ _⟩ (fun M43 h43 => ?_)
  obtain ⟨pr43, o43⟩ := h43
  refine z_aload_n C dX9_init_48 rfl ?_
  refine z_iconst C dX9_init_49 ?_
  refine z_newZ C dX9_init_50 t2_189 (by omega) ⟨by decide, by decide⟩ (fun q50 hq50 => ?_)
  have n50 : a ≠ q50 := fun w => by rw [← w, o43] at hq50; cases hq50
  have m50 := (va_up_ne _ (some (zaZ γ 2 (fun _ => 0))) n50).trans o43
  refine z_putF C dX9_init_52 fl_X9_26 hin m50 (fun _ _ _ h => by cases h; rfl) rfl rfl (by simp) ?_
  refine z_gen (P := fun M1 => mPr M a [(q50, zaZ γ 2 (fun _ => 0)), (q43, zaI γ 11974 (fun _ => 0)), (q34, zaI γ 47896 (fun _ => 0)), (q26, zaI γ 5987 (fun _ => 0)), (q17, zaI γ 5987 (fun _ => 0)), (q8, zaI γ 5987 (fun _ => 0))] M1 ∧ M1 a = some (.inr (9, [.ref q8, .ref q17, .ref q26, .ref q34, .ref q43, .ref q50, .int 0, .int 0, .int 0, .null, .int 0, .null, .null, .int 0, .null, .long 0, .long 0, .int 0, .null, .int 0, .int 0, .int 0, .int 0, .int 0, .int 0, .int 0, .int 0, .null, .null, .int 0, .null, .int 0, .int 0]))) ⟨pr43.ext hq50, va_up_self _ _ _⟩ (fun M50 h50 => ?_)
  obtain ⟨pr50, o50⟩ := h50
  refine z_aload_n C dX9_init_55 rfl ?_
  refine z_bipush C dX9_init_56 (by decide) ?_
  refine z_newI C dX9_init_58 t1_51 (by omega) ⟨by decide, by decide⟩ (fun q58 hq58 => ?_)
  have n58 : a ≠ q58 := fun w => by rw [← w, o50] at hq58; cases hq58
  have m58 := (va_up_ne _ (some (zaI γ 81 (fun _ => 0))) n58).trans o50
  refine z_putF C dX9_init_60 fl_X9_30 hin m58 (fun _ _ _ h => by cases h; rfl) rfl rfl (by simp) ?_
  refine z_gen (P := fun M1 => mPr M a [(q58, zaI γ 81 (fun _ => 0)), (q50, zaZ γ 2 (fun _ => 0)), (q43, zaI γ 11974 (fun _ => 0)), (q34, zaI γ 47896 (fun _ => 0)), (q26, zaI γ 5987 (fun _ => 0)), (q17, zaI γ 5987 (fun _ => 0)), (q8, zaI γ 5987 (fun _ => 0))] M1 ∧ M1 a = some (.inr (9, [.ref q8, .ref q17, .ref q26, .ref q34, .ref q43, .ref q50, .int 0, .int 0, .int 0, .ref q58, .int 0, .null, .null, .int 0, .null, .long 0, .long 0, .int 0, .null, .int 0, .int 0, .int 0, .int 0, .int 0, .int 0, .int 0, .int 0, .null, .null, .int 0, .null, .int 0, .int 0]))) ⟨pr50.ext hq58, va_up_self _ _ _⟩ (fun M58 h58 => ?_)
  obtain ⟨pr58, o58⟩ := h58
  refine z_aload_n C dX9_init_63 rfl ?_
  refine z_bipush C dX9_init_64 (by decide) ?_
  refine z_newI C dX9_init_66 t1_51 (by omega) ⟨by decide, by decide⟩ (fun q66 hq66 => ?_)
  have n66 : a ≠ q66 := fun w => by rw [← w, o58] at hq66; cases hq66
  have m66 := (va_up_ne _ (some (zaI γ 27 (fun _ => 0))) n66).trans o58
  refine z_putF C dX9_init_68 fl_X9_33 hin m66 (fun _ _ _ h => by cases h; rfl) rfl rfl (by simp) ?_
  refine z_gen (P := fun M1 => mPr M a [(q66, zaI γ 27 (fun _ => 0)), (q58, zaI γ 81 (fun _ => 0)), (q50, zaZ γ 2 (fun _ => 0)), (q43, zaI γ 11974 (fun _ => 0)), (q34, zaI γ 47896 (fun _ => 0)), (q26, zaI γ 5987 (fun _ => 0)), (q17, zaI γ 5987 (fun _ => 0)), (q8, zaI γ 5987 (fun _ => 0))] M1 ∧ M1 a = some (.inr (9, [.ref q8, .ref q17, .ref q26, .ref q34, .ref q43, .ref q50, .int 0, .int 0, .int 0, .ref q58, .int 0, .ref q66, .null, .int 0, .null, .long 0, .long 0, .int 0, .null, .int 0, .int 0, .int 0, .int 0, .int 0, .int 0, .int 0, .int 0, .null, .null, .int 0, .null, .int 0, .int 0]))) ⟨pr58.ext hq66, va_up_self _ _ _⟩ (fun M66 h66 => ?_)
  obtain ⟨pr66, o66⟩ := h66
  refine z_aload_n C dX9_init_71 rfl ?_
  refine z_bipush C dX9_init_72 (by decide) ?_
  refine z_newI C dX9_init_74 t1_51 (by omega) ⟨by decide, by decide⟩ (fun q74 hq74 => ?_)
  have n74 : a ≠ q74 := fun w => by rw [← w, o66] at hq74; cases hq74
  have m74 := (va_up_ne _ (some (zaI γ 27 (fun _ => 0))) n74).trans o66
  refine z_putF C dX9_init_76 fl_X9_36 hin m74 (fun _ _ _ h => by cases h; rfl) rfl rfl (by simp) ?_
  refine z_gen (P := fun M1 => mPr M a [(q74, zaI γ 27 (fun _ => 0)), (q66, zaI γ 27 (fun _ => 0)), (q58, zaI γ 81 (fun _ => 0)), (q50, zaZ γ 2 (fun _ => 0)), (q43, zaI γ 11974 (fun _ => 0)), (q34, zaI γ 47896 (fun _ => 0)), (q26, zaI γ 5987 (fun _ => 0)), (q17, zaI γ 5987 (fun _ => 0)), (q8, zaI γ 5987 (fun _ => 0))] M1 ∧ M1 a = some (.inr (9, [.ref q8, .ref q17, .ref q26, .ref q34, .ref q43, .ref q50, .int 0, .int 0, .int 0, .ref q58, .int 0, .ref q66, .ref q74, .int 0, .null, .long 0, .long 0, .int 0, .null, .int 0, .int 0, .int 0, .int 0, .int 0, .int 0, .int 0, .int 0, .null, .null, .int 0, .null, .int 0, .int 0]))) ⟨pr66.ext hq74, va_up_self _ _ _⟩ (fun M74 h74 => ?_)
  obtain ⟨pr74, o74⟩ := h74
  refine z_aload_n C dX9_init_79 rfl ?_
  refine z_bipush C dX9_init_80 (by decide) ?_
  refine z_newZ C dX9_init_82 t2_189 (by omega) ⟨by decide, by decide⟩ (fun q82 hq82 => ?_)
  have n82 : a ≠ q82 := fun w => by rw [← w, o74] at hq82; cases hq82
  have m82 := (va_up_ne _ (some (zaZ γ 27 (fun _ => 0))) n82).trans o74
  refine z_putF C dX9_init_84 fl_X9_39 hin m82 (fun _ _ _ h => by cases h; rfl) rfl rfl (by simp) ?_
  refine z_gen (P := fun M1 => mPr M a [(q82, zaZ γ 27 (fun _ => 0)), (q74, zaI γ 27 (fun _ => 0)), (q66, zaI γ 27 (fun _ => 0)), (q58, zaI γ 81 (fun _ => 0)), (q50, zaZ γ 2 (fun _ => 0)), (q43, zaI γ 11974 (fun _ => 0)), (q34, zaI γ 47896 (fun _ => 0)), (q26, zaI γ 5987 (fun _ => 0)), (q17, zaI γ 5987 (fun _ => 0)), (q8, zaI γ 5987 (fun _ => 0))] M1 ∧ M1 a = some (.inr (9, [.ref q8, .ref q17, .ref q26, .ref q34, .ref q43, .ref q50, .int 0, .int 0, .int 0, .ref q58, .int 0, .ref q66, .ref q74, .int 0, .ref q82, .long 0, .long 0, .int 0, .null, .int 0, .int 0, .int 0, .int 0, .int 0, .int 0, .int 0, .int 0, .null, .null, .int 0, .null, .int 0, .int 0]))) ⟨pr74.ext hq82, va_up_self _ _ _⟩ (fun M82 h82 => ?_)
  obtain ⟨pr82, o82⟩ := h82
  refine z_aload_n C dX9_init_87 rfl ?_
  refine z_sipush C dX9_init_88 (by decide) ?_
  refine z_newI C dX9_init_91 t1_51 (by omega) ⟨by decide, by decide⟩ (fun q91 hq91 => ?_)
  have n91 : a ≠ q91 := fun w => by rw [← w, o82] at hq91; cases hq91
  have m91 := (va_up_ne _ (some (zaI γ 500 (fun _ => 0))) n91).trans o82
  refine z_putF C dX9_init_93 fl_X9_42 hin m91 (fun _ _ _ h => by cases h; rfl) rfl rfl (by simp) ?_
  refine z_gen (P := fun M1 => mPr M a [(q91, zaI γ 500 (fun _ => 0)), (q82, zaZ γ 27 (fun _ => 0)), (q74, zaI γ 27 (fun _ => 0)), (q66, zaI γ 27 (fun _ => 0)), (q58, zaI γ 81 (fun _ => 0)), (q50, zaZ γ 2 (fun _ => 0)), (q43, zaI γ 11974 (fun _ => 0)), (q34, zaI γ 47896 (fun _ => 0)), (q26, zaI γ 5987 (fun _ => 0)), (q17, zaI γ 5987 (fun _ => 0)), (q8, zaI γ 5987 (fun _ => 0))] M1 ∧ M1 a = some (.inr (9, [.ref q8, .ref q17, .ref q26, .ref q34, .ref q43, .ref q50, .int 0, .int 0, .int 0, .ref q58, .int 0, .ref q66, .ref q74, .int 0, .ref q82, .long 0, .long 0, .int 0, .ref q91, .int 0, .int 0, .int 0, .int 0, .int 0, .int 0, .int 0, .int 0, .null, .null, .int 0, .null, .int 0, .int 0]))) ⟨pr82.ext hq91, va_up_self _ _ _⟩ (fun M91 h91 => ?_)
  obtain ⟨pr91, o91⟩ := h91
  refine z_aload_n C dX9_init_96 rfl ?_
  refine z_iconst C dX9_init_97 ?_
  refine z_put C dX9_init_98 fl_X9_45 o91 rfl rfl (by simp) ?_
  refine z_gen (P := fun M1 => mPr M a [(q91, zaI γ 500 (fun _ => 0)), (q82, zaZ γ 27 (fun _ => 0)), (q74, zaI γ 27 (fun _ => 0)), (q66, zaI γ 27 (fun _ => 0)), (q58, zaI γ 81 (fun _ => 0)), (q50, zaZ γ 2 (fun _ => 0)), (q43, zaI γ 11974 (fun _ => 0)), (q34, zaI γ 47896 (fun _ => 0)), (q26, zaI γ 5987 (fun _ => 0)), (q17, zaI γ 5987 (fun _ => 0)), (q8, zaI γ 5987 (fun _ => 0))] M1 ∧ M1 a = some (.inr (9, [.ref q8, .ref q17, .ref q26, .ref q34, .ref q43, .ref q50, .int 0, .int 0, .int 0, .ref q58, .int 0, .ref q66, .ref q74, .int 0, .ref q82, .long 0, .long 0, .int 0, .ref q91, .int 0, .int 0, .int 0, .int 0, .int 0, .int 0, .int 0, .int (zi (-1)), .null, .null, .int 0, .null, .int 0, .int 0]))) ⟨pr91.put, va_up_self _ _ _⟩ (fun M98 h98 => ?_)
  obtain ⟨pr98, o98⟩ := h98
  refine z_aload_n C dX9_init_101 rfl ?_
  refine z_sipush C dX9_init_102 (by decide) ?_
  refine z_newZ C dX9_init_105 t2_189 (by omega) ⟨by decide, by decide⟩ (fun q105 hq105 => ?_)
  have n105 : a ≠ q105 := fun w => by rw [← w, o98] at hq105; cases hq105
  have m105 := (va_up_ne _ (some (zaZ γ 729 (fun _ => 0))) n105).trans o98
  refine z_putF C dX9_init_107 fl_X9_49 hin m105 (fun _ _ _ h => by cases h; rfl) rfl rfl (by simp) ?_
  refine z_gen (P := fun M1 => mPr M a [(q105, zaZ γ 729 (fun _ => 0)), (q91, zaI γ 500 (fun _ => 0)), (q82, zaZ γ 27 (fun _ => 0)), (q74, zaI γ 27 (fun _ => 0)), (q66, zaI γ 27 (fun _ => 0)), (q58, zaI γ 81 (fun _ => 0)), (q50, zaZ γ 2 (fun _ => 0)), (q43, zaI γ 11974 (fun _ => 0)), (q34, zaI γ 47896 (fun _ => 0)), (q26, zaI γ 5987 (fun _ => 0)), (q17, zaI γ 5987 (fun _ => 0)), (q8, zaI γ 5987 (fun _ => 0))] M1 ∧ M1 a = some (.inr (9, [.ref q8, .ref q17, .ref q26, .ref q34, .ref q43, .ref q50, .int 0, .int 0, .int 0, .ref q58, .int 0, .ref q66, .ref q74, .int 0, .ref q82, .long 0, .long 0, .int 0, .ref q91, .int 0, .int 0, .int 0, .int 0, .int 0, .int 0, .int 0, .int (zi (-1)), .ref q105, .null, .int 0, .null, .int 0, .int 0]))) ⟨pr98.ext hq105, va_up_self _ _ _⟩ (fun M105 h105 => ?_)
  obtain ⟨pr105, o105⟩ := h105
  refine z_aload_n C dX9_init_110 rfl ?_
  refine z_sipush C dX9_init_111 (by decide) ?_
  refine z_newB C dX9_init_114 t1_144 (by omega) ⟨by decide, by decide⟩ (fun q114 hq114 => ?_)
  have n114 : a ≠ q114 := fun w => by rw [← w, o105] at hq114; cases hq114
  have m114 := (va_up_ne _ (some (zaB γ 200 (fun _ => 0))) n114).trans o105
  refine z_putF C dX9_init_116 fl_X9_52 hin m114 (fun _ _ _ h => by cases h; rfl) rfl rfl (by simp) ?_
  refine z_gen (P := fun M1 => mPr M a [(q114, zaB γ 200 (fun _ => 0)), (q105, zaZ γ 729 (fun _ => 0)), (q91, zaI γ 500 (fun _ => 0)), (q82, zaZ γ 27 (fun _ => 0)), (q74, zaI γ 27 (fun _ => 0)), (q66, zaI γ 27 (fun _ => 0)), (q58, zaI γ 81 (fun _ => 0)), (q50, zaZ γ 2 (fun _ => 0)), (q43, zaI γ 11974 (fun _ => 0)), (q34, zaI γ 47896 (fun _ => 0)), (q26, zaI γ 5987 (fun _ => 0)), (q17, zaI γ 5987 (fun _ => 0)), (q8, zaI γ 5987 (fun _ => 0))] M1 ∧ M1 a = some (.inr (9, [.ref q8, .ref q17, .ref q26, .ref q34, .ref q43, .ref q50, .int 0, .int 0, .int 0, .ref q58, .int 0, .ref q66, .ref q74, .int 0, .ref q82, .long 0, .long 0, .int 0, .ref q91, .int 0, .int 0, .int 0, .int 0, .int 0, .int 0, .int 0, .int (zi (-1)), .ref q105, .ref q114, .int 0, .null, .int 0, .int 0]))) ⟨pr105.ext hq114, va_up_self _ _ _⟩ (fun M114 h114 => ?_)
  obtain ⟨pr114, o114⟩ := h114
  refine z_aload_n C dX9_init_119 rfl ?_
  refine z_bipush C dX9_init_120 (by decide) ?_
  refine z_newI C dX9_init_122 t1_51 (by omega) ⟨by decide, by decide⟩ (fun q122 hq122 => ?_)
  have n122 : a ≠ q122 := fun w => by rw [← w, o114] at hq122; cases hq122
  have m122 := (va_up_ne _ (some (zaI γ 40 (fun _ => 0))) n122).trans o114
  refine z_putF C dX9_init_124 fl_X9_56 hin m122 (fun _ _ _ h => by cases h; rfl) rfl rfl (by simp) ?_
  refine z_gen (P := fun M1 => mPr M a [(q122, zaI γ 40 (fun _ => 0)), (q114, zaB γ 200 (fun _ => 0)), (q105, zaZ γ 729 (fun _ => 0)), (q91, zaI γ 500 (fun _ => 0)), (q82, zaZ γ 27 (fun _ => 0)), (q74, zaI γ 27 (fun _ => 0)), (q66, zaI γ 27 (fun _ => 0)), (q58, zaI γ 81 (fun _ => 0)), (q50, zaZ γ 2 (fun _ => 0)), (q43, zaI γ 11974 (fun _ => 0)), (q34, zaI γ 47896 (fun _ => 0)), (q26, zaI γ 5987 (fun _ => 0)), (q17, zaI γ 5987 (fun _ => 0)), (q8, zaI γ 5987 (fun _ => 0))] M1 ∧ M1 a = some (.inr (9, [.ref q8, .ref q17, .ref q26, .ref q34, .ref q43, .ref q50, .int 0, .int 0, .int 0, .ref q58, .int 0, .ref q66, .ref q74, .int 0, .ref q82, .long 0, .long 0, .int 0, .ref q91, .int 0, .int 0, .int 0, .int 0, .int 0, .int 0, .int 0, .int (zi (-1)), .ref q105, .ref q114, .int 0, .ref q122, .int 0, .int 0]))) ⟨pr114.ext hq122, va_up_self _ _ _⟩ (fun M122 h122 => ?_)
  obtain ⟨pr122, o122⟩ := h122
  obtain ⟨A, hAd⟩ : ∃ A : Nat → Nat, A = fun j => [q122, q114, q105, q91, q82, q74, q66, q58, q50, q43, q34, q26, q17, q8, a].getD (14 - j) 0 := ⟨_, rfl⟩
  have hA : mIA A := fun i j hi hj q => by
    rw [hAd] at q
    have := nd_inj _ pr122.1 (14 - i) (14 - j) (by show 14 - i < 15; omega) (by show 14 - j < 15; omega) q
    omega
  have a0 : A 0 = a := by rw [hAd]; rfl
  have a1 : A 1 = q8 := by rw [hAd]; rfl
  have a2 : A 2 = q17 := by rw [hAd]; rfl
  have a3 : A 3 = q26 := by rw [hAd]; rfl
  have a4 : A 4 = q34 := by rw [hAd]; rfl
  have a5 : A 5 = q43 := by rw [hAd]; rfl
  have a6 : A 6 = q50 := by rw [hAd]; rfl
  have a7 : A 7 = q58 := by rw [hAd]; rfl
  have a8 : A 8 = q66 := by rw [hAd]; rfl
  have a9 : A 9 = q74 := by rw [hAd]; rfl
  have a10 : A 10 = q82 := by rw [hAd]; rfl
  have a11 : A 11 = q91 := by rw [hAd]; rfl
  have a12 : A 12 = q105 := by rw [hAd]; rfl
  have a13 : A 13 = q114 := by rw [hAd]; rfl
  have a14 : A 14 = q122 := by rw [hAd]; rfl
  clear hAd
  subst a0
  subst a1
  subst a2
  subst a3
  subst a4
  subst a5
  subst a6
  subst a7
  subst a8
  subst a9
  subst a10
  subst a11
  subst a12
  subst a13
  subst a14
  have hO : M122 (A 0) = some (mOb A mF0) := o122.trans rfl
  have r1 : M122 (A 1) = some (zar γ 5987 (fun _ => 0)) := (pr122.2.1 (A 1, zaI γ 5987 (fun _ => 0)) (List.mem_of_getElem? (i := 13) rfl)).1.trans rfl
  have w1 : M (A 1) = none := (pr122.2.1 (A 1, zaI γ 5987 (fun _ => 0)) (List.mem_of_getElem? (i := 13) rfl)).2
  have r2 : M122 (A 2) = some (zar γ 5987 (fun _ => 0)) := (pr122.2.1 (A 2, zaI γ 5987 (fun _ => 0)) (List.mem_of_getElem? (i := 12) rfl)).1.trans rfl
  have w2 : M (A 2) = none := (pr122.2.1 (A 2, zaI γ 5987 (fun _ => 0)) (List.mem_of_getElem? (i := 12) rfl)).2
  have r3 : M122 (A 3) = some (zar γ 5987 (fun _ => 0)) := (pr122.2.1 (A 3, zaI γ 5987 (fun _ => 0)) (List.mem_of_getElem? (i := 11) rfl)).1.trans rfl
  have w3 : M (A 3) = none := (pr122.2.1 (A 3, zaI γ 5987 (fun _ => 0)) (List.mem_of_getElem? (i := 11) rfl)).2
  have r4 : M122 (A 4) = some (zar γ 47896 (fun _ => 0)) := (pr122.2.1 (A 4, zaI γ 47896 (fun _ => 0)) (List.mem_of_getElem? (i := 10) rfl)).1.trans rfl
  have w4 : M (A 4) = none := (pr122.2.1 (A 4, zaI γ 47896 (fun _ => 0)) (List.mem_of_getElem? (i := 10) rfl)).2
  have r5 : M122 (A 5) = some (zar γ 11974 (fun _ => 0)) := (pr122.2.1 (A 5, zaI γ 11974 (fun _ => 0)) (List.mem_of_getElem? (i := 9) rfl)).1.trans rfl
  have w5 : M (A 5) = none := (pr122.2.1 (A 5, zaI γ 11974 (fun _ => 0)) (List.mem_of_getElem? (i := 9) rfl)).2
  have r6 : M122 (A 6) = some (zaz γ 2 (fun _ => 0)) := (pr122.2.1 (A 6, zaZ γ 2 (fun _ => 0)) (List.mem_of_getElem? (i := 8) rfl)).1.trans rfl
  have w6 : M (A 6) = none := (pr122.2.1 (A 6, zaZ γ 2 (fun _ => 0)) (List.mem_of_getElem? (i := 8) rfl)).2
  have r7 : M122 (A 7) = some (zar γ 81 (fun _ => 0)) := (pr122.2.1 (A 7, zaI γ 81 (fun _ => 0)) (List.mem_of_getElem? (i := 7) rfl)).1.trans rfl
  have w7 : M (A 7) = none := (pr122.2.1 (A 7, zaI γ 81 (fun _ => 0)) (List.mem_of_getElem? (i := 7) rfl)).2
  have r8 : M122 (A 8) = some (zar γ 27 (fun _ => 0)) := (pr122.2.1 (A 8, zaI γ 27 (fun _ => 0)) (List.mem_of_getElem? (i := 6) rfl)).1.trans rfl
  have w8 : M (A 8) = none := (pr122.2.1 (A 8, zaI γ 27 (fun _ => 0)) (List.mem_of_getElem? (i := 6) rfl)).2
  have r9 : M122 (A 9) = some (zar γ 27 (fun _ => 0)) := (pr122.2.1 (A 9, zaI γ 27 (fun _ => 0)) (List.mem_of_getElem? (i := 5) rfl)).1.trans rfl
  have w9 : M (A 9) = none := (pr122.2.1 (A 9, zaI γ 27 (fun _ => 0)) (List.mem_of_getElem? (i := 5) rfl)).2
  have r10 : M122 (A 10) = some (zaz γ 27 (fun _ => 0)) := (pr122.2.1 (A 10, zaZ γ 27 (fun _ => 0)) (List.mem_of_getElem? (i := 4) rfl)).1.trans rfl
  have w10 : M (A 10) = none := (pr122.2.1 (A 10, zaZ γ 27 (fun _ => 0)) (List.mem_of_getElem? (i := 4) rfl)).2
  have r11 : M122 (A 11) = some (zar γ 500 (fun _ => 0)) := (pr122.2.1 (A 11, zaI γ 500 (fun _ => 0)) (List.mem_of_getElem? (i := 3) rfl)).1.trans rfl
  have w11 : M (A 11) = none := (pr122.2.1 (A 11, zaI γ 500 (fun _ => 0)) (List.mem_of_getElem? (i := 3) rfl)).2
  have r12 : M122 (A 12) = some (zaz γ 729 (fun _ => 0)) := (pr122.2.1 (A 12, zaZ γ 729 (fun _ => 0)) (List.mem_of_getElem? (i := 2) rfl)).1.trans rfl
  have w12 : M (A 12) = none := (pr122.2.1 (A 12, zaZ γ 729 (fun _ => 0)) (List.mem_of_getElem? (i := 2) rfl)).2
  have r13 : M122 (A 13) = some (zab γ 200 (fun _ => 0)) := (pr122.2.1 (A 13, zaB γ 200 (fun _ => 0)) (List.mem_of_getElem? (i := 1) rfl)).1.trans rfl
  have w13 : M (A 13) = none := (pr122.2.1 (A 13, zaB γ 200 (fun _ => 0)) (List.mem_of_getElem? (i := 1) rfl)).2
  have r14 : M122 (A 14) = some (zar γ 40 (fun _ => 0)) := (pr122.2.1 (A 14, zaI γ 40 (fun _ => 0)) (List.mem_of_getElem? (i := 0) rfl)).1.trans rfl
  have w14 : M (A 14) = none := (pr122.2.1 (A 14, zaI γ 40 (fun _ => 0)) (List.mem_of_getElem? (i := 0) rfl)).2
  have fresh : ∀ j, 1 ≤ j → j < 15 → M (A j) = none := fun j j1 j2 => by
    have h : j = 1 ∨ j = 2 ∨ j = 3 ∨ j = 4 ∨ j = 5 ∨ j = 6 ∨ j = 7 ∨ j = 8 ∨ j = 9 ∨ j = 10 ∨ j = 11 ∨ j = 12 ∨ j = 13 ∨ j = 14 := by omega
    rcases h with rfl | rfl | rfl | rfl | rfl | rfl | rfl | rfl | rfl | rfl | rfl | rfl | rfl | rfl
    · exact w1
    · exact w2
    · exact w3
    · exact w4
    · exact w5
    · exact w6
    · exact w7
    · exact w8
    · exact w9
    · exact w10
    · exact w11
    · exact w12
    · exact w13
    · exact w14
  have fA : mAll A M M122 := fun b hb => pr122.2.2.2 b (fun w => hb (List.mem_reverse.mp (show b ∈ ((List.range 15).map A).reverse from w)))
  have zz : ∀ j : Nat, zR ((fun _ => (0 : Int)) j) := fun _ => by show zR 0; unfold zR; omega
  refine z_aload_n C dX9_init_127 rfl ?_
  refine z_ldcS (i := 30) C rfl dX9_init_128 ?_
  refine z_callV C dX9_init_130 lk_X9_61 mw_X9_layInput mi_X9_layInput ms_X9_layInput rfl (by first | assumption | ((repeat (first | assumption | exact va_up_self _ _ _ | refine (va_up_ne _ _ (by first | assumption | exact hA.ne (by decide) | exact hA.ne (by omega))).trans ?_)); done)) (k_X9_layInput hA hO r11 zz) rfl (by first | decide | exact Nat.le_of_ble_eq_true rfl) ⟨by decide, by decide, by decide, by decide⟩ (fun _ _ h => False.elim h) (fun v M' hp => ?_)
  obtain ⟨rfl, fl, ol, f1, il, hf1, he⟩ := hp
  have hB1 : hBo f1 117 := ⟨by omega, hf1, fun j hj => by have h1 := zF0_rng j; rw [he j hj]; omega⟩
  refine z_aload_n C dX9_init_133 rfl ?_
  refine z_callV C dX9_init_134 lk_X9_65 mw_X9_read mi_X9_read ms_X9_read rfl (by first | assumption | ((repeat (first | assumption | exact va_up_self _ _ _ | refine (va_up_ne _ _ (by first | assumption | exact hA.ne (by decide) | exact hA.ne (by omega))).trans ?_)); done)) (k_X9_read hA ol il (n := 117) (va_up_self _ _ _) hB1 (fl.at hA (.of rfl) r2) zz) rfl (by first | decide | exact Nat.le_of_ble_eq_true rfl) ⟨by decide, by decide, by decide, by decide⟩ (fun _ _ h => False.elim h) (fun v M' hp => ?_)
  obtain ⟨rfl, hrd⟩ := hp
  rw [zpA_cg (hAt_cgf he), zp_first] at hrd
  obtain ⟨fr, Fr, kr, orr, hcase⟩ := hrd
  obtain ⟨-, c25, c26, g2, hg2, hs2, hok2⟩ := hcase.resolve_right (fun w => w.1 rfl)
  have r1r := fr.at hA (.of rfl) (fl.at hA (.of rfl) r1)
  refine z_aload_n C dX9_init_137 rfl ?_
  refine z_iconst C dX9_init_138 ?_
  refine z_putM C dX9_init_139 fl_X9_68 (by first | assumption | ((repeat (first | assumption | exact va_up_self _ _ _ | refine (va_up_ne _ _ (by first | assumption | exact hA.ne (by decide) | exact hA.ne (by omega))).trans ?_)); done)) rfl ?_
  refine z_aload_n C dX9_init_142 rfl ?_
  refine z_get C dX9_init_143 fl_X9_13 (by first | assumption | ((repeat (first | assumption | exact va_up_self _ _ _ | refine (va_up_ne _ _ (by first | assumption | exact hA.ne (by decide) | exact hA.ne (by omega))).trans ?_)); done)) rfl ?_
  refine z_iconst C dX9_init_146 ?_
  refine z_aload_n C dX9_init_147 rfl ?_
  refine z_get C dX9_init_148 fl_X9_7 (by first | assumption | ((repeat (first | assumption | exact va_up_self _ _ _ | refine (va_up_ne _ _ (by first | assumption | exact hA.ne (by decide) | exact hA.ne (by omega))).trans ?_)); done)) rfl ?_
  refine z_iconst C dX9_init_151 ?_
  refine z_callS C dX9_init_152 lk_X9_71 mw_X9_copyRow mst_X9_copyRow (k_X9_copyRow (by rw [va_up_ne _ _ (hA.ne (by decide))]; exact hg2) hs2.1 (by rw [va_up_ne _ _ (hA.ne (by decide))]; exact r1r) zz (hA.ne (by decide)) (by decide) (fa := 0) (ga := 0) (by omega) (by omega)) rfl (by first | decide | exact Nat.le_of_ble_eq_true rfl) ⟨by decide, by decide, by decide, by decide⟩ (fun _ _ h => False.elim h) (fun v M' hp => ?_)
  obtain ⟨rfl, fc, ac, zc⟩ := hp
  have fcm : mF A _ _ [1] := fc
  refine z_vret C hQ dX9_init_155 (by decide) (by decide) ?_
  have ft := ((fl.tr (K := [0, 2, 11, 1]) fr ⟨rfl, rfl⟩).up (i := 0) (x := some (mOb A (va_up Fr 19 0))) rfl).tr (K := [0, 2, 11, 1]) fcm ⟨rfl, rfl⟩
  have kk : ∀ i, i ≠ 19 → i ≠ 20 → i ≠ 21 → i ≠ 22 → i ≠ 23 → i ≠ 24 → i ≠ 25 → i ≠ 26 → va_up Fr 19 0 i = mF0 i := fun i i1 i2 i3 i4 i5 i6 i7 i8 => by
    rw [va_up_ne _ _ i1, kr i (by simp [*]), va_up_ne _ _ i1]
  have rt := fun (i : Nat) (x : Option va_E) (hi : mNi i [0, 2, 11, 1]) (h : M122 (A i) = x) => ft.at hA hi h
  refine ⟨rfl, A, rfl, fresh, fA.tr (K := List.range 15) ft ⟨rfl, rfl⟩, hA, va_up Fr 19 0, kk 8 (by decide) (by decide) (by decide) (by decide) (by decide) (by decide) (by decide) (by decide), ⟨fcm.at hA (.of rfl) (va_up_self _ _ _), ⟨_, rt 7 _ (.of rfl) r7, zz⟩, ⟨_, rt 8 _ (.of rfl) r8, zz⟩, ⟨_, rt 9 _ (.of rfl) r9, zz⟩⟩, ⟨(va_up_ne _ _ (by decide)).trans c25, (va_up_ne _ _ (by decide)).trans c26⟩, ⟨?_, kk 6 (by decide) (by decide) (by decide) (by decide) (by decide) (by decide) (by decide) (by decide), _, rt 4 _ (.of rfl) r4, zz, fun i hi => absurd (show (i : Int) < 0 from hi) (by omega)⟩, ⟨⟨_, rt 6 _ (.of rfl) r6, fun k hk => rfl⟩, _, rt 5 _ (.of rfl) r5, zz, fun k hk w => absurd rfl w⟩, ⟨va_up_self _ _ _, f1, ?_, ⟨(show (0 : Int) ≤ 0 ∧ (0 : Int) ≤ 500 from ⟨by decide, by decide⟩), hf1, fun j hj => absurd (show (j : Int) < 0 from hj) (by omega)⟩, fun j hj => absurd (show (j : Int) < 0 from hj) (by omega)⟩, ⟨kk 29 (by decide) (by decide) (by decide) (by decide) (by decide) (by decide) (by decide) (by decide), (show (0 : Int) ≤ 0 ∧ (0 : Int) ≤ 200 from ⟨by decide, by decide⟩), (fun _ => 0), rt 13 _ (.of rfl) r13, fun j hj => absurd (show (j : Int) < 0 from hj) (by omega)⟩, ⟨_, ac, ?_⟩, ⟨⟨g2, ?_, hs2.1⟩, ⟨_, rt 3 _ (.of rfl) r3, zz⟩, ⟨_, rt 10 _ (.of rfl) r10⟩, ⟨_, rt 12 _ (.of rfl) r12⟩, _, rt 14 _ (.of rfl) r14, zz⟩⟩
  · rw [kk 7 (by decide) (by decide) (by decide) (by decide) (by decide) (by decide) (by decide) (by decide)]
    exact ⟨by decide, by decide⟩
  · refine fcm.at hA (.of rfl) ?_
    rw [va_up_ne _ _ (hA.ne (by decide))]
    exact fr.at hA (.of rfl) il
  · refine hs2.cg hok2 zc (fun j hj => ?_)
    rw [mCp_at (by omega) (by omega), if_pos (by omega)]
    congr 1
    omega
  · refine fcm.at hA (.of rfl) ?_
    rw [va_up_ne _ _ (hA.ne (by decide))]
    exact hg2

