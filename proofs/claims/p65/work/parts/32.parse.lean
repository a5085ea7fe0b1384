/-! the parser: words, numbers, errors, ends of statements -/
/-- the text constant i stands from S to E -/
def zWd (f : Nat → Int) (n : Int) (i : Nat) (S E : Int) : Prop := E - S = (zStrLen.getD i 0 : Nat) ∧ ∀ j : Int, 0 ≤ j → j < (zStrLen.getD i 0 : Nat) → hAt f n (S + j) = zSc i j.toNat
noncomputable def zMw (f : Nat → Int) (n S E : Int) : Int := zif (zWd f n 2 S E) 0 (zif (zWd f n 3 S E) 1 (zif (zWd f n 4 S E) 2 (-1)))
theorem zMw_rng (f : Nat → Int) (n S E : Int) : -1 ≤ zMw f n S E ∧ zMw f n S E ≤ 2 := by
  unfold zMw
  by_cases h1 : zWd f n 2 S E
  · rw [zif_t h1]; decide
  · rw [zif_f h1]
    by_cases h2 : zWd f n 3 S E
    · rw [zif_t h2]; decide
    · rw [zif_f h2]
      by_cases h3 : zWd f n 4 S E
      · rw [zif_t h3]; decide
      · rw [zif_f h3]; decide
/-- the number in the bytes from i on -/
def znv (f : Nat → Int) (n : Int) : Nat → Int → Int → Int
  | 0, _, v => v
  | t + 1, i, v => znv f n t (i + 1) (min (v * 10 + hAt f n i - 48) 1000)
set_option maxHeartbeats 4000000 in
set_option maxRecDepth 100000 in
theorem k_X4_fail {l : Launch} {γ : zG} {M : zM} {a ta d : Nat} {K S E ec ep code : Int} (hP : hPt γ M a ta d K S E ec ep) :
    zCon l γ yX4_fail cX4_fail 2 (some .boolean) [.ref a, .int (zi code)] M 0 0 0 0 (fun v' M' => v' = some (.int (zi 0)) ∧ zFr M M' [a] ∧ hPt γ M' a ta d K S E code S) (fun _ _ => False) := by
  unfold hPt at hP
  refine zEnter [some (.ref a), some (.int (zi code))] (by decide +kernel) rfl rfl (Nat.le_of_ble_eq_true rfl) ?_
  intro p e s m args below meth c Q C hin hQ
  refine z_aload_n C dX4_fail_0 rfl ?_
  refine z_iload_n C dX4_fail_1 rfl ?_
  refine z_put C dX4_fail_2 fl_X4_21 (by first | assumption | ((repeat (first | assumption | exact va_up_self _ _ _ | refine (va_up_ne _ _ (by assumption)).trans ?_)); done) | (simp [va_up, *] <;> rfl)) rfl rfl (by simp) ?_
  refine z_aload_n C dX4_fail_5 rfl ?_
  refine z_aload_n C dX4_fail_6 rfl ?_
  refine z_get C dX4_fail_7 fl_X4_15 (by first | assumption | ((repeat (first | assumption | exact va_up_self _ _ _ | refine (va_up_ne _ _ (by assumption)).trans ?_)); done) | (simp [va_up, *] <;> rfl)) rfl ?_
  refine z_put C dX4_fail_10 fl_X4_24 (by first | assumption | ((repeat (first | assumption | exact va_up_self _ _ _ | refine (va_up_ne _ _ (by assumption)).trans ?_)); done) | (simp [va_up, *] <;> rfl)) rfl rfl (by simp) ?_
  refine z_iconst C dX4_fail_13 ?_
  refine z_iret C hQ dX4_fail_14 rfl (by decide) (by decide) ?_
  exact ⟨rfl, zFr.u2 zFr.rf (by simp) (by simp), va_up_self _ _ _⟩
set_option maxHeartbeats 4000000 in
set_option maxRecDepth 100000 in
theorem k_X4_isWord {l : Launch} {γ : zG} {M : zM} {a ta tr d j : Nat} {f : Nat → Int} {n K S E ec ep : Int} (hP : hPt γ M a ta d K S E ec ep) (hT : hBy γ M ta tr f n) (hO : hBo f n) (hS : 0 ≤ S ∧ S ≤ 500 ∧ 0 ≤ E ∧ E ≤ 500) (hj : j < 26) :
    zCon l γ yX4_isWord cX4_isWord 4 (some .boolean) [.ref a, .ref (γ.2.2.2.1 j)] M 4 85 0 0 (fun v' M' => ∃ r : Int, v' = some (.int (zi r)) ∧ M' = M ∧ zB r (zWd f n j S E)) (fun _ _ => False) := by
  have hat := fun i (hi : zR i) => @k_X0_at l γ M ta tr f n i hT hO hi
  have hrg := hAt_rng hO
  unfold hPt at hP
  have obt := hT.1
  have hlen := (zStr_all j hj).2.1
  have hlk := @k_J0_length l γ M j hj
  have hch := fun i h => @k_J0_charAt l γ M j i hj h
  have hcr := fun q : Nat => zSc_rng (k := q) hj
  have hwd : zWd f n j S E = (E - S = (zStrLen.getD j 0 : Nat) ∧ ∀ q : Int, 0 ≤ q → q < (zStrLen.getD j 0 : Nat) → hAt f n (S + q) = zSc j q.toNat) := rfl
  rw [hwd]
  generalize zStrLen.getD j 0 = L at *
  refine zEnter [some (.ref a), some (.ref (γ.2.2.2.1 j)), none, none] (by decide +kernel) rfl rfl (Nat.le_of_ble_eq_true rfl) ?_
  intro p e s m args below meth c Q C hin hQ
  have loop : ∀ (t : Nat) (i g : Int), L - i = t → 0 ≤ i ∧ i ≤ L → zB g (E - S = L ∧ ∀ q : Int, 0 ≤ q → q < i → hAt f n (S + q) = zSc j q.toNat) → zAW p l e { frames := 4, cells := 0, slots := 0, locals := 85 } s m args below meth c γ 4 Q M 0 0 24 [some (.ref a), some (.ref (γ.2.2.2.1 j)), some (.int (zi g)), some (.int (zi i))] [] := by
    intro t
    induction t with
    | zero =>
      intro i g ht hi hg
      obtain rfl : i = L := by omega
      refine z_iload_n C dX4_isWord_24 rfl ?_
      refine z_aload_n C dX4_isWord_25 rfl ?_
      refine z_callVS C hj dX4_isWord_26 lk_X4_151 mw_J0_length_8abf5 mi_J0_length_8abf5 ms_J0_length_8abf5 hlk rfl (by first | decide | exact Nat.le_of_ble_eq_true rfl) ⟨by decide, by decide, by decide, by decide⟩ (fun _ _ h => False.elim h) (fun v M' hp => ?_)
      obtain ⟨rfl, rfl⟩ := hp
      refine z_icmp_geZ (tgt := 69) C dX4_isWord_29 (by decide) (by omega) (by omega) (fun h29 => ?_) (fun h29 => ?_)
      · refine z_iload_n C dX4_isWord_69 rfl ?_
        refine z_iret C hQ dX4_isWord_70 hg.nar (by decide) (by decide) ?_
        exact ⟨g, rfl, rfl, hg⟩
      · exact absurd h29 (by omega)
    | succ t ih =>
      intro i g ht hi hg
      have hg2 := hg.rng
      refine z_iload_n C dX4_isWord_24 rfl ?_
      refine z_aload_n C dX4_isWord_25 rfl ?_
      refine z_callVS C hj dX4_isWord_26 lk_X4_151 mw_J0_length_8abf5 mi_J0_length_8abf5 ms_J0_length_8abf5 hlk rfl (by first | decide | exact Nat.le_of_ble_eq_true rfl) ⟨by decide, by decide, by decide, by decide⟩ (fun _ _ h => False.elim h) (fun v M' hp => ?_)
      obtain ⟨rfl, rfl⟩ := hp
      refine z_icmp_geZ (tgt := 69) C dX4_isWord_29 (by decide) (by omega) (by omega) (fun h29 => ?_) (fun h29 => ?_)
      · exact absurd h29 (by omega)
      · refine z_iload_n C dX4_isWord_32 rfl ?_
        refine z_if_eqZ (tgt := 69) C dX4_isWord_33 (by decide) (by omega) (fun h33 => ?_) (fun h33 => ?_)
        · refine z_iload_n C dX4_isWord_69 rfl ?_
          refine z_iret C hQ dX4_isWord_70 hg.nar (by decide) (by decide) ?_
          exact ⟨g, rfl, rfl, Or.inr ⟨h33, fun q => hg.f h33 ⟨q.1, fun k h1 h2 => q.2 k h1 (by omega)⟩⟩⟩
        · refine z_aload_n C dX4_isWord_36 rfl ?_
          refine z_get C dX4_isWord_37 fl_X4_27 (by first | assumption | ((repeat (first | assumption | exact va_up_self _ _ _ | refine (va_up_ne _ _ (by assumption)).trans ?_)); done) | (simp [va_up, *] <;> rfl)) rfl ?_
          refine z_aload_n C dX4_isWord_40 rfl ?_
          refine z_get C dX4_isWord_41 fl_X4_15 (by first | assumption | ((repeat (first | assumption | exact va_up_self _ _ _ | refine (va_up_ne _ _ (by assumption)).trans ?_)); done) | (simp [va_up, *] <;> rfl)) rfl ?_
          refine z_iload_n C dX4_isWord_44 rfl ?_
          refine z_iaddZ C dX4_isWord_45 ?_
          refine z_callV C dX4_isWord_46 lk_X4_134 mw_X0_at mi_X0_at ms_X0_at rfl (by first | assumption | ((repeat (first | assumption | exact va_up_self _ _ _ | refine (va_up_ne _ _ (by assumption)).trans ?_)); done) | (simp [va_up, *] <;> rfl)) (hat (S + i) ⟨by omega, by omega⟩) rfl (by first | decide | exact Nat.le_of_ble_eq_true rfl) ⟨by decide, by decide, by decide, by decide⟩ (fun _ _ h => False.elim h) (fun v M' hp => ?_)
          obtain ⟨x46, rfl, rfl, hr46⟩ := hp
          have hz46 := hrg (S + i)
          rw [← hr46] at hz46
          have hz51 := hcr i.toNat
          refine z_aload_n C dX4_isWord_49 rfl ?_
          refine z_iload_n C dX4_isWord_50 rfl ?_
          refine z_callVS C hj dX4_isWord_51 lk_X4_155 mw_J0_charAt_5068e mi_J0_charAt_5068e ms_J0_charAt_5068e (hch i (by omega)) rfl (by first | decide | exact Nat.le_of_ble_eq_true rfl) ⟨by decide, by decide, by decide, by decide⟩ (fun _ _ h => False.elim h) (fun v M' hp => ?_)
          obtain ⟨rfl, rfl⟩ := hp
          refine z_icmp_neZ (tgt := 61) C dX4_isWord_54 (by decide) (by omega) (by omega) (fun h54 => ?_) (fun h54 => ?_)
          · refine z_iconst C dX4_isWord_61 ?_
            refine z_istore_n C dX4_isWord_62 (by decide) ?_
            refine z_iincZ C dX4_isWord_63 rfl (by decide) ?_
            refine z_goto (tgt := 24) C dX4_isWord_66 (by decide) ?_
            exact ih _ _ (by omega) (by omega) (Or.inr ⟨rfl, fun q => h54 (by rw [hr46]; exact q.2 i (by omega) (by omega))⟩)
          · refine z_iconst C dX4_isWord_57 ?_
            refine z_goto (tgt := 62) C dX4_isWord_58 (by decide) ?_
            refine z_istore_n C dX4_isWord_62 (by decide) ?_
            refine z_iincZ C dX4_isWord_63 rfl (by decide) ?_
            refine z_goto (tgt := 24) C dX4_isWord_66 (by decide) ?_
            refine ih _ _ (by omega) (by omega) (Or.inl ⟨rfl, (hg.t h33).1, fun k h1 h2 => ?_⟩)
            by_cases hk : k = i
            · rw [hk, ← hr46]; exact h54
            · exact (hg.t h33).2 k h1 (by omega)
  refine z_aload_n C dX4_isWord_0 rfl ?_
  refine z_get C dX4_isWord_1 fl_X4_18 (by first | assumption | ((repeat (first | assumption | exact va_up_self _ _ _ | refine (va_up_ne _ _ (by assumption)).trans ?_)); done) | (simp [va_up, *] <;> rfl)) rfl ?_
  refine z_aload_n C dX4_isWord_4 rfl ?_
  refine z_get C dX4_isWord_5 fl_X4_15 (by first | assumption | ((repeat (first | assumption | exact va_up_self _ _ _ | refine (va_up_ne _ _ (by assumption)).trans ?_)); done) | (simp [va_up, *] <;> rfl)) rfl ?_
  refine z_isubZ C dX4_isWord_8 ?_
  refine z_aload_n C dX4_isWord_9 rfl ?_
  refine z_callVS C hj dX4_isWord_10 lk_X4_151 mw_J0_length_8abf5 mi_J0_length_8abf5 ms_J0_length_8abf5 hlk rfl (by first | decide | exact Nat.le_of_ble_eq_true rfl) ⟨by decide, by decide, by decide, by decide⟩ (fun _ _ h => False.elim h) (fun v M' hp => ?_)
  obtain ⟨rfl, rfl⟩ := hp
  refine z_icmp_neZ (tgt := 20) C dX4_isWord_13 (by decide) (by omega) (by omega) (fun h13 => ?_) (fun h13 => ?_)
  · refine z_iconst C dX4_isWord_20 ?_
    refine z_istore_n C dX4_isWord_21 (by decide) ?_
    refine z_iconst C dX4_isWord_22 ?_
    refine z_istore_n C dX4_isWord_23 (by decide) ?_
    exact loop L 0 0 (by omega) (by omega) (Or.inr ⟨rfl, fun q => h13 q.1⟩)
  · refine z_iconst C dX4_isWord_16 ?_
    refine z_goto (tgt := 21) C dX4_isWord_17 (by decide) ?_
    refine z_istore_n C dX4_isWord_21 (by decide) ?_
    refine z_iconst C dX4_isWord_22 ?_
    refine z_istore_n C dX4_isWord_23 (by decide) ?_
    exact loop L 0 1 (by omega) (by omega) (Or.inl ⟨rfl, by omega, fun k h1 h2 => by omega⟩)
set_option maxHeartbeats 4000000 in
set_option maxRecDepth 100000 in
theorem k_X4_methodWord {l : Launch} {γ : zG} {M : zM} {a ta tr d : Nat} {f : Nat → Int} {n K S E ec ep : Int} (hP : hPt γ M a ta d K S E ec ep) (hT : hBy γ M ta tr f n) (hO : hBo f n) (hS : 0 ≤ S ∧ S ≤ 500 ∧ 0 ≤ E ∧ E ≤ 500) :
    zCon l γ yX4_methodWord cX4_methodWord 1 (some .int) [.ref a] M 5 108 0 0 (fun v' M' => ∃ r : Int, v' = some (.int (zi r)) ∧ M' = M ∧ r = zMw f n S E) (fun _ _ => False) := by
  have hP2 := hP
  unfold hPt at hP2
  refine zEnter [some (.ref a)] (by decide +kernel) rfl rfl (Nat.le_of_ble_eq_true rfl) ?_
  intro p e s m args below meth c Q C hin hQ
  refine z_aload_n C dX4_methodWord_0 rfl ?_
  refine z_ldcS (i := 2) C rfl dX4_methodWord_1 ?_
  refine z_callV C dX4_methodWord_3 lk_X4_40 mw_X4_isWord mi_X4_isWord ms_X4_isWord rfl (by first | assumption | ((repeat (first | assumption | exact va_up_self _ _ _ | refine (va_up_ne _ _ (by assumption)).trans ?_)); done) | (simp [va_up, *] <;> rfl)) (k_X4_isWord (j := 2) hP hT hO hS (by decide)) rfl (by first | decide | exact Nat.le_of_ble_eq_true rfl) ⟨by decide, by decide, by decide, by decide⟩ (fun _ _ h => False.elim h) (fun v M' hp => ?_)
  obtain ⟨r3, rfl, rfl, hr3⟩ := hp
  have q3 := hr3.rng
  refine z_if_eqZ (tgt := 11) C dX4_methodWord_6 (by decide) (by omega) (fun h6 => ?_) (fun h6 => ?_)
  · refine z_aload_n C dX4_methodWord_11 rfl ?_
    refine z_ldcS (i := 3) C rfl dX4_methodWord_12 ?_
    refine z_callV C dX4_methodWord_14 lk_X4_40 mw_X4_isWord mi_X4_isWord ms_X4_isWord rfl (by first | assumption | ((repeat (first | assumption | exact va_up_self _ _ _ | refine (va_up_ne _ _ (by assumption)).trans ?_)); done) | (simp [va_up, *] <;> rfl)) (k_X4_isWord (j := 3) hP hT hO hS (by decide)) rfl (by first | decide | exact Nat.le_of_ble_eq_true rfl) ⟨by decide, by decide, by decide, by decide⟩ (fun _ _ h => False.elim h) (fun v M' hp => ?_)
    obtain ⟨r14, rfl, rfl, hr14⟩ := hp
    have q14 := hr14.rng
    refine z_if_eqZ (tgt := 22) C dX4_methodWord_17 (by decide) (by omega) (fun h17 => ?_) (fun h17 => ?_)
    · refine z_aload_n C dX4_methodWord_22 rfl ?_
      refine z_ldcS (i := 4) C rfl dX4_methodWord_23 ?_
      refine z_callV C dX4_methodWord_25 lk_X4_40 mw_X4_isWord mi_X4_isWord ms_X4_isWord rfl (by first | assumption | ((repeat (first | assumption | exact va_up_self _ _ _ | refine (va_up_ne _ _ (by assumption)).trans ?_)); done) | (simp [va_up, *] <;> rfl)) (k_X4_isWord (j := 4) hP hT hO hS (by decide)) rfl (by first | decide | exact Nat.le_of_ble_eq_true rfl) ⟨by decide, by decide, by decide, by decide⟩ (fun _ _ h => False.elim h) (fun v M' hp => ?_)
      obtain ⟨r25, rfl, rfl, hr25⟩ := hp
      have q25 := hr25.rng
      refine z_if_eqZ (tgt := 35) C dX4_methodWord_28 (by decide) (by omega) (fun h28 => ?_) (fun h28 => ?_)
      · refine z_iconst C dX4_methodWord_35 ?_
        refine z_iret C hQ dX4_methodWord_36 rfl (by decide) (by decide) ?_
        exact ⟨-1, rfl, rfl, by rw [zMw, zif_f (hr3.f h6), zif_f (hr14.f h17), zif_f (hr25.f h28)]⟩
      · refine z_iconst C dX4_methodWord_31 ?_
        refine z_goto (tgt := 36) C dX4_methodWord_32 (by decide) ?_
        refine z_iret C hQ dX4_methodWord_36 rfl (by decide) (by decide) ?_
        exact ⟨2, rfl, rfl, by rw [zMw, zif_f (hr3.f h6), zif_f (hr14.f h17), zif_t (hr25.t h28)]⟩
    · refine z_iconst C dX4_methodWord_20 ?_
      refine z_iret C hQ dX4_methodWord_21 rfl (by decide) (by decide) ?_
      exact ⟨1, rfl, rfl, by rw [zMw, zif_f (hr3.f h6), zif_t (hr14.t h17)]⟩
  · refine z_iconst C dX4_methodWord_9 ?_
    refine z_iret C hQ dX4_methodWord_10 rfl (by decide) (by decide) ?_
    exact ⟨0, rfl, rfl, (zif_t (hr3.t h6)).symm⟩
set_option maxHeartbeats 4000000 in
set_option maxRecDepth 100000 in
theorem k_X4_numberValue {l : Launch} {γ : zG} {M : zM} {a ta tr d : Nat} {f : Nat → Int} {n K S E ec ep : Int} (hP : hPt γ M a ta d K S E ec ep) (hT : hBy γ M ta tr f n) (hO : hBo f n) (hS : 0 ≤ S ∧ S ≤ E ∧ E ≤ n) (hd : ∀ j : Int, S ≤ j → j < E → 48 ≤ hAt f n j ∧ hAt f n j ≤ 57) :
    zCon l γ yX4_numberValue cX4_numberValue 3 (some .int) [.ref a] M 2 34 0 0 (fun v' M' => ∃ r : Int, v' = some (.int (zi r)) ∧ M' = M ∧ r = znv f n (E - S).toNat S 0 ∧ 0 ≤ r ∧ r ≤ 1000) (fun _ _ => False) := by
  have hn := hO.1
  have hat := fun i (hi : zR i) => @k_X0_at l γ M ta tr f n i hT hO hi
  have hP2 := hP
  unfold hPt at hP2
  have obt := hT.1
  refine zEnter [some (.ref a), none, none] (by decide +kernel) rfl rfl (Nat.le_of_ble_eq_true rfl) ?_
  intro p e s m args below meth c Q C hin hQ
  have loop : ∀ (t : Nat) (i v : Int), E - i = t → S ≤ i ∧ i ≤ E → 0 ≤ v ∧ v ≤ 1000 → znv f n t i v = znv f n (E - S).toNat S 0 → zAW p l e { frames := 2, cells := 0, slots := 0, locals := 34 } s m args below meth c γ 3 Q M 0 0 7 [some (.ref a), some (.int (zi v)), some (.int (zi i))] [] := by
    intro t
    induction t with
    | zero =>
      intro i v ht hi hv hz
      refine z_iload_n C dX4_numberValue_7 rfl ?_
      refine z_aload_n C dX4_numberValue_8 rfl ?_
      refine z_get C dX4_numberValue_9 fl_X4_18 (by first | assumption | ((repeat (first | assumption | exact va_up_self _ _ _ | refine (va_up_ne _ _ (by assumption)).trans ?_)); done) | (simp [va_up, *] <;> rfl)) rfl ?_
      refine z_icmp_geZ (tgt := 34) C dX4_numberValue_12 (by decide) (by omega) (by omega) (fun h12 => ?_) (fun h12 => ?_)
      · refine z_iload_n C dX4_numberValue_34 rfl ?_
        refine z_iret C hQ dX4_numberValue_35 rfl (by decide) (by decide) ?_
        exact ⟨v, rfl, rfl, hz, hv⟩
      · exact absurd h12 (by omega)
    | succ t ih =>
      intro i v ht hi hv hz
      have hdi := hd i hi.1 (by omega)
      refine z_iload_n C dX4_numberValue_7 rfl ?_
      refine z_aload_n C dX4_numberValue_8 rfl ?_
      refine z_get C dX4_numberValue_9 fl_X4_18 (by first | assumption | ((repeat (first | assumption | exact va_up_self _ _ _ | refine (va_up_ne _ _ (by assumption)).trans ?_)); done) | (simp [va_up, *] <;> rfl)) rfl ?_
      refine z_icmp_geZ (tgt := 34) C dX4_numberValue_12 (by decide) (by omega) (by omega) (fun h12 => ?_) (fun h12 => ?_)
      · exact absurd h12 (by omega)
      · refine z_iload_n C dX4_numberValue_15 rfl ?_
        refine z_aload_n C dX4_numberValue_16 rfl ?_
        refine z_get C dX4_numberValue_17 fl_X4_27 (by first | assumption | ((repeat (first | assumption | exact va_up_self _ _ _ | refine (va_up_ne _ _ (by assumption)).trans ?_)); done) | (simp [va_up, *] <;> rfl)) rfl ?_
        refine z_iload_n C dX4_numberValue_20 rfl ?_
        refine z_callV C dX4_numberValue_21 lk_X4_134 mw_X0_at mi_X0_at ms_X0_at rfl (by first | assumption | ((repeat (first | assumption | exact va_up_self _ _ _ | refine (va_up_ne _ _ (by assumption)).trans ?_)); done) | (simp [va_up, *] <;> rfl)) (hat i ⟨by omega, by omega⟩) rfl (by first | decide | exact Nat.le_of_ble_eq_true rfl) ⟨by decide, by decide, by decide, by decide⟩ (fun _ _ h => False.elim h) (fun v M' hp => ?_)
        obtain ⟨r21, rfl, rfl, hr21⟩ := hp
        subst hr21
        refine z_callSN C dX4_numberValue_24 nk_X4_165 mw_X8_withDigit mst_X8_withDigit (k_X8_withDigit hv (by omega)) rfl (by first | decide | exact Nat.le_of_ble_eq_true rfl) ⟨by decide, by decide, by decide, by decide⟩ (fun _ _ h => False.elim h) (fun v M' hp => ?_)
        obtain ⟨r24, rfl, rfl, hr24⟩ := hp
        refine z_istore_n C dX4_numberValue_27 (by decide) ?_
        refine z_iincZ C dX4_numberValue_28 rfl (by decide) ?_
        refine z_goto (tgt := 7) C dX4_numberValue_31 (by decide) ?_
        refine ih (i + 1) r24 (by omega) (by omega) (by omega) ?_
        rw [hr24]
        exact hz
  refine z_iconst C dX4_numberValue_0 ?_
  refine z_istore_n C dX4_numberValue_1 (by decide) ?_
  refine z_aload_n C dX4_numberValue_2 rfl ?_
  refine z_get C dX4_numberValue_3 fl_X4_15 (by first | assumption | ((repeat (first | assumption | exact va_up_self _ _ _ | refine (va_up_ne _ _ (by assumption)).trans ?_)); done) | (simp [va_up, *] <;> rfl)) rfl ?_
  refine z_istore_n C dX4_numberValue_6 (by decide) ?_
  exact loop (E - S).toNat S 0 (by omega) (by omega) (by omega) rfl
set_option maxHeartbeats 4000000 in
set_option maxRecDepth 100000 in
theorem k_X4_parseSemicolon {l : Launch} {γ : zG} {M : zM} {a ta tr d : Nat} {f : Nat → Int} {n e0 ec ep : Int} (hP : hPk γ M a ta d f n e0 ec ep) (hT : hBy γ M ta tr f n) (hO : hBo f n) (he : 0 ≤ e0 ∧ e0 ≤ n) :
    zCon l γ yX4_parseSemicolon cX4_parseSemicolon 1 (some .boolean) [.ref a] M 3 61 0 0 (fun v' M' => ∃ r : Int, v' = some (.int (zi r)) ∧ zFr M M' [a] ∧ ((hAt f n (ztS f n (ztE f n e0)) = 59 ∧ r = 1 ∧ hPk γ M' a ta d f n (ztE f n (ztE f n e0)) ec ep) ∨ (hAt f n (ztS f n (ztE f n e0)) ≠ 59 ∧ r = 0 ∧ hPk γ M' a ta d f n (ztE f n e0) 1 (ztS f n (ztE f n e0))))) (fun _ _ => False) := by
  have hn := hO.1
  have h1 := ztS_rng (f := f) he
  have h2 := ztE_rng hO he
  have h3 := ztS_rng (f := f) (n := n) (e := ztE f n e0) (by omega)
  have h4 := ztE_rng hO (e := ztE f n e0) (by omega)
  have n1 : ta ∉ [a] := by
    have := zne_kk hT.1 hP (by decide)
    simp [this]
  have n2 : tr ∉ [a] := by
    have := zne_ka hP hT.2
    simp [this.symm]
  have hkr := zkd_rng (hAt f n (ztS f n (ztE f n e0)))
  have hkk : ztK f n (ztE f n e0) = zkd (hAt f n (ztS f n (ztE f n e0))) := rfl
  have hrg := hAt_rng hO (ztS f n (ztE f n e0))
  have hP0 := hP
  unfold hPk hPt at hP0
  refine zEnter [some (.ref a)] (by decide +kernel) rfl rfl (Nat.le_of_ble_eq_true rfl) ?_
  intro p e s m args below meth c Q C hin hQ
  refine z_aload_n C dX4_parseSemicolon_0 rfl ?_
  refine z_callV C dX4_parseSemicolon_1 lk_X4_35 mw_X4_next mi_X4_next ms_X4_next rfl (by first | assumption | ((repeat (first | assumption | exact va_up_self _ _ _ | refine (va_up_ne _ _ (by assumption)).trans ?_)); done) | (simp [va_up, *] <;> rfl)) (k_X4_next hP hT hO (by omega)) rfl (by first | decide | exact Nat.le_of_ble_eq_true rfl) ⟨by decide, by decide, by decide, by decide⟩ (fun _ _ h => False.elim h) (fun v M' hp => ?_)
  obtain ⟨rfl, f1, hP1⟩ := hp
  have hP2 := hP1
  unfold hPk hPt at hP2
  have hT1 := hT.fr f1 n1 n2
  have obt1 := hT1.1
  refine z_aload_n C dX4_parseSemicolon_4 rfl ?_
  refine z_get C dX4_parseSemicolon_5 fl_X4_11 (by first | assumption | ((repeat (first | assumption | exact va_up_self _ _ _ | refine (va_up_ne _ _ (by assumption)).trans ?_)); done) | (simp [va_up, *] <;> rfl)) rfl ?_
  refine z_iconst C dX4_parseSemicolon_8 ?_
  refine z_icmp_neZ (tgt := 28) C dX4_parseSemicolon_9 (by decide) (by omega) (by omega) (fun h9 => ?_) (fun h9 => ?_)
  · refine z_aload_n C dX4_parseSemicolon_28 rfl ?_
    refine z_iconst C dX4_parseSemicolon_29 ?_
    refine z_callV C dX4_parseSemicolon_30 lk_X4_63 mw_X4_fail mi_X4_fail ms_X4_fail rfl (by first | assumption | ((repeat (first | assumption | exact va_up_self _ _ _ | refine (va_up_ne _ _ (by assumption)).trans ?_)); done) | (simp [va_up, *] <;> rfl)) (k_X4_fail (code := 1) hP1) rfl (by first | decide | exact Nat.le_of_ble_eq_true rfl) ⟨by decide, by decide, by decide, by decide⟩ (fun _ _ h => False.elim h) (fun v M' hp => ?_)
    obtain ⟨rfl, f2, hP3⟩ := hp
    refine z_iret C hQ dX4_parseSemicolon_33 rfl (by decide) (by decide) ?_
    refine ⟨0, rfl, f1.tr f2 (fun _ h => h) (fun _ h => h), .inr ⟨fun q => ?_, rfl, hP3⟩⟩
    rw [hkk, q] at h9
    exact h9 (by decide)
  · refine z_aload_n C dX4_parseSemicolon_12 rfl ?_
    refine z_get C dX4_parseSemicolon_13 fl_X4_27 (by first | assumption | ((repeat (first | assumption | exact va_up_self _ _ _ | refine (va_up_ne _ _ (by assumption)).trans ?_)); done) | (simp [va_up, *] <;> rfl)) rfl ?_
    refine z_aload_n C dX4_parseSemicolon_16 rfl ?_
    refine z_get C dX4_parseSemicolon_17 fl_X4_15 (by first | assumption | ((repeat (first | assumption | exact va_up_self _ _ _ | refine (va_up_ne _ _ (by assumption)).trans ?_)); done) | (simp [va_up, *] <;> rfl)) rfl ?_
    refine z_callV C dX4_parseSemicolon_20 lk_X4_134 mw_X0_at mi_X0_at ms_X0_at rfl (by first | assumption | ((repeat (first | assumption | exact va_up_self _ _ _ | refine (va_up_ne _ _ (by assumption)).trans ?_)); done) | (simp [va_up, *] <;> rfl)) (k_X0_at hT1 hO (i := ztS f n (ztE f n e0)) (by unfold zR; omega)) rfl (by first | decide | exact Nat.le_of_ble_eq_true rfl) ⟨by decide, by decide, by decide, by decide⟩ (fun _ _ h => False.elim h) (fun v M' hp => ?_)
    obtain ⟨r20, rfl, rfl, hr20⟩ := hp
    subst hr20
    refine z_bipush C dX4_parseSemicolon_23 (by decide) ?_
    refine z_icmp_eqZ (tgt := 34) C dX4_parseSemicolon_25 (by decide) (by omega) (by omega) (fun h25 => ?_) (fun h25 => ?_)
    · refine z_aload_n C dX4_parseSemicolon_34 rfl ?_
      refine z_callV C dX4_parseSemicolon_35 lk_X4_35 mw_X4_next mi_X4_next ms_X4_next rfl (by first | assumption | ((repeat (first | assumption | exact va_up_self _ _ _ | refine (va_up_ne _ _ (by assumption)).trans ?_)); done) | (simp [va_up, *] <;> rfl)) (k_X4_next hP1 hT1 hO (by omega)) rfl (by first | decide | exact Nat.le_of_ble_eq_true rfl) ⟨by decide, by decide, by decide, by decide⟩ (fun _ _ h => False.elim h) (fun v M' hp => ?_)
      obtain ⟨rfl, f2, hP3⟩ := hp
      refine z_iconst C dX4_parseSemicolon_38 ?_
      refine z_iret C hQ dX4_parseSemicolon_39 rfl (by decide) (by decide) ?_
      exact ⟨1, rfl, f1.tr f2 (fun _ h => h) (fun _ h => h), .inl ⟨h25, rfl, hP3⟩⟩
    · refine z_aload_n C dX4_parseSemicolon_28 rfl ?_
      refine z_iconst C dX4_parseSemicolon_29 ?_
      refine z_callV C dX4_parseSemicolon_30 lk_X4_63 mw_X4_fail mi_X4_fail ms_X4_fail rfl (by first | assumption | ((repeat (first | assumption | exact va_up_self _ _ _ | refine (va_up_ne _ _ (by assumption)).trans ?_)); done) | (simp [va_up, *] <;> rfl)) (k_X4_fail (code := 1) hP1) rfl (by first | decide | exact Nat.le_of_ble_eq_true rfl) ⟨by decide, by decide, by decide, by decide⟩ (fun _ _ h => False.elim h) (fun v M' hp => ?_)
      obtain ⟨rfl, f2, hP3⟩ := hp
      refine z_iret C hQ dX4_parseSemicolon_33 rfl (by decide) (by decide) ?_
      exact ⟨0, rfl, f1.tr f2 (fun _ h => h) (fun _ h => h), .inr ⟨h25, rfl, hP3⟩⟩

