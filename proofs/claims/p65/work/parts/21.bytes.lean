/-! Bytes -/
def hBy (γ : zG) (M : zM) (a r : Nat) (f : Nat → Int) (n : Int) : Prop := M a = some (.inr (0, [.ref r, .int (zi n)])) ∧ M r = some (zar γ 500 f)
/-- the bytes in use -/
def hBo (f : Nat → Int) (n : Int) : Prop := (0 ≤ n ∧ n ≤ 500) ∧ (∀ j, zR (f j)) ∧ ∀ j : Nat, j < n → 0 ≤ f j ∧ f j ≤ 255
def hAt (f : Nat → Int) (n i : Int) : Int := if 0 ≤ i ∧ i < n then f i.toNat else -1
theorem hAt_rng {f : Nat → Int} {n : Int} (h : hBo f n) (i : Int) : -1 ≤ hAt f n i ∧ hAt f n i ≤ 255 := by
  unfold hAt
  split
  · have := h.2.2 i.toNat (by omega)
    omega
  · omega
set_option maxHeartbeats 4000000 in
set_option maxRecDepth 100000 in
theorem k_X0_clear {l : Launch} {γ : zG} {M : zM} {a r : Nat} {f : Nat → Int} {n : Int} (hB : hBy γ M a r f n) :
    zCon l γ yX0_clear cX0_clear 1 none [.ref a] M 0 0 0 0 (fun v' M' => v' = none ∧ hBy γ M' a r f 0 ∧ zFr M M' [a]) (fun _ _ => False) := by
  obtain ⟨hB, hR⟩ := hB
  have h1 := zne_ka hB hR
  refine zEnter [some (.ref a)] (by decide +kernel) rfl rfl (Nat.le_of_ble_eq_true rfl) ?_
  intro p e s m args below meth c Q C hin hQ
  refine z_aload_n C dX0_clear_0 rfl ?_
  refine z_iconst C dX0_clear_1 ?_
  refine z_put C dX0_clear_2 fl_X0_15 (by first | assumption | ((repeat (first | assumption | exact va_up_self _ _ _ | refine (va_up_ne _ _ (by assumption)).trans ?_)); done) | (simp [va_up, *] <;> rfl)) rfl rfl (by simp) ?_
  refine z_vret C hQ dX0_clear_5 (by decide) (by decide) ?_
  exact ⟨rfl, ⟨by simp [va_up], by rw [va_up_ne _ _ h1.symm]; exact hR⟩, zFr.up (by simp)⟩
set_option maxHeartbeats 4000000 in
set_option maxRecDepth 100000 in
theorem k_X0_append {l : Launch} {γ : zG} {M : zM} {a r : Nat} {f : Nat → Int} {n x : Int} (hB : hBy γ M a r f n) (hO : hBo f n) (hx : 0 ≤ x ∧ x ≤ 255) :
    zCon l γ yX0_append cX0_append 2 none [.ref a, .int (zi x)] M 0 0 0 0 (fun v' M' => v' = none ∧ zFr M M' [a, r] ∧ ((n < 500 ∧ hBy γ M' a r (va_up f n.toNat x) (n + 1) ∧ hBo (va_up f n.toNat x) (n + 1)) ∨ (n = 500 ∧ hBy γ M' a r f n))) (fun _ _ => False) := by
  obtain ⟨hB, hR⟩ := hB
  obtain ⟨hn, hf, hb⟩ := hO
  have h1 := zne_ka hB hR
  refine zEnter [some (.ref a), some (.int (zi x))] (by decide +kernel) rfl rfl (Nat.le_of_ble_eq_true rfl) ?_
  intro p e s m args below meth c Q C hin hQ
  refine z_aload_n C dX0_append_0 rfl ?_
  refine z_get C dX0_append_1 fl_X0_15 (by first | assumption | ((repeat (first | assumption | exact va_up_self _ _ _ | refine (va_up_ne _ _ (by assumption)).trans ?_)); done) | (simp [va_up, *] <;> rfl)) rfl ?_
  refine z_aload_n C dX0_append_4 rfl ?_
  refine z_get C dX0_append_5 fl_X0_9 (by first | assumption | ((repeat (first | assumption | exact va_up_self _ _ _ | refine (va_up_ne _ _ (by assumption)).trans ?_)); done) | (simp [va_up, *] <;> rfl)) rfl ?_
  refine z_alenI C dX0_append_8 (by first | assumption | ((repeat (first | assumption | exact va_up_self _ _ _ | refine (va_up_ne _ _ (by assumption)).trans ?_)); done) | (simp [va_up, *] <;> rfl)) (by decide) ?_
  refine z_icmp_geZ (tgt := 32) C dX0_append_9 (by decide) (by omega) (by omega) (fun h9 => ?_) (fun h9 => ?_)
  · refine z_vret C hQ dX0_append_32 (by decide) (by decide) ?_
    exact ⟨rfl, zFr.rf, Or.inr ⟨by omega, hB, hR⟩⟩
  · refine z_aload_n C dX0_append_12 rfl ?_
    refine z_get C dX0_append_13 fl_X0_9 (by first | assumption | ((repeat (first | assumption | exact va_up_self _ _ _ | refine (va_up_ne _ _ (by assumption)).trans ?_)); done) | (simp [va_up, *] <;> rfl)) rfl ?_
    refine z_aload_n C dX0_append_16 rfl ?_
    refine z_get C dX0_append_17 fl_X0_15 (by first | assumption | ((repeat (first | assumption | exact va_up_self _ _ _ | refine (va_up_ne _ _ (by assumption)).trans ?_)); done) | (simp [va_up, *] <;> rfl)) rfl ?_
    refine z_iload_n C dX0_append_20 rfl ?_
    refine z_astN C dX0_append_21 (by first | assumption | ((repeat (first | assumption | exact va_up_self _ _ _ | refine (va_up_ne _ _ (by assumption)).trans ?_)); done) | (simp [va_up, *] <;> rfl)) (by omega) (by omega) (by assumption) (by omega) (fun hr21 => ?_)
    refine z_aload_n C dX0_append_22 rfl ?_
    refine z_dup C dX0_append_23 rfl ?_
    refine z_get C dX0_append_24 fl_X0_15 (by first | assumption | ((repeat (first | assumption | exact va_up_self _ _ _ | refine (va_up_ne _ _ (by assumption)).trans ?_)); done) | (simp [va_up, *] <;> rfl)) rfl ?_
    refine z_iconst C dX0_append_27 ?_
    refine z_iaddZ C dX0_append_28 ?_
    refine z_put C dX0_append_29 fl_X0_15 (by first | assumption | ((repeat (first | assumption | exact va_up_self _ _ _ | refine (va_up_ne _ _ (by assumption)).trans ?_)); done) | (simp [va_up, *] <;> rfl)) rfl rfl (by simp) ?_
    refine z_vret C hQ dX0_append_32 (by decide) (by decide) ?_
    refine ⟨rfl, ?_, Or.inl ⟨by omega, ⟨by simp [va_up], ?_⟩, by omega, hr21, fun j hj => ?_⟩⟩
    · exact (zFr.up (by simp)).tr (zFr.up (by simp)) (fun _ h => h) (fun _ h => h)
    · rw [va_up_ne _ _ h1.symm, va_up_self]
    · unfold va_up
      split
      · exact hx
      · exact hb j (by omega)
set_option maxHeartbeats 4000000 in
set_option maxRecDepth 100000 in
theorem k_X0_at {l : Launch} {γ : zG} {M : zM} {a r : Nat} {f : Nat → Int} {n i : Int} (hB : hBy γ M a r f n) (hO : hBo f n) (hi : zR i) :
    zCon l γ yX0_at cX0_at 2 (some .int) [.ref a, .int (zi i)] M 0 0 0 0 (fun v' M' => ∃ x : Int, v' = some (.int (zi x)) ∧ M' = M ∧ x = hAt f n i) (fun _ _ => False) := by
  obtain ⟨hB, hR⟩ := hB
  obtain ⟨hn, hf, hb⟩ := hO
  unfold zR at hi
  refine zEnter [some (.ref a), some (.int (zi i))] (by decide +kernel) rfl rfl (Nat.le_of_ble_eq_true rfl) ?_
  intro p e s m args below meth c Q C hin hQ
  refine z_iload_n C dX0_at_0 rfl ?_
  refine z_if_ltZ (tgt := 21) C dX0_at_1 (by decide) (by omega) (fun h1 => ?_) (fun h1 => ?_)
  · refine z_iconst C dX0_at_21 ?_
    refine z_iret C hQ dX0_at_22 rfl (by decide) (by decide) ?_
    exact ⟨-1, rfl, rfl, by rw [hAt, if_neg (by omega)]⟩
  · refine z_iload_n C dX0_at_4 rfl ?_
    refine z_aload_n C dX0_at_5 rfl ?_
    refine z_get C dX0_at_6 fl_X0_15 (by first | assumption | ((repeat (first | assumption | exact va_up_self _ _ _ | refine (va_up_ne _ _ (by assumption)).trans ?_)); done) | (simp [va_up, *] <;> rfl)) rfl ?_
    refine z_icmp_geZ (tgt := 21) C dX0_at_9 (by decide) (by omega) (by omega) (fun h9 => ?_) (fun h9 => ?_)
    · refine z_iconst C dX0_at_21 ?_
      refine z_iret C hQ dX0_at_22 rfl (by decide) (by decide) ?_
      exact ⟨-1, rfl, rfl, by rw [hAt, if_neg (by omega)]⟩
    · refine z_aload_n C dX0_at_12 rfl ?_
      refine z_get C dX0_at_13 fl_X0_9 (by first | assumption | ((repeat (first | assumption | exact va_up_self _ _ _ | refine (va_up_ne _ _ (by assumption)).trans ?_)); done) | (simp [va_up, *] <;> rfl)) rfl ?_
      refine z_iload_n C dX0_at_16 rfl ?_
      refine z_aldN C dX0_at_17 (by first | assumption | ((repeat (first | assumption | exact va_up_self _ _ _ | refine (va_up_ne _ _ (by assumption)).trans ?_)); done) | (simp [va_up, *] <;> rfl)) (by omega) (by omega) (by assumption) (fun hr17 => ?_)
      refine z_goto (tgt := 22) C dX0_at_18 (by decide) ?_
      refine z_iret C hQ dX0_at_22 rfl (by decide) (by decide) ?_
      exact ⟨_, rfl, rfl, by rw [hAt, if_pos (by omega)]⟩
/-- the bytes from b to e are letters -/
def hNm (f : Nat → Int) (n b e : Int) : Prop := ∀ j : Int, b ≤ j → j < e → zLet (hAt f n j)
set_option maxHeartbeats 4000000 in
set_option maxRecDepth 100000 in
theorem k_X0_isName {l : Launch} {γ : zG} {M : zM} {a r : Nat} {f : Nat → Int} {n b e0 : Int} (hB : hBy γ M a r f n) (hO : hBo f n) (hb : 0 ≤ b ∧ b ≤ 500) (he : 0 ≤ e0 ∧ e0 ≤ 500) :
    zCon l γ yX0_isName cX0_isName 5 (some .boolean) [.ref a, .int (zi b), .int (zi e0)] M 1 22 0 0 (fun v' M' => ∃ x : Int, v' = some (.int (zi x)) ∧ M' = M ∧ zB x (b < e0 ∧ e0 - b ≤ 4 ∧ hNm f n b e0)) (fun _ _ => False) := by
  have hat := fun i (hi : zR i) => @k_X0_at l γ M a r f n i hB hO hi
  have hrg := hAt_rng hO
  obtain ⟨hB, hR⟩ := hB
  refine zEnter [some (.ref a), some (.int (zi b)), some (.int (zi e0)), none, none] (by decide +kernel) rfl rfl (Nat.le_of_ble_eq_true rfl) ?_
  intro p e s m args below meth c Q C hin hQ
  have loop : ∀ (t : Nat) (i g : Int), e0 - i ≤ t → b ≤ i → i ≤ e0 ∨ i = b → zB g (b < e0 ∧ e0 - b ≤ 4 ∧ hNm f n b i) → zAW p l e { frames := 1, cells := 0, slots := 0, locals := 22 } s m args below meth c γ 5 Q M 0 0 21 [some (.ref a), some (.int (zi b)), some (.int (zi e0)), some (.int (zi g)), some (.int (zi i))] [] := by
    intro t
    induction t with
    | zero =>
      intro i g ht hi hi2 hg
      have hg2 := hg.rng
      refine z_iload C dX0_isName_21 rfl ?_
      refine z_iload_n C dX0_isName_23 rfl ?_
      refine z_icmp_geZ (tgt := 47) C dX0_isName_24 (by decide) (by omega) (by omega) (fun h24 => ?_) (fun h24 => ?_)
      · refine z_iload_n C dX0_isName_47 rfl ?_
        refine z_iret C hQ dX0_isName_48 hg.nar (by decide) (by decide) ?_
        exact ⟨g, rfl, rfl, zB.cg ⟨fun q => ⟨q.1, q.2.1, fun j h1 h2 => q.2.2 j h1 (by omega)⟩, fun q => ⟨q.1, q.2.1, fun j h1 h2 => q.2.2 j h1 (by omega)⟩⟩ hg⟩
      · exact absurd h24 (by omega)
    | succ t ih =>
      intro i g ht hi hi2 hg
      have hg2 := hg.rng
      refine z_iload C dX0_isName_21 rfl ?_
      refine z_iload_n C dX0_isName_23 rfl ?_
      refine z_icmp_geZ (tgt := 47) C dX0_isName_24 (by decide) (by omega) (by omega) (fun h24 => ?_) (fun h24 => ?_)
      · refine z_iload_n C dX0_isName_47 rfl ?_
        refine z_iret C hQ dX0_isName_48 hg.nar (by decide) (by decide) ?_
        exact ⟨g, rfl, rfl, zB.cg ⟨fun q => ⟨q.1, q.2.1, fun j h1 h2 => q.2.2 j h1 (by omega)⟩, fun q => ⟨q.1, q.2.1, fun j h1 h2 => q.2.2 j h1 (by omega)⟩⟩ hg⟩
      · refine z_iload_n C dX0_isName_27 rfl ?_
        refine z_if_eqZ (tgt := 47) C dX0_isName_28 (by decide) (by omega) (fun h28 => ?_) (fun h28 => ?_)
        · refine z_iload_n C dX0_isName_47 rfl ?_
          refine z_iret C hQ dX0_isName_48 hg.nar (by decide) (by decide) ?_
          exact ⟨g, rfl, rfl, Or.inr ⟨h28, fun q => hg.f h28 ⟨q.1, q.2.1, fun j h1 h2 => q.2.2 j h1 (by omega)⟩⟩⟩
        · refine z_aload_n C dX0_isName_31 rfl ?_
          refine z_iload C dX0_isName_32 rfl ?_
          refine z_callV C dX0_isName_34 lk_X0_23 mw_X0_at mi_X0_at ms_X0_at rfl (by first | assumption | ((repeat (first | assumption | exact va_up_self _ _ _ | refine (va_up_ne _ _ (by assumption)).trans ?_)); done) | (simp [va_up, *] <;> rfl)) (hat i ⟨by omega, by omega⟩) rfl (by first | decide | exact Nat.le_of_ble_eq_true rfl) ⟨by decide, by decide, by decide, by decide⟩ (fun _ _ h => False.elim h) (fun v M' hp => ?_)
          obtain ⟨x34, rfl, rfl, hr34⟩ := hp
          have hr34' := hrg i
          rw [← hr34] at hr34'
          refine z_callSN C dX0_isName_37 nk_X0_27 mw_X8_isLetter mst_X8_isLetter (k_X8_isLetter ⟨by omega, by omega⟩) rfl (by first | decide | exact Nat.le_of_ble_eq_true rfl) ⟨by decide, by decide, by decide, by decide⟩ (fun _ _ h => False.elim h) (fun v M' hp => ?_)
          obtain ⟨r37, rfl, rfl, hr37⟩ := hp
          refine z_istore_n C dX0_isName_40 (by decide) ?_
          refine z_iincZ C dX0_isName_41 rfl (by decide) ?_
          refine z_goto (tgt := 21) C dX0_isName_44 (by decide) ?_
          have hp := hg.t h28
          refine ih _ _ (by omega) (by omega) (by omega) (zB.cg ⟨fun q => ⟨hp.1, hp.2.1, fun j h1 h2 => ?_⟩, fun q => ?_⟩ hr37)
          · by_cases hj : j = i
            · rw [hj, ← hr34]; exact q
            · exact hp.2.2 j h1 (by omega)
          · rw [hr34]; exact q.2.2 i (by omega) (by omega)
  refine z_iload_n C dX0_isName_0 rfl ?_
  refine z_iload_n C dX0_isName_1 rfl ?_
  refine z_icmp_leZ (tgt := 16) C dX0_isName_2 (by decide) (by omega) (by omega) (fun h2 => ?_) (fun h2 => ?_)
  · refine z_iconst C dX0_isName_16 ?_
    refine z_istore_n C dX0_isName_17 (by decide) ?_
    refine z_iload_n C dX0_isName_18 rfl ?_
    refine z_istore C dX0_isName_19 (by decide) ?_
    exact loop 500 b 0 (by omega) (by omega) (by omega) (Or.inr ⟨rfl, fun q => by omega⟩)
  · refine z_iload_n C dX0_isName_5 rfl ?_
    refine z_iload_n C dX0_isName_6 rfl ?_
    refine z_isubZ C dX0_isName_7 ?_
    refine z_iconst C dX0_isName_8 ?_
    refine z_icmp_gtZ (tgt := 16) C dX0_isName_9 (by decide) (by omega) (by omega) (fun h9 => ?_) (fun h9 => ?_)
    · refine z_iconst C dX0_isName_16 ?_
      refine z_istore_n C dX0_isName_17 (by decide) ?_
      refine z_iload_n C dX0_isName_18 rfl ?_
      refine z_istore C dX0_isName_19 (by decide) ?_
      exact loop 500 b 0 (by omega) (by omega) (by omega) (Or.inr ⟨rfl, fun q => by omega⟩)
    · refine z_iconst C dX0_isName_12 ?_
      refine z_goto (tgt := 17) C dX0_isName_13 (by decide) ?_
      refine z_istore_n C dX0_isName_17 (by decide) ?_
      refine z_iload_n C dX0_isName_18 rfl ?_
      refine z_istore C dX0_isName_19 (by decide) ?_
      exact loop 500 b 1 (by omega) (by omega) (by omega) (Or.inl ⟨rfl, by omega, by omega, fun j h1 h2 => by omega⟩)
/-- the bytes from b to e are letters or underscores -/
def hDm (f : Nat → Int) (n b e : Int) : Prop := ∀ j : Int, b ≤ j → j < e → zLet (hAt f n j) ∨ hAt f n j = 95
set_option maxHeartbeats 4000000 in
set_option maxRecDepth 100000 in
theorem k_X0_isDocument {l : Launch} {γ : zG} {M : zM} {a r : Nat} {f : Nat → Int} {n b e0 : Int} (hB : hBy γ M a r f n) (hO : hBo f n) (hb : 0 ≤ b ∧ b ≤ 500) (he : 0 ≤ e0 ∧ e0 ≤ 500) :
    zCon l γ yX0_isDocument cX0_isDocument 5 (some .boolean) [.ref a, .int (zi b), .int (zi e0)] M 1 22 0 0 (fun v' M' => ∃ x : Int, v' = some (.int (zi x)) ∧ M' = M ∧ zB x (b < e0 ∧ e0 - b ≤ 40 ∧ hDm f n b e0)) (fun _ _ => False) := by
  have hat := fun i (hi : zR i) => @k_X0_at l γ M a r f n i hB hO hi
  have hrg := hAt_rng hO
  obtain ⟨hB, hR⟩ := hB
  refine zEnter [some (.ref a), some (.int (zi b)), some (.int (zi e0)), none, none] (by decide +kernel) rfl rfl (Nat.le_of_ble_eq_true rfl) ?_
  intro p e s m args below meth c Q C hin hQ
  have loop : ∀ (t : Nat) (i g : Int), e0 - i ≤ t → b ≤ i → i ≤ e0 ∨ i = b → zB g (b < e0 ∧ e0 - b ≤ 40 ∧ hDm f n b i) → zAW p l e { frames := 1, cells := 0, slots := 0, locals := 22 } s m args below meth c γ 5 Q M 0 0 22 [some (.ref a), some (.int (zi b)), some (.int (zi e0)), some (.int (zi g)), some (.int (zi i))] [] := by
    intro t
    induction t with
    | zero =>
      intro i g ht hi hi2 hg
      have hg2 := hg.rng
      refine z_iload C dX0_isDocument_22 rfl ?_
      refine z_iload_n C dX0_isDocument_24 rfl ?_
      refine z_icmp_geZ (tgt := 67) C dX0_isDocument_25 (by decide) (by omega) (by omega) (fun h25 => ?_) (fun h25 => ?_)
      · refine z_iload_n C dX0_isDocument_67 rfl ?_
        refine z_iret C hQ dX0_isDocument_68 hg.nar (by decide) (by decide) ?_
        exact ⟨g, rfl, rfl, zB.cg ⟨fun q => ⟨q.1, q.2.1, fun j h1 h2 => q.2.2 j h1 (by omega)⟩, fun q => ⟨q.1, q.2.1, fun j h1 h2 => q.2.2 j h1 (by omega)⟩⟩ hg⟩
      · exact absurd h25 (by omega)
    | succ t ih =>
      intro i g ht hi hi2 hg
      have hg2 := hg.rng
      refine z_iload C dX0_isDocument_22 rfl ?_
      refine z_iload_n C dX0_isDocument_24 rfl ?_
      refine z_icmp_geZ (tgt := 67) C dX0_isDocument_25 (by decide) (by omega) (by omega) (fun h25 => ?_) (fun h25 => ?_)
      · refine z_iload_n C dX0_isDocument_67 rfl ?_
        refine z_iret C hQ dX0_isDocument_68 hg.nar (by decide) (by decide) ?_
        exact ⟨g, rfl, rfl, zB.cg ⟨fun q => ⟨q.1, q.2.1, fun j h1 h2 => q.2.2 j h1 (by omega)⟩, fun q => ⟨q.1, q.2.1, fun j h1 h2 => q.2.2 j h1 (by omega)⟩⟩ hg⟩
      · refine z_iload_n C dX0_isDocument_28 rfl ?_
        refine z_if_eqZ (tgt := 67) C dX0_isDocument_29 (by decide) (by omega) (fun h29 => ?_) (fun h29 => ?_)
        · refine z_iload_n C dX0_isDocument_67 rfl ?_
          refine z_iret C hQ dX0_isDocument_68 hg.nar (by decide) (by decide) ?_
          exact ⟨g, rfl, rfl, Or.inr ⟨h29, fun q => hg.f h29 ⟨q.1, q.2.1, fun j h1 h2 => q.2.2 j h1 (by omega)⟩⟩⟩
        · refine z_aload_n C dX0_isDocument_32 rfl ?_
          refine z_iload C dX0_isDocument_33 rfl ?_
          refine z_callV C dX0_isDocument_35 lk_X0_23 mw_X0_at mi_X0_at ms_X0_at rfl (by first | assumption | ((repeat (first | assumption | exact va_up_self _ _ _ | refine (va_up_ne _ _ (by assumption)).trans ?_)); done) | (simp [va_up, *] <;> rfl)) (hat i ⟨by omega, by omega⟩) rfl (by first | decide | exact Nat.le_of_ble_eq_true rfl) ⟨by decide, by decide, by decide, by decide⟩ (fun _ _ h => False.elim h) (fun v M' hp => ?_)
          obtain ⟨x35, rfl, rfl, hr35⟩ := hp
          have hr35' := hrg i
          rw [← hr35] at hr35'
          refine z_callSN C dX0_isDocument_38 nk_X0_27 mw_X8_isLetter mst_X8_isLetter (k_X8_isLetter ⟨by omega, by omega⟩) rfl (by first | decide | exact Nat.le_of_ble_eq_true rfl) ⟨by decide, by decide, by decide, by decide⟩ (fun _ _ h => False.elim h) (fun v M' hp => ?_)
          obtain ⟨r38, rfl, rfl, hr38⟩ := hp
          have hr38' := hr38.rng
          refine z_if_neZ (tgt := 55) C dX0_isDocument_41 (by decide) (by omega) (fun h41 => ?_) (fun h41 => ?_)
          · refine z_iconst C dX0_isDocument_55 ?_
            refine z_goto (tgt := 60) C dX0_isDocument_56 (by decide) ?_
            refine z_istore_n C dX0_isDocument_60 (by decide) ?_
            refine z_iincZ C dX0_isDocument_61 rfl (by decide) ?_
            refine z_goto (tgt := 22) C dX0_isDocument_64 (by decide) ?_
            have hp := hg.t h29
            refine ih _ _ (by omega) (by omega) (by omega) (Or.inl ⟨rfl, hp.1, hp.2.1, fun j h1 h2 => ?_⟩)
            by_cases hj : j = i
            · rw [hj, ← hr35]; exact Or.inl (hr38.t h41)
            · exact hp.2.2 j h1 (by omega)
          · refine z_aload_n C dX0_isDocument_44 rfl ?_
            refine z_iload C dX0_isDocument_45 rfl ?_
            refine z_callV C dX0_isDocument_47 lk_X0_23 mw_X0_at mi_X0_at ms_X0_at rfl (by first | assumption | ((repeat (first | assumption | exact va_up_self _ _ _ | refine (va_up_ne _ _ (by assumption)).trans ?_)); done) | (simp [va_up, *] <;> rfl)) (hat i ⟨by omega, by omega⟩) rfl (by first | decide | exact Nat.le_of_ble_eq_true rfl) ⟨by decide, by decide, by decide, by decide⟩ (fun _ _ h => False.elim h) (fun v M' hp => ?_)
            obtain ⟨x47, rfl, rfl, hr47⟩ := hp
            have hr47' := hrg i
            rw [← hr47] at hr47'
            refine z_bipush C dX0_isDocument_50 (by decide) ?_
            refine z_icmp_neZ (tgt := 59) C dX0_isDocument_52 (by decide) (by omega) (by omega) (fun h52 => ?_) (fun h52 => ?_)
            · refine z_iconst C dX0_isDocument_59 ?_
              refine z_istore_n C dX0_isDocument_60 (by decide) ?_
              refine z_iincZ C dX0_isDocument_61 rfl (by decide) ?_
              refine z_goto (tgt := 22) C dX0_isDocument_64 (by decide) ?_
              have hp := hg.t h29
              refine ih _ _ (by omega) (by omega) (by omega) (Or.inr ⟨rfl, fun q => ?_⟩)
              rcases q.2.2 i (by omega) (by omega) with q | q
              · rw [← hr35] at q; exact hr38.f h41 q
              · rw [← hr47] at q; exact h52 q
            · refine z_iconst C dX0_isDocument_55 ?_
              refine z_goto (tgt := 60) C dX0_isDocument_56 (by decide) ?_
              refine z_istore_n C dX0_isDocument_60 (by decide) ?_
              refine z_iincZ C dX0_isDocument_61 rfl (by decide) ?_
              refine z_goto (tgt := 22) C dX0_isDocument_64 (by decide) ?_
              have hp := hg.t h29
              refine ih _ _ (by omega) (by omega) (by omega) (Or.inl ⟨rfl, hp.1, hp.2.1, fun j h1 h2 => ?_⟩)
              by_cases hj : j = i
              · rw [hj, ← hr47]; exact Or.inr h52
              · exact hp.2.2 j h1 (by omega)
  refine z_iload_n C dX0_isDocument_0 rfl ?_
  refine z_iload_n C dX0_isDocument_1 rfl ?_
  refine z_icmp_leZ (tgt := 17) C dX0_isDocument_2 (by decide) (by omega) (by omega) (fun h2 => ?_) (fun h2 => ?_)
  · refine z_iconst C dX0_isDocument_17 ?_
    refine z_istore_n C dX0_isDocument_18 (by decide) ?_
    refine z_iload_n C dX0_isDocument_19 rfl ?_
    refine z_istore C dX0_isDocument_20 (by decide) ?_
    exact loop 500 b 0 (by omega) (by omega) (by omega) (Or.inr ⟨rfl, fun q => by omega⟩)
  · refine z_iload_n C dX0_isDocument_5 rfl ?_
    refine z_iload_n C dX0_isDocument_6 rfl ?_
    refine z_isubZ C dX0_isDocument_7 ?_
    refine z_bipush C dX0_isDocument_8 (by decide) ?_
    refine z_icmp_gtZ (tgt := 17) C dX0_isDocument_10 (by decide) (by omega) (by omega) (fun h10 => ?_) (fun h10 => ?_)
    · refine z_iconst C dX0_isDocument_17 ?_
      refine z_istore_n C dX0_isDocument_18 (by decide) ?_
      refine z_iload_n C dX0_isDocument_19 rfl ?_
      refine z_istore C dX0_isDocument_20 (by decide) ?_
      exact loop 500 b 0 (by omega) (by omega) (by omega) (Or.inr ⟨rfl, fun q => by omega⟩)
    · refine z_iconst C dX0_isDocument_13 ?_
      refine z_goto (tgt := 18) C dX0_isDocument_14 (by decide) ?_
      refine z_istore_n C dX0_isDocument_18 (by decide) ?_
      refine z_iload_n C dX0_isDocument_19 rfl ?_
      refine z_istore C dX0_isDocument_20 (by decide) ?_
      exact loop 500 b 1 (by omega) (by omega) (by omega) (Or.inl ⟨rfl, by omega, by omega, fun j h1 h2 => by omega⟩)

