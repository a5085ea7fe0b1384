/-! Document -/
theorem hBy.fr {γ : zG} {M M' : zM} {a r : Nat} {f : Nat → Int} {n : Int} {S : List Nat} (h : hBy γ M a r f n) (q : zFr M M' S) (h1 : a ∉ S) (h2 : r ∉ S) : hBy γ M' a r f n := ⟨q.at h1 h.1, q.at h2 h.2⟩
def hDc (γ : zG) (M : zM) (d r : Nat) (sy : Nat → Int) (len yr : Int) : Prop := M d = some (.inr (3, [.ref r, .int (zi len), .int (zi yr)])) ∧ M r = some (zar γ 40 sy)
/-- what holds of a document's symbols -/
def zDk (sy : Nat → Int) (len : Int) : Prop := (0 ≤ len ∧ len ≤ 40) ∧ (∀ j, zR (sy j)) ∧ ∀ j : Nat, j < len → 0 ≤ sy j ∧ sy j < 27
theorem hDc.fr {γ : zG} {M M' : zM} {d r : Nat} {sy : Nat → Int} {len yr : Int} {S : List Nat} (h : hDc γ M d r sy len yr) (q : zFr M M' S) (h1 : d ∉ S) (h2 : r ∉ S) : hDc γ M' d r sy len yr := ⟨q.at h1 h.1, q.at h2 h.2⟩
theorem zDk.at {sy : Nat → Int} {len : Int} (h : zDk sy len) (i : Int) : -1 ≤ hAt sy len i ∧ hAt sy len i < 27 := by
  unfold hAt
  split
  · have := h.2.2 i.toNat (by omega)
    omega
  · omega
theorem zDk.in {sy : Nat → Int} {len : Int} (h : zDk sy len) {i : Int} (hi : 0 ≤ i ∧ i < len) : 0 ≤ hAt sy len i ∧ hAt sy len i < 27 := by
  unfold hAt
  rw [if_pos hi]
  exact h.2.2 i.toNat (by omega)
set_option maxHeartbeats 4000000 in
set_option maxRecDepth 100000 in
theorem k_X3_symbolAt {l : Launch} {γ : zG} {M : zM} {d r : Nat} {sy : Nat → Int} {len yr i : Int} (hD : hDc γ M d r sy len yr) (hk : zDk sy len) (hi : zR i) :
    zCon l γ yX3_symbolAt cX3_symbolAt 2 (some .int) [.ref d, .int (zi i)] M 0 0 0 0 (fun v' M' => ∃ x : Int, v' = some (.int (zi x)) ∧ M' = M ∧ x = hAt sy len i) (fun _ _ => False) := by
  obtain ⟨hB, hR⟩ := hD
  obtain ⟨hn, hf, hb⟩ := hk
  unfold zR at hi
  refine zEnter [some (.ref d), some (.int (zi i))] (by decide +kernel) rfl rfl (Nat.le_of_ble_eq_true rfl) ?_
  intro p e s m args below meth c Q C hin hQ
  refine z_iload_n C dX3_symbolAt_0 rfl ?_
  refine z_if_ltZ (tgt := 21) C dX3_symbolAt_1 (by decide) (by omega) (fun h1 => ?_) (fun h1 => ?_)
  · refine z_iconst C dX3_symbolAt_21 ?_
    refine z_iret C hQ dX3_symbolAt_22 rfl (by decide) (by decide) ?_
    exact ⟨-1, rfl, rfl, by rw [hAt, if_neg (by omega)]⟩
  · refine z_iload_n C dX3_symbolAt_4 rfl ?_
    refine z_aload_n C dX3_symbolAt_5 rfl ?_
    refine z_get C dX3_symbolAt_6 fl_X3_15 (by first | assumption | ((repeat (first | assumption | exact va_up_self _ _ _ | refine (va_up_ne _ _ (by assumption)).trans ?_)); done) | (simp [va_up, *] <;> rfl)) rfl ?_
    refine z_icmp_geZ (tgt := 21) C dX3_symbolAt_9 (by decide) (by omega) (by omega) (fun h9 => ?_) (fun h9 => ?_)
    · refine z_iconst C dX3_symbolAt_21 ?_
      refine z_iret C hQ dX3_symbolAt_22 rfl (by decide) (by decide) ?_
      exact ⟨-1, rfl, rfl, by rw [hAt, if_neg (by omega)]⟩
    · refine z_aload_n C dX3_symbolAt_12 rfl ?_
      refine z_get C dX3_symbolAt_13 fl_X3_9 (by first | assumption | ((repeat (first | assumption | exact va_up_self _ _ _ | refine (va_up_ne _ _ (by assumption)).trans ?_)); done) | (simp [va_up, *] <;> rfl)) rfl ?_
      refine z_iload_n C dX3_symbolAt_16 rfl ?_
      refine z_aldN C dX3_symbolAt_17 (by first | assumption | ((repeat (first | assumption | exact va_up_self _ _ _ | refine (va_up_ne _ _ (by assumption)).trans ?_)); done) | (simp [va_up, *] <;> rfl)) (by omega) (by omega) (by assumption) (fun hr17 => ?_)
      refine z_goto (tgt := 22) C dX3_symbolAt_18 (by decide) ?_
      refine z_iret C hQ dX3_symbolAt_22 rfl (by decide) (by decide) ?_
      exact ⟨_, rfl, rfl, by rw [hAt, if_pos (by omega)]⟩
set_option maxHeartbeats 4000000 in
set_option maxRecDepth 100000 in
theorem k_X3_copyFrom {l : Launch} {γ : zG} {M : zM} {d r d' r' : Nat} {sy sy' : Nat → Int} {len yr len' yr' : Int} (hD : hDc γ M d r sy len yr) (hs : ∀ j, zR (sy j)) (hE : hDc γ M d' r' sy' len' yr') (hk : zDk sy' len') (hne : r ≠ r') :
    zCon l γ yX3_copyFrom cX3_copyFrom 2 none [.ref d, .ref d'] M 1 18 0 0 (fun v' M' => v' = none ∧ zFr M M' [d, r] ∧ ∃ s2, hDc γ M' d r s2 len' yr' ∧ zDk s2 len' ∧ ∀ j : Nat, j < 40 → s2 j = sy' j) (fun _ _ => False) := by
  obtain ⟨hB, hR⟩ := hD
  obtain ⟨hB', hR'⟩ := hE
  obtain ⟨hn, hf, hb⟩ := hk
  have n1 := zne_ka hB hR
  have n2 := n1.symm
  have n3 := zne_ka hB' hR
  have n4 := n3.symm
  have n5 := (zne_ka hB hR').symm
  by_cases hdd : d' = d
  · exact absurd (by subst hdd; have h := hB.symm.trans hB'; simp at h; exact h.1) hne
  refine zEnter [some (.ref d), some (.ref d')] (by decide +kernel) rfl rfl (Nat.le_of_ble_eq_true rfl) ?_
  intro p e s m args below meth c Q C hin hQ
  refine z_aload_n C dX3_copyFrom_0 rfl ?_
  refine z_get C dX3_copyFrom_1 fl_X3_9 (by first | assumption | ((repeat (first | assumption | exact va_up_self _ _ _ | refine (va_up_ne _ _ (by assumption)).trans ?_)); done) | (simp [va_up, *] <;> rfl)) rfl ?_
  refine z_iconst C dX3_copyFrom_4 ?_
  refine z_aload_n C dX3_copyFrom_5 rfl ?_
  refine z_get C dX3_copyFrom_6 fl_X3_9 (by first | assumption | ((repeat (first | assumption | exact va_up_self _ _ _ | refine (va_up_ne _ _ (by assumption)).trans ?_)); done) | (simp [va_up, *] <;> rfl)) rfl ?_
  refine z_iconst C dX3_copyFrom_9 ?_
  refine z_bipush C dX3_copyFrom_10 (by decide) ?_
  refine z_copyZ C dX3_copyFrom_12 t3_211 ar_nat ar_st ar_in (by first | assumption | ((repeat (first | assumption | exact va_up_self _ _ _ | refine (va_up_ne _ _ (by assumption)).trans ?_)); done) | (simp [va_up, *] <;> rfl)) (by first | assumption | ((repeat (first | assumption | exact va_up_self _ _ _ | refine (va_up_ne _ _ (by assumption)).trans ?_)); done) | (simp [va_up, *] <;> rfl)) (by omega) (by omega) (by omega) (by omega) (by omega) (by decide) (by decide) ⟨by decide, (by first | decide | exact Nat.le_of_ble_eq_true rfl)⟩ (by assumption) (by assumption) (fun hr12 => ?_)
  refine z_aload_n C dX3_copyFrom_15 rfl ?_
  refine z_aload_n C dX3_copyFrom_16 rfl ?_
  refine z_get C dX3_copyFrom_17 fl_X3_15 (by first | assumption | ((repeat (first | assumption | exact va_up_self _ _ _ | refine (va_up_ne _ _ (by assumption)).trans ?_)); done) | (simp [va_up, *] <;> rfl)) rfl ?_
  refine z_put C dX3_copyFrom_20 fl_X3_15 (by first | assumption | ((repeat (first | assumption | exact va_up_self _ _ _ | refine (va_up_ne _ _ (by assumption)).trans ?_)); done) | (simp [va_up, *] <;> rfl)) rfl rfl (by simp) ?_
  refine z_aload_n C dX3_copyFrom_23 rfl ?_
  refine z_aload_n C dX3_copyFrom_24 rfl ?_
  refine z_get C dX3_copyFrom_25 fl_X3_19 (by first | assumption | ((repeat (first | assumption | exact va_up_self _ _ _ | refine (va_up_ne _ _ (by assumption)).trans ?_)); done) | (simp [va_up, *] <;> rfl)) rfl ?_
  refine z_put C dX3_copyFrom_28 fl_X3_19 (by first | assumption | ((repeat (first | assumption | exact va_up_self _ _ _ | refine (va_up_ne _ _ (by assumption)).trans ?_)); done) | (simp [va_up, *] <;> rfl)) rfl rfl (by simp) ?_
  refine z_vret C hQ dX3_copyFrom_31 (by decide) (by decide) ?_
  have e1 : ∀ j : Nat, j < 40 → va_cpy sy' sy (0 : Int).toNat (0 : Int).toNat (40 : Int).toNat j = sy' j := fun j hj => by
    unfold va_cpy
    rw [if_pos (by omega)]
    simp
  refine ⟨rfl, (zFr.u1 (zFr.u2 (S := [d, r]) zFr.rf (by simp) (by simp)) (by simp)), _, ⟨by simp [va_up], ?_⟩, ⟨hn, by assumption, fun j hj => ?_⟩, e1⟩
  · simp [va_up, n2]
  · rw [e1 j (by omega)]
    exact hb j hj
/-- the symbol of a byte -/
def zsb (x : Int) : Int := if 97 ≤ x ∧ x ≤ 122 then x - 97 else 26
set_option maxHeartbeats 4000000 in
set_option maxRecDepth 100000 in
theorem k_X3_take {l : Launch} {γ : zG} {M : zM} {d r ta tr : Nat} {sy f : Nat → Int} {len yr n b e0 yr' : Int} (hD : hDc γ M d r sy len yr) (hs : ∀ j, zR (sy j)) (hT : hBy γ M ta tr f n) (hO : hBo f n) (hne : r ≠ tr) (hb : 0 ≤ b ∧ b ≤ 500 ∧ b ≤ e0 ∧ e0 ≤ b + 40) :
    zCon l γ yX3_take cX3_take 7 none [.ref d, .ref ta, .int (zi b), .int (zi e0), .int (zi yr')] M 1 21 0 0 (fun v' M' => v' = none ∧ zFr M M' [d, r] ∧ ∃ s2, hDc γ M' d r s2 (e0 - b) yr' ∧ zDk s2 (e0 - b) ∧ ∀ j : Nat, j < e0 - b → s2 j = zsb (hAt f n (b + j))) (fun _ _ => False) := by
  obtain ⟨hB, hR⟩ := hD
  have n1 := zne_ka hB hR
  have n2 := n1.symm
  have n3 : ta ∉ [d, r] := by
    have p1 := zne_kk hT.1 hB (by decide)
    have p2 := zne_ka hT.1 hR
    simp [p1, p2]
  have n4 : tr ∉ [d, r] := by
    have p1 := zne_ka hB hT.2
    simp [p1.symm, hne.symm]
  have hrg := hAt_rng hO
  refine zEnter [some (.ref d), some (.ref ta), some (.int (zi b)), some (.int (zi e0)), some (.int (zi yr')), none, none] (by decide +kernel) rfl rfl (Nat.le_of_ble_eq_true rfl) ?_
  intro p e s m args below meth c Q C hin hQ
  have loop : ∀ (t : Nat) (M1 : zM) (i : Int) (s1 : Nat → Int) (x6 : Option Value), b ≤ i ∧ i ≤ e0 ∧ e0 - i = t → zFr M M1 [d, r] → M1 d = some (.inr (3, [.ref r, .int (zi (i - b)), .int (zi yr)])) → M1 r = some (zar γ 40 s1) → zDk s1 (i - b) → (∀ j : Nat, j < i - b → s1 j = zsb (hAt f n (b + j))) → zAW p l e { frames := 1, cells := 0, slots := 0, locals := 21 } s m args below meth c γ 7 Q M1 0 0 8 [some (.ref d), some (.ref ta), some (.int (zi b)), some (.int (zi e0)), some (.int (zi yr')), some (.int (zi i)), x6] [] := by
    intro t
    induction t with
    | zero =>
      intro M1 i s1 x6 hi hf hB1 hR1 hk1 hv1
      obtain rfl : i = e0 := by omega
      refine z_iload C dX3_take_8 rfl ?_
      refine z_iload_n C dX3_take_10 rfl ?_
      refine z_icmp_geZ (tgt := 74) C dX3_take_11 (by decide) (by omega) (by omega) (fun h11 => ?_) (fun h11 => ?_)
      · refine z_aload_n C dX3_take_74 rfl ?_
        refine z_iload C dX3_take_75 rfl ?_
        refine z_put C dX3_take_77 fl_X3_19 (by first | assumption | ((repeat (first | assumption | exact va_up_self _ _ _ | refine (va_up_ne _ _ (by assumption)).trans ?_)); done) | (simp [va_up, *] <;> rfl)) rfl rfl (by simp) ?_
        refine z_vret C hQ dX3_take_80 (by decide) (by decide) ?_
        exact ⟨rfl, zFr.u1 hf (by simp), s1, ⟨by simp [va_up], by simp [va_up, n2, hR1]⟩, hk1, hv1⟩
      · exact absurd h11 (by omega)
    | succ t ih =>
      intro M1 i s1 x6 hi hf hB1 hR1 hk1 hv1
      have hT1 := hT.fr hf n3 n4
      obtain ⟨z1, z2, z3⟩ := id hk1
      have hat := fun i (hi : zR i) => @k_X0_at l γ M1 ta tr f n i hT1 hO hi
      have ob := hT1.1
      have nx : ∀ w, w = zsb (hAt f n i) → ∀ M2 : zM, (∀ j, zR (va_up s1 (i - b).toNat w j)) → M2 = va_up (va_up M1 r (some (zar γ 40 (va_up s1 (i - b).toNat w)))) d (some (.inr (3, [.ref r, .int (zi (i - b + 1)), .int (zi yr)]))) → zAW p l e { frames := 1, cells := 0, slots := 0, locals := 21 } s m args below meth c γ 7 Q M2 0 0 8 [some (.ref d), some (.ref ta), some (.int (zi b)), some (.int (zi e0)), some (.int (zi yr')), some (.int (zi (i + 1))), some (.int (zi (hAt f n i)))] [] := by
        intro w hw M2 hz hM2
        subst hM2
        have q := hrg i
        refine ih _ (i + 1) (va_up s1 (i - b).toNat w) _ (by omega) (zFr.u2 hf (by simp) (by simp)) ?_ ?_ ⟨by omega, hz, fun j hj => ?_⟩ (fun j hj => ?_)
        · rw [show i + 1 - b = i - b + 1 by omega]
          simp [va_up]
        · simp [va_up, n2]
        · by_cases e1 : j = (i - b).toNat
          · subst e1
            rw [va_up_self, hw]
            unfold zsb
            split <;> omega
          · rw [va_up_ne _ _ e1]
            exact z3 j (by omega)
        · by_cases e1 : j = (i - b).toNat
          · subst e1
            rw [va_up_self, hw]
            congr 2
            omega
          · rw [va_up_ne _ _ e1]
            exact hv1 j (by omega)
      refine z_iload C dX3_take_8 rfl ?_
      refine z_iload_n C dX3_take_10 rfl ?_
      refine z_icmp_geZ (tgt := 74) C dX3_take_11 (by decide) (by omega) (by omega) (fun h11 => ?_) (fun h11 => ?_)
      · exact absurd h11 (by omega)
      · refine z_aload_n C dX3_take_14 rfl ?_
        refine z_get C dX3_take_15 fl_X3_15 (by first | assumption | ((repeat (first | assumption | exact va_up_self _ _ _ | refine (va_up_ne _ _ (by assumption)).trans ?_)); done) | (simp [va_up, *] <;> rfl)) rfl ?_
        refine z_bipush C dX3_take_18 (by decide) ?_
        refine z_icmp_geZ (tgt := 74) C dX3_take_20 (by decide) (by omega) (by omega) (fun h20 => ?_) (fun h20 => ?_)
        · exact absurd h20 (by omega)
        · refine z_aload_n C dX3_take_23 rfl ?_
          refine z_iload C dX3_take_24 rfl ?_
          refine z_callV C dX3_take_26 lk_X3_28 mw_X0_at mi_X0_at ms_X0_at rfl (by first | assumption | ((repeat (first | assumption | exact va_up_self _ _ _ | refine (va_up_ne _ _ (by assumption)).trans ?_)); done) | (simp [va_up, *] <;> rfl)) (hat i ⟨by omega, by omega⟩) rfl (by first | decide | exact Nat.le_of_ble_eq_true rfl) ⟨by decide, by decide, by decide, by decide⟩ (fun _ _ h => False.elim h) (fun v M' hp => ?_)
          obtain ⟨x26, rfl, rfl, hr26⟩ := hp
          subst hr26
          have q26 := hrg i
          refine z_istore C dX3_take_29 (by decide) ?_
          refine z_aload_n C dX3_take_31 rfl ?_
          refine z_get C dX3_take_32 fl_X3_9 (by first | assumption | ((repeat (first | assumption | exact va_up_self _ _ _ | refine (va_up_ne _ _ (by assumption)).trans ?_)); done) | (simp [va_up, *] <;> rfl)) rfl ?_
          refine z_aload_n C dX3_take_35 rfl ?_
          refine z_get C dX3_take_36 fl_X3_15 (by first | assumption | ((repeat (first | assumption | exact va_up_self _ _ _ | refine (va_up_ne _ _ (by assumption)).trans ?_)); done) | (simp [va_up, *] <;> rfl)) rfl ?_
          refine z_iload C dX3_take_39 rfl ?_
          refine z_callSN C dX3_take_41 nk_X3_34 mw_X8_isLetter mst_X8_isLetter (k_X8_isLetter ⟨by omega, by omega⟩) rfl (by first | decide | exact Nat.le_of_ble_eq_true rfl) ⟨by decide, by decide, by decide, by decide⟩ (fun _ _ h => False.elim h) (fun v M' hp => ?_)
          obtain ⟨r41, rfl, rfl, hr41⟩ := hp
          have q41 := hr41.rng
          refine z_if_eqZ (tgt := 55) C dX3_take_44 (by decide) (by omega) (fun h44 => ?_) (fun h44 => ?_)
          · refine z_bipush C dX3_take_55 (by decide) ?_
            refine z_astN C dX3_take_57 (by first | assumption | ((repeat (first | assumption | exact va_up_self _ _ _ | refine (va_up_ne _ _ (by assumption)).trans ?_)); done) | (simp [va_up, *] <;> rfl)) (by omega) (by omega) (by assumption) (by omega) (fun hr57 => ?_)
            refine z_aload_n C dX3_take_58 rfl ?_
            refine z_dup C dX3_take_59 rfl ?_
            refine z_get C dX3_take_60 fl_X3_15 (by first | assumption | ((repeat (first | assumption | exact va_up_self _ _ _ | refine (va_up_ne _ _ (by assumption)).trans ?_)); done) | (simp [va_up, *] <;> rfl)) rfl ?_
            refine z_iconst C dX3_take_63 ?_
            refine z_iaddZ C dX3_take_64 ?_
            refine z_put C dX3_take_65 fl_X3_15 (by first | assumption | ((repeat (first | assumption | exact va_up_self _ _ _ | refine (va_up_ne _ _ (by assumption)).trans ?_)); done) | (simp [va_up, *] <;> rfl)) rfl rfl (by simp) ?_
            refine z_iincZ C dX3_take_68 rfl (by decide) ?_
            refine z_goto (tgt := 8) C dX3_take_71 (by decide) ?_
            refine nx 26 ?_ _ hr57 rfl
            exact (if_neg (hr41.f h44)).symm
          · refine z_iload C dX3_take_47 rfl ?_
            refine z_bipush C dX3_take_49 (by decide) ?_
            refine z_isubZ C dX3_take_51 ?_
            refine z_goto (tgt := 57) C dX3_take_52 (by decide) ?_
            refine z_astN C dX3_take_57 (by first | assumption | ((repeat (first | assumption | exact va_up_self _ _ _ | refine (va_up_ne _ _ (by assumption)).trans ?_)); done) | (simp [va_up, *] <;> rfl)) (by omega) (by omega) (by assumption) (by omega) (fun hr57 => ?_)
            refine z_aload_n C dX3_take_58 rfl ?_
            refine z_dup C dX3_take_59 rfl ?_
            refine z_get C dX3_take_60 fl_X3_15 (by first | assumption | ((repeat (first | assumption | exact va_up_self _ _ _ | refine (va_up_ne _ _ (by assumption)).trans ?_)); done) | (simp [va_up, *] <;> rfl)) rfl ?_
            refine z_iconst C dX3_take_63 ?_
            refine z_iaddZ C dX3_take_64 ?_
            refine z_put C dX3_take_65 fl_X3_15 (by first | assumption | ((repeat (first | assumption | exact va_up_self _ _ _ | refine (va_up_ne _ _ (by assumption)).trans ?_)); done) | (simp [va_up, *] <;> rfl)) rfl rfl (by simp) ?_
            refine z_iincZ C dX3_take_68 rfl (by decide) ?_
            refine z_goto (tgt := 8) C dX3_take_71 (by decide) ?_
            refine nx (hAt f n i - 97) ?_ _ hr57 rfl
            exact (if_pos (hr41.t h44)).symm
  refine z_aload_n C dX3_take_0 rfl ?_
  refine z_iconst C dX3_take_1 ?_
  refine z_put C dX3_take_2 fl_X3_15 (by first | assumption | ((repeat (first | assumption | exact va_up_self _ _ _ | refine (va_up_ne _ _ (by assumption)).trans ?_)); done) | (simp [va_up, *] <;> rfl)) rfl rfl (by simp) ?_
  refine z_iload_n C dX3_take_5 rfl ?_
  refine z_istore C dX3_take_6 (by decide) ?_
  exact loop (e0 - b).toNat _ b sy none (by omega) (zFr.up (by simp)) (by simp [va_up]) (by simp [va_up, n2, hR]) ⟨by omega, hs, fun j hj => by omega⟩ (fun j hj => by omega)

