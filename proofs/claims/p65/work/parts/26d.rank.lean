/-- a Ranking with whatever it holds -/
def hRq (γ : zG) (M : zM) (a ys ws : Nat) : Prop := ∃ f g size mk, hRk γ M a ys ws f g size mk ∧ (∀ j, zR (f j)) ∧ ∀ j, zR (g j)
/-- a full Ranking of a context -/
def hRz (γ : zG) (M : zM) (a ys ws : Nat) (c : Int → Int) (b p : Int) : Prop := ∃ f g mk, hRk γ M a ys ws f g 27 mk ∧ (∀ j, zR (f j)) ∧ (∀ j, zR (g j)) ∧ zFl c b p f
theorem hRz.q {γ : zG} {M : zM} {a ys ws : Nat} {c : Int → Int} {b p : Int} (h : hRz γ M a ys ws c b p) : hRq γ M a ys ws := by
  obtain ⟨f, g, mk, h1, h2, h3, -⟩ := h
  exact ⟨f, g, 27, mk, h1, h2, h3⟩
theorem hRq.fr {γ : zG} {M M' : zM} {a ys ws : Nat} {S : List Nat} (h : hRq γ M a ys ws) (q : zFr M M' S) (h1 : a ∉ S) (h2 : ys ∉ S) (h3 : ws ∉ S) : hRq γ M' a ys ws := by
  obtain ⟨f, g, size, mk, a1, a2⟩ := h
  exact ⟨f, g, size, mk, a1.fr q h1 h2 h3, a2⟩
/-- a context: two symbols, one, or none -/
def zCx (b p : Int) : Prop := (-1 ≤ b ∧ b < 27) ∧ (-1 ≤ p ∧ p < 27)
theorem zCs_rng {o b p : Int} (h : zCx b p) (ho : 0 ≤ o ∧ o ≤ zFo b p) : 0 ≤ zCs o b p ∧ zCs o b p ≤ 30000 := by
  have := zky_rng (s := 0) h.1 h.2 (by omega) ho
  omega
theorem hCn.disR {γ : zG} {M : zM} {a ys ws ca k v : Nat} {c : Int → Int} (hC : hCn γ M ca k v c) (hQ : hRq γ M a ys ws) : ca ∉ [a, ys, ws] ∧ k ∉ [a, ys, ws] ∧ v ∉ [a, ys, ws] := by
  obtain ⟨-, n, ks, vs, ⟨hC, hCk, hCv⟩, -⟩ := hC
  obtain ⟨f, g, size, mk, hK, -⟩ := hQ
  have q1 := zne_kk hC hK.2.1 (by decide)
  have q2 := zne_ka hC hK.2.2.1
  have q3 := zne_ka hC hK.2.2.2
  have q4 := (zne_ka hK.2.1 hCk).symm
  have q5 := (zne_ka hK.2.1 hCv).symm
  have q6 := zne_nn hCk hK.2.2.1 (by decide)
  have q7 := zne_nn hCk hK.2.2.2 (by decide)
  have q8 := zne_nn hCv hK.2.2.1 (by decide)
  have q9 := zne_nn hCv hK.2.2.2 (by decide)
  simp [q1, q2, q3, q4, q5, q6, q7, q8, q9]
theorem hRv.ini {c : Int → Int} {b p : Int} {f g : Nat → Int} (h1 : ∀ j, zR (f j)) (h2 : ∀ j, zR (g j)) : hRv c b p (zFo b p) 0 f g 0 0 0 := ⟨by omega, h1, h2, fun j hj => by omega, fun i j hi hj => by omega, fun j hj => by omega, fun j a1 a2 => by omega, fun s s1 s2 => by
  rw [zbit_0]
  exact ⟨fun q => (by cases q), fun ⟨j, hj, _⟩ => by omega⟩, fun s s1 s2 => by
  have := zlv_rng c b p s
  exact ⟨fun ⟨j, hj, _⟩ => by omega, fun q => by omega⟩⟩
set_option maxHeartbeats 4000000 in
set_option maxRecDepth 100000 in
theorem k_X5_fill {l : Launch} {γ : zG} {M : zM} {a ys ws ca k v : Nat} {c0 : Int → Int} {pb pp : Int} (hQ0 : hRq γ M a ys ws) (hC : hCn γ M ca k v c0) (hx : zCx pb pp) :
    zCon l γ yX5_fill cX5_fill 6 none [.ref a, .ref ca, .int (zi pb), .int (zi pp)] M 2 49 0 0 (fun v' M' => v' = none ∧ zFr M M' [a, ys, ws] ∧ hRz γ M' a ys ws c0 pb pp) (fun _ _ => False) := by
  have hdi := hC.disR hQ0
  obtain ⟨f, g, size, mk, hK, hf, hg⟩ := hQ0
  have hfo := zFo_rng pb pp
  have ob0 := hK.2.1
  have n1 := zne_ka hK.2.1 hK.2.2.1
  have n2 := zne_ka hK.2.1 hK.2.2.2
  obtain ⟨x1, x2⟩ := id hx
  refine zEnter [some (.ref a), some (.ref ca), some (.int (zi pb)), some (.int (zi pp)), none, none] (by decide +kernel) rfl rfl (Nat.le_of_ble_eq_true rfl) ?_
  intro p e s m args below meth c Q C hin hQ
  have loop2 : ∀ (t : Nat) (M1 : zM) (x os z1 : Int) (f1 g1 : Nat → Int) (mk1 : Int32), 0 ≤ x ∧ x ≤ 27 ∧ 27 - x = t → zFr M M1 [a, ys, ws] → hRk γ M1 a ys ws f1 g1 z1 mk1 → hRv c0 pb pp (-1) os f1 g1 z1 mk1 x → zAW p l e { frames := 2, cells := 0, slots := 0, locals := 49 } s m args below meth c γ 6 Q M1 0 0 49 [some (.ref a), some (.ref ca), some (.int (zi pb)), some (.int (zi pp)), some (.int (zi os)), some (.int (zi x))] [] := by
    intro t
    induction t with
    | zero =>
      intro M1 x os z1 f1 g1 mk1 hi hfr hK1 hV1
      obtain rfl : x = 27 := by omega
      refine z_iload C dX5_fill_49 rfl ?_
      refine z_bipush C dX5_fill_51 (by decide) ?_
      refine z_icmp_geZ (tgt := 71) C dX5_fill_53 (by decide) (by omega) (by omega) (fun h53 => ?_) (fun h53 => ?_)
      · refine z_vret C hQ dX5_fill_71 (by decide) (by decide) ?_
        obtain ⟨e1, e2⟩ := hV1.full
        subst e1
        exact ⟨rfl, hfr, f1, g1, mk1, hK1, hV1.ex.2.1, hV1.ex.2.2, e2⟩
      · exact absurd h53 (by omega)
    | succ t ih =>
      intro M1 x os z1 f1 g1 mk1 hi hfr hK1 hV1
      have ob := hK1.2.1
      have hl := zlv_rng c0 pb pp x
      refine z_iload C dX5_fill_49 rfl ?_
      refine z_bipush C dX5_fill_51 (by decide) ?_
      refine z_icmp_geZ (tgt := 71) C dX5_fill_53 (by decide) (by omega) (by omega) (fun h53 => ?_) (fun h53 => ?_)
      · exact absurd h53 (by omega)
      · refine z_aload_n C dX5_fill_56 rfl ?_
        refine z_iload C dX5_fill_57 rfl ?_
        refine z_iload C dX5_fill_59 rfl ?_
        refine z_iconst C dX5_fill_61 ?_
        refine z_callV C dX5_fill_62 lk_X5_37 mw_X5_insert mi_X5_insert ms_X5_insert rfl (by first | assumption | ((repeat (first | assumption | exact va_up_self _ _ _ | refine (va_up_ne _ _ (by assumption)).trans ?_)); done) | (simp [va_up, *] <;> rfl)) (k_X5_insert hK1 hV1 (by omega) (by unfold zR; omega) (by
  by_cases e : -1 < zlv c0 pb pp x
  · exact .inl e
  · exact .inr ⟨by omega, (zwt_no (by omega)).symm⟩)) rfl (by first | decide | exact Nat.le_of_ble_eq_true rfl) ⟨by decide, by decide, by decide, by decide⟩ (fun _ _ h => False.elim h) (fun v M' hp => ?_)
        obtain ⟨rfl, hf2, f2, g2, z2, mk2, hK2, hV2⟩ := hp
        refine z_iincZ C dX5_fill_65 rfl (by decide) ?_
        refine z_goto (tgt := 49) C dX5_fill_68 (by decide) ?_
        exact ih _ (x + 1) os z2 f2 g2 mk2 (by omega) (hfr.tr hf2 (fun _ h => h) (fun _ h => h)) hK2 hV2
  have loop : ∀ (t : Nat) (M1 : zM) (f1 g1 : Nat → Int) (z1 : Int) (mk1 : Int32), (t : Int) ≤ zFo pb pp + 1 → zFr M M1 [a, ys, ws] → hRk γ M1 a ys ws f1 g1 z1 mk1 → hRv c0 pb pp (t - 1) z1 f1 g1 z1 mk1 0 → zAW p l e { frames := 2, cells := 0, slots := 0, locals := 49 } s m args below meth c γ 6 Q M1 0 0 17 [some (.ref a), some (.ref ca), some (.int (zi pb)), some (.int (zi pp)), some (.int (zi (t - 1))), none] [] := by
    intro t
    induction t with
    | zero =>
      intro M1 f1 g1 z1 mk1 hi hfr hK1 hV1
      have ob := hK1.2.1
      refine z_iload C dX5_fill_17 rfl ?_
      refine z_if_ltZ (tgt := 40) C dX5_fill_19 (by decide) (by omega) (fun h19 => ?_) (fun h19 => ?_)
      · refine z_aload_n C dX5_fill_40 rfl ?_
        refine z_get C dX5_fill_41 fl_X5_18 (by first | assumption | ((repeat (first | assumption | exact va_up_self _ _ _ | refine (va_up_ne _ _ (by assumption)).trans ?_)); done) | (simp [va_up, *] <;> rfl)) rfl ?_
        refine z_istore C dX5_fill_44 (by decide) ?_
        refine z_iconst C dX5_fill_46 ?_
        refine z_istore C dX5_fill_47 (by decide) ?_
        exact loop2 27 M1 0 z1 z1 f1 g1 mk1 (by omega) hfr hK1 hV1
      · exact absurd h19 (by omega)
    | succ t ih =>
      intro M1 f1 g1 z1 mk1 hi hfr hK1 hV1
      have ob := hK1.2.1
      rw [show ((t + 1 : Nat) : Int) - 1 = t by omega] at hV1 ⊢
      refine z_iload C dX5_fill_17 rfl ?_
      refine z_if_ltZ (tgt := 40) C dX5_fill_19 (by decide) (by omega) (fun h19 => ?_) (fun h19 => ?_)
      · exact absurd h19 (by omega)
      · refine z_aload_n C dX5_fill_22 rfl ?_
        refine z_aload_n C dX5_fill_23 rfl ?_
        refine z_iload C dX5_fill_24 rfl ?_
        refine z_iload_n C dX5_fill_26 rfl ?_
        refine z_iload_n C dX5_fill_27 rfl ?_
        refine z_callSN C dX5_fill_28 nk_X5_29 mw_X8_contextStart mst_X8_contextStart (k_X8_contextStart (by unfold zR; omega)) rfl (by first | decide | exact Nat.le_of_ble_eq_true rfl) ⟨by decide, by decide, by decide, by decide⟩ (fun _ _ h => False.elim h) (fun v M' hp => ?_)
        obtain ⟨r28, rfl, rfl, hr28⟩ := hp
        subst hr28
        refine z_callV C dX5_fill_31 lk_X5_33 mw_X5_appendOrder mi_X5_appendOrder ms_X5_appendOrder rfl (by first | assumption | ((repeat (first | assumption | exact va_up_self _ _ _ | refine (va_up_ne _ _ (by assumption)).trans ?_)); done) | (simp [va_up, *] <;> rfl)) (k_X5_appendOrder hK1 hV1 (hC.fr hfr hdi.1 hdi.2.1 hdi.2.2) (by omega) (zCs_rng hx (by omega))) rfl (by first | decide | exact Nat.le_of_ble_eq_true rfl) ⟨by decide, by decide, by decide, by decide⟩ (fun _ _ h => False.elim h) (fun v M' hp => ?_)
        obtain ⟨rfl, hf2, f2, g2, z2, mk2, hK2, hV2⟩ := hp
        refine z_iincZ C dX5_fill_34 rfl (by decide) ?_
        refine z_goto (tgt := 17) C dX5_fill_37 (by decide) ?_
        rw [show (t : Int) + -1 = t - 1 by omega]
        exact ih _ f2 g2 z2 mk2 (by omega) (hfr.tr hf2 (fun _ h => h) (fun _ h => h)) hK2 hV2.next
  refine z_aload_n C dX5_fill_0 rfl ?_
  refine z_iconst C dX5_fill_1 ?_
  refine z_put C dX5_fill_2 fl_X5_18 (by first | assumption | ((repeat (first | assumption | exact va_up_self _ _ _ | refine (va_up_ne _ _ (by assumption)).trans ?_)); done) | (simp [va_up, *] <;> rfl)) rfl rfl (by simp) ?_
  refine z_aload_n C dX5_fill_5 rfl ?_
  refine z_iconst C dX5_fill_6 ?_
  refine z_put C dX5_fill_7 fl_X5_22 (by first | assumption | ((repeat (first | assumption | exact va_up_self _ _ _ | refine (va_up_ne _ _ (by assumption)).trans ?_)); done) | (simp [va_up, *] <;> rfl)) rfl rfl (by simp) ?_
  refine z_iload_n C dX5_fill_10 rfl ?_
  refine z_iload_n C dX5_fill_11 rfl ?_
  refine z_callSN C dX5_fill_12 nk_X5_25 mw_X8_firstOrder mst_X8_firstOrder (k_X8_firstOrder (b := pb) (p0 := pp) (by unfold zR; omega) (by unfold zR; omega)) rfl (by first | decide | exact Nat.le_of_ble_eq_true rfl) ⟨by decide, by decide, by decide, by decide⟩ (fun _ _ h => False.elim h) (fun v M' hp => ?_)
  obtain ⟨r12, rfl, rfl, hr12⟩ := hp
  subst hr12
  refine z_istore C dX5_fill_15 (by decide) ?_
  have q := loop (zFo pb pp + 1).toNat _ f g 0 0 (by omega) (zFr.u2 (S := [a, ys, ws]) (a := a) (k := a) (e1 := some (.inr (5, [.ref ys, .ref ws, .int (zi 0), .int mk]))) (e2 := some (.inr (5, [.ref ys, .ref ws, .int (zi 0), .int (zi 0)]))) zFr.rf (by simp) (by simp)) ⟨hK.1, va_up_self _ _ _, by rw [va_up_ne _ _ n1.symm, va_up_ne _ _ n1.symm]; exact hK.2.2.1, by rw [va_up_ne _ _ n2.symm, va_up_ne _ _ n2.symm]; exact hK.2.2.2⟩ (by rw [show (((zFo pb pp + 1).toNat : Nat) : Int) - 1 = zFo pb pp by omega]; exact hRv.ini hf hg)
  rw [show (((zFo pb pp + 1).toNat : Nat) : Int) - 1 = zFo pb pp by omega] at q
  exact q
set_option maxHeartbeats 4000000 in
set_option maxRecDepth 100000 in
theorem k_X5_guess {l : Launch} {γ : zG} {M : zM} {a ys ws : Nat} {c0 : Int → Int} {pb pp i : Int} (hZ : hRz γ M a ys ws c0 pb pp) (hi : 1 ≤ i ∧ i ≤ 27) :
    zCon l γ yX5_guess cX5_guess 2 (some .int) [.ref a, .int (zi i)] M 0 0 0 0 (fun v' M' => ∃ r : Int, v' = some (.int (zi r)) ∧ M' = M ∧ r = zgs c0 pb pp i ∧ 0 ≤ r ∧ r < 27) (fun _ _ => False) := by
  obtain ⟨f, g, mk, hK, hf, hg, hF⟩ := hZ
  obtain ⟨-, hB, hY, -⟩ := hK
  have hg2 := hF.gs_rng hi
  refine zEnter [some (.ref a), some (.int (zi i))] (by decide +kernel) rfl rfl (Nat.le_of_ble_eq_true rfl) ?_
  intro p e s m args below meth c Q C hin hQ
  refine z_iload_n C dX5_guess_0 rfl ?_
  refine z_iconst C dX5_guess_1 ?_
  refine z_icmp_ltZ (tgt := 24) C dX5_guess_2 (by decide) (by omega) (by omega) (fun h2 => ?_) (fun h2 => ?_)
  · exact absurd h2 (by omega)
  · refine z_iload_n C dX5_guess_5 rfl ?_
    refine z_aload_n C dX5_guess_6 rfl ?_
    refine z_get C dX5_guess_7 fl_X5_18 (by first | assumption | ((repeat (first | assumption | exact va_up_self _ _ _ | refine (va_up_ne _ _ (by assumption)).trans ?_)); done) | (simp [va_up, *] <;> rfl)) rfl ?_
    refine z_icmp_gtZ (tgt := 24) C dX5_guess_10 (by decide) (by omega) (by omega) (fun h10 => ?_) (fun h10 => ?_)
    · exact absurd h10 (by omega)
    · refine z_aload_n C dX5_guess_13 rfl ?_
      refine z_get C dX5_guess_14 fl_X5_9 (by first | assumption | ((repeat (first | assumption | exact va_up_self _ _ _ | refine (va_up_ne _ _ (by assumption)).trans ?_)); done) | (simp [va_up, *] <;> rfl)) rfl ?_
      refine z_iload_n C dX5_guess_17 rfl ?_
      refine z_iconst C dX5_guess_18 ?_
      refine z_isubZ C dX5_guess_19 ?_
      refine z_aldN C dX5_guess_20 (by first | assumption | ((repeat (first | assumption | exact va_up_self _ _ _ | refine (va_up_ne _ _ (by assumption)).trans ?_)); done) | (simp [va_up, *] <;> rfl)) (by omega) (by omega) (by assumption) (fun hr20 => ?_)
      refine z_goto (tgt := 25) C dX5_guess_21 (by decide) ?_
      refine z_iret C hQ dX5_guess_25 rfl (by decide) (by decide) ?_
      have e := hF.gs (i := (i - 1).toNat) (by omega)
      rw [show (((i - 1).toNat : Nat) : Int) + 1 = i by omega] at e
      exact ⟨_, rfl, rfl, e.symm, by rw [← e]; exact hg2⟩
set_option maxHeartbeats 4000000 in
set_option maxRecDepth 100000 in
theorem k_X5_guessesUntil {l : Launch} {γ : zG} {M : zM} {a ys ws : Nat} {c0 : Int → Int} {pb pp s0 : Int} (hZ : hRz γ M a ys ws c0 pb pp) (hs : 0 ≤ s0 ∧ s0 < 27) :
    zCon l γ yX5_guessesUntil cX5_guessesUntil 3 (some .int) [.ref a, .int (zi s0)] M 0 0 0 0 (fun v' M' => ∃ r : Int, v' = some (.int (zi r)) ∧ M' = M ∧ r = zrk c0 pb pp s0 ∧ 1 ≤ r ∧ r ≤ 27) (fun _ _ => False) := by
  obtain ⟨f, g, mk, hK, hf, hg, hF⟩ := hZ
  obtain ⟨-, hB, hY, -⟩ := hK
  obtain ⟨j, hj, hjs⟩ := hF.2.2 s0 hs.1 hs.2
  refine zEnter [some (.ref a), some (.int (zi s0)), none] (by decide +kernel) rfl rfl (Nat.le_of_ble_eq_true rfl) ?_
  intro p e s m args below meth c Q C hin hQ
  have loop : ∀ (t : Nat) (i : Int), 0 ≤ i ∧ i ≤ j ∧ j - i = t → zAW p l e { frames := 0, cells := 0, slots := 0, locals := 0 } s m args below meth c γ 3 Q M 0 0 2 [some (.ref a), some (.int (zi s0)), some (.int (zi i))] [] := by
    intro t
    have leafp : ∀ i : Int, 0 ≤ i ∧ i ≤ j → f i.toNat = s0 → i + 1 = zrk c0 pb pp s0 ∧ 1 ≤ i + 1 ∧ i + 1 ≤ 27 := fun i hi q => by
      have e := hF.rk (i := i.toNat) (by omega)
      rw [q] at e
      omega
    induction t with
    | zero =>
      intro i hi
      obtain rfl : i = j := by omega
      refine z_iload_n C dX5_guessesUntil_2 rfl ?_
      refine z_aload_n C dX5_guessesUntil_3 rfl ?_
      refine z_get C dX5_guessesUntil_4 fl_X5_18 (by first | assumption | ((repeat (first | assumption | exact va_up_self _ _ _ | refine (va_up_ne _ _ (by assumption)).trans ?_)); done) | (simp [va_up, *] <;> rfl)) rfl ?_
      refine z_icmp_geZ (tgt := 30) C dX5_guessesUntil_7 (by decide) (by omega) (by omega) (fun h7 => ?_) (fun h7 => ?_)
      · exact absurd h7 (by omega)
      · refine z_aload_n C dX5_guessesUntil_10 rfl ?_
        refine z_get C dX5_guessesUntil_11 fl_X5_9 (by first | assumption | ((repeat (first | assumption | exact va_up_self _ _ _ | refine (va_up_ne _ _ (by assumption)).trans ?_)); done) | (simp [va_up, *] <;> rfl)) rfl ?_
        refine z_iload_n C dX5_guessesUntil_14 rfl ?_
        refine z_aldN C dX5_guessesUntil_15 (by first | assumption | ((repeat (first | assumption | exact va_up_self _ _ _ | refine (va_up_ne _ _ (by assumption)).trans ?_)); done) | (simp [va_up, *] <;> rfl)) (by omega) (by omega) (by assumption) (fun hr15 => ?_)
        refine z_iload_n C dX5_guessesUntil_16 rfl ?_
        refine z_icmp_neZ (tgt := 24) C dX5_guessesUntil_17 (by decide) (by omega) (by omega) (fun h17 => ?_) (fun h17 => ?_)
        · exact absurd hjs h17
        · refine z_iload_n C dX5_guessesUntil_20 rfl ?_
          refine z_iconst C dX5_guessesUntil_21 ?_
          refine z_iaddZ C dX5_guessesUntil_22 ?_
          refine z_iret C hQ dX5_guessesUntil_23 rfl (by decide) (by decide) ?_
          exact ⟨_, rfl, rfl, leafp _ ⟨hi.1, hi.2.1⟩ h17⟩
    | succ t ih =>
      intro i hi
      refine z_iload_n C dX5_guessesUntil_2 rfl ?_
      refine z_aload_n C dX5_guessesUntil_3 rfl ?_
      refine z_get C dX5_guessesUntil_4 fl_X5_18 (by first | assumption | ((repeat (first | assumption | exact va_up_self _ _ _ | refine (va_up_ne _ _ (by assumption)).trans ?_)); done) | (simp [va_up, *] <;> rfl)) rfl ?_
      refine z_icmp_geZ (tgt := 30) C dX5_guessesUntil_7 (by decide) (by omega) (by omega) (fun h7 => ?_) (fun h7 => ?_)
      · exact absurd h7 (by omega)
      · refine z_aload_n C dX5_guessesUntil_10 rfl ?_
        refine z_get C dX5_guessesUntil_11 fl_X5_9 (by first | assumption | ((repeat (first | assumption | exact va_up_self _ _ _ | refine (va_up_ne _ _ (by assumption)).trans ?_)); done) | (simp [va_up, *] <;> rfl)) rfl ?_
        refine z_iload_n C dX5_guessesUntil_14 rfl ?_
        refine z_aldN C dX5_guessesUntil_15 (by first | assumption | ((repeat (first | assumption | exact va_up_self _ _ _ | refine (va_up_ne _ _ (by assumption)).trans ?_)); done) | (simp [va_up, *] <;> rfl)) (by omega) (by omega) (by assumption) (fun hr15 => ?_)
        refine z_iload_n C dX5_guessesUntil_16 rfl ?_
        refine z_icmp_neZ (tgt := 24) C dX5_guessesUntil_17 (by decide) (by omega) (by omega) (fun h17 => ?_) (fun h17 => ?_)
        · refine z_iincZ C dX5_guessesUntil_24 rfl (by decide) ?_
          refine z_goto (tgt := 2) C dX5_guessesUntil_27 (by decide) ?_
          exact ih (i + 1) (by omega)
        · refine z_iload_n C dX5_guessesUntil_20 rfl ?_
          refine z_iconst C dX5_guessesUntil_21 ?_
          refine z_iaddZ C dX5_guessesUntil_22 ?_
          refine z_iret C hQ dX5_guessesUntil_23 rfl (by decide) (by decide) ?_
          exact ⟨_, rfl, rfl, leafp _ ⟨hi.1, hi.2.1⟩ h17⟩
  refine z_iconst C dX5_guessesUntil_0 ?_
  refine z_istore_n C dX5_guessesUntil_1 (by decide) ?_
  exact loop j 0 (by omega)
set_option maxHeartbeats 4000000 in
set_option maxRecDepth 100000 in
theorem k_X5_init {l : Launch} {γ : zG} {M : zM} {a : Nat} (hM : M a = some (.inr (5, [.null, .null, .int 0, .int 0]))) :
    zCon l γ yX5_init cX5_init 1 none [.ref a] M 1 12 2 54 (fun v' M' => v' = none ∧ ∃ k v, M k = none ∧ M v = none ∧ zFr M M' [a, k, v] ∧ hRq γ M' a k v) (fun _ _ => False) := by
  refine zEnter [some (.ref a)] (by decide +kernel) rfl rfl (Nat.le_of_ble_eq_true rfl) ?_
  intro p e s m args below meth c Q C hin hQ
  refine z_aload_n C dX5_init_0 rfl ?_
  refine z_objInit C dX5_init_1 t2_178 ob_in ob_co ⟨by decide, (by first | decide | exact Nat.le_of_ble_eq_true rfl)⟩ ?_
  refine z_aload_n C dX5_init_4 rfl ?_
  refine z_bipush C dX5_init_5 (by decide) ?_
  refine z_newI C dX5_init_7 t1_55 (by omega) ⟨by decide, by decide⟩ (fun q7 hq7 => ?_)
  have n1 : a ≠ q7 := fun q => by rw [q, hq7] at hM; cases hM
  have n2 := n1.symm
  refine z_putF C dX5_init_9 fl_X5_9 hin (by first | assumption | ((repeat (first | assumption | exact va_up_self _ _ _ | refine (va_up_ne _ _ (by assumption)).trans ?_)); done) | (simp [va_up, *] <;> rfl)) (fun _ _ _ h => by cases h; rfl) rfl rfl (by simp) ?_
  refine z_aload_n C dX5_init_12 rfl ?_
  refine z_bipush C dX5_init_13 (by decide) ?_
  refine z_newI C dX5_init_15 t1_55 (by omega) ⟨by decide, by decide⟩ (fun q15 hq15 => ?_)
  have n3 : a ≠ q15 := fun q => by rw [q] at hq15; simp [va_up, n1] at hq15
  have n4 := n3.symm
  have n5 : q7 ≠ q15 := fun q => by rw [q] at hq15 n2; simp [va_up, n4] at hq15
  have n6 := n5.symm
  refine z_putF C dX5_init_17 fl_X5_15 hin (by first | assumption | ((repeat (first | assumption | exact va_up_self _ _ _ | refine (va_up_ne _ _ (by assumption)).trans ?_)); done) | (simp [va_up, *] <;> rfl)) (fun _ _ _ h => by cases h; rfl) rfl rfl (by simp) ?_
  refine z_aload_n C dX5_init_20 rfl ?_
  refine z_iconst C dX5_init_21 ?_
  refine z_put C dX5_init_22 fl_X5_18 (by first | assumption | ((repeat (first | assumption | exact va_up_self _ _ _ | refine (va_up_ne _ _ (by assumption)).trans ?_)); done) | (simp [va_up, *] <;> rfl)) rfl rfl (by simp) ?_
  refine z_aload_n C dX5_init_25 rfl ?_
  refine z_iconst C dX5_init_26 ?_
  refine z_put C dX5_init_27 fl_X5_22 (by first | assumption | ((repeat (first | assumption | exact va_up_self _ _ _ | refine (va_up_ne _ _ (by assumption)).trans ?_)); done) | (simp [va_up, *] <;> rfl)) rfl rfl (by simp) ?_
  refine z_vret C hQ dX5_init_30 (by decide) (by decide) ?_
  refine ⟨rfl, q7, q15, hq7, by simpa [va_up, n4, n6] using hq15, ?_, fun _ => 0, fun _ => 0, 0, 0, ⟨n5, va_up_self _ _ _, ?_, ?_⟩, fun _ => (by unfold zR; omega : zR 0), fun _ => (by unfold zR; omega : zR 0)⟩
  · exact zFr.u2 (zFr.u2 (zFr.u2 zFr.rf (by simp) (by simp)) (by simp) (by simp)) (by simp) (by simp)
  · simp [va_up, n2, n5]
    rfl
  · simp [va_up, n4, n6]
    rfl

