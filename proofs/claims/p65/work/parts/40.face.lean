/-! the face: ranks of symbols and documents -/
theorem hRq.nf {γ : zG} {M : zM} {U : Nat → Nat} {pn cnt ec ep : Int} (hF : hFo γ M U pn cnt ec ep) (hRQ : hRq γ M (U 11) (U 12) (U 13)) : U 0 ∉ [U 11, U 12, U 13] := by
  obtain ⟨f, g, size, mk, hK, -⟩ := hRQ
  have q1 := zne_kk hF hK.2.1 (by decide)
  have q2 := zne_ka hF hK.2.2.1
  have q3 := zne_ka hF hK.2.2.2
  simp [q1, q2, q3]
theorem hRq.nd {γ : zG} {M : zM} {a ys ws d r : Nat} {sy : Nat → Int} {len yr : Int} (hRQ : hRq γ M a ys ws) (hD : hDc γ M d r sy len yr) : d ∉ [a, ys, ws] ∧ r ∉ [a, ys, ws] := by
  obtain ⟨f, g, size, mk, hK, -⟩ := hRQ
  have q1 := zne_kk hD.1 hK.2.1 (by decide)
  have q2 := zne_ka hD.1 hK.2.2.1
  have q3 := zne_ka hD.1 hK.2.2.2
  have q4 := (zne_ka hK.2.1 hD.2).symm
  have q5 := zne_nn hD.2 hK.2.2.1 (by decide)
  have q6 := zne_nn hD.2 hK.2.2.2 (by decide)
  simp [q1, q2, q3, q4, q5, q6]
set_option maxHeartbeats 4000000 in
set_option maxRecDepth 100000 in
theorem k_X8_rankIn {l : Launch} {γ : zG} {M : zM} {U : Nat → Nat} {pn cnt ec ep : Int} {ca k v : Nat} {c0 : Int → Int} {pb pp s0 : Int} (hF : hFo γ M U pn cnt ec ep) (hRQ : hRq γ M (U 11) (U 12) (U 13)) (hC : hCn γ M ca k v c0) (hx : zCx pb pp) (hs : 0 ≤ s0 ∧ s0 < 27) :
    zCon l γ yX8_rankIn cX8_rankIn 5 (some .int) [.ref (U 0), .ref ca, .int (zi pb), .int (zi pp), .int (zi s0)] M 3 74 0 0 (fun v' M' => ∃ r : Int, v' = some (.int (zi r)) ∧ zFr M M' [U 11, U 12, U 13] ∧ hRq γ M' (U 11) (U 12) (U 13) ∧ r = zrk c0 pb pp s0 ∧ 1 ≤ r ∧ r ≤ 27) (fun _ _ => False) := by
  have hnf := hRQ.nf hF
  have hob := id hF
  unfold hFo at hob
  obtain ⟨f0, g0, z0, mk0, hK0, -⟩ := id hRQ
  have hrk := hK0.2.1
  refine zEnter [some (.ref (U 0)), some (.ref ca), some (.int (zi pb)), some (.int (zi pp)), some (.int (zi s0))] (by decide +kernel) rfl rfl (Nat.le_of_ble_eq_true rfl) ?_
  intro p e s m args below meth c Q C hin hQ
  refine z_aload_n C dX8_rankIn_0 rfl ?_
  refine z_get C dX8_rankIn_1 fl_X8_67 (by first | assumption | ((repeat (first | assumption | exact va_up_self _ _ _ | refine (va_up_ne _ _ (by assumption)).trans ?_)); done) | (simp [va_up, *] <;> rfl)) rfl ?_
  refine z_aload_n C dX8_rankIn_4 rfl ?_
  refine z_iload_n C dX8_rankIn_5 rfl ?_
  refine z_iload_n C dX8_rankIn_6 rfl ?_
  refine z_callV C dX8_rankIn_7 lk_X8_386 mw_X5_fill mi_X5_fill ms_X5_fill rfl (by first | assumption | ((repeat (first | assumption | exact va_up_self _ _ _ | refine (va_up_ne _ _ (by assumption)).trans ?_)); done) | (simp [va_up, *] <;> rfl)) (k_X5_fill hRQ hC hx) rfl (by first | decide | exact Nat.le_of_ble_eq_true rfl) ⟨by decide, by decide, by decide, by decide⟩ (fun _ _ h => False.elim h) (fun v M' hp => ?_)
  obtain ⟨rfl, f1, hZ⟩ := hp
  have hob1 := f1.at hnf hob
  obtain ⟨f2, g2, mk2, hK2, -⟩ := id hZ
  have hrk2 := hK2.2.1
  refine z_aload_n C dX8_rankIn_10 rfl ?_
  refine z_get C dX8_rankIn_11 fl_X8_67 (by first | assumption | ((repeat (first | assumption | exact va_up_self _ _ _ | refine (va_up_ne _ _ (by assumption)).trans ?_)); done) | (simp [va_up, *] <;> rfl)) rfl ?_
  refine z_iload C dX8_rankIn_14 rfl ?_
  refine z_callV C dX8_rankIn_16 lk_X8_393 mw_X5_guessesUntil mi_X5_guessesUntil ms_X5_guessesUntil rfl (by first | assumption | ((repeat (first | assumption | exact va_up_self _ _ _ | refine (va_up_ne _ _ (by assumption)).trans ?_)); done) | (simp [va_up, *] <;> rfl)) (k_X5_guessesUntil hZ hs) rfl (by first | decide | exact Nat.le_of_ble_eq_true rfl) ⟨by decide, by decide, by decide, by decide⟩ (fun _ _ h => False.elim h) (fun v M' hp => ?_)
  obtain ⟨r16, rfl, rfl, hr16, hz16⟩ := hp
  refine z_iret C hQ dX8_rankIn_19 rfl (by decide) (by decide) ?_
  exact ⟨r16, rfl, f1, hZ.q, hr16, hz16⟩
set_option maxHeartbeats 4000000 in
set_option maxRecDepth 100000 in
theorem k_X8_guessIn {l : Launch} {γ : zG} {M : zM} {U : Nat → Nat} {pn cnt ec ep : Int} {ca k v : Nat} {c0 : Int → Int} {pb pp i : Int} (hF : hFo γ M U pn cnt ec ep) (hRQ : hRq γ M (U 11) (U 12) (U 13)) (hC : hCn γ M ca k v c0) (hx : zCx pb pp) (hi : 1 ≤ i ∧ i ≤ 27) :
    zCon l γ yX8_guessIn cX8_guessIn 5 (some .int) [.ref (U 0), .ref ca, .int (zi pb), .int (zi pp), .int (zi i)] M 3 74 0 0 (fun v' M' => ∃ r : Int, v' = some (.int (zi r)) ∧ zFr M M' [U 11, U 12, U 13] ∧ hRq γ M' (U 11) (U 12) (U 13) ∧ r = zgs c0 pb pp i ∧ 0 ≤ r ∧ r < 27) (fun _ _ => False) := by
  have hnf := hRQ.nf hF
  have hob := id hF
  unfold hFo at hob
  obtain ⟨f0, g0, z0, mk0, hK0, -⟩ := id hRQ
  have hrk := hK0.2.1
  refine zEnter [some (.ref (U 0)), some (.ref ca), some (.int (zi pb)), some (.int (zi pp)), some (.int (zi i))] (by decide +kernel) rfl rfl (Nat.le_of_ble_eq_true rfl) ?_
  intro p e s m args below meth c Q C hin hQ
  refine z_aload_n C dX8_guessIn_0 rfl ?_
  refine z_get C dX8_guessIn_1 fl_X8_67 (by first | assumption | ((repeat (first | assumption | exact va_up_self _ _ _ | refine (va_up_ne _ _ (by assumption)).trans ?_)); done) | (simp [va_up, *] <;> rfl)) rfl ?_
  refine z_aload_n C dX8_guessIn_4 rfl ?_
  refine z_iload_n C dX8_guessIn_5 rfl ?_
  refine z_iload_n C dX8_guessIn_6 rfl ?_
  refine z_callV C dX8_guessIn_7 lk_X8_386 mw_X5_fill mi_X5_fill ms_X5_fill rfl (by first | assumption | ((repeat (first | assumption | exact va_up_self _ _ _ | refine (va_up_ne _ _ (by assumption)).trans ?_)); done) | (simp [va_up, *] <;> rfl)) (k_X5_fill hRQ hC hx) rfl (by first | decide | exact Nat.le_of_ble_eq_true rfl) ⟨by decide, by decide, by decide, by decide⟩ (fun _ _ h => False.elim h) (fun v M' hp => ?_)
  obtain ⟨rfl, f1, hZ⟩ := hp
  have hob1 := f1.at hnf hob
  obtain ⟨f2, g2, mk2, hK2, -⟩ := id hZ
  have hrk2 := hK2.2.1
  refine z_aload_n C dX8_guessIn_10 rfl ?_
  refine z_get C dX8_guessIn_11 fl_X8_67 (by first | assumption | ((repeat (first | assumption | exact va_up_self _ _ _ | refine (va_up_ne _ _ (by assumption)).trans ?_)); done) | (simp [va_up, *] <;> rfl)) rfl ?_
  refine z_iload C dX8_guessIn_14 rfl ?_
  refine z_callV C dX8_guessIn_16 lk_X8_390 mw_X5_guess mi_X5_guess ms_X5_guess rfl (by first | assumption | ((repeat (first | assumption | exact va_up_self _ _ _ | refine (va_up_ne _ _ (by assumption)).trans ?_)); done) | (simp [va_up, *] <;> rfl)) (k_X5_guess hZ hi) rfl (by first | decide | exact Nat.le_of_ble_eq_true rfl) ⟨by decide, by decide, by decide, by decide⟩ (fun _ _ h => False.elim h) (fun v M' hp => ?_)
  obtain ⟨r16, rfl, rfl, hr16, hz16⟩ := hp
  refine z_iret C hQ dX8_guessIn_19 rfl (by decide) (by decide) ?_
  exact ⟨r16, rfl, f1, hZ.q, hr16, hz16⟩
/-- the rank of the symbol at a position of a document -/
def zrp (c : Int → Int) (sy : Nat → Int) (len i : Int) : Int := zrk c (hAt sy len (i - 2)) (hAt sy len (i - 1)) (hAt sy len i)
theorem zDk.cx {sy : Nat → Int} {len : Int} (h : zDk sy len) (i : Int) : zCx (hAt sy len (i - 2)) (hAt sy len (i - 1)) := ⟨h.at _, h.at _⟩
set_option maxHeartbeats 4000000 in
set_option maxRecDepth 100000 in
theorem k_X8_rankOfPosition {l : Launch} {γ : zG} {M : zM} {U : Nat → Nat} {pn cnt ec ep : Int} {ca k v d r : Nat} {c0 : Int → Int} {sy : Nat → Int} {len yr pos : Int} (hF : hFo γ M U pn cnt ec ep) (hRQ : hRq γ M (U 11) (U 12) (U 13)) (hC : hCn γ M ca k v c0) (hD : hDc γ M d r sy len yr) (hk : zDk sy len) (hpo : 0 ≤ pos ∧ pos < len) :
    zCon l γ yX8_rankOfPosition cX8_rankOfPosition 4 (some .int) [.ref (U 0), .ref ca, .ref d, .int (zi pos)] M 4 98 0 0 (fun v' M' => ∃ r : Int, v' = some (.int (zi r)) ∧ zFr M M' [U 11, U 12, U 13] ∧ hRq γ M' (U 11) (U 12) (U 13) ∧ r = zrp c0 sy len pos ∧ 1 ≤ r ∧ r ≤ 27) (fun _ _ => False) := by
  have hk0 := hk.1
  have hat := fun i (hi : zR i) => @k_X3_symbolAt l γ M d r sy len yr i hD hk hi
  have hob := id hF
  unfold hFo at hob
  have obd := hD.1
  have r3 := hk.in hpo
  refine zEnter [some (.ref (U 0)), some (.ref ca), some (.ref d), some (.int (zi pos))] (by decide +kernel) rfl rfl (Nat.le_of_ble_eq_true rfl) ?_
  intro p e s m args below meth c Q C hin hQ
  refine z_aload_n C dX8_rankOfPosition_0 rfl ?_
  refine z_aload_n C dX8_rankOfPosition_1 rfl ?_
  refine z_aload_n C dX8_rankOfPosition_2 rfl ?_
  refine z_iload_n C dX8_rankOfPosition_3 rfl ?_
  refine z_iconst C dX8_rankOfPosition_4 ?_
  refine z_isubZ C dX8_rankOfPosition_5 ?_
  refine z_callV C dX8_rankOfPosition_6 lk_X8_177 mw_X3_symbolAt mi_X3_symbolAt ms_X3_symbolAt rfl (by first | assumption | ((repeat (first | assumption | exact va_up_self _ _ _ | refine (va_up_ne _ _ (by assumption)).trans ?_)); done) | (simp [va_up, *] <;> rfl)) (hat (pos - 2) (by unfold zR; omega)) rfl (by first | decide | exact Nat.le_of_ble_eq_true rfl) ⟨by decide, by decide, by decide, by decide⟩ (fun _ _ h => False.elim h) (fun v M' hp => ?_)
  obtain ⟨r6, rfl, rfl, hr6⟩ := hp
  subst hr6
  refine z_aload_n C dX8_rankOfPosition_9 rfl ?_
  refine z_iload_n C dX8_rankOfPosition_10 rfl ?_
  refine z_iconst C dX8_rankOfPosition_11 ?_
  refine z_isubZ C dX8_rankOfPosition_12 ?_
  refine z_callV C dX8_rankOfPosition_13 lk_X8_177 mw_X3_symbolAt mi_X3_symbolAt ms_X3_symbolAt rfl (by first | assumption | ((repeat (first | assumption | exact va_up_self _ _ _ | refine (va_up_ne _ _ (by assumption)).trans ?_)); done) | (simp [va_up, *] <;> rfl)) (hat (pos - 1) (by unfold zR; omega)) rfl (by first | decide | exact Nat.le_of_ble_eq_true rfl) ⟨by decide, by decide, by decide, by decide⟩ (fun _ _ h => False.elim h) (fun v M' hp => ?_)
  obtain ⟨r13, rfl, rfl, hr13⟩ := hp
  subst hr13
  refine z_aload_n C dX8_rankOfPosition_16 rfl ?_
  refine z_iload_n C dX8_rankOfPosition_17 rfl ?_
  refine z_callV C dX8_rankOfPosition_18 lk_X8_177 mw_X3_symbolAt mi_X3_symbolAt ms_X3_symbolAt rfl (by first | assumption | ((repeat (first | assumption | exact va_up_self _ _ _ | refine (va_up_ne _ _ (by assumption)).trans ?_)); done) | (simp [va_up, *] <;> rfl)) (hat pos (by unfold zR; omega)) rfl (by first | decide | exact Nat.le_of_ble_eq_true rfl) ⟨by decide, by decide, by decide, by decide⟩ (fun _ _ h => False.elim h) (fun v M' hp => ?_)
  obtain ⟨r18, rfl, rfl, hr18⟩ := hp
  subst hr18
  refine z_callV C dX8_rankOfPosition_21 lk_X8_230 mw_X8_rankIn mi_X8_rankIn ms_X8_rankIn rfl (by first | assumption | ((repeat (first | assumption | exact va_up_self _ _ _ | refine (va_up_ne _ _ (by assumption)).trans ?_)); done) | (simp [va_up, *] <;> rfl)) (k_X8_rankIn hF hRQ hC (hk.cx pos) r3) rfl (by first | decide | exact Nat.le_of_ble_eq_true rfl) ⟨by decide, by decide, by decide, by decide⟩ (fun _ _ h => False.elim h) (fun v M' hp => ?_)
  obtain ⟨r21, rfl, hp21⟩ := hp
  refine z_iret C hQ dX8_rankOfPosition_24 rfl (by decide) (by decide) ?_
  exact ⟨r21, rfl, hp21⟩
def zgfn (c : Int → Int) (sy : Nat → Int) (len : Int) : Nat → Int
  | 0 => 0
  | i + 1 => zgfn c sy len i + zrp c sy len i
/-- the guesses for a document -/
def zgf (c : Int → Int) (X : zDoc) : Int := zgfn c (dSy X) (dLe X) (dLe X).toNat
theorem zrp_cg {c : Int → Int} {sy sy' : Nat → Int} {len : Int} (h : ∀ j : Nat, j < len → sy j = sy' j) (i : Int) : zrp c sy len i = zrp c sy' len i := by
  unfold zrp
  rw [hAt_cg h, hAt_cg h, hAt_cg h]
theorem zgfn_cg {c : Int → Int} {sy sy' : Nat → Int} {len : Int} (h : ∀ j : Nat, j < len → sy j = sy' j) : ∀ i : Nat, zgfn c sy len i = zgfn c sy' len i
  | 0 => rfl
  | i + 1 => by
    show zgfn c sy len i + _ = zgfn c sy' len i + _
    rw [zgfn_cg h i, zrp_cg h]
set_option maxHeartbeats 4000000 in
set_option maxRecDepth 100000 in
theorem k_X8_guessesFor {l : Launch} {γ : zG} {M : zM} {U : Nat → Nat} {pn cnt ec ep : Int} {ca k v d r : Nat} {c0 : Int → Int} {sy : Nat → Int} {len yr : Int} (hF : hFo γ M U pn cnt ec ep) (hRQ : hRq γ M (U 11) (U 12) (U 13)) (hC : hCn γ M ca k v c0) (hD : hDc γ M d r sy len yr) (hk : zDk sy len) :
    zCon l γ yX8_guessesFor cX8_guessesFor 5 (some .int) [.ref (U 0), .ref ca, .ref d] M 5 121 0 0 (fun v' M' => ∃ r : Int, v' = some (.int (zi r)) ∧ zFr M M' [U 11, U 12, U 13] ∧ hRq γ M' (U 11) (U 12) (U 13) ∧ r = zgfn c0 sy len len.toNat ∧ len ≤ r ∧ r ≤ 27 * len) (fun _ _ => False) := by
  have hk0 := hk.1
  have hnf := hRQ.nf hF
  have hnd := hRQ.nd hD
  have hnc := hC.disR hRQ
  refine zEnter [some (.ref (U 0)), some (.ref ca), some (.ref d), none, none] (by decide +kernel) rfl rfl (Nat.le_of_ble_eq_true rfl) ?_
  intro p e s m args below meth c Q C hin hQ
  have loop : ∀ (t : Nat) (M1 : zM) (i q : Int), 0 ≤ i ∧ i ≤ len ∧ len - i = t → i ≤ q ∧ q ≤ 27 * i → q = zgfn c0 sy len i.toNat → zFr M M1 [U 11, U 12, U 13] → hRq γ M1 (U 11) (U 12) (U 13) → zAW p l e { frames := 5, cells := 0, slots := 0, locals := 121 } s m args below meth c γ 5 Q M1 0 0 5 [some (.ref (U 0)), some (.ref ca), some (.ref d), some (.int (zi q)), some (.int (zi i))] [] := by
    intro t
    induction t with
    | zero =>
      intro M1 i q hi hq he hf hQ1
      obtain rfl : i = len := by omega
      have obd := hf.at hnd.1 hD.1
      refine z_iload C dX8_guessesFor_5 rfl ?_
      refine z_aload_n C dX8_guessesFor_7 rfl ?_
      refine z_get C dX8_guessesFor_8 fl_X8_174 (by first | assumption | ((repeat (first | assumption | exact va_up_self _ _ _ | refine (va_up_ne _ _ (by assumption)).trans ?_)); done) | (simp [va_up, *] <;> rfl)) rfl ?_
      refine z_icmp_geZ (tgt := 31) C dX8_guessesFor_11 (by decide) (by omega) (by omega) (fun h11 => ?_) (fun h11 => ?_)
      · refine z_iload_n C dX8_guessesFor_31 rfl ?_
        refine z_iret C hQ dX8_guessesFor_32 rfl (by decide) (by decide) ?_
        exact ⟨q, rfl, hf, hQ1, he, hq⟩
      · exact absurd h11 (by omega)
    | succ t ih =>
      intro M1 i q hi hq he hf hQ1
      have hF1 : hFo γ M1 U pn cnt ec ep := hf.at hnf hF
      have hob1 := id hF1
      unfold hFo at hob1
      have hD1 := hD.fr hf hnd.1 hnd.2
      have obd := hD1.1
      have hC1 := hC.fr hf hnc.1 hnc.2.1 hnc.2.2
      refine z_iload C dX8_guessesFor_5 rfl ?_
      refine z_aload_n C dX8_guessesFor_7 rfl ?_
      refine z_get C dX8_guessesFor_8 fl_X8_174 (by first | assumption | ((repeat (first | assumption | exact va_up_self _ _ _ | refine (va_up_ne _ _ (by assumption)).trans ?_)); done) | (simp [va_up, *] <;> rfl)) rfl ?_
      refine z_icmp_geZ (tgt := 31) C dX8_guessesFor_11 (by decide) (by omega) (by omega) (fun h11 => ?_) (fun h11 => ?_)
      · exact absurd h11 (by omega)
      · refine z_iload_n C dX8_guessesFor_14 rfl ?_
        refine z_aload_n C dX8_guessesFor_15 rfl ?_
        refine z_aload_n C dX8_guessesFor_16 rfl ?_
        refine z_aload_n C dX8_guessesFor_17 rfl ?_
        refine z_iload C dX8_guessesFor_18 rfl ?_
        refine z_callV C dX8_guessesFor_20 lk_X8_253 mw_X8_rankOfPosition mi_X8_rankOfPosition ms_X8_rankOfPosition rfl (by first | assumption | ((repeat (first | assumption | exact va_up_self _ _ _ | refine (va_up_ne _ _ (by assumption)).trans ?_)); done) | (simp [va_up, *] <;> rfl)) (k_X8_rankOfPosition hF1 hQ1 hC1 hD1 hk (pos := i) (by omega)) rfl (by first | decide | exact Nat.le_of_ble_eq_true rfl) ⟨by decide, by decide, by decide, by decide⟩ (fun _ _ h => False.elim h) (fun v M' hp => ?_)
        obtain ⟨r20, rfl, f2, hQ2, hr20, hz20⟩ := hp
        refine z_iaddZ C dX8_guessesFor_23 ?_
        refine z_istore_n C dX8_guessesFor_24 (by decide) ?_
        refine z_iincZ C dX8_guessesFor_25 rfl (by decide) ?_
        refine z_goto (tgt := 5) C dX8_guessesFor_28 (by decide) ?_
        refine ih _ (i + 1) (q + r20) (by omega) (by omega) ?_ (hf.tr f2 (fun _ h => h) (fun _ h => h)) hQ2
        rw [show (i + 1).toNat = i.toNat + 1 by omega, zgfn, ← he, show ((i.toNat : Nat) : Int) = i by omega, hr20]
  refine z_iconst C dX8_guessesFor_0 ?_
  refine z_istore_n C dX8_guessesFor_1 (by decide) ?_
  refine z_iconst C dX8_guessesFor_2 ?_
  refine z_istore C dX8_guessesFor_3 (by decide) ?_
  exact loop len.toNat M 0 0 (by omega) (by omega) rfl zFr.rf hRQ
def zhfn (c : Int → Int) (sy : Nat → Int) (len : Int) : Nat → Int
  | 0 => 0
  | i + 1 => zhfn c sy len i + (if zrp c sy len i = 1 then 1 else 0)
/-- the first guesses that hit -/
def zhf (c : Int → Int) (X : zDoc) : Int := zhfn c (dSy X) (dLe X) (dLe X).toNat
theorem zhfn_cg {c : Int → Int} {sy sy' : Nat → Int} {len : Int} (h : ∀ j : Nat, j < len → sy j = sy' j) : ∀ i : Nat, zhfn c sy len i = zhfn c sy' len i
  | 0 => rfl
  | i + 1 => by
    show zhfn c sy len i + _ = zhfn c sy' len i + _
    rw [zhfn_cg h i, zrp_cg h]
def zlan (c : Int → Int) (sy : Nat → Int) (len : Int) : Nat → Int
  | 0 => 0
  | i + 1 => zlan c sy len i + zrp (zldn sy len c i) sy len i
/-- the guesses for a document, learning it -/
def zla (c : Int → Int) (X : zDoc) : Int := zlan c (dSy X) (dLe X) (dLe X).toNat
theorem zlan_cg {c : Int → Int} {sy sy' : Nat → Int} {len : Int} (h : ∀ j : Nat, j < len → sy j = sy' j) : ∀ i : Nat, zlan c sy len i = zlan c sy' len i
  | 0 => rfl
  | i + 1 => by
    show zlan c sy len i + _ = zlan c sy' len i + _
    rw [zlan_cg h i, zrp_cg h, zldn_cg h]
set_option maxHeartbeats 4000000 in
set_option maxRecDepth 100000 in
theorem k_X8_guessesWhileLearning {l : Launch} {γ : zG} {M : zM} {U : Nat → Nat} {pn cnt ec ep : Int} {ca k v d r : Nat} {c0 : Int → Int} {sy : Nat → Int} {len yr : Int} {G : List Int} (hF : hFo γ M U pn cnt ec ep) (hRQ : hRq γ M (U 11) (U 12) (U 13)) (hC : hCn γ M ca k v c0) (hD : hDc γ M d r sy len yr) (hk : zDk sy len) (hne : r ≠ k ∧ r ≠ v) (hnU : U 0 ∉ [ca, k, v]) (hG : hRm G c0) (hg : hKy G sy len) :
    zCon l γ yX8_guessesWhileLearning cX8_guessesWhileLearning 5 (some .int) [.ref (U 0), .ref ca, .ref d] M 5 121 0 0 (fun v' M' => ∃ r : Int, v' = some (.int (zi r)) ∧ zFr M M' [U 11, U 12, U 13, ca, k, v] ∧ hRq γ M' (U 11) (U 12) (U 13) ∧ r = zlan c0 sy len len.toNat ∧ hCn γ M' ca k v (zldn sy len c0 len.toNat)) (fun _ _ => False) := by
  have hk0 := hk.1
  have hnf := hRQ.nf hF
  have hnd := hRQ.nd hD
  have hnc := hC.disR hRQ
  have hdd := hC.dis hD hne.1 hne.2
  have hnr : ∀ x, x ∈ [U 11, U 12, U 13] → x ∉ [ca, k, v] := fun x hx w => by
    simp only [List.mem_cons, List.not_mem_nil, or_false] at hx w
    simp only [List.mem_cons, List.not_mem_nil, or_false, not_or] at hnc
    rcases hx with hx | hx | hx <;> rcases w with w | w | w <;> (rw [hx] at w; simp [w] at hnc)
  refine zEnter [some (.ref (U 0)), some (.ref ca), some (.ref d), none, none] (by decide +kernel) rfl rfl (Nat.le_of_ble_eq_true rfl) ?_
  intro p e s m args below meth c Q C hin hQ
  have loop : ∀ (t : Nat) (M1 : zM) (i q : Int), 0 ≤ i ∧ i ≤ len ∧ len - i = t → q = zlan c0 sy len i.toNat → zFr M M1 [U 11, U 12, U 13, ca, k, v] → hFo γ M1 U pn cnt ec ep → hDc γ M1 d r sy len yr → hRq γ M1 (U 11) (U 12) (U 13) → hCn γ M1 ca k v (zldn sy len c0 i.toNat) → zAW p l e { frames := 5, cells := 0, slots := 0, locals := 121 } s m args below meth c γ 5 Q M1 0 0 5 [some (.ref (U 0)), some (.ref ca), some (.ref d), some (.int (zi q)), some (.int (zi i))] [] := by
    intro t
    induction t with
    | zero =>
      intro M1 i q hi he hf hF1 hD1 hQ1 hC1
      obtain rfl : i = len := by omega
      have obd := hD1.1
      refine z_iload C dX8_guessesWhileLearning_5 rfl ?_
      refine z_aload_n C dX8_guessesWhileLearning_7 rfl ?_
      refine z_get C dX8_guessesWhileLearning_8 fl_X8_174 (by first | assumption | ((repeat (first | assumption | exact va_up_self _ _ _ | refine (va_up_ne _ _ (by assumption)).trans ?_)); done) | (simp [va_up, *] <;> rfl)) rfl ?_
      refine z_icmp_geZ (tgt := 38) C dX8_guessesWhileLearning_11 (by decide) (by omega) (by omega) (fun h11 => ?_) (fun h11 => ?_)
      · refine z_iload_n C dX8_guessesWhileLearning_38 rfl ?_
        refine z_iret C hQ dX8_guessesWhileLearning_39 rfl (by decide) (by decide) ?_
        exact ⟨q, rfl, hf, hQ1, he, hC1⟩
      · exact absurd h11 (by omega)
    | succ t ih =>
      intro M1 i q hi he hf hF1 hD1 hQ1 hC1
      have hob1 := id hF1
      unfold hFo at hob1
      have obd := hD1.1
      refine z_iload C dX8_guessesWhileLearning_5 rfl ?_
      refine z_aload_n C dX8_guessesWhileLearning_7 rfl ?_
      refine z_get C dX8_guessesWhileLearning_8 fl_X8_174 (by first | assumption | ((repeat (first | assumption | exact va_up_self _ _ _ | refine (va_up_ne _ _ (by assumption)).trans ?_)); done) | (simp [va_up, *] <;> rfl)) rfl ?_
      refine z_icmp_geZ (tgt := 38) C dX8_guessesWhileLearning_11 (by decide) (by omega) (by omega) (fun h11 => ?_) (fun h11 => ?_)
      · exact absurd h11 (by omega)
      · refine z_iload_n C dX8_guessesWhileLearning_14 rfl ?_
        refine z_aload_n C dX8_guessesWhileLearning_15 rfl ?_
        refine z_aload_n C dX8_guessesWhileLearning_16 rfl ?_
        refine z_aload_n C dX8_guessesWhileLearning_17 rfl ?_
        refine z_iload C dX8_guessesWhileLearning_18 rfl ?_
        refine z_callV C dX8_guessesWhileLearning_20 lk_X8_253 mw_X8_rankOfPosition mi_X8_rankOfPosition ms_X8_rankOfPosition rfl (by first | assumption | ((repeat (first | assumption | exact va_up_self _ _ _ | refine (va_up_ne _ _ (by assumption)).trans ?_)); done) | (simp [va_up, *] <;> rfl)) (k_X8_rankOfPosition hF1 hQ1 hC1 hD1 hk (pos := i) (by omega)) rfl (by first | decide | exact Nat.le_of_ble_eq_true rfl) ⟨by decide, by decide, by decide, by decide⟩ (fun _ _ h => False.elim h) (fun v M' hp => ?_)
        obtain ⟨r20, rfl, f2, hQ2, hr20, hz20⟩ := hp
        have hF2 : hFo γ _ U pn cnt ec ep := f2.at hnf hF1
        have hD2 := hD1.fr f2 hnd.1 hnd.2
        have hC2 := hC1.fr f2 hnc.1 hnc.2.1 hnc.2.2
        have obd2 := hD2.1
        obtain ⟨fs2, hco2⟩ := hC2.ob
        refine z_iaddZ C dX8_guessesWhileLearning_23 ?_
        refine z_istore_n C dX8_guessesWhileLearning_24 (by decide) ?_
        refine z_aload_n C dX8_guessesWhileLearning_25 rfl ?_
        refine z_aload_n C dX8_guessesWhileLearning_26 rfl ?_
        refine z_iload C dX8_guessesWhileLearning_27 rfl ?_
        refine z_callV C dX8_guessesWhileLearning_29 lk_X8_396 mw_X2_countPosition mi_X2_countPosition ms_X2_countPosition rfl (by first | assumption | ((repeat (first | assumption | exact va_up_self _ _ _ | refine (va_up_ne _ _ (by assumption)).trans ?_)); done) | (simp [va_up, *] <;> rfl)) (k_X2_countPosition hC2 hD2 hk hne (pos := i) (by omega) (hG.ldn hg i.toNat (by omega)) (hg i (by omega) (by omega))) rfl (by first | decide | exact Nat.le_of_ble_eq_true rfl) ⟨by decide, by decide, by decide, by decide⟩ (fun _ _ h => False.elim h) (fun v M' hp => ?_)
        obtain ⟨rfl, f3, hC3⟩ := hp
        refine z_iincZ C dX8_guessesWhileLearning_32 rfl (by decide) ?_
        refine z_goto (tgt := 5) C dX8_guessesWhileLearning_35 (by decide) ?_
        refine ih _ (i + 1) (q + r20) (by omega) ?_ ?_ (f3.at hnU hF2) (hD2.fr f3 hdd.1 hdd.2) (hQ2.fr f3 (hnr _ (by simp)) (hnr _ (by simp)) (hnr _ (by simp))) ?_
        · rw [show (i + 1).toNat = i.toNat + 1 by omega, zlan, ← he, show ((i.toNat : Nat) : Int) = i by omega, hr20]
        · exact (hf.tr f2 (fun _ h => h) (fun b hb => by simp at hb ⊢; rcases hb with h | h | h <;> simp [h])).tr f3 (fun _ h => h) (fun b hb => by simp at hb ⊢; rcases hb with h | h | h <;> simp [h])
        · rw [show (i + 1).toNat = i.toNat + 1 by omega, zldn, show ((i.toNat : Nat) : Int) = i by omega]
          exact hC3
  refine z_iconst C dX8_guessesWhileLearning_0 ?_
  refine z_istore_n C dX8_guessesWhileLearning_1 (by decide) ?_
  refine z_iconst C dX8_guessesWhileLearning_2 ?_
  refine z_istore C dX8_guessesWhileLearning_3 (by decide) ?_
  exact loop len.toNat M 0 0 (by omega) rfl zFr.rf hF hD hRQ hC
set_option maxHeartbeats 4000000 in
set_option maxRecDepth 100000 in
theorem k_X8_orderOf {l : Launch} {γ : zG} {M : zM} {ca k v : Nat} {c0 : Int → Int} {pb pp s0 : Int} (hC : hCn γ M ca k v c0) (hx : zCx pb pp) (hs : 0 ≤ s0 ∧ s0 < 27) :
    zCon l γ yX8_orderOf cX8_orderOf 5 (some .int) [.ref ca, .int (zi pb), .int (zi pp), .int (zi s0)] M 2 46 0 0 (fun v' M' => ∃ r : Int, v' = some (.int (zi r)) ∧ M' = M ∧ r = zlv c0 pb pp s0) (fun _ _ => False) := by
  have hcr := hC.rng
  obtain ⟨fs, hco⟩ := hC.ob
  have hfo := zFo_rng pb pp
  obtain ⟨x1, x2⟩ := id hx
  refine zEnter [some (.ref ca), some (.int (zi pb)), some (.int (zi pp)), some (.int (zi s0)), none] (by decide +kernel) rfl rfl (Nat.le_of_ble_eq_true rfl) ?_
  intro p e s m args below meth c Q C hin hQ
  have loop : ∀ (t : Nat), (t : Int) ≤ zFo pb pp + 1 → zlvt c0 pb pp s0 t = zlv c0 pb pp s0 → zAW p l e { frames := 2, cells := 0, slots := 0, locals := 46 } s m args below meth c γ 5 Q M 0 0 7 [some (.ref ca), some (.int (zi pb)), some (.int (zi pp)), some (.int (zi s0)), some (.int (zi (t - 1)))] [] := by
    intro t
    induction t with
    | zero =>
      intro ht he
      refine z_iload C dX8_orderOf_7 rfl ?_
      refine z_if_ltZ (tgt := 37) C dX8_orderOf_9 (by decide) (by omega) (fun h9 => ?_) (fun h9 => ?_)
      · refine z_iconst C dX8_orderOf_37 ?_
        refine z_iret C hQ dX8_orderOf_38 rfl (by decide) (by decide) ?_
        exact ⟨-1, rfl, rfl, he⟩
      · exact absurd h9 (by omega)
    | succ t ih =>
      intro ht he
      have he : (if c0 (zCs t pb pp + s0) = 0 then zlvt c0 pb pp s0 t else t) = zlv c0 pb pp s0 := he
      have hky := zky_rng (o := t) x1 x2 hs (by omega)
      rw [show ((t + 1 : Nat) : Int) - 1 = t by omega]
      refine z_iload C dX8_orderOf_7 rfl ?_
      refine z_if_ltZ (tgt := 37) C dX8_orderOf_9 (by decide) (by omega) (fun h9 => ?_) (fun h9 => ?_)
      · exact absurd h9 (by omega)
      · refine z_aload_n C dX8_orderOf_12 rfl ?_
        refine z_iload C dX8_orderOf_13 rfl ?_
        refine z_iload_n C dX8_orderOf_15 rfl ?_
        refine z_iload_n C dX8_orderOf_16 rfl ?_
        refine z_callS C dX8_orderOf_17 lk_X8_191 mw_X8_contextStart mst_X8_contextStart (k_X8_contextStart (by unfold zR; omega)) rfl (by first | decide | exact Nat.le_of_ble_eq_true rfl) ⟨by decide, by decide, by decide, by decide⟩ (fun _ _ h => False.elim h) (fun v M' hp => ?_)
        obtain ⟨r17, rfl, rfl, hr17⟩ := hp
        subst hr17
        refine z_iload_n C dX8_orderOf_20 rfl ?_
        refine z_iaddZ C dX8_orderOf_21 ?_
        refine z_callV C dX8_orderOf_22 lk_X8_195 mw_X2_valueOf mi_X2_valueOf ms_X2_valueOf rfl (by first | assumption | ((repeat (first | assumption | exact va_up_self _ _ _ | refine (va_up_ne _ _ (by assumption)).trans ?_)); done) | (simp [va_up, *] <;> rfl)) (k_X2_valueOf hC (by unfold zR; omega)) rfl (by first | decide | exact Nat.le_of_ble_eq_true rfl) ⟨by decide, by decide, by decide, by decide⟩ (fun _ _ h => False.elim h) (fun v M' hp => ?_)
        obtain ⟨r22, rfl, rfl, hr22⟩ := hp
        have hz22 := hcr (zCs t pb pp + s0)
        rw [← hr22] at hz22 he
        refine z_if_leZ (tgt := 31) C dX8_orderOf_25 (by decide) (by omega) (fun h25 => ?_) (fun h25 => ?_)
        · refine z_iincZ C dX8_orderOf_31 rfl (by decide) ?_
          refine z_goto (tgt := 7) C dX8_orderOf_34 (by decide) ?_
          rw [if_pos (by omega)] at he
          rw [show (t : Int) + -1 = t - 1 by omega]
          exact ih (by omega) he
        · refine z_iload C dX8_orderOf_28 rfl ?_
          refine z_iret C hQ dX8_orderOf_30 rfl (by decide) (by decide) ?_
          rw [if_neg (by omega)] at he
          exact ⟨_, rfl, rfl, he⟩
  refine z_iload_n C dX8_orderOf_0 rfl ?_
  refine z_iload_n C dX8_orderOf_1 rfl ?_
  refine z_callS C dX8_orderOf_2 lk_X8_202 mw_X8_firstOrder mst_X8_firstOrder (k_X8_firstOrder (b := pb) (p0 := pp) (by unfold zR; omega) (by unfold zR; omega)) rfl (by first | decide | exact Nat.le_of_ble_eq_true rfl) ⟨by decide, by decide, by decide, by decide⟩ (fun _ _ h => False.elim h) (fun v M' hp => ?_)
  obtain ⟨r2, rfl, rfl, hr2⟩ := hp
  subst hr2
  refine z_istore C dX8_orderOf_5 (by decide) ?_
  obtain ⟨t, ht⟩ : ∃ t : Nat, (t : Int) = zFo pb pp + 1 := ⟨(zFo pb pp + 1).toNat, by omega⟩
  have q := loop t (by omega) (by unfold zlv; rw [show (zFo pb pp + 1).toNat = t by omega])
  rw [show (t : Int) - 1 = zFo pb pp by omega] at q
  exact q
