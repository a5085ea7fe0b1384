/-! counting the symbols of a document -/
theorem hCn.dis {γ : zG} {M : zM} {a k v d r : Nat} {c : Int → Int} {sy : Nat → Int} {len yr : Int} (hC : hCn γ M a k v c) (hD : hDc γ M d r sy len yr) (h1 : r ≠ k) (h2 : r ≠ v) : d ∉ [a, k, v] ∧ r ∉ [a, k, v] := by
  obtain ⟨-, n, ks, vs, ⟨q1, q2, q3⟩, -⟩ := hC
  have p1 := zne_kk hD.1 q1 (by decide)
  have p2 := zne_ka hD.1 q2
  have p3 := zne_ka hD.1 q3
  have p4 := (zne_ka q1 hD.2).symm
  simp [p1, p2, p3, p4, h1, h2]
theorem hCn.ob {γ : zG} {M : zM} {a k v : Nat} {c : Int → Int} (hC : hCn γ M a k v c) : ∃ fs, M a = some (.inr (2, fs)) := by
  obtain ⟨-, n, ks, vs, h, -⟩ := hC
  exact ⟨_, h.1⟩
theorem hCn.rng {γ : zG} {M : zM} {a k v : Nat} {c : Int → Int} (hC : hCn γ M a k v c) (x : Int) : 0 ≤ c x ∧ c x ≤ 999 := by
  obtain ⟨-, n, ks, vs, -, -, hR⟩ := hC
  exact hR.rng x
/-- one symbol counted: the orders below t -/
def zlt (b p s : Int) : Nat → (Int → Int) → Int → Int
  | 0, c => c
  | t + 1, c => zlt b p s t (zadd c (zCs t b p + s) 1)
def zlrn (c : Int → Int) (b p s : Int) : Int → Int := zlt b p s (zFo b p + 1).toNat c
theorem zFo_rng (b p : Int) : 0 ≤ zFo b p ∧ zFo b p ≤ 2 := by
  unfold zFo
  split
  · omega
  · split <;> omega
theorem zky_rng {o b p s : Int} (hb : -1 ≤ b ∧ b < 27) (hp : -1 ≤ p ∧ p < 27) (hs : 0 ≤ s ∧ s < 27) (ho : 0 ≤ o ∧ o ≤ zFo b p) : 0 ≤ zCs o b p + s ∧ zCs o b p + s < 20439 := by
  unfold zFo at ho
  unfold zCs
  split at ho
  · rw [if_pos (by omega)]
    omega
  · split
    · omega
    · split
      · omega
      · split at ho
        · omega
        · omega
/-- G holds the keys of a document -/
def hKy (G : List Int) (sy : Nat → Int) (len : Int) : Prop := ∀ i : Int, 0 ≤ i → i < len → ∀ o : Int, 0 ≤ o → o ≤ zFo (hAt sy len (i - 2)) (hAt sy len (i - 1)) → zCs o (hAt sy len (i - 2)) (hAt sy len (i - 1)) + hAt sy len i ∈ G
theorem hRm.lt' {G : List Int} {b p s : Int} : ∀ (t : Nat) {c : Int → Int}, hRm G c → (∀ o : Int, 0 ≤ o → o < t → zCs o b p + s ∈ G) → hRm G (zlt b p s t c)
  | 0, _, h, _ => h
  | t + 1, _, h, hg => hRm.lt' t (h.add (hg t (by omega) (by omega))) fun o h1 h2 => hg o h1 (by omega)
theorem hRm.lrn {G : List Int} {b p s : Int} {c : Int → Int} (h : hRm G c) (hg : ∀ o : Int, 0 ≤ o → o ≤ zFo b p → zCs o b p + s ∈ G) : hRm G (zlrn c b p s) := by
  have := zFo_rng b p
  exact h.lt' _ fun o h1 h2 => hg o h1 (by omega)
set_option maxHeartbeats 4000000 in
set_option maxRecDepth 100000 in
theorem k_X2_countPosition {l : Launch} {γ : zG} {M : zM} {a k v d r : Nat} {c0 : Int → Int} {sy : Nat → Int} {len yr pos : Int} {G : List Int} (hC : hCn γ M a k v c0) (hD : hDc γ M d r sy len yr) (hk : zDk sy len) (hne : r ≠ k ∧ r ≠ v) (hpo : 0 ≤ pos ∧ pos < len) (hG : hRm G c0) (hg : ∀ o : Int, 0 ≤ o → o ≤ zFo (hAt sy len (pos - 2)) (hAt sy len (pos - 1)) → zCs o (hAt sy len (pos - 2)) (hAt sy len (pos - 1)) + hAt sy len pos ∈ G) :
    zCon l γ yX2_countPosition cX2_countPosition 6 none [.ref a, .ref d, .int (zi pos)] M 2 47 0 0 (fun v' M' => v' = none ∧ zFr M M' [a, k, v] ∧ hCn γ M' a k v (zlrn c0 (hAt sy len (pos - 2)) (hAt sy len (pos - 1)) (hAt sy len pos))) (fun _ _ => False) := by
  have hk0 := hk.1
  have hat := fun M1 (h : zFr M M1 [a, k, v]) i hi => @k_X3_symbolAt l γ M1 d r sy len yr i (hD.fr h (hC.dis hD hne.1 hne.2).1 (hC.dis hD hne.1 hne.2).2) hk hi
  have r1 := hk.at (pos - 2)
  have r2 := hk.at (pos - 1)
  have r3 := hk.in hpo
  generalize e1 : hAt sy len (pos - 2) = pb at hg r1 ⊢
  generalize e2 : hAt sy len (pos - 1) = pp at hg r2 ⊢
  have obd := hD.1
  refine zEnter [some (.ref a), some (.ref d), some (.int (zi pos)), none, none, none] (by decide +kernel) rfl rfl (Nat.le_of_ble_eq_true rfl) ?_
  intro p e s m args below meth c Q C hin hQ
  have loop : ∀ (t : Nat) (M1 : zM) (c1 : Int → Int), (t : Int) ≤ zFo pb pp + 1 → zFr M M1 [a, k, v] → hCn γ M1 a k v c1 → hRm G c1 → zlt pb pp (hAt sy len pos) t c1 = zlrn c0 pb pp (hAt sy len pos) → zAW p l e { frames := 2, cells := 0, slots := 0, locals := 47 } s m args below meth c γ 6 Q M1 0 0 25 [some (.ref a), some (.ref d), some (.int (zi pos)), some (.int (zi pb)), some (.int (zi pp)), some (.int (zi (t - 1)))] [] := by
    intro t
    have hfo := zFo_rng pb pp
    induction t with
    | zero =>
      intro M1 c1 ht hf hC1 hG1 he
      refine z_iload C dX2_countPosition_25 rfl ?_
      refine z_if_ltZ (tgt := 55) C dX2_countPosition_27 (by decide) (by omega) (fun h27 => ?_) (fun h27 => ?_)
      · refine z_vret C hQ dX2_countPosition_55 (by decide) (by decide) ?_
        refine ⟨rfl, hf, ?_⟩
        rw [← he]
        exact hC1
      · exact absurd h27 (by omega)
    | succ t ih =>
      intro M1 c1 ht hf hC1 hG1 he
      obtain ⟨A1, ha1⟩ := hC1.ob
      have ob1 := hf.at (hC.dis hD hne.1 hne.2).1 obd
      rw [show ((t + 1 : Nat) : Int) - 1 = t by omega]
      have hm := hg t (by omega) (by omega)
      refine z_iload C dX2_countPosition_25 rfl ?_
      refine z_if_ltZ (tgt := 55) C dX2_countPosition_27 (by decide) (by omega) (fun h27 => ?_) (fun h27 => ?_)
      · exact absurd h27 (by omega)
      · refine z_aload_n C dX2_countPosition_30 rfl ?_
        refine z_iload C dX2_countPosition_31 rfl ?_
        refine z_iload_n C dX2_countPosition_33 rfl ?_
        refine z_iload C dX2_countPosition_34 rfl ?_
        refine z_callSN C dX2_countPosition_36 nk_X2_50 mw_X8_contextStart mst_X8_contextStart (k_X8_contextStart (by unfold zR; omega)) rfl (by first | decide | exact Nat.le_of_ble_eq_true rfl) ⟨by decide, by decide, by decide, by decide⟩ (fun _ _ h => False.elim h) (fun v M' hp => ?_)
        obtain ⟨r36, rfl, rfl, hr36⟩ := hp
        subst hr36
        refine z_aload_n C dX2_countPosition_39 rfl ?_
        refine z_iload_n C dX2_countPosition_40 rfl ?_
        refine z_callV C dX2_countPosition_41 lk_X2_42 mw_X3_symbolAt mi_X3_symbolAt ms_X3_symbolAt rfl (by first | assumption | ((repeat (first | assumption | exact va_up_self _ _ _ | refine (va_up_ne _ _ (by assumption)).trans ?_)); done) | (simp [va_up, *] <;> rfl)) (hat _ hf pos (by unfold zR; omega)) rfl (by first | decide | exact Nat.le_of_ble_eq_true rfl) ⟨by decide, by decide, by decide, by decide⟩ (fun _ _ h => False.elim h) (fun v M' hp => ?_)
        obtain ⟨r41, rfl, rfl, hr41⟩ := hp
        subst hr41
        refine z_iaddZ C dX2_countPosition_44 ?_
        refine z_iconst C dX2_countPosition_45 ?_
        refine z_callV C dX2_countPosition_46 lk_X2_38 mw_X2_add mi_X2_add ms_X2_add rfl (by first | assumption | ((repeat (first | assumption | exact va_up_self _ _ _ | refine (va_up_ne _ _ (by assumption)).trans ?_)); done) | (simp [va_up, *] <;> rfl)) (k_X2_add hC1 (zky_rng r1 r2 r3 (by omega)) (by omega) hG1 hm) rfl (by first | decide | exact Nat.le_of_ble_eq_true rfl) ⟨by decide, by decide, by decide, by decide⟩ (fun _ _ h => False.elim h) (fun v M' hp => ?_)
        obtain ⟨rfl, hf2, hC2⟩ := hp
        refine z_iincZ C dX2_countPosition_49 rfl (by decide) ?_
        refine z_goto (tgt := 25) C dX2_countPosition_52 (by decide) ?_
        rw [show (t : Int) + -1 = t - 1 by omega]
        exact ih _ _ (by omega) (hf.tr hf2 (fun _ h => h) (fun _ h => h)) hC2 (hG1.add hm) he
  refine z_aload_n C dX2_countPosition_0 rfl ?_
  refine z_iload_n C dX2_countPosition_1 rfl ?_
  refine z_iconst C dX2_countPosition_2 ?_
  refine z_isubZ C dX2_countPosition_3 ?_
  refine z_callV C dX2_countPosition_4 lk_X2_42 mw_X3_symbolAt mi_X3_symbolAt ms_X3_symbolAt rfl (by first | assumption | ((repeat (first | assumption | exact va_up_self _ _ _ | refine (va_up_ne _ _ (by assumption)).trans ?_)); done) | (simp [va_up, *] <;> rfl)) (hat M zFr.rf (pos - 2) (by unfold zR; omega)) rfl (by first | decide | exact Nat.le_of_ble_eq_true rfl) ⟨by decide, by decide, by decide, by decide⟩ (fun _ _ h => False.elim h) (fun v M' hp => ?_)
  obtain ⟨r4, rfl, rfl, hr4⟩ := hp
  rw [hr4, e1]
  refine z_istore_n C dX2_countPosition_7 (by decide) ?_
  refine z_aload_n C dX2_countPosition_8 rfl ?_
  refine z_iload_n C dX2_countPosition_9 rfl ?_
  refine z_iconst C dX2_countPosition_10 ?_
  refine z_isubZ C dX2_countPosition_11 ?_
  refine z_callV C dX2_countPosition_12 lk_X2_42 mw_X3_symbolAt mi_X3_symbolAt ms_X3_symbolAt rfl (by first | assumption | ((repeat (first | assumption | exact va_up_self _ _ _ | refine (va_up_ne _ _ (by assumption)).trans ?_)); done) | (simp [va_up, *] <;> rfl)) (hat _ zFr.rf (pos - 1) (by unfold zR; omega)) rfl (by first | decide | exact Nat.le_of_ble_eq_true rfl) ⟨by decide, by decide, by decide, by decide⟩ (fun _ _ h => False.elim h) (fun v M' hp => ?_)
  obtain ⟨r12, rfl, rfl, hr12⟩ := hp
  rw [hr12, e2]
  refine z_istore C dX2_countPosition_15 (by decide) ?_
  refine z_iload_n C dX2_countPosition_17 rfl ?_
  refine z_iload C dX2_countPosition_18 rfl ?_
  refine z_callSN C dX2_countPosition_20 nk_X2_47 mw_X8_firstOrder mst_X8_firstOrder (k_X8_firstOrder (b := pb) (p0 := pp) (by unfold zR; omega) (by unfold zR; omega)) rfl (by first | decide | exact Nat.le_of_ble_eq_true rfl) ⟨by decide, by decide, by decide, by decide⟩ (fun _ _ h => False.elim h) (fun v M' hp => ?_)
  obtain ⟨r20, rfl, rfl, hr20⟩ := hp
  subst hr20
  refine z_istore C dX2_countPosition_23 (by decide) ?_
  have hfo := zFo_rng pb pp
  have q := loop (zFo pb pp + 1).toNat _ c0 (by omega) zFr.rf hC hG rfl
  rw [show (((zFo pb pp + 1).toNat : Nat) : Int) - 1 = zFo pb pp by omega] at q
  exact q
/-- the first n symbols of a document counted -/
def zldn (sy : Nat → Int) (len : Int) (c : Int → Int) : Nat → Int → Int
  | 0 => c
  | i + 1 => zlrn (zldn sy len c i) (hAt sy len ((i : Int) - 2)) (hAt sy len ((i : Int) - 1)) (hAt sy len i)
theorem hRm.ldn {G : List Int} {sy : Nat → Int} {len : Int} {c : Int → Int} (h : hRm G c) (hg : hKy G sy len) : ∀ i : Nat, i ≤ len → hRm G (zldn sy len c i)
  | 0, _ => h
  | i + 1, hi => (hRm.ldn h hg i (by omega)).lrn (hg i (by omega) (by omega))
set_option maxHeartbeats 4000000 in
set_option maxRecDepth 100000 in
theorem k_X2_countDocument {l : Launch} {γ : zG} {M : zM} {a k v d r : Nat} {c0 : Int → Int} {sy : Nat → Int} {len yr : Int} {G : List Int} (hC : hCn γ M a k v c0) (hD : hDc γ M d r sy len yr) (hk : zDk sy len) (hne : r ≠ k ∧ r ≠ v) (hG : hRm G c0) (hg : hKy G sy len) :
    zCon l γ yX2_countDocument cX2_countDocument 3 none [.ref a, .ref d] M 3 72 0 0 (fun v' M' => v' = none ∧ zFr M M' [a, k, v] ∧ hCn γ M' a k v (zldn sy len c0 len.toNat)) (fun _ _ => False) := by
  have hk0 := hk.1
  have hdi := hC.dis hD hne.1 hne.2
  refine zEnter [some (.ref a), some (.ref d), none] (by decide +kernel) rfl rfl (Nat.le_of_ble_eq_true rfl) ?_
  intro p e s m args below meth c Q C hin hQ
  have loop : ∀ (t : Nat) (M1 : zM) (i : Int), 0 ≤ i ∧ i ≤ len ∧ len - i = t → zFr M M1 [a, k, v] → hCn γ M1 a k v (zldn sy len c0 i.toNat) → zAW p l e { frames := 3, cells := 0, slots := 0, locals := 72 } s m args below meth c γ 3 Q M1 0 0 2 [some (.ref a), some (.ref d), some (.int (zi i))] [] := by
    intro t
    induction t with
    | zero =>
      intro M1 i hi hf hC1
      have hD1 := hD.fr hf hdi.1 hdi.2
      have ob1 := hD1.1
      obtain rfl : i = len := by omega
      refine z_iload_n C dX2_countDocument_2 rfl ?_
      refine z_aload_n C dX2_countDocument_3 rfl ?_
      refine z_get C dX2_countDocument_4 fl_X2_54 (by first | assumption | ((repeat (first | assumption | exact va_up_self _ _ _ | refine (va_up_ne _ _ (by assumption)).trans ?_)); done) | (simp [va_up, *] <;> rfl)) rfl ?_
      refine z_icmp_geZ (tgt := 22) C dX2_countDocument_7 (by decide) (by omega) (by omega) (fun h7 => ?_) (fun h7 => ?_)
      · refine z_vret C hQ dX2_countDocument_22 (by decide) (by decide) ?_
        exact ⟨rfl, hf, hC1⟩
      · exact absurd h7 (by omega)
    | succ t ih =>
      intro M1 i hi hf hC1
      have hD1 := hD.fr hf hdi.1 hdi.2
      have ob1 := hD1.1
      obtain ⟨A1, ha1⟩ := hC1.ob
      refine z_iload_n C dX2_countDocument_2 rfl ?_
      refine z_aload_n C dX2_countDocument_3 rfl ?_
      refine z_get C dX2_countDocument_4 fl_X2_54 (by first | assumption | ((repeat (first | assumption | exact va_up_self _ _ _ | refine (va_up_ne _ _ (by assumption)).trans ?_)); done) | (simp [va_up, *] <;> rfl)) rfl ?_
      refine z_icmp_geZ (tgt := 22) C dX2_countDocument_7 (by decide) (by omega) (by omega) (fun h7 => ?_) (fun h7 => ?_)
      · exact absurd h7 (by omega)
      · refine z_aload_n C dX2_countDocument_10 rfl ?_
        refine z_aload_n C dX2_countDocument_11 rfl ?_
        refine z_iload_n C dX2_countDocument_12 rfl ?_
        refine z_callV C dX2_countDocument_13 lk_X2_57 mw_X2_countPosition mi_X2_countPosition ms_X2_countPosition rfl (by first | assumption | ((repeat (first | assumption | exact va_up_self _ _ _ | refine (va_up_ne _ _ (by assumption)).trans ?_)); done) | (simp [va_up, *] <;> rfl)) (k_X2_countPosition hC1 hD1 hk hne (by omega) (hG.ldn hg i.toNat (by omega)) (hg i (by omega) (by omega))) rfl (by first | decide | exact Nat.le_of_ble_eq_true rfl) ⟨by decide, by decide, by decide, by decide⟩ (fun _ _ h => False.elim h) (fun v M' hp => ?_)
        obtain ⟨rfl, hf2, hC2⟩ := hp
        refine z_iincZ C dX2_countDocument_16 rfl (by decide) ?_
        refine z_goto (tgt := 2) C dX2_countDocument_19 (by decide) ?_
        refine ih _ (i + 1) (by omega) (hf.tr hf2 (fun _ h => h) (fun _ h => h)) ?_
        rw [show (i + 1).toNat = i.toNat + 1 by omega, zldn, show ((i.toNat : Nat) : Int) = i by omega]
        exact hC2
  refine z_iconst C dX2_countDocument_0 ?_
  refine z_istore_n C dX2_countDocument_1 (by decide) ?_
  exact loop len.toNat M 0 (by omega) zFr.rf hC
set_option maxHeartbeats 4000000 in
set_option maxRecDepth 100000 in
theorem k_X2_init {l : Launch} {γ : zG} {M : zM} {a : Nat} (hM : M a = some (.inr (2, [.null, .null, .int 0]))) :
    zCon l γ yX2_init cX2_init 1 none [.ref a] M 1 12 2 1286 (fun v' M' => v' = none ∧ ∃ k v, M k = none ∧ M v = none ∧ zFr M M' [a, k, v] ∧ hCn γ M' a k v (fun _ => 0)) (fun _ _ => False) := by
  refine zEnter [some (.ref a)] (by decide +kernel) rfl rfl (Nat.le_of_ble_eq_true rfl) ?_
  intro p e s m args below meth c Q C hin hQ
  refine z_aload_n C dX2_init_0 rfl ?_
  refine z_objInit C dX2_init_1 t1_129 ob_in ob_co ⟨by decide, (by first | decide | exact Nat.le_of_ble_eq_true rfl)⟩ ?_
  refine z_aload_n C dX2_init_4 rfl ?_
  refine z_sipush C dX2_init_5 (by decide) ?_
  refine z_newI C dX2_init_8 t1_55 (by omega) ⟨by decide, by decide⟩ (fun q8 hq8 => ?_)
  have n1 : a ≠ q8 := fun q => by rw [q, hq8] at hM; cases hM
  have n2 := n1.symm
  refine z_putF C dX2_init_10 fl_X2_9 hin (by first | assumption | ((repeat (first | assumption | exact va_up_self _ _ _ | refine (va_up_ne _ _ (by assumption)).trans ?_)); done) | (simp [va_up, *] <;> rfl)) (fun _ _ _ h => by cases h; rfl) rfl rfl (by simp) ?_
  refine z_aload_n C dX2_init_13 rfl ?_
  refine z_sipush C dX2_init_14 (by decide) ?_
  refine z_newI C dX2_init_17 t1_55 (by omega) ⟨by decide, by decide⟩ (fun q17 hq17 => ?_)
  have n3 : a ≠ q17 := fun q => by rw [q] at hq17; simp [va_up, n1] at hq17
  have n4 := n3.symm
  have n5 : q8 ≠ q17 := fun q => by rw [q] at hq17 n2; simp [va_up, n4] at hq17
  have n6 := n5.symm
  refine z_putF C dX2_init_19 fl_X2_15 hin (by first | assumption | ((repeat (first | assumption | exact va_up_self _ _ _ | refine (va_up_ne _ _ (by assumption)).trans ?_)); done) | (simp [va_up, *] <;> rfl)) (fun _ _ _ h => by cases h; rfl) rfl rfl (by simp) ?_
  refine z_aload_n C dX2_init_22 rfl ?_
  refine z_iconst C dX2_init_23 ?_
  refine z_put C dX2_init_24 fl_X2_18 (by first | assumption | ((repeat (first | assumption | exact va_up_self _ _ _ | refine (va_up_ne _ _ (by assumption)).trans ?_)); done) | (simp [va_up, *] <;> rfl)) rfl rfl (by simp) ?_
  refine z_vret C hQ dX2_init_27 (by decide) (by decide) ?_
  refine ⟨rfl, q8, q17, hq8, by simpa [va_up, n4, n6] using hq17, ?_, n5, 0, fun _ => 0, fun _ => 0, ⟨?_, ?_, ?_⟩, ⟨by omega, fun _ => (by unfold zR; omega : zR 0), fun _ => (by unfold zR; omega : zR 0), fun i j h1 h2 => by omega⟩, fun j hj => by omega, fun x hx => absurd rfl hx⟩
  · exact zFr.u2 (zFr.u2 (zFr.up (by simp)) (by simp) (by simp)) (by simp) (by simp)
  · simp [va_up]
  · simp [va_up, n2, n5]
    rfl
  · simp [va_up, n4, n6]
    rfl
set_option maxHeartbeats 4000000 in
set_option maxRecDepth 100000 in
theorem k_X3_init {l : Launch} {γ : zG} {M : zM} {a : Nat} (hM : M a = some (.inr (3, [.null, .int 0, .int 0]))) :
    zCon l γ yX3_init cX3_init 1 none [.ref a] M 1 12 1 40 (fun v' M' => v' = none ∧ ∃ r, M r = none ∧ zFr M M' [a, r] ∧ hDc γ M' a r (fun _ => 0) 0 0) (fun _ _ => False) := by
  refine zEnter [some (.ref a)] (by decide +kernel) rfl rfl (Nat.le_of_ble_eq_true rfl) ?_
  intro p e s m args below meth c Q C hin hQ
  refine z_aload_n C dX3_init_0 rfl ?_
  refine z_objInit C dX3_init_1 t1_179 ob_in ob_co ⟨by decide, (by first | decide | exact Nat.le_of_ble_eq_true rfl)⟩ ?_
  refine z_aload_n C dX3_init_4 rfl ?_
  refine z_bipush C dX3_init_5 (by decide) ?_
  refine z_newI C dX3_init_7 t1_55 (by omega) ⟨by decide, by decide⟩ (fun q7 hq7 => ?_)
  have n1 : a ≠ q7 := fun q => by rw [q, hq7] at hM; cases hM
  have n2 := n1.symm
  refine z_putF C dX3_init_9 fl_X3_9 hin (by first | assumption | ((repeat (first | assumption | exact va_up_self _ _ _ | refine (va_up_ne _ _ (by assumption)).trans ?_)); done) | (simp [va_up, *] <;> rfl)) (fun _ _ _ h => by cases h; rfl) rfl rfl (by simp) ?_
  refine z_aload_n C dX3_init_12 rfl ?_
  refine z_iconst C dX3_init_13 ?_
  refine z_put C dX3_init_14 fl_X3_15 (by first | assumption | ((repeat (first | assumption | exact va_up_self _ _ _ | refine (va_up_ne _ _ (by assumption)).trans ?_)); done) | (simp [va_up, *] <;> rfl)) rfl rfl (by simp) ?_
  refine z_aload_n C dX3_init_17 rfl ?_
  refine z_iconst C dX3_init_18 ?_
  refine z_put C dX3_init_19 fl_X3_19 (by first | assumption | ((repeat (first | assumption | exact va_up_self _ _ _ | refine (va_up_ne _ _ (by assumption)).trans ?_)); done) | (simp [va_up, *] <;> rfl)) rfl rfl (by simp) ?_
  refine z_vret C hQ dX3_init_22 (by decide) (by decide) ?_
  exact ⟨rfl, q7, hq7, zFr.u1 (zFr.u2 (zFr.up (by simp)) (by simp) (by simp)) (by simp), by simp [va_up], by simp [va_up, n2]; rfl⟩

