/-! the model's questions: agreements, trials -/
theorem zgp_lt {c : Int → Int} {q : Int} : zgp c q = 1 ↔ 0 < zsum (zind c) (756 + q * 27) 27 := by
  have := zind_27 c (756 + q * 27)
  unfold zgp
  rw [show 756 + 27 * q = 756 + q * 27 by omega]
  split <;> omega
theorem mRw.n {q : Nat} (h : mRw q) {i : Nat} (hi : i < 15 ∧ (i = 0 ∨ 3 < i)) : mNi i [q] := ⟨hi.1, fun j hj => by
  rw [List.mem_singleton.mp hj]
  unfold mRw at h
  omega⟩
theorem mSt.trn {g g1 : Nat → Int} {S : zSt} {r d : Int} (hS : mSt g S) (hO : zOk S) (hr : 0 ≤ r ∧ r < sRn S) (hd : 0 ≤ d ∧ d < sDn S) (h4 : ∀ j, zR (mNo g1 r d j)) (h5 : mEq g g1 r) (h6 : mRp g1 r (zdoc (rC (sRd S r.toNat)) (sDc S d.toNat)) (sG S)) : mSt (mNo g1 r d) (sTrn S r d) := by
  have o1 := hO.1
  have hSd := hS.d hd
  have hSr := hS.r hr
  have hs1 := hSr.setC (by omega) h5 h6
  have hd1 : g1 (3 + 42 * d).toNat = dLe (sDc S d.toNat) := (h5 _ (by omega)).trans hSd.1.1
  have hs2 := hs1.note (d := d) (by omega) (by omega) hd1
  exact hS.setR hO h4 (r := r.toNat) (R := rTrn (sRd S r.toNat) d (sDc S d.toNat)) (by omega) (fun i hi => by
    rw [mNo_eq (by omega) (by omega) i (by omega)]
    exact h5 i (by omega)) (by rw [show ((r.toNat : Nat) : Int) = r by omega]; exact hs2)
theorem sTrn_ok {S : zSt} (h : zOk S) {r d : Int} (hr : 0 ≤ r ∧ r < sRn S) (hd : 0 ≤ d ∧ d < sDn S) : zOk (sTrn S r d) := by
  have q := h.trn (i := r.toNat) (d := d.toNat) (by omega) (by omega) d
  exact h.setR q.1 q.2
theorem sTrn_c {S : zSt} {r d : Int} : rC (sRd (sTrn S r d) r.toNat) = zdoc (rC (sRd S r.toNat)) (sDc S d.toNat) := by
  show rC (va_up (sRd S) r.toNat _ r.toNat) = _
  rw [va_up_self]
  rfl
set_option maxHeartbeats 4000000 in
set_option maxRecDepth 100000 in
theorem k_X9_tries {l : Launch} {γ : zG} {M : zM} {A : Nat → Nat} {F g g3 : Nat → Int} {S0 : zSt} (hA : mIA A) (hO : M (A 0) = some (mOb A F)) (hM : M (A 1) = some (zar γ 5987 g)) (hS : mSt g S0) (hOk : zOk S0) (h3 : M (A 3) = some (zar γ 5987 g3)) (hg3 : ∀ j, zR (g3 j)) :
    zCon l γ yX9_tries cX9_tries 1 none [.ref (A 0)] M 1 25 0 0 (fun v' M' => v' = none ∧ mF A M M' [3] ∧ ∃ g', M' (A 3) = some (zar γ 5987 g') ∧ mSt g' S0) (fun _ _ => False) := by
  refine zEnter [some (.ref (A 0))] (by decide +kernel) rfl rfl (Nat.le_of_ble_eq_true rfl) ?_
  intro p e s m args below meth c Q C hin hQ
  refine z_aload_n C dX9_tries_0 rfl ?_
  refine z_get C dX9_tries_1 fl_X9_7 (by first | assumption | ((repeat (first | assumption | exact va_up_self _ _ _ | refine (va_up_ne _ _ (by first | assumption | exact hA.ne (by decide) | exact hA.ne (by omega))).trans ?_)); done)) rfl ?_
  refine z_iconst C dX9_tries_4 ?_
  refine z_aload_n C dX9_tries_5 rfl ?_
  refine z_get C dX9_tries_6 fl_X9_16 (by first | assumption | ((repeat (first | assumption | exact va_up_self _ _ _ | refine (va_up_ne _ _ (by first | assumption | exact hA.ne (by decide) | exact hA.ne (by omega))).trans ?_)); done)) rfl ?_
  refine z_iconst C dX9_tries_9 ?_
  refine z_callS C dX9_tries_10 lk_X9_71 mw_X9_copyRow mst_X9_copyRow (k_X9_copyRow hM hS.1 h3 hg3 (hA.ne (by decide)) (by decide) (fa := 0) (ga := 0) (by omega) (by omega)) rfl (by first | decide | exact Nat.le_of_ble_eq_true rfl) ⟨by decide, by decide, by decide, by decide⟩ (fun _ _ h => False.elim h) (fun v M' hp => ?_)
  obtain ⟨rfl, f10, a10, z10⟩ := hp
  refine z_vret C hQ dX9_tries_13 (by decide) (by decide) ?_
  refine ⟨rfl, (f10 : mF A M _ [3]), _, a10, hS.cg hOk z10 (fun i hi => ?_)⟩
  rw [mCp_at (by omega) (by omega), if_pos (by omega)]
  congr 1
  omega
set_option maxHeartbeats 4000000 in
set_option maxRecDepth 100000 in
theorem k_X9_learnAll {l : Launch} {γ : zG} {M : zM} {A : Nat → Nat} {F : Nat → Int} {kq : Nat} {g : Nat → Int} {r d : Int} {S0 : zSt} (hA : mIA A) (hO : mSc γ M A F) (hk : mRw kq) (hM : M (A kq) = some (zar γ 5987 g)) (hS : mSt g S0) (hOk : zOk S0) (hr : 0 ≤ r ∧ r < sRn S0) (hd : 0 ≤ d ∧ d < sDn S0) :
    zCon l γ yX9_learnAll cX9_learnAll 6 (some .int) [.ref (A 0), .ref (A kq), .int (zi r), .int (zi d)] M 6 150 0 0 (fun v' M' => v' = some (.int (zi (zla (rC (sRd S0 r.toNat)) (sDc S0 d.toNat)))) ∧ mF A M M' [0, 7, 8, 9, kq] ∧ ∃ F', mKp [10, 13] F F' ∧ mSc γ M' A F' ∧ ∃ g', M' (A kq) = some (zar γ 5987 g') ∧ mSt g' (sTrn S0 r d)) (fun _ _ => False) := by
  obtain ⟨hg, hr4, hd8, hL, hG, hc, hX, hD⟩ := hS.rd hOk hr hd
  have hl := hX.1
  have hK := sG_ky hOk (d := d.toNat) (by omega)
  have hlen := sG_len hOk
  generalize hXX : sDc S0 d.toNat = X at *
  generalize hcc : rC (sRd S0 r.toNat) = c0 at *
  refine zEnter [some (.ref (A 0)), some (.ref (A kq)), some (.int (zi r)), some (.int (zi d)), none, none] (by decide +kernel) rfl rfl (Nat.le_of_ble_eq_true rfl) ?_
  intro p e s m args below meth c Q C hin hQ
  have loop : ∀ (t : Nat) (M1 : zM) (F1 g1 : Nat → Int) (i : Int), dLe X - i = t → 0 ≤ i ∧ i ≤ dLe X → mF A M M1 [0, 7, 8, 9, kq] → mKp [10, 13] F F1 → mSc γ M1 A F1 → M1 (A kq) = some (zar γ 5987 g1) → (∀ j, zR (g1 j)) → mEq g g1 r → mRp g1 r (zldn (dSy X) (dLe X) c0 i.toNat) (sG S0) → zAW p l e { frames := 6, cells := 0, slots := 0, locals := 150 } s m args below meth c γ 6 Q M1 0 0 6 [some (.ref (A 0)), some (.ref (A kq)), some (.int (zi r)), some (.int (zi d)), some (.int (zi (zlan c0 (dSy X) (dLe X) i.toNat))), some (.int (zi i))] [] := by
    intro t
    induction t with
    | zero =>
      intro M1 F1 g1 i ht hi hf hp1 hs hM1 hg1 he hL1
      obtain rfl : i = dLe X := by omega
      have hD1 := hD.eq hd8 hr4.1 hl.2 he
      refine z_iload C dX9_learnAll_6 rfl ?_
      refine z_aload_n C dX9_learnAll_8 rfl ?_
      refine z_iload_n C dX9_learnAll_9 rfl ?_
      refine z_callS C dX9_learnAll_10 lk_X9_114 mw_X9_lengthOf mst_X9_lengthOf (k_X9_lengthOf hM1 hg1 hd8) rfl (by first | decide | exact Nat.le_of_ble_eq_true rfl) ⟨by decide, by decide, by decide, by decide⟩ (fun _ _ h => False.elim h) (fun v M' hp => ?_)
      obtain ⟨rfl, rfl⟩ := hp
      rw [hD1.1]
      refine z_icmp_geZ (tgt := 44) C dX9_learnAll_13 (by decide) (by omega) (by omega) (fun h13 => ?_) (fun h13 => ?_)
      · refine z_aload_n C dX9_learnAll_44 rfl ?_
        refine z_iload_n C dX9_learnAll_45 rfl ?_
        refine z_iload_n C dX9_learnAll_46 rfl ?_
        refine z_callS C dX9_learnAll_47 lk_X9_121 mw_X9_noteTraining mst_X9_noteTraining (k_X9_noteTraining hM1 hg1 hr4 hd8) rfl (by first | decide | exact Nat.le_of_ble_eq_true rfl) ⟨by decide, by decide, by decide, by decide⟩ (fun _ _ h => False.elim h) (fun v M' hp => ?_)
        obtain ⟨rfl, f27, h27, z27⟩ := hp
        have f28 : mF A _ _ [kq] := f27
        refine z_iload C dX9_learnAll_50 rfl ?_
        refine z_iret C hQ dX9_learnAll_52 rfl (by decide) (by decide) ?_
        refine ⟨rfl, hf.tr f28 ⟨by simp, by simp⟩, F1, hp1, hs.fr hA f28 (hk.n (by decide)) (hk.n (by decide)) (hk.n (by decide)) (hk.n (by decide)), _, h27, hS.trn hOk hr hd z27 he ?_⟩
        rw [hXX, hcc]
        exact hL1
      · exact absurd h13 (by omega)
    | succ t ih =>
      intro M1 F1 g1 i ht hi hf hp1 hs hM1 hg1 he hL1
      have hD1 := hD.eq hd8 hr4.1 hl.2 he
      obtain ⟨y1, y2, y3⟩ := mKy_in hK (i := i) (by omega)
      have hbp := hAt_bp hX i (by omega)
      have rg0 := hAt_sy hX (i := i) (by omega)
      have hR1 : mRD g1 r d (zldn (dSy X) (dLe X) c0 i.toNat) (sG S0) X := ⟨hg1, hr4, hd8, hL1, hG, zldn_rng hc _, hX, hD1⟩
      have qq := fun M2 F2 g2 => ih M2 F2 g2 (i + 1) (by omega) (by omega)
      rw [show (i + 1).toNat = i.toNat + 1 by omega, zldn, zlan, show ((i.toNat : Nat) : Int) = i by omega] at qq
      refine z_iload C dX9_learnAll_6 rfl ?_
      refine z_aload_n C dX9_learnAll_8 rfl ?_
      refine z_iload_n C dX9_learnAll_9 rfl ?_
      refine z_callS C dX9_learnAll_10 lk_X9_114 mw_X9_lengthOf mst_X9_lengthOf (k_X9_lengthOf hM1 hg1 hd8) rfl (by first | decide | exact Nat.le_of_ble_eq_true rfl) ⟨by decide, by decide, by decide, by decide⟩ (fun _ _ h => False.elim h) (fun v M' hp => ?_)
      obtain ⟨rfl, rfl⟩ := hp
      rw [hD1.1]
      refine z_icmp_geZ (tgt := 44) C dX9_learnAll_13 (by decide) (by omega) (by omega) (fun h13 => ?_) (fun h13 => ?_)
      · exact absurd h13 (by omega)
      · refine z_iload C dX9_learnAll_16 rfl ?_
        refine z_aload_n C dX9_learnAll_18 rfl ?_
        refine z_aload_n C dX9_learnAll_19 rfl ?_
        refine z_iload_n C dX9_learnAll_20 rfl ?_
        refine z_iload_n C dX9_learnAll_21 rfl ?_
        refine z_iload C dX9_learnAll_22 rfl ?_
        refine z_callV C dX9_learnAll_24 lk_X9_148 mw_X9_rankIn mi_X9_rankIn ms_X9_rankIn rfl hs.1 (k_X9_rankIn hA hs hk hM1 hR1 (i := i) (by omega)) rfl (by first | decide | exact Nat.le_of_ble_eq_true rfl) ⟨by decide, by decide, by decide, by decide⟩ (fun _ _ h => False.elim h) (fun v M' hp => ?_)
        obtain ⟨rfl, fa, Fa, pa, sa⟩ := hp
        have hMa := fa.at hA (hk.ni rfl) hM1
        refine z_iaddZ C dX9_learnAll_27 ?_
        refine z_istore C dX9_learnAll_28 (by decide) ?_
        refine z_aload_n C dX9_learnAll_30 rfl ?_
        refine z_iload_n C dX9_learnAll_31 rfl ?_
        refine z_iload_n C dX9_learnAll_32 rfl ?_
        refine z_iload C dX9_learnAll_33 rfl ?_
        refine z_callS C dX9_learnAll_35 lk_X9_118 mw_X9_learnOne mst_X9_learnOne (k_X9_learnOne hMa hg1 hr4 hd8 (i := i) (by omega) (hD1.sy (by omega)) (hD1.sy (by omega)) (hD1.sy (by omega)) (hAt_dr hX _) (hAt_dr hX _) rg0 hL1 hlen y1 y2 (fun e => y3 e (hbp e))) rfl (by first | decide | exact Nat.le_of_ble_eq_true rfl) ⟨by decide, by decide, by decide, by decide⟩ (fun _ _ h => False.elim h) (fun v M' hp => ?_)
        obtain ⟨rfl, f15, g2, h15, z15, e15, L15⟩ := hp
        rw [mLn_eq (hAt_dr hX _) (hAt_dr hX _) rg0 hbp] at L15
        have f16 : mF A _ _ [kq] := f15
        refine z_iincZ C dX9_learnAll_38 rfl (by decide) ?_
        refine z_goto (tgt := 6) C dX9_learnAll_41 (by decide) ?_
        exact qq _ Fa g2 ((hf.tr (K := [0, 7, 8, 9, kq]) fa ⟨by simp, by simp⟩).tr f16 ⟨by simp, by simp⟩) (hp1.tr pa ⟨rfl, rfl⟩) (sa.fr hA f16 (hk.n (by decide)) (hk.n (by decide)) (hk.n (by decide)) (hk.n (by decide))) h15 z15 (he.tr e15) L15
  refine z_iconst C dX9_learnAll_0 ?_
  refine z_istore C dX9_learnAll_1 (by decide) ?_
  refine z_iconst C dX9_learnAll_3 ?_
  refine z_istore C dX9_learnAll_4 (by decide) ?_
  exact loop (dLe X).toNat M F g 0 (by omega) (by omega) mF.rf mKp.rf hO hM hg (fun i hi => rfl) hL
/-- trials: the tried row, too -/
theorem hMf.t {γ : zG} {A : Nat → Nat} {M M' : zM} {F F' : Nat → Int} {Y : zSys} (hA : mIA A) (h : hMf γ M A F Y) (f : mF A M M' [0, 3, 7, 8, 9]) (kp : mKp [10, 13] F F') (sc : mSc γ M' A F') (h3 : ∃ g, M' (A 3) = some (zar γ 5987 g) ∧ ∀ j, zR (g j)) : hMf γ M' A F' Y := by
  obtain ⟨⟨a, a1, a2⟩, -, ⟨c, c1⟩, ⟨d, d1⟩, x, x1, x2⟩ := h.2.2.2.2.2.2.2
  exact h.q hA f rfl kp rfl sc ⟨⟨a, f.at hA (.of rfl) a1, a2⟩, h3, ⟨c, f.at hA (.of rfl) c1⟩, ⟨d, f.at hA (.of rfl) d1⟩, x, f.at hA (.of rfl) x1, x2⟩
theorem mAns.t {γ : zG} {A : Nat → Nat} {M M1 M' : zM} {F1 F' : Nat → Int} {Y : zSys} {q : Int × Int} {b v : Int} (hA : mIA A) (hF : hMf γ M1 A F1 Y) (c : mF A M M1 [0]) (e : F1 8 = 0) (f : mF A M1 M' [0, 3, 7, 8, 9]) (kp : mKp [10, 13] F1 F') (sc : mSc γ M' A F') (h3 : ∃ g, M' (A 3) = some (zar γ 5987 g) ∧ ∀ j, zR (g j)) (hq : q = (0, v)) (hb : zi b = zi v) : mAns γ A M Y q (some (.int (zi b))) M' := mAns.ok hA (hF.t hA f kp sc h3) ((c.tr (K := [0, 3, 7, 8, 9]) f ⟨rfl, rfl⟩).mo rfl) ((kp 8 (by decide)).trans e) hq hb
theorem mBD_2 {S : zSt} {r d x v : Int} (z : (zqR S r (zqD S d (0, 0))).1 ≠ 0) : (zqR S r (zqD S d (zqD S x (0, v)))).1 = (zqR S r (zqD S d (0, 0))).1 := by
  by_cases w : 0 ≤ r ∧ r < sRn S
  · rw [mqR_t w] at z
    rw [mqR_t w, mqR_t w]
    by_cases w2 : 0 ≤ d ∧ d < sDn S
    · exact absurd (by rw [mqD_t w2]) z
    · rw [mqD_f w2, mqD_f w2]
  · rw [mqR_f w, mqR_f w]
set_option maxHeartbeats 4000000 in
set_option maxRecDepth 100000 in
theorem m_adaptiveGuesses {l : Launch} {γ : zG} {M : zM} {A : Nat → Nat} {Y : zSys} {t0 : Int} {rr dd : Int} (hMo0 : hMo γ M A Y t0) (hY : zOk (yS Y)) (r_rr : zR rr) (r_dd : zR dd) :
    zCon l γ yX9_adaptiveGuesses cX9_adaptiveGuesses 3 (some .int) [.ref (A 0), .int (zi rr), .int (zi dd)] M 10 330 0 0 (mAns γ A M Y (q_adaptiveGuesses (yS Y) rr dd)) (fun _ _ => False) := by
  obtain ⟨hA, F, h8, hF⟩ := hMo0
  obtain ⟨hsc, hec, hun, hsl, hinp, hou, ⟨g, hM, hS⟩, hrs⟩ := id hF
  have hO := hsc.1
  have hg := hS.1
  have o1 := hY.1
  have z_rr := r_rr
  unfold zR at z_rr
  have z_dd := r_dd
  unfold zR at z_dd
  refine zEnter [some (.ref (A 0)), some (.int (zi rr)), some (.int (zi dd))] (by decide +kernel) rfl rfl (Nat.le_of_ble_eq_true rfl) ?_
  intro p e s m args below meth c Q C hin hQ
  refine z_aload_n C dX9_adaptiveGuesses_0 rfl ?_
  refine z_iload_n C dX9_adaptiveGuesses_1 rfl ?_
  refine z_iload_n C dX9_adaptiveGuesses_2 rfl ?_
  refine z_callV C dX9_adaptiveGuesses_3 lk_X9_328 mw_X9_noBoth mi_X9_noBoth ms_X9_noBoth rfl (by first | assumption | ((repeat (first | assumption | exact va_up_self _ _ _ | refine (va_up_ne _ _ (by first | assumption | exact hA.ne (by decide) | exact hA.ne (by omega))).trans ?_)); done)) (k_X9_noBoth hA hO hM hS hY r_rr r_dd) rfl (by first | decide | exact Nat.le_of_ble_eq_true rfl) ⟨by decide, by decide, by decide, by decide⟩ (fun _ _ h => False.elim h) (fun v M' hp => ?_)
  obtain ⟨r1, F1, rfl, f1, ob1, p1, e1, z1⟩ := hp
  have s1 := z1.rng
  have cf1 := f1
  have cp1 := p1
  have hM1 := cf1.at hA (.of rfl) hM
  refine z_if_eqZ (tgt := 11) C dX9_adaptiveGuesses_6 (by decide) (by omega) (fun h6 => ?_) (fun h6 => ?_)
  · have t1 := Decidable.not_not.mp (z1.f h6)
    rw [t1] at e1
    obtain ⟨c1, c0⟩ := mqR_0 t1
    obtain ⟨c2, -⟩ := mqD_0 c0
    have hF1 := hF.q0 hA cf1 ob1 cp1 rfl
    have hs1 := hF1.1
    have hR := hS.rd hY c1 c2
    have hSr := hS.r c1
    have hSd := hS.d c2
    have hX := hY.2.1 dd.toNat (by omega)
    have hXl := hX.1
    obtain ⟨g3, h3, hg3⟩ := hF1.2.2.2.2.2.2.2.2.1
    refine z_aload_n C dX9_adaptiveGuesses_11 rfl ?_
    refine z_callV C dX9_adaptiveGuesses_12 lk_X9_348 mw_X9_tries mi_X9_tries ms_X9_tries rfl (by first | assumption | ((repeat (first | assumption | exact va_up_self _ _ _ | refine (va_up_ne _ _ (by first | assumption | exact hA.ne (by decide) | exact hA.ne (by omega))).trans ?_)); done)) (k_X9_tries hA ob1 hM1 hS hY h3 hg3) rfl (by first | decide | exact Nat.le_of_ble_eq_true rfl) ⟨by decide, by decide, by decide, by decide⟩ (fun _ _ h => False.elim h) (fun v M' hp => ?_)
    obtain ⟨rfl, ft, gt, ht3, hSt⟩ := hp
    have st := hs1.fr hA ft (.of rfl) (.of rfl) (.of rfl) (.of rfl)
    have ot := st.1
    refine z_aload_n C dX9_adaptiveGuesses_15 rfl ?_
    refine z_aload_n C dX9_adaptiveGuesses_16 rfl ?_
    refine z_get C dX9_adaptiveGuesses_17 fl_X9_16 (by first | assumption | ((repeat (first | assumption | exact va_up_self _ _ _ | refine (va_up_ne _ _ (by first | assumption | exact hA.ne (by decide) | exact hA.ne (by omega))).trans ?_)); done)) rfl ?_
    refine z_iload_n C dX9_adaptiveGuesses_20 rfl ?_
    refine z_iload_n C dX9_adaptiveGuesses_21 rfl ?_
    refine z_callV C dX9_adaptiveGuesses_22 lk_X9_351 mw_X9_learnAll mi_X9_learnAll ms_X9_learnAll rfl st.1 (k_X9_learnAll hA st (kq := 3) (.inr (.inr rfl)) ht3 hSt hY c1 c2) rfl (by first | decide | exact Nat.le_of_ble_eq_true rfl) ⟨by decide, by decide, by decide, by decide⟩ (fun _ _ h => False.elim h) (fun v M' hp => ?_)
    obtain ⟨rfl, fa, Fa, pa, sa, ga, ha3, hSa⟩ := hp
    refine z_iret C hQ dX9_adaptiveGuesses_25 rfl (by decide) (by decide) ?_
    exact mAns.t hA hF1 cf1 e1 (ft.tr fa ⟨rfl, rfl⟩) pa sa ⟨ga, ha3, hSa.1⟩ (by rw [q_adaptiveGuesses, mqR_t c1, mqD_t c2]) rfl
  · refine z_iconst C dX9_adaptiveGuesses_9 ?_
    refine z_iret C hQ dX9_adaptiveGuesses_10 rfl (by decide) (by decide) ?_
    exact mAns.no hA hF cf1 ob1 cp1 e1 (z1.t h6) (mqR_1 (mqD_1 rfl))
set_option maxHeartbeats 4000000 in
set_option maxRecDepth 100000 in
theorem m_guessesAfterTraining {l : Launch} {γ : zG} {M : zM} {A : Nat → Nat} {Y : zSys} {t0 : Int} {rr dd ee : Int} (hMo0 : hMo γ M A Y t0) (hY : zOk (yS Y)) (r_rr : zR rr) (r_dd : zR dd) (r_ee : zR ee) :
    zCon l γ yX9_guessesAfterTraining cX9_guessesAfterTraining 4 (some .int) [.ref (A 0), .int (zi rr), .int (zi dd), .int (zi ee)] M 10 330 0 0 (mAns γ A M Y (q_guessesAfterTraining (yS Y) rr dd ee)) (fun _ _ => False) := by
  obtain ⟨hA, F, h8, hF⟩ := hMo0
  obtain ⟨hsc, hec, hun, hsl, hinp, hou, ⟨g, hM, hS⟩, hrs⟩ := id hF
  have hO := hsc.1
  have hg := hS.1
  have o1 := hY.1
  have z_rr := r_rr
  unfold zR at z_rr
  have z_dd := r_dd
  unfold zR at z_dd
  have z_ee := r_ee
  unfold zR at z_ee
  refine zEnter [some (.ref (A 0)), some (.int (zi rr)), some (.int (zi dd)), some (.int (zi ee))] (by decide +kernel) rfl rfl (Nat.le_of_ble_eq_true rfl) ?_
  intro p e s m args below meth c Q C hin hQ
  refine z_aload_n C dX9_guessesAfterTraining_0 rfl ?_
  refine z_iload_n C dX9_guessesAfterTraining_1 rfl ?_
  refine z_iload_n C dX9_guessesAfterTraining_2 rfl ?_
  refine z_callV C dX9_guessesAfterTraining_3 lk_X9_328 mw_X9_noBoth mi_X9_noBoth ms_X9_noBoth rfl (by first | assumption | ((repeat (first | assumption | exact va_up_self _ _ _ | refine (va_up_ne _ _ (by first | assumption | exact hA.ne (by decide) | exact hA.ne (by omega))).trans ?_)); done)) (k_X9_noBoth hA hO hM hS hY r_rr r_dd) rfl (by first | decide | exact Nat.le_of_ble_eq_true rfl) ⟨by decide, by decide, by decide, by decide⟩ (fun _ _ h => False.elim h) (fun v M' hp => ?_)
  obtain ⟨r1, F1, rfl, f1, ob1, p1, e1, z1⟩ := hp
  have s1 := z1.rng
  have cf1 := f1
  have cp1 := p1
  have hM1 := cf1.at hA (.of rfl) hM
  refine z_if_neZ (tgt := 17) C dX9_guessesAfterTraining_6 (by decide) (by omega) (fun h6 => ?_) (fun h6 => ?_)
  · refine z_iconst C dX9_guessesAfterTraining_17 ?_
    refine z_iret C hQ dX9_guessesAfterTraining_18 rfl (by decide) (by decide) ?_
    exact mAns.no hA hF cf1 ob1 cp1 e1 (z1.t h6) (mBD_2 (z1.t h6))
  · have t1 := Decidable.not_not.mp (z1.f h6)
    rw [t1] at e1
    obtain ⟨c1, c0⟩ := mqR_0 t1
    obtain ⟨c2, -⟩ := mqD_0 c0
    refine z_aload_n C dX9_guessesAfterTraining_9 rfl ?_
    refine z_iload_n C dX9_guessesAfterTraining_10 rfl ?_
    refine z_callV C dX9_guessesAfterTraining_11 lk_X9_298 mw_X9_noDocument mi_X9_noDocument ms_X9_noDocument rfl (by first | assumption | ((repeat (first | assumption | exact va_up_self _ _ _ | refine (va_up_ne _ _ (by first | assumption | exact hA.ne (by decide) | exact hA.ne (by omega))).trans ?_)); done)) (k_X9_noDocument hA ob1 hM1 hS hY r_ee) rfl (by first | decide | exact Nat.le_of_ble_eq_true rfl) ⟨by decide, by decide, by decide, by decide⟩ (fun _ _ h => False.elim h) (fun v M' hp => ?_)
    obtain ⟨r2, F2, rfl, f2, ob2, p2, e2, z2⟩ := hp
    have s2 := z2.rng
    have cf2 := cf1.tr (K := [0]) f2 ⟨rfl, rfl⟩
    have cp2 := cp1.tr (K := [8]) p2 ⟨rfl, rfl⟩
    have hM2 := cf2.at hA (.of rfl) hM
    refine z_if_eqZ (tgt := 19) C dX9_guessesAfterTraining_14 (by decide) (by omega) (fun h14 => ?_) (fun h14 => ?_)
    · have t2 := Decidable.not_not.mp (z2.f h14)
      rw [t2] at e2
      obtain ⟨c3, -⟩ := mqD_0 t2
      have hF1 := hF.q0 hA cf2 ob2 cp2 rfl
      have hs1 := hF1.1
      obtain ⟨g3, h3, hg3⟩ := hF1.2.2.2.2.2.2.2.2.1
      refine z_aload_n C dX9_guessesAfterTraining_19 rfl ?_
      refine z_callV C dX9_guessesAfterTraining_20 lk_X9_348 mw_X9_tries mi_X9_tries ms_X9_tries rfl (by first | assumption | ((repeat (first | assumption | exact va_up_self _ _ _ | refine (va_up_ne _ _ (by first | assumption | exact hA.ne (by decide) | exact hA.ne (by omega))).trans ?_)); done)) (k_X9_tries hA ob2 hM2 hS hY h3 hg3) rfl (by first | decide | exact Nat.le_of_ble_eq_true rfl) ⟨by decide, by decide, by decide, by decide⟩ (fun _ _ h => False.elim h) (fun v M' hp => ?_)
      obtain ⟨rfl, ft, gt, ht3, hSt⟩ := hp
      have st := hs1.fr hA ft (.of rfl) (.of rfl) (.of rfl) (.of rfl)
      have ot := st.1
      refine z_aload_n C dX9_guessesAfterTraining_23 rfl ?_
      refine z_get C dX9_guessesAfterTraining_24 fl_X9_16 (by first | assumption | ((repeat (first | assumption | exact va_up_self _ _ _ | refine (va_up_ne _ _ (by first | assumption | exact hA.ne (by decide) | exact hA.ne (by omega))).trans ?_)); done)) rfl ?_
      refine z_iload_n C dX9_guessesAfterTraining_27 rfl ?_
      refine z_iload_n C dX9_guessesAfterTraining_28 rfl ?_
      refine z_callS C dX9_guessesAfterTraining_29 lk_X9_262 mw_X9_trainOn mst_X9_trainOn (k_X9_trainOnS ht3 hSt hY c1 c2) rfl (by first | decide | exact Nat.le_of_ble_eq_true rfl) ⟨by decide, by decide, by decide, by decide⟩ (fun _ _ h => False.elim h) (fun v M' hp => ?_)
      obtain ⟨rfl, fu, gu, hu3, hSu⟩ := hp
      have fu2 : mF A _ _ [3] := fu
      have su := st.fr hA fu2 (.of rfl) (.of rfl) (.of rfl) (.of rfl)
      have ou := su.1
      have hRu := hSu.rd (sTrn_ok hY c1 c2) (r := rr) (d := ee) c1 c3
      rw [sTrn_c] at hRu
      refine z_aload_n C dX9_guessesAfterTraining_32 rfl ?_
      refine z_aload_n C dX9_guessesAfterTraining_33 rfl ?_
      refine z_get C dX9_guessesAfterTraining_34 fl_X9_16 (by first | assumption | ((repeat (first | assumption | exact va_up_self _ _ _ | refine (va_up_ne _ _ (by first | assumption | exact hA.ne (by decide) | exact hA.ne (by omega))).trans ?_)); done)) rfl ?_
      refine z_iload_n C dX9_guessesAfterTraining_37 rfl ?_
      refine z_iload_n C dX9_guessesAfterTraining_38 rfl ?_
      refine z_callV C dX9_guessesAfterTraining_39 lk_X9_345 mw_X9_guesses mi_X9_guesses ms_X9_guesses rfl su.1 (k_X9_guesses hA su (kq := 3) (.inr (.inr rfl)) hu3 hRu) rfl (by first | decide | exact Nat.le_of_ble_eq_true rfl) ⟨by decide, by decide, by decide, by decide⟩ (fun _ _ h => False.elim h) (fun v M' hp => ?_)
      obtain ⟨rfl, fa, Fa, pa, sa⟩ := hp
      refine z_iret C hQ dX9_guessesAfterTraining_42 rfl (by decide) (by decide) ?_
      exact mAns.t hA hF1 cf2 e2 ((ft.tr (K := [3]) fu2 ⟨rfl, rfl⟩).tr fa ⟨rfl, rfl⟩) pa sa ⟨gu, fa.at hA (.of rfl) hu3, hSu.1⟩ (by rw [q_guessesAfterTraining, mqR_t c1, mqD_t c2, mqD_t c3]; rfl) rfl
    · refine z_iconst C dX9_guessesAfterTraining_17 ?_
      refine z_iret C hQ dX9_guessesAfterTraining_18 rfl (by decide) (by decide) ?_
      exact mAns.no hA hF cf2 ob2 cp2 e2 (z2.t h14) (by rw [q_guessesAfterTraining, mqR_t c1, mqD_t c2]; exact mqD_1 rfl)
set_option maxHeartbeats 4000000 in
set_option maxRecDepth 100000 in
theorem m_trainingsNeeded {l : Launch} {γ : zG} {M : zM} {A : Nat → Nat} {Y : zSys} {t0 : Int} {rr dd ll : Int} (hMo0 : hMo γ M A Y t0) (hY : zOk (yS Y)) (r_rr : zR rr) (r_dd : zR dd) (r_ll : zR ll) :
    zCon l γ yX9_trainingsNeeded cX9_trainingsNeeded 5 (some .int) [.ref (A 0), .int (zi rr), .int (zi dd), .int (zi ll)] M 10 330 0 0 (mAns γ A M Y (q_trainingsNeeded (yS Y) rr dd ll)) (fun _ _ => False) := by
  obtain ⟨hA, F, h8, hF⟩ := hMo0
  obtain ⟨hsc, hec, hun, hsl, hinp, hou, ⟨g, hM, hS⟩, hrs⟩ := id hF
  have hO := hsc.1
  have hg := hS.1
  have o1 := hY.1
  have z_rr := r_rr
  unfold zR at z_rr
  have z_dd := r_dd
  unfold zR at z_dd
  have z_ll := r_ll
  unfold zR at z_ll
  refine zEnter [some (.ref (A 0)), some (.int (zi rr)), some (.int (zi dd)), some (.int (zi ll)), none] (by decide +kernel) rfl rfl (Nat.le_of_ble_eq_true rfl) ?_
  intro p e s m args below meth c Q C hin hQ
  have loop : ∀ (c1 : 0 ≤ rr ∧ rr < sRn (yS Y)) (c2 : 0 ≤ dd ∧ dd < sDn (yS Y)) (c3 : 1 ≤ ll ∧ ll ≤ 1080) (t : Nat) (M1 : zM) (F1 g3 : Nat → Int) (n0 : Int) (S3 : zSt), n0 + t = 21 → 0 ≤ n0 → M1 (A 3) = some (zar γ 5987 g3) → mSt g3 S3 → zOk S3 → (0 ≤ rr ∧ rr < sRn S3) → (0 ≤ dd ∧ dd < sDn S3) → sDc S3 dd.toNat = sDc (yS Y) dd.toNat → ztn (sDc (yS Y) dd.toNat) ll t (rC (sRd S3 rr.toNat)) = ztn (sDc (yS Y) dd.toNat) ll 21 (rC (sRd (yS Y) rr.toNat)) → hMf γ M1 A F1 Y → F1 8 = 0 → mAll A M M1 → zAW p l e { frames := 10, cells := 0, slots := 0, locals := 330 } s m args below meth c γ 5 Q M1 0 0 30 [some (.ref (A 0)), some (.int (zi rr)), some (.int (zi dd)), some (.int (zi ll)), some (.int (zi n0))] [] := by
    intro c1 c2 c3 t
    have hX := hY.2.1 dd.toNat (by omega)
    induction t with
    | zero =>
      intro M1 F1 g3 n0 S3 ht hn h3 hS3 hO3 d1 d2 hdc hz hF1 e8 hal
      have hz : -1 = ztn (sDc (yS Y) dd.toNat) ll 21 (rC (sRd (yS Y) rr.toNat)) := hz
      refine z_iload C dX9_trainingsNeeded_30 rfl ?_
      refine z_bipush C dX9_trainingsNeeded_32 (by decide) ?_
      refine z_icmp_gtZ (tgt := 69) C dX9_trainingsNeeded_34 (by decide) (by omega) (by omega) (fun h34 => ?_) (fun h34 => ?_)
      · refine z_iconst C dX9_trainingsNeeded_69 ?_
        refine z_iret C hQ dX9_trainingsNeeded_70 rfl (by decide) (by decide) ?_
        exact mAns.ok hA hF1 hal e8 (by rw [q_trainingsNeeded, mqR_t c1, mqD_t c2, mq2_t c3]) (by rw [hz])
      · exact absurd h34 (by omega)
    | succ t ih =>
      intro M1 F1 g3 n0 S3 ht hn h3 hS3 hO3 d1 d2 hdc hz hF1 e8 hal
      have hO1 := hF1.1.1
      have hR3 := hS3.rd hO3 d1 d2
      rw [hdc] at hR3
      have gr := zgf_rng (c := rC (sRd S3 rr.toNat)) hX
      have hz : (if zgf (rC (sRd S3 rr.toNat)) (sDc (yS Y) dd.toNat) ≤ ll then 20 - (t : Int) else ztn (sDc (yS Y) dd.toNat) ll t (zdoc (rC (sRd S3 rr.toNat)) (sDc (yS Y) dd.toNat))) = ztn (sDc (yS Y) dd.toNat) ll 21 (rC (sRd (yS Y) rr.toNat)) := hz
      refine z_iload C dX9_trainingsNeeded_30 rfl ?_
      refine z_bipush C dX9_trainingsNeeded_32 (by decide) ?_
      refine z_icmp_gtZ (tgt := 69) C dX9_trainingsNeeded_34 (by decide) (by omega) (by omega) (fun h34 => ?_) (fun h34 => ?_)
      · exact absurd h34 (by omega)
      · refine z_aload_n C dX9_trainingsNeeded_37 rfl ?_
        refine z_aload_n C dX9_trainingsNeeded_38 rfl ?_
        refine z_get C dX9_trainingsNeeded_39 fl_X9_16 (by first | assumption | ((repeat (first | assumption | exact va_up_self _ _ _ | refine (va_up_ne _ _ (by first | assumption | exact hA.ne (by decide) | exact hA.ne (by omega))).trans ?_)); done)) rfl ?_
        refine z_iload_n C dX9_trainingsNeeded_42 rfl ?_
        refine z_iload_n C dX9_trainingsNeeded_43 rfl ?_
        refine z_callV C dX9_trainingsNeeded_44 lk_X9_345 mw_X9_guesses mi_X9_guesses ms_X9_guesses rfl hF1.1.1 (k_X9_guesses hA hF1.1 (kq := 3) (.inr (.inr rfl)) h3 hR3) rfl (by first | decide | exact Nat.le_of_ble_eq_true rfl) ⟨by decide, by decide, by decide, by decide⟩ (fun _ _ h => False.elim h) (fun v M' hp => ?_)
        obtain ⟨rfl, fa, Fa, pa, sa⟩ := hp
        have oa := sa.1
        have ha3 := fa.at hA (.of rfl) h3
        have hFa := hF1.q1 hA fa rfl pa rfl sa
        refine z_iload_n C dX9_trainingsNeeded_47 rfl ?_
        refine z_icmp_gtZ (tgt := 54) C dX9_trainingsNeeded_48 (by decide) (by omega) (by omega) (fun h48 => ?_) (fun h48 => ?_)
        · refine z_aload_n C dX9_trainingsNeeded_54 rfl ?_
          refine z_get C dX9_trainingsNeeded_55 fl_X9_16 (by first | assumption | ((repeat (first | assumption | exact va_up_self _ _ _ | refine (va_up_ne _ _ (by first | assumption | exact hA.ne (by decide) | exact hA.ne (by omega))).trans ?_)); done)) rfl ?_
          refine z_iload_n C dX9_trainingsNeeded_58 rfl ?_
          refine z_iload_n C dX9_trainingsNeeded_59 rfl ?_
          refine z_callS C dX9_trainingsNeeded_60 lk_X9_262 mw_X9_trainOn mst_X9_trainOn (k_X9_trainOnS ha3 hS3 hO3 d1 d2) rfl (by first | decide | exact Nat.le_of_ble_eq_true rfl) ⟨by decide, by decide, by decide, by decide⟩ (fun _ _ h => False.elim h) (fun v M' hp => ?_)
          obtain ⟨rfl, fu, gu, hu3, hSu⟩ := hp
          have fu2 : mF A _ _ [3] := fu
          have hFu := hFa.t hA (fu2.mo rfl) mKp.rf (hFa.1.fr hA fu2 (.of rfl) (.of rfl) (.of rfl) (.of rfl)) ⟨gu, hu3, hSu.1⟩
          refine z_iincZ C dX9_trainingsNeeded_63 rfl (by decide) ?_
          refine z_goto (tgt := 30) C dX9_trainingsNeeded_66 (by decide) ?_
          rw [if_neg (by omega)] at hz
          refine ih _ Fa gu (n0 + 1) _ (by omega) (by omega) hu3 hSu (sTrn_ok hO3 d1 d2) d1 d2 hdc ?_ hFu ((pa 8 (by decide)).trans e8) ((hal.tr (K := List.range 15) fa ⟨rfl, rfl⟩).tr fu2 ⟨rfl, rfl⟩)
          rw [sTrn_c, hdc]
          exact hz
        · refine z_iload C dX9_trainingsNeeded_51 rfl ?_
          refine z_iret C hQ dX9_trainingsNeeded_53 rfl (by decide) (by decide) ?_
          rw [if_pos (by omega)] at hz
          exact mAns.ok hA hFa (hal.tr fa ⟨rfl, rfl⟩) ((pa 8 (by decide)).trans e8) (by rw [q_trainingsNeeded, mqR_t c1, mqD_t c2, mq2_t c3]) (by rw [← hz]; congr 1; omega)
  refine z_aload_n C dX9_trainingsNeeded_0 rfl ?_
  refine z_iload_n C dX9_trainingsNeeded_1 rfl ?_
  refine z_iload_n C dX9_trainingsNeeded_2 rfl ?_
  refine z_callV C dX9_trainingsNeeded_3 lk_X9_328 mw_X9_noBoth mi_X9_noBoth ms_X9_noBoth rfl (by first | assumption | ((repeat (first | assumption | exact va_up_self _ _ _ | refine (va_up_ne _ _ (by first | assumption | exact hA.ne (by decide) | exact hA.ne (by omega))).trans ?_)); done)) (k_X9_noBoth hA hO hM hS hY r_rr r_dd) rfl (by first | decide | exact Nat.le_of_ble_eq_true rfl) ⟨by decide, by decide, by decide, by decide⟩ (fun _ _ h => False.elim h) (fun v M' hp => ?_)
  obtain ⟨r1, F1, rfl, f1, ob1, p1, e1, z1⟩ := hp
  have s1 := z1.rng
  have cf1 := f1
  have cp1 := p1
  have hM1 := cf1.at hA (.of rfl) hM
  refine z_if_neZ (tgt := 21) C dX9_trainingsNeeded_6 (by decide) (by omega) (fun h6 => ?_) (fun h6 => ?_)
  · refine z_iconst C dX9_trainingsNeeded_21 ?_
    refine z_iret C hQ dX9_trainingsNeeded_22 rfl (by decide) (by decide) ?_
    exact mAns.no hA hF cf1 ob1 cp1 e1 (z1.t h6) (mB_2 (z1.t h6))
  · have t1 := Decidable.not_not.mp (z1.f h6)
    rw [t1] at e1
    obtain ⟨c1, c0⟩ := mqR_0 t1
    obtain ⟨c2, -⟩ := mqD_0 c0
    refine z_aload_n C dX9_trainingsNeeded_9 rfl ?_
    refine z_iload_n C dX9_trainingsNeeded_10 rfl ?_
    refine z_iconst C dX9_trainingsNeeded_11 ?_
    refine z_sipush C dX9_trainingsNeeded_12 (by decide) ?_
    refine z_callV C dX9_trainingsNeeded_15 lk_X9_301 mw_X9_out mi_X9_out ms_X9_out rfl (by first | assumption | ((repeat (first | assumption | exact va_up_self _ _ _ | refine (va_up_ne _ _ (by first | assumption | exact hA.ne (by decide) | exact hA.ne (by omega))).trans ?_)); done)) (k_X9_out hA ob1 e1 (x := ll) (a := 1) (b := 1080) r_ll (by unfold zR; omega) (by unfold zR; omega)) rfl (by first | decide | exact Nat.le_of_ble_eq_true rfl) ⟨by decide, by decide, by decide, by decide⟩ (fun _ _ h => False.elim h) (fun v M' hp => ?_)
    obtain ⟨r2, F2, rfl, f2, ob2, p2, e2, z2⟩ := hp
    have s2 := z2.rng
    have cf2 := cf1.tr (K := [0]) f2 ⟨rfl, rfl⟩
    have cp2 := cp1.tr (K := [8]) p2 ⟨rfl, rfl⟩
    have hM2 := cf2.at hA (.of rfl) hM
    refine z_if_eqZ (tgt := 23) C dX9_trainingsNeeded_18 (by decide) (by omega) (fun h18 => ?_) (fun h18 => ?_)
    · have t2 := Decidable.not_not.mp (z2.f h18)
      rw [t2] at e2
      have t3 := mOut t2
      have hF1 := hF.q0 hA cf2 ob2 cp2 rfl
      have hs1 := hF1.1
      obtain ⟨g3, h3, hg3⟩ := hF1.2.2.2.2.2.2.2.2.1
      refine z_aload_n C dX9_trainingsNeeded_23 rfl ?_
      refine z_callV C dX9_trainingsNeeded_24 lk_X9_348 mw_X9_tries mi_X9_tries ms_X9_tries rfl (by first | assumption | ((repeat (first | assumption | exact va_up_self _ _ _ | refine (va_up_ne _ _ (by first | assumption | exact hA.ne (by decide) | exact hA.ne (by omega))).trans ?_)); done)) (k_X9_tries hA ob2 hM2 hS hY h3 hg3) rfl (by first | decide | exact Nat.le_of_ble_eq_true rfl) ⟨by decide, by decide, by decide, by decide⟩ (fun _ _ h => False.elim h) (fun v M' hp => ?_)
      obtain ⟨rfl, ft, gt, ht3, hSt⟩ := hp
      have st := hs1.fr hA ft (.of rfl) (.of rfl) (.of rfl) (.of rfl)
      have ot := st.1
      refine z_iconst C dX9_trainingsNeeded_27 ?_
      refine z_istore C dX9_trainingsNeeded_28 (by decide) ?_
      exact loop c1 c2 t3 21 _ F2 gt 0 (yS Y) (by omega) (by omega) ht3 hSt hY c1 c2 rfl rfl (hF1.t hA (ft.mo rfl) mKp.rf st ⟨gt, ht3, hSt.1⟩) e2 ((cf2.tr (K := [0, 3]) ft ⟨rfl, rfl⟩).mo rfl)
    · refine z_iconst C dX9_trainingsNeeded_21 ?_
      refine z_iret C hQ dX9_trainingsNeeded_22 rfl (by decide) (by decide) ?_
      exact mAns.no hA hF cf2 ob2 cp2 e2 (z2.t h18) (by rw [q_trainingsNeeded, mqR_t c1, mqD_t c2]; exact mOut_q Iff.rfl)
set_option maxHeartbeats 4000000 in
set_option maxRecDepth 100000 in
theorem m_agreements {l : Launch} {γ : zG} {M : zM} {A : Nat → Nat} {Y : zSys} {t0 : Int} {rr oo : Int} (hMo0 : hMo γ M A Y t0) (hY : zOk (yS Y)) (r_rr : zR rr) (r_oo : zR oo) :
    zCon l γ yX9_agreements cX9_agreements 5 (some .int) [.ref (A 0), .int (zi rr), .int (zi oo)] M 10 330 0 0 (mAns γ A M Y (q_agreements (yS Y) rr oo)) (fun _ _ => False) := by
  obtain ⟨hA, F, h8, hF⟩ := hMo0
  obtain ⟨hsc, hec, hun, hsl, hinp, hou, ⟨g, hM, hS⟩, hrs⟩ := id hF
  have hO := hsc.1
  have hg := hS.1
  have o1 := hY.1
  have z_rr := r_rr
  unfold zR at z_rr
  have z_oo := r_oo
  unfold zR at z_oo
  refine zEnter [some (.ref (A 0)), some (.int (zi rr)), some (.int (zi oo)), none, none] (by decide +kernel) rfl rfl (Nat.le_of_ble_eq_true rfl) ?_
  intro p e s m args below meth c Q C hin hQ
  have loop : ∀ (c1 : 0 ≤ rr ∧ rr < sRn (yS Y)) (c2 : 0 ≤ oo ∧ oo < sRn (yS Y)) (c3 : rr ≠ oo) (t : Nat) (M1 : zM) (F1 ep : Nat → Int) (i : Int), 729 - i = t → 0 ≤ i ∧ i ≤ 729 → M1 (A 12) = some (zaz γ 729 ep) → (∀ s : Int, 0 ≤ s → s < 729 → (ep s.toNat = 0 ∨ ep s.toNat = 1) ∧ (ep s.toNat = 1 ↔ zgp (rC (sRd (yS Y) rr.toNat)) s = 1 ∨ zgp (rC (sRd (yS Y) oo.toNat)) s = 1)) → M1 (A 1) = some (zar γ 5987 g) → hMf γ M1 A F1 Y → F1 8 = 0 → mAll A M M1 → zAW p l e { frames := 10, cells := 0, slots := 0, locals := 330 } s m args below meth c γ 5 Q M1 0 0 55 [some (.ref (A 0)), some (.int (zi rr)), some (.int (zi oo)), some (.int (zi (zagn (rC (sRd (yS Y) rr.toNat)) (rC (sRd (yS Y) oo.toNat)) i.toNat))), some (.int (zi i))] [] := by
    intro c1 c2 c3 t
    have hSr := hS.r c1
    have hSo := hS.r c2
    have hcr := (hY.2.2 rr.toNat (by omega)).1.2.2.1
    have hco := (hY.2.2 oo.toNat (by omega)).1.2.2.1
    induction t with
    | zero =>
      intro M1 F1 ep i ht hi hE hz hM1 hF1 e8 hal
      obtain rfl : i = 729 := by omega
      refine z_iload C dX9_agreements_55 rfl ?_
      refine z_sipush C dX9_agreements_57 (by decide) ?_
      refine z_icmp_geZ (tgt := 120) C dX9_agreements_60 (by decide) (by omega) (by omega) (fun h60 => ?_) (fun h60 => ?_)
      · refine z_iload_n C dX9_agreements_120 rfl ?_
        refine z_iret C hQ dX9_agreements_121 rfl (by decide) (by decide) ?_
        exact mAns.ok hA hF1 hal e8 (by rw [q_agreements, mqR_t c1, mqR_t c2, mq2_t c3]; rfl) rfl
      · exact absurd h60 (by omega)
    | succ t ih =>
      intro M1 F1 ep i ht hi hE hz hM1 hF1 e8 hal
      have hO1 := hF1.1.1
      obtain ⟨z1, z2⟩ := hz i hi.1 (by omega)
      rw [zgp_lt, zgp_lt] at z2
      have qq := fun M2 F2 => ih M2 F2 ep (i + 1) (by omega) (by omega)
      rw [show (i + 1).toNat = i.toNat + 1 by omega, zagn, show ((i.toNat : Nat) : Int) = i by omega] at qq
      refine z_iload C dX9_agreements_55 rfl ?_
      refine z_sipush C dX9_agreements_57 (by decide) ?_
      refine z_icmp_geZ (tgt := 120) C dX9_agreements_60 (by decide) (by omega) (by omega) (fun h60 => ?_) (fun h60 => ?_)
      · exact absurd h60 (by omega)
      · refine z_iload_n C dX9_agreements_63 rfl ?_
        refine z_aload_n C dX9_agreements_64 rfl ?_
        refine z_get C dX9_agreements_65 fl_X9_49 (by first | assumption | ((repeat (first | assumption | exact va_up_self _ _ _ | refine (va_up_ne _ _ (by first | assumption | exact hA.ne (by decide) | exact hA.ne (by omega))).trans ?_)); done)) rfl ?_
        refine z_iload C dX9_agreements_68 rfl ?_
        refine z_aldZi C dX9_agreements_70 hE (by omega) (by omega) ?_
        refine z_if_eqZ (tgt := 111) C dX9_agreements_71 (by decide) (by omega) (fun h71 => ?_) (fun h71 => ?_)
        · refine z_iconst C dX9_agreements_111 ?_
          refine z_iaddZ C dX9_agreements_112 ?_
          refine z_istore_n C dX9_agreements_113 (by decide) ?_
          refine z_iincZ C dX9_agreements_114 rfl (by decide) ?_
          refine z_goto (tgt := 55) C dX9_agreements_117 (by decide) ?_
          rw [if_neg (fun w => by have := z2.mpr w.1; omega)] at qq
          exact qq M1 F1 hE hz hM1 hF1 e8 hal
        · refine z_aload_n C dX9_agreements_74 rfl ?_
          refine z_iload_n C dX9_agreements_75 rfl ?_
          refine z_iload C dX9_agreements_76 rfl ?_
          refine z_bipush C dX9_agreements_78 (by decide) ?_
          refine z_idivZ C dX9_agreements_80 (by omega) (by omega) ?_
          refine z_iload C dX9_agreements_81 rfl ?_
          refine z_bipush C dX9_agreements_83 (by decide) ?_
          refine z_iremZ C dX9_agreements_85 (by omega) (by omega) ?_
          refine z_callV C dX9_agreements_86 lk_X9_357 mw_X9_firstIn mi_X9_firstIn ms_X9_firstIn rfl hF1.1.1 (k_X9_firstIn hA hF1.1 hM1 hg (r := rr) (by omega) (b0 := i / 27) (p0 := i % 27) (by omega) (by omega) (by omega) hSr.2.2.2.2 (fun x hx => sG_rng hx) hcr) rfl (by first | decide | exact Nat.le_of_ble_eq_true rfl) ⟨by decide, by decide, by decide, by decide⟩ (fun _ _ h => False.elim h) (fun v M' hp => ?_)
          obtain ⟨rfl, ga, fa, Fa, pa, sa⟩ := hp
          have oa := sa.1
          have ha1 := fa.at hA (.of rfl) hM1
          have ha12 := fa.at hA (.of rfl) hE
          have hFa := hF1.q1 hA fa rfl pa rfl sa
          refine z_aload_n C dX9_agreements_89 rfl ?_
          refine z_iload_n C dX9_agreements_90 rfl ?_
          refine z_iload C dX9_agreements_91 rfl ?_
          refine z_bipush C dX9_agreements_93 (by decide) ?_
          refine z_idivZ C dX9_agreements_95 (by omega) (by omega) ?_
          refine z_iload C dX9_agreements_96 rfl ?_
          refine z_bipush C dX9_agreements_98 (by decide) ?_
          refine z_iremZ C dX9_agreements_100 (by omega) (by omega) ?_
          refine z_callV C dX9_agreements_101 lk_X9_357 mw_X9_firstIn mi_X9_firstIn ms_X9_firstIn rfl hFa.1.1 (k_X9_firstIn hA hFa.1 ha1 hg (r := oo) (by omega) (b0 := i / 27) (p0 := i % 27) (by omega) (by omega) (by omega) hSo.2.2.2.2 (fun x hx => sG_rng hx) hco) rfl (by first | decide | exact Nat.le_of_ble_eq_true rfl) ⟨by decide, by decide, by decide, by decide⟩ (fun _ _ h => False.elim h) (fun v M' hp => ?_)
          obtain ⟨rfl, gb, fb, Fb, pb, sb⟩ := hp
          have ob := sb.1
          have hb1 := fb.at hA (.of rfl) ha1
          have hb12 := fb.at hA (.of rfl) ha12
          have hFb := hFa.q1 hA fb rfl pb rfl sb
          refine z_icmp_neZ (tgt := 111) C dX9_agreements_104 (by decide) (by omega) (by omega) (fun h104 => ?_) (fun h104 => ?_)
          · refine z_iconst C dX9_agreements_111 ?_
            refine z_iaddZ C dX9_agreements_112 ?_
            refine z_istore_n C dX9_agreements_113 (by decide) ?_
            refine z_iincZ C dX9_agreements_114 rfl (by decide) ?_
            refine z_goto (tgt := 55) C dX9_agreements_117 (by decide) ?_
            rw [if_neg (fun w => h104 w.2)] at qq
            exact qq _ Fb hb12 hz hb1 hFb ((pb 8 (by decide)).trans ((pa 8 (by decide)).trans e8)) ((hal.tr (K := List.range 15) fa ⟨rfl, rfl⟩).tr fb ⟨rfl, rfl⟩)
          · refine z_iconst C dX9_agreements_107 ?_
            refine z_goto (tgt := 112) C dX9_agreements_108 (by decide) ?_
            refine z_iaddZ C dX9_agreements_112 ?_
            refine z_istore_n C dX9_agreements_113 (by decide) ?_
            refine z_iincZ C dX9_agreements_114 rfl (by decide) ?_
            refine z_goto (tgt := 55) C dX9_agreements_117 (by decide) ?_
            rw [if_pos ⟨z2.mp (by omega), h104⟩] at qq
            exact qq _ Fb hb12 hz hb1 hFb ((pb 8 (by decide)).trans ((pa 8 (by decide)).trans e8)) ((hal.tr (K := List.range 15) fa ⟨rfl, rfl⟩).tr fb ⟨rfl, rfl⟩)
  refine z_aload_n C dX9_agreements_0 rfl ?_
  refine z_iload_n C dX9_agreements_1 rfl ?_
  refine z_callV C dX9_agreements_2 lk_X9_295 mw_X9_noReader mi_X9_noReader ms_X9_noReader rfl (by first | assumption | ((repeat (first | assumption | exact va_up_self _ _ _ | refine (va_up_ne _ _ (by first | assumption | exact hA.ne (by decide) | exact hA.ne (by omega))).trans ?_)); done)) (k_X9_noReader hA hO hM hS hY r_rr) rfl (by first | decide | exact Nat.le_of_ble_eq_true rfl) ⟨by decide, by decide, by decide, by decide⟩ (fun _ _ h => False.elim h) (fun v M' hp => ?_)
  obtain ⟨r1, F1, rfl, f1, ob1, p1, e1, z1⟩ := hp
  have s1 := z1.rng
  have cf1 := f1
  have cp1 := p1
  have hM1 := cf1.at hA (.of rfl) hM
  refine z_if_neZ (tgt := 34) C dX9_agreements_5 (by decide) (by omega) (fun h5 => ?_) (fun h5 => ?_)
  · refine z_iconst C dX9_agreements_34 ?_
    refine z_iret C hQ dX9_agreements_35 rfl (by decide) (by decide) ?_
    exact mAns.no hA hF cf1 ob1 cp1 e1 (z1.t h5) (by rw [q_agreements, mqR_f (fun w => z1.t h5 (by rw [mqR_t w])), mqR_f (fun w => z1.t h5 (by rw [mqR_t w]))])
  · have t1 := Decidable.not_not.mp (z1.f h5)
    rw [t1] at e1
    obtain ⟨c1, -⟩ := mqR_0 t1
    refine z_aload_n C dX9_agreements_8 rfl ?_
    refine z_iload_n C dX9_agreements_9 rfl ?_
    refine z_callV C dX9_agreements_10 lk_X9_295 mw_X9_noReader mi_X9_noReader ms_X9_noReader rfl (by first | assumption | ((repeat (first | assumption | exact va_up_self _ _ _ | refine (va_up_ne _ _ (by first | assumption | exact hA.ne (by decide) | exact hA.ne (by omega))).trans ?_)); done)) (k_X9_noReader hA ob1 hM1 hS hY r_oo) rfl (by first | decide | exact Nat.le_of_ble_eq_true rfl) ⟨by decide, by decide, by decide, by decide⟩ (fun _ _ h => False.elim h) (fun v M' hp => ?_)
    obtain ⟨r2, F2, rfl, f2, ob2, p2, e2, z2⟩ := hp
    have s2 := z2.rng
    have cf2 := cf1.tr (K := [0]) f2 ⟨rfl, rfl⟩
    have cp2 := cp1.tr (K := [8]) p2 ⟨rfl, rfl⟩
    have hM2 := cf2.at hA (.of rfl) hM
    refine z_if_neZ (tgt := 34) C dX9_agreements_13 (by decide) (by omega) (fun h13 => ?_) (fun h13 => ?_)
    · refine z_iconst C dX9_agreements_34 ?_
      refine z_iret C hQ dX9_agreements_35 rfl (by decide) (by decide) ?_
      exact mAns.no hA hF cf2 ob2 cp2 e2 (z2.t h13) (by rw [q_agreements, mqR_t c1, mqR_f (fun w => z2.t h13 (by rw [mqR_t w])), mqR_f (fun w => z2.t h13 (by rw [mqR_t w]))])
    · have t2 := Decidable.not_not.mp (z2.f h13)
      rw [t2] at e2
      obtain ⟨c2, -⟩ := mqR_0 t2
      refine z_aload_n C dX9_agreements_16 rfl ?_
      refine z_iload_n C dX9_agreements_17 rfl ?_
      refine z_iload_n C dX9_agreements_18 rfl ?_
      refine z_icmp_neZ (tgt := 26) C dX9_agreements_19 (by decide) (by omega) (by omega) (fun h19 => ?_) (fun h19 => ?_)
      · refine z_iconst C dX9_agreements_26 ?_
        refine z_iconst C dX9_agreements_27 ?_
        refine z_callV C dX9_agreements_28 lk_X9_189 mw_X9_refuses mi_X9_refuses ms_X9_refuses rfl (by first | assumption | ((repeat (first | assumption | exact va_up_self _ _ _ | refine (va_up_ne _ _ (by first | assumption | exact hA.ne (by decide) | exact hA.ne (by omega))).trans ?_)); done)) (k_X9_refuses hA ob2 (r := 0) (w := 2) (by omega) (by omega) (by omega)) rfl (by first | decide | exact Nat.le_of_ble_eq_true rfl) ⟨by decide, by decide, by decide, by decide⟩ (fun _ _ h => False.elim h) (fun v M' hp => ?_)
        obtain ⟨r3, F3, rfl, f3, ob3, p3, e3, z3⟩ := hp
        have s3 := z3.rng
        have cf3 := cf2.tr (K := [0]) f3 ⟨rfl, rfl⟩
        have cp3 := cp2.tr (K := [8]) p3 ⟨rfl, rfl⟩
        have hM3 := cf3.at hA (.of rfl) hM
        refine z_if_eqZ (tgt := 36) C dX9_agreements_31 (by decide) (by omega) (fun h31 => ?_) (fun h31 => ?_)
        · rw [if_neg (by omega), e2] at e3
          have hF1 := hF.q0 hA cf3 ob3 cp3 rfl
          have hSr := hS.r c1
          have hSo := hS.r c2
          obtain ⟨e12, h12⟩ := hF1.2.2.2.2.2.2.2.2.2.2.1
          refine z_aload_n C dX9_agreements_36 rfl ?_
          refine z_callV C dX9_agreements_37 lk_X9_319 mw_X9_clearPairs mi_X9_clearPairs ms_X9_clearPairs rfl (by first | assumption | ((repeat (first | assumption | exact va_up_self _ _ _ | refine (va_up_ne _ _ (by first | assumption | exact hA.ne (by decide) | exact hA.ne (by omega))).trans ?_)); done)) (k_X9_clearPairs hA ob3 h12) rfl (by first | decide | exact Nat.le_of_ble_eq_true rfl) ⟨by decide, by decide, by decide, by decide⟩ (fun _ _ h => False.elim h) (fun v M' hp => ?_)
          obtain ⟨rfl, fc, ecc, hc12, hcz⟩ := hp
          have oc := fc.at hA (.of rfl) ob3
          have mc1 := fc.at hA (.of rfl) hM3
          refine z_aload_n C dX9_agreements_40 rfl ?_
          refine z_iload_n C dX9_agreements_41 rfl ?_
          refine z_callV C dX9_agreements_42 lk_X9_322 mw_X9_markPairs mi_X9_markPairs ms_X9_markPairs rfl (by first | assumption | ((repeat (first | assumption | exact va_up_self _ _ _ | refine (va_up_ne _ _ (by first | assumption | exact hA.ne (by decide) | exact hA.ne (by omega))).trans ?_)); done)) (k_X9_markPairs hA oc mc1 hg (r := rr) (by omega) hSr.2.2.2.2 (fun x hx => sG_rng hx) hc12 (fun s s1 s2 => .inl (hcz s s1 s2))) rfl (by first | decide | exact Nat.le_of_ble_eq_true rfl) ⟨by decide, by decide, by decide, by decide⟩ (fun _ _ h => False.elim h) (fun v M' hp => ?_)
          obtain ⟨rfl, fm, em, hm12, hmz⟩ := hp
          have om := fm.at hA (.of rfl) oc
          have mm1 := fm.at hA (.of rfl) mc1
          refine z_aload_n C dX9_agreements_45 rfl ?_
          refine z_iload_n C dX9_agreements_46 rfl ?_
          refine z_callV C dX9_agreements_47 lk_X9_322 mw_X9_markPairs mi_X9_markPairs ms_X9_markPairs rfl (by first | assumption | ((repeat (first | assumption | exact va_up_self _ _ _ | refine (va_up_ne _ _ (by first | assumption | exact hA.ne (by decide) | exact hA.ne (by omega))).trans ?_)); done)) (k_X9_markPairs hA om mm1 hg (r := oo) (by omega) hSo.2.2.2.2 (fun x hx => sG_rng hx) hm12 (fun s s1 s2 => (hmz s s1 s2).1)) rfl (by first | decide | exact Nat.le_of_ble_eq_true rfl) ⟨by decide, by decide, by decide, by decide⟩ (fun _ _ h => False.elim h) (fun v M' hp => ?_)
          obtain ⟨rfl, fn, en, hn12, hnz⟩ := hp
          have mn1 := fn.at hA (.of rfl) mm1
          refine z_iconst C dX9_agreements_50 ?_
          refine z_istore_n C dX9_agreements_51 (by decide) ?_
          refine z_iconst C dX9_agreements_52 ?_
          refine z_istore C dX9_agreements_53 (by decide) ?_
          refine loop c1 c2 (by omega) 729 _ F3 en 0 (by omega) (by omega) hn12 (fun s s1 s2 => ⟨(hnz s s1 s2).1, (hnz s s1 s2).2.trans ?_⟩) mn1 (((hF1.p hA fc ⟨_, hc12⟩).p hA fm ⟨_, hm12⟩).p hA fn ⟨_, hn12⟩) e3 ((cf3.tr (K := [0, 12]) ((fc.tr (K := [12]) fm ⟨rfl, rfl⟩).tr (K := [12]) fn ⟨rfl, rfl⟩) ⟨rfl, rfl⟩).mo rfl)
          rw [(hmz s s1 s2).2, hcz s s1 s2]
          exact ⟨fun w => by rcases w with (w | w) | w; omega; exact .inl w; exact .inr w, fun w => by rcases w with w | w; exact .inl (.inr w); exact .inr w⟩
        · exact absurd (by rw [if_neg (by omega), e2]) (z3.t h31)
      · refine z_iconst C dX9_agreements_22 ?_
        refine z_goto (tgt := 27) C dX9_agreements_23 (by decide) ?_
        refine z_iconst C dX9_agreements_27 ?_
        refine z_callV C dX9_agreements_28 lk_X9_189 mw_X9_refuses mi_X9_refuses ms_X9_refuses rfl (by first | assumption | ((repeat (first | assumption | exact va_up_self _ _ _ | refine (va_up_ne _ _ (by first | assumption | exact hA.ne (by decide) | exact hA.ne (by omega))).trans ?_)); done)) (k_X9_refuses hA ob2 (r := 1) (w := 2) (by omega) (by omega) (by omega)) rfl (by first | decide | exact Nat.le_of_ble_eq_true rfl) ⟨by decide, by decide, by decide, by decide⟩ (fun _ _ h => False.elim h) (fun v M' hp => ?_)
        obtain ⟨r3, F3, rfl, f3, ob3, p3, e3, z3⟩ := hp
        have s3 := z3.rng
        have cf3 := cf2.tr (K := [0]) f3 ⟨rfl, rfl⟩
        have cp3 := cp2.tr (K := [8]) p3 ⟨rfl, rfl⟩
        have hM3 := cf3.at hA (.of rfl) hM
        refine z_if_eqZ (tgt := 36) C dX9_agreements_31 (by decide) (by omega) (fun h31 => ?_) (fun h31 => ?_)
        · exact absurd (by rw [if_pos ⟨e2, by decide⟩]; decide) (z3.f h31)
        · refine z_iconst C dX9_agreements_34 ?_
          refine z_iret C hQ dX9_agreements_35 rfl (by decide) (by decide) ?_
          exact mAns.no hA hF cf3 ob3 cp3 e3 (z3.t h31) (by rw [q_agreements, mqR_t c1, mqR_t c2, mq2_f (by omega), if_pos ⟨e2, by decide⟩])

