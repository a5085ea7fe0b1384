/-! the model reads documents -/
theorem mSc.fr {γ : zG} {M M' : zM} {A : Nat → Nat} {F : Nat → Int} (hA : mIA A) (h : mSc γ M A F) {K : List Nat} (f : mF A M M' K) (h0 : mNi 0 K) (h7 : mNi 7 K) (h8 : mNi 8 K) (h9 : mNi 9 K) : mSc γ M' A F := by
  obtain ⟨a, ⟨h, b1, b2⟩, ⟨f1, c1, c2⟩, ⟨g1, d1, d2⟩⟩ := h
  exact ⟨f.at hA h0 a, ⟨h, f.at hA h7 b1, b2⟩, ⟨f1, f.at hA h8 c1, c2⟩, ⟨g1, f.at hA h9 d1, d2⟩⟩
theorem hAt_bp {X : zDoc} (h : zDok X) (i : Int) (hi : i ≤ dLe X) : hAt (dSy X) (dLe X) (i - 2) ≠ -1 → hAt (dSy X) (dLe X) (i - 1) ≠ -1 := fun e => by
  by_cases w : i - 2 < 0
  · exact absurd (hAt_out (by omega)) e
  · rw [hAt_in (by omega)]
    have := h.2 (i - 1).toNat (by omega)
    omega
/-- a row holds a reader's counts and a document -/
def mRD (g : Nat → Int) (r d : Int) (c : Int → Int) (G : List Int) (X : zDoc) : Prop := (∀ j, zR (g j)) ∧ (0 ≤ r ∧ r < 4) ∧ (0 ≤ d ∧ d < 8) ∧ mRp g r c G ∧ (∀ x, x ∈ G → 0 ≤ x ∧ x < 20439) ∧ zcR c ∧ zDok X ∧ mDc g d X
theorem mSt.rd {g : Nat → Int} {S : zSt} (h : mSt g S) (hO : zOk S) {r d : Int} (hr : 0 ≤ r ∧ r < sRn S) (hd : 0 ≤ d ∧ d < sDn S) : mRD g r d (rC (sRd S r.toNat)) (sG S) (sDc S d.toNat) := by
  have o1 := hO.1
  have k1 := h.2.2.2.2.1 d.toNat (by omega)
  have k2 := h.2.2.2.2.2 r.toNat (by omega)
  rw [show ((d.toNat : Nat) : Int) = d by omega] at k1
  rw [show ((r.toNat : Nat) : Int) = r by omega] at k2
  exact ⟨h.1, by omega, by omega, k2.2.2.2.2, fun x hx => sG_rng hx, (hO.2.2 r.toNat (by omega)).1.2.2.1, hO.2.1 d.toNat (by omega), k1.1⟩
set_option maxHeartbeats 4000000 in
set_option maxRecDepth 100000 in
theorem k_X9_rankIn {l : Launch} {γ : zG} {M : zM} {A : Nat → Nat} {F : Nat → Int} {kq : Nat} {g : Nat → Int} {r d i : Int} {c0 : Int → Int} {G : List Int} {X : zDoc} (hA : mIA A) (hO : mSc γ M A F) (hk : mRw kq) (hM : M (A kq) = some (zar γ 5987 g)) (hR : mRD g r d c0 G X) (hi : 0 ≤ i ∧ i < dLe X) :
    zCon l γ yX9_rankIn cX9_rankIn 5 (some .int) [.ref (A 0), .ref (A kq), .int (zi r), .int (zi d), .int (zi i)] M 4 96 0 0 (fun v' M' => v' = some (.int (zi (zrp c0 (dSy X) (dLe X) i))) ∧ mF A M M' [0, 7, 8, 9] ∧ ∃ F', mKp [10, 13] F F' ∧ mSc γ M' A F') (fun _ _ => False) := by
  obtain ⟨hg, hr, hd, hL, hG, hc, hX, hD⟩ := hR
  have hl := hX.1
  have y0 := hD.sy (i := i) (by omega)
  have y1 := hD.sy (i := i - 1) (by omega)
  have y2 := hD.sy (i := i - 2) (by omega)
  have ri := hAt_sy hX hi
  refine zEnter [some (.ref (A 0)), some (.ref (A kq)), some (.int (zi r)), some (.int (zi d)), some (.int (zi i))] (by decide +kernel) rfl rfl (Nat.le_of_ble_eq_true rfl) ?_
  intro p e s m args below meth c Q C hin hQ
  refine z_aload_n C dX9_rankIn_0 rfl ?_
  refine z_aload_n C dX9_rankIn_1 rfl ?_
  refine z_iload_n C dX9_rankIn_2 rfl ?_
  refine z_aload_n C dX9_rankIn_3 rfl ?_
  refine z_iload_n C dX9_rankIn_4 rfl ?_
  refine z_iload C dX9_rankIn_5 rfl ?_
  refine z_iconst C dX9_rankIn_7 ?_
  refine z_isubZ C dX9_rankIn_8 ?_
  refine z_callS C dX9_rankIn_9 lk_X9_103 mw_X9_symbolOf mst_X9_symbolOf (k_X9_symbolOf hM hg hd (i := i - 2) (by omega)) rfl (by first | decide | exact Nat.le_of_ble_eq_true rfl) ⟨by decide, by decide, by decide, by decide⟩ (fun _ _ h => False.elim h) (fun v M' hp => ?_)
  obtain ⟨rfl, rfl⟩ := hp
  rw [y2]
  refine z_aload_n C dX9_rankIn_12 rfl ?_
  refine z_iload_n C dX9_rankIn_13 rfl ?_
  refine z_iload C dX9_rankIn_14 rfl ?_
  refine z_iconst C dX9_rankIn_16 ?_
  refine z_isubZ C dX9_rankIn_17 ?_
  refine z_callS C dX9_rankIn_18 lk_X9_103 mw_X9_symbolOf mst_X9_symbolOf (k_X9_symbolOf hM hg hd (i := i - 1) (by omega)) rfl (by first | decide | exact Nat.le_of_ble_eq_true rfl) ⟨by decide, by decide, by decide, by decide⟩ (fun _ _ h => False.elim h) (fun v M' hp => ?_)
  obtain ⟨rfl, rfl⟩ := hp
  rw [y1]
  refine z_callV C dX9_rankIn_21 lk_X9_145 mw_X9_rankAll mi_X9_rankAll ms_X9_rankAll rfl hO.1 (k_X9_rankAll hA hO hk hM hg hr (hAt_dr hX _) (hAt_dr hX _) (hAt_bp hX i (by omega)) hL hG hc) rfl (by first | decide | exact Nat.le_of_ble_eq_true rfl) ⟨by decide, by decide, by decide, by decide⟩ (fun _ _ h => False.elim h) (fun v M' hp => ?_)
  obtain ⟨rfl, f21, F', p21, s21, -, ⟨h, a1, a2, a3⟩⟩ := hp
  have hM2 := f21.at hA (hk.ni rfl) hM
  have hO2 := s21.1
  refine z_aload_n C dX9_rankIn_24 rfl ?_
  refine z_get C dX9_rankIn_25 fl_X9_36 (by first | assumption | ((repeat (first | assumption | exact va_up_self _ _ _ | refine (va_up_ne _ _ (by first | assumption | exact hA.ne (by decide) | exact hA.ne (by omega))).trans ?_)); done)) rfl ?_
  refine z_aload_n C dX9_rankIn_28 rfl ?_
  refine z_iload_n C dX9_rankIn_29 rfl ?_
  refine z_iload C dX9_rankIn_30 rfl ?_
  refine z_callS C dX9_rankIn_32 lk_X9_103 mw_X9_symbolOf mst_X9_symbolOf (k_X9_symbolOf hM2 hg hd (i := i) (by omega)) rfl (by first | decide | exact Nat.le_of_ble_eq_true rfl) ⟨by decide, by decide, by decide, by decide⟩ (fun _ _ h => False.elim h) (fun v M' hp => ?_)
  obtain ⟨rfl, rfl⟩ := hp
  rw [y0]
  refine z_aldN C dX9_rankIn_35 (by first | assumption | ((repeat (first | assumption | exact va_up_self _ _ _ | refine (va_up_ne _ _ (by first | assumption | exact hA.ne (by decide) | exact hA.ne (by omega))).trans ?_)); done)) (by omega) (by omega) a2 (fun hr35 => ?_)
  refine z_iret C hQ dX9_rankIn_36 rfl (by decide) (by decide) ?_
  rw [a3 _ ri.1 ri.2]
  exact ⟨rfl, f21, F', p21, s21⟩
set_option maxHeartbeats 4000000 in
set_option maxRecDepth 100000 in
theorem k_X9_guesses {l : Launch} {γ : zG} {M : zM} {A : Nat → Nat} {F : Nat → Int} {kq : Nat} {g : Nat → Int} {r d : Int} {c0 : Int → Int} {G : List Int} {X : zDoc} (hA : mIA A) (hO : mSc γ M A F) (hk : mRw kq) (hM : M (A kq) = some (zar γ 5987 g)) (hR : mRD g r d c0 G X) :
    zCon l γ yX9_guesses cX9_guesses 6 (some .int) [.ref (A 0), .ref (A kq), .int (zi r), .int (zi d)] M 5 121 0 0 (fun v' M' => v' = some (.int (zi (zgf c0 X))) ∧ mF A M M' [0, 7, 8, 9] ∧ ∃ F', mKp [10, 13] F F' ∧ mSc γ M' A F') (fun _ _ => False) := by
  obtain ⟨hg, hr, hd, hL, hG, hc, hX, hD⟩ := id hR
  have hl := hX.1
  refine zEnter [some (.ref (A 0)), some (.ref (A kq)), some (.int (zi r)), some (.int (zi d)), none, none] (by decide +kernel) rfl rfl (Nat.le_of_ble_eq_true rfl) ?_
  intro p e s m args below meth c Q C hin hQ
  have loop : ∀ (t : Nat) (M1 : zM) (F1 : Nat → Int) (i : Int), dLe X - i = t → 0 ≤ i ∧ i ≤ dLe X → mF A M M1 [0, 7, 8, 9] → mKp [10, 13] F F1 → mSc γ M1 A F1 → zAW p l e { frames := 5, cells := 0, slots := 0, locals := 121 } s m args below meth c γ 6 Q M1 0 0 6 [some (.ref (A 0)), some (.ref (A kq)), some (.int (zi r)), some (.int (zi d)), some (.int (zi (zgfn c0 (dSy X) (dLe X) i.toNat))), some (.int (zi i))] [] := by
    intro t
    induction t with
    | zero =>
      intro M1 F1 i ht hi hf hp1 hs
      obtain rfl : i = dLe X := by omega
      have hM1 := hf.at hA (hk.ni rfl) hM
      refine z_iload C dX9_guesses_6 rfl ?_
      refine z_aload_n C dX9_guesses_8 rfl ?_
      refine z_iload_n C dX9_guesses_9 rfl ?_
      refine z_callS C dX9_guesses_10 lk_X9_114 mw_X9_lengthOf mst_X9_lengthOf (k_X9_lengthOf hM1 hg hd) rfl (by first | decide | exact Nat.le_of_ble_eq_true rfl) ⟨by decide, by decide, by decide, by decide⟩ (fun _ _ h => False.elim h) (fun v M' hp => ?_)
      obtain ⟨rfl, rfl⟩ := hp
      rw [hD.1]
      refine z_icmp_geZ (tgt := 36) C dX9_guesses_13 (by decide) (by omega) (by omega) (fun h13 => ?_) (fun h13 => ?_)
      · refine z_iload C dX9_guesses_36 rfl ?_
        refine z_iret C hQ dX9_guesses_38 rfl (by decide) (by decide) ?_
        exact ⟨rfl, hf, F1, hp1, hs⟩
      · exact absurd h13 (by omega)
    | succ t ih =>
      intro M1 F1 i ht hi hf hp1 hs
      have hM1 := hf.at hA (hk.ni rfl) hM
      have qq := fun M2 F2 => ih M2 F2 (i + 1) (by omega) (by omega)
      rw [show (i + 1).toNat = i.toNat + 1 by omega, zgfn, show ((i.toNat : Nat) : Int) = i by omega] at qq
      refine z_iload C dX9_guesses_6 rfl ?_
      refine z_aload_n C dX9_guesses_8 rfl ?_
      refine z_iload_n C dX9_guesses_9 rfl ?_
      refine z_callS C dX9_guesses_10 lk_X9_114 mw_X9_lengthOf mst_X9_lengthOf (k_X9_lengthOf hM1 hg hd) rfl (by first | decide | exact Nat.le_of_ble_eq_true rfl) ⟨by decide, by decide, by decide, by decide⟩ (fun _ _ h => False.elim h) (fun v M' hp => ?_)
      obtain ⟨rfl, rfl⟩ := hp
      rw [hD.1]
      refine z_icmp_geZ (tgt := 36) C dX9_guesses_13 (by decide) (by omega) (by omega) (fun h13 => ?_) (fun h13 => ?_)
      · exact absurd h13 (by omega)
      · refine z_iload C dX9_guesses_16 rfl ?_
        refine z_aload_n C dX9_guesses_18 rfl ?_
        refine z_aload_n C dX9_guesses_19 rfl ?_
        refine z_iload_n C dX9_guesses_20 rfl ?_
        refine z_iload_n C dX9_guesses_21 rfl ?_
        refine z_iload C dX9_guesses_22 rfl ?_
        refine z_callV C dX9_guesses_24 lk_X9_148 mw_X9_rankIn mi_X9_rankIn ms_X9_rankIn rfl hs.1 (k_X9_rankIn hA hs hk hM1 hR (i := i) (by omega)) rfl (by first | decide | exact Nat.le_of_ble_eq_true rfl) ⟨by decide, by decide, by decide, by decide⟩ (fun _ _ h => False.elim h) (fun v M' hp => ?_)
        obtain ⟨rfl, f24, F2, p24, s24⟩ := hp
        refine z_iaddZ C dX9_guesses_27 ?_
        refine z_istore C dX9_guesses_28 (by decide) ?_
        refine z_iincZ C dX9_guesses_30 rfl (by decide) ?_
        refine z_goto (tgt := 6) C dX9_guesses_33 (by decide) ?_
        exact qq _ F2 (hf.tr f24 ⟨rfl, rfl⟩) (hp1.tr p24 ⟨rfl, rfl⟩) s24
  refine z_iconst C dX9_guesses_0 ?_
  refine z_istore C dX9_guesses_1 (by decide) ?_
  refine z_iconst C dX9_guesses_3 ?_
  refine z_istore C dX9_guesses_4 (by decide) ?_
  exact loop (dLe X).toNat M F 0 (by omega) (by omega) mF.rf mKp.rf hO
set_option maxHeartbeats 4000000 in
set_option maxRecDepth 100000 in
theorem k_X9_found {l : Launch} {γ : zG} {M : zM} {A : Nat → Nat} {F : Nat → Int} {kq : Nat} {g : Nat → Int} {r b0 p0 s0 : Int} {c0 : Int → Int} {G : List Int} (hA : mIA A) (hO : mSc γ M A F) (hk : mRw kq) (hM : M (A kq) = some (zar γ 5987 g)) (hg : ∀ j, zR (g j)) (hr : 0 ≤ r ∧ r < 4) (hb : -1 ≤ b0 ∧ b0 < 27) (hp0 : -1 ≤ p0 ∧ p0 < 27) (hv : b0 ≠ -1 → p0 ≠ -1) (hL : mRp g r c0 G) (hG : ∀ x, x ∈ G → 0 ≤ x ∧ x < 20439) (hc : zcR c0) (hs : 0 ≤ s0 ∧ s0 < 27) :
    zCon l γ yX9_found cX9_found 7 (some .int) [.ref (A 0), .ref (A kq), .int (zi r), .int (zi b0), .int (zi p0), .int (zi s0)] M 3 71 0 0 (fun v' M' => v' = some (.int (zi (zlv c0 b0 p0 s0))) ∧ mF A M M' [0, 7, 8, 9] ∧ ∃ F', mKp [10, 13] F F' ∧ mSc γ M' A F') (fun _ _ => False) := by
  have fo := zFo_cs hv
  obtain ⟨hO0, ⟨h70, hH7, hh7⟩, ⟨f0, hF8, hf8⟩, ⟨h90, hH9, hh9⟩⟩ := hO
  have lr := zlv_rng c0 b0 p0 s0
  refine zEnter [some (.ref (A 0)), some (.ref (A kq)), some (.int (zi r)), some (.int (zi b0)), some (.int (zi p0)), some (.int (zi s0)), none] (by decide +kernel) rfl rfl (Nat.le_of_ble_eq_true rfl) ?_
  intro p e s m args below meth c Q C hin hQ
  have loop : ∀ (t : Nat) (M1 : zM) (F1 c7 : Nat → Int) (x : Int), zFo b0 p0 + 1 - x = t → 0 ≤ x ∧ x ≤ zFo b0 p0 + 1 → mF A M M1 [0, 7, 8, 9] → mKp [10, 13] F F1 → F1 10 = zFo b0 p0 + 1 → mSc γ M1 A F1 → M1 (A 0) = some (mOb A F1) → M1 (A 7) = some (zar γ 81 c7) → (∀ j, zR (c7 j)) → mLk c0 b0 p0 c7 → zlv c0 b0 p0 s0 ≤ zFo b0 p0 - x → zAW p l e { frames := 3, cells := 0, slots := 0, locals := 71 } s m args below meth c γ 7 Q M1 0 0 12 [some (.ref (A 0)), some (.ref (A kq)), some (.int (zi r)), some (.int (zi b0)), some (.int (zi p0)), some (.int (zi s0)), some (.int (zi x))] [] := by
    intro t
    induction t with
    | zero =>
      intro M1 F1 c7 x ht hx hf hp1 h10 hs1 hM0 hM7 hc7 hK hl
      refine z_iload C dX9_found_12 rfl ?_
      refine z_aload_n C dX9_found_14 rfl ?_
      refine z_getM C dX9_found_15 fl_X9_125 (by first | assumption | ((repeat (first | assumption | exact va_up_self _ _ _ | refine (va_up_ne _ _ (by first | assumption | exact hA.ne (by decide) | exact hA.ne (by omega))).trans ?_)); done)) rfl (by first | assumption | ((repeat (first | assumption | exact va_up_self _ _ _ | exact rfl | refine (va_up_ne _ _ (by decide)).trans ?_)); done)) ?_
      refine z_icmp_geZ (tgt := 53) C dX9_found_18 (by decide) (by omega) (by omega) (fun h18 => ?_) (fun h18 => ?_)
      · refine z_iconst C dX9_found_53 ?_
        refine z_iret C hQ dX9_found_54 rfl (by decide) (by decide) ?_
        rw [show zlv c0 b0 p0 s0 = -1 by omega]
        exact ⟨rfl, hf, F1, hp1, hs1⟩
      · exact absurd h18 (by omega)
    | succ t ih =>
      intro M1 F1 c7 x ht hx hf hp1 h10 hs1 hM0 hM7 hc7 hK hl
      have kx := hK (zFo b0 p0 - x) s0 (by omega) (by omega) hs.1 hs.2
      rw [show zFo b0 p0 - (zFo b0 p0 - x) = x by omega] at kx
      have cn := hc (zCs (zFo b0 p0 - x) b0 p0 + s0)
      refine z_iload C dX9_found_12 rfl ?_
      refine z_aload_n C dX9_found_14 rfl ?_
      refine z_getM C dX9_found_15 fl_X9_125 (by first | assumption | ((repeat (first | assumption | exact va_up_self _ _ _ | refine (va_up_ne _ _ (by first | assumption | exact hA.ne (by decide) | exact hA.ne (by omega))).trans ?_)); done)) rfl (by first | assumption | ((repeat (first | assumption | exact va_up_self _ _ _ | exact rfl | refine (va_up_ne _ _ (by decide)).trans ?_)); done)) ?_
      refine z_icmp_geZ (tgt := 53) C dX9_found_18 (by decide) (by omega) (by omega) (fun h18 => ?_) (fun h18 => ?_)
      · exact absurd h18 (by omega)
      · refine z_aload_n C dX9_found_21 rfl ?_
        refine z_get C dX9_found_22 fl_X9_30 (by first | assumption | ((repeat (first | assumption | exact va_up_self _ _ _ | refine (va_up_ne _ _ (by first | assumption | exact hA.ne (by decide) | exact hA.ne (by omega))).trans ?_)); done)) rfl ?_
        refine z_bipush C dX9_found_25 (by decide) ?_
        refine z_iload C dX9_found_27 rfl ?_
        refine z_imulZ C dX9_found_29 ?_
        refine z_iload C dX9_found_30 rfl ?_
        refine z_iaddZ C dX9_found_32 ?_
        refine z_aldN C dX9_found_33 (by first | assumption | ((repeat (first | assumption | exact va_up_self _ _ _ | refine (va_up_ne _ _ (by first | assumption | exact hA.ne (by decide) | exact hA.ne (by omega))).trans ?_)); done)) (by omega) (by omega) (by assumption) (fun hr33 => ?_)
        rw [kx]
        refine z_if_leZ (tgt := 47) C dX9_found_34 (by decide) (by omega) (fun h34 => ?_) (fun h34 => ?_)
        · refine z_iincZ C dX9_found_47 rfl (by decide) ?_
          refine z_goto (tgt := 12) C dX9_found_50 (by decide) ?_
          refine ih M1 F1 c7 (x + 1) (by omega) (by omega) hf hp1 h10 hs1 hM0 hM7 hc7 hK ?_
          have := zlv_ne (c := c0) (b := b0) (p := p0) (s := s0) (o := zFo b0 p0 - x) (by omega) (by omega)
          omega
        · refine z_aload_n C dX9_found_37 rfl ?_
          refine z_getM C dX9_found_38 fl_X9_125 (by first | assumption | ((repeat (first | assumption | exact va_up_self _ _ _ | refine (va_up_ne _ _ (by first | assumption | exact hA.ne (by decide) | exact hA.ne (by omega))).trans ?_)); done)) rfl (by first | assumption | ((repeat (first | assumption | exact va_up_self _ _ _ | exact rfl | refine (va_up_ne _ _ (by decide)).trans ?_)); done)) ?_
          refine z_iconst C dX9_found_41 ?_
          refine z_isubZ C dX9_found_42 ?_
          refine z_iload C dX9_found_43 rfl ?_
          refine z_isubZ C dX9_found_45 ?_
          refine z_iret C hQ dX9_found_46 rfl (by decide) (by decide) ?_
          have := zlv_ge (c := c0) (b := b0) (p := p0) (s := s0) (o := zFo b0 p0 - x) (by omega) (by omega)
          rw [show zlv c0 b0 p0 s0 = zFo b0 p0 + 1 - 1 - x by omega]
          exact ⟨rfl, hf, F1, hp1, hs1⟩
  refine z_aload_n C dX9_found_0 rfl ?_
  refine z_aload_n C dX9_found_1 rfl ?_
  refine z_iload_n C dX9_found_2 rfl ?_
  refine z_iload_n C dX9_found_3 rfl ?_
  refine z_iload C dX9_found_4 rfl ?_
  refine z_callV C dX9_found_6 lk_X9_135 mw_X9_look mi_X9_look ms_X9_look rfl (by first | assumption | ((repeat (first | assumption | exact va_up_self _ _ _ | refine (va_up_ne _ _ (by first | assumption | exact hA.ne (by decide) | exact hA.ne (by omega))).trans ?_)); done)) (k_X9_look hA hO0 hk hM hg hH7 hh7 hr hb hp0 hv hL hG) rfl (by first | decide | exact Nat.le_of_ble_eq_true rfl) ⟨by decide, by decide, by decide, by decide⟩ (fun _ _ h => False.elim h) (fun v M' hp => ?_)
  obtain ⟨rfl, a1, a2, c7, a3, a4, a5⟩ := hp
  have a6 := a1.at hA (.of rfl) hF8
  have a7 := a1.at hA (.of rfl) hH9
  refine z_iconst C dX9_found_9 ?_
  refine z_istore C dX9_found_10 (by decide) ?_
  exact loop (zFo b0 p0 + 1).toNat _ _ c7 0 (by omega) (by omega) (a1.mo rfl) (mKp.rf.up rfl) (va_up_self _ _ _) ⟨a2, ⟨_, a3, a4⟩, ⟨_, a6, hf8⟩, ⟨_, a7, hh9⟩⟩ a2 a3 a4 a5 (by omega)

