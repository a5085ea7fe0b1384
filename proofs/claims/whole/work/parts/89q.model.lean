/-! the model's output: a document as ranks -/
theorem mSc.pr {γ : zG} {M M' : zM} {A : Nat → Nat} {F F' : Nat → Int} (hA : mIA A) (h : mSc γ M A F) (f : mF A M M' [0, 13]) (o : M' (A 0) = some (mOb A F')) : mSc γ M' A F' := by
  obtain ⟨s0, ⟨s7, b1, b2⟩, ⟨s8, c1, c2⟩, s9, d1, d2⟩ := h
  exact ⟨o, ⟨s7, f.at hA (.of rfl) b1, b2⟩, ⟨s8, f.at hA (.of rfl) c1, c2⟩, s9, f.at hA (.of rfl) d1, d2⟩
theorem hMf.out {γ : zG} {M M' : zM} {A : Nat → Nat} {F F' h' k : Nat → Int} {n' : Int} {Y : zSys} (hA : mIA A) (h : hMf γ M A F Y) (f : mF A M M' [0, 7, 8, 9, 13]) (kp : mKp [8, 10, 13, 29, 31, 32] F F') (sc : mSc γ M' A F') (e29 : F' 29 = n') (hn : 0 ≤ n' ∧ n' ≤ 200) (h13 : M' (A 13) = some (zab γ 200 h')) (ha : ∀ j : Nat, j < n' → h' j = k j) : hMf γ M' A F' (ySO Y k n') := by
  obtain ⟨a, ⟨e1, e2⟩, u, w, i, -, r, t⟩ := h
  exact ⟨sc, ⟨(kp 25 (by decide)).trans e1, (kp 26 (by decide)).trans e2⟩, u.fr hA f (.of rfl) (kp 6 (by decide)) (kp 7 (by decide)), w.fr hA f (.of rfl) (.of rfl), i.fr hA f (.of rfl) (kp 19 (by decide)), ⟨e29, hn, h', h13, ha⟩, r.fr hA f (.of rfl), t.fr hA f (.of rfl) (.of rfl) (.of rfl) (.of rfl) (.of rfl)⟩
set_option maxHeartbeats 4000000 in
set_option maxRecDepth 100000 in
theorem m_encode {l : Launch} {γ : zG} {M : zM} {A : Nat → Nat} {Y : zSys} {t0 : Int} {rr dd : Int} (hMo0 : hMo γ M A Y t0) (hYk : yOk Y) (r_rr : zR rr) (r_dd : zR dd) :
    zCon l γ yX9_encode cX9_encode 5 (some .int) [.ref (A 0), .int (zi rr), .int (zi dd)] M 10 330 0 0 (mAnsY γ A M Y (y_encode Y rr dd) (q_encode Y rr dd)) (fun _ _ => False) := by
  obtain ⟨hA, F, h8, hF⟩ := hMo0
  obtain ⟨hsc, hec, hun, hsl, hinp, hou, ⟨g, hM, hS⟩, hrs⟩ := id hF
  have hO := hsc.1
  have hg := hS.1
  have hY := hYk.1
  have o1 := hY.1
  have z_rr := r_rr
  unfold zR at z_rr
  have z_dd := r_dd
  unfold zR at z_dd
  refine zEnter [some (.ref (A 0)), some (.int (zi rr)), some (.int (zi dd)), none, none] (by decide +kernel) rfl rfl (Nat.le_of_ble_eq_true rfl) ?_
  intro p e s m args below meth c Q C hin hQ
  obtain ⟨-, -, h0, hH0, -⟩ := hou
  have loop : ∀ (c1 : 0 ≤ rr ∧ rr < sRn (yS Y)) (c2 : 0 ≤ dd ∧ dd < sDn (yS Y)) (t : Nat) (M1 : zM) (F1 h : Nat → Int) (n i : Int) (x4 : Option Value), dLe (sDc (yS Y) dd.toNat) - i = t → 0 ≤ i ∧ i ≤ dLe (sDc (yS Y) dd.toNat) → mF A M M1 [0, 7, 8, 9, 13] → mKp [8, 10, 13, 29] F F1 → mSc γ M1 A F1 → F1 8 = 0 → F1 29 = n → M1 (A 13) = some (zab γ 200 h) → 0 ≤ n ∧ n ≤ 3 * i → n = (zen (rC (sRd (yS Y) rr.toNat)) (sDc (yS Y) dd.toNat) i.toNat).2 → (∀ j : Nat, j < n → h j = (zen (rC (sRd (yS Y) rr.toNat)) (sDc (yS Y) dd.toNat) i.toNat).1 j) → zAW p l e { frames := 10, cells := 0, slots := 0, locals := 330 } s m args below meth c γ 5 Q M1 0 0 18 [some (.ref (A 0)), some (.int (zi rr)), some (.int (zi dd)), some (.int (zi i)), x4] [] := by
    intro c1 c2 t
    have hR := hS.rd hY c1 c2
    have hX := hY.2.1 dd.toNat (by omega)
    have hXl := hX.1
    have hSd := hS.d c2
    induction t with
    | zero =>
      intro M1 F1 h n i x4 ht hi hf kp sc e8 en hH hnb hn ha
      obtain rfl : i = dLe (sDc (yS Y) dd.toNat) := by omega
      have hM1 := hf.at hA (.of rfl) hM
      have hO1 := sc.1
      refine z_iload_n C dX9_encode_18 rfl ?_
      refine z_aload_n C dX9_encode_19 rfl ?_
      refine z_get C dX9_encode_20 fl_X9_7 (by first | assumption | ((repeat (first | assumption | exact va_up_self _ _ _ | refine (va_up_ne _ _ (by first | assumption | exact hA.ne (by decide) | exact hA.ne (by omega))).trans ?_)); done)) rfl ?_
      refine z_iload_n C dX9_encode_23 rfl ?_
      refine z_callS C dX9_encode_24 lk_X9_114 mw_X9_lengthOf mst_X9_lengthOf (k_X9_lengthOf hM1 hg (by omega)) rfl (by first | decide | exact Nat.le_of_ble_eq_true rfl) ⟨by decide, by decide, by decide, by decide⟩ (fun _ _ h => False.elim h) (fun v M' hp => ?_)
      obtain ⟨rfl, rfl⟩ := hp
      rw [hSd.1.1]
      refine z_icmp_geZ (tgt := 90) C dX9_encode_27 (by decide) (by omega) (by omega) (fun h27 => ?_) (fun h27 => ?_)
      · refine z_aload_n C dX9_encode_90 rfl ?_
        refine z_getM C dX9_encode_91 fl_X9_364 (by first | assumption | ((repeat (first | assumption | exact va_up_self _ _ _ | refine (va_up_ne _ _ (by first | assumption | exact hA.ne (by decide) | exact hA.ne (by omega))).trans ?_)); done)) rfl (by first | assumption | ((repeat (first | assumption | exact va_up_self _ _ _ | rewrite [va_up_ne _ _ (by decide)])); (first | done | exact rfl))) ?_
        refine z_iret C hQ dX9_encode_94 rfl (by decide) (by decide) ?_
        obtain rfl : n = (zenx (rC (sRd (yS Y) rr.toNat)) (sDc (yS Y) dd.toNat)).2 := hn
        exact mAnsY.ok hA (hF.out hA hf (kp.tr (K := [8, 10, 13, 29, 31, 32]) (K2 := []) mKp.rf ⟨rfl, rfl⟩) sc en (by omega) hH ha) (hf.mo rfl) e8 (by rw [q_encode, mqR_t c1, mqD_t c2]) rfl
      · exact absurd h27 (by omega)
    | succ t ih =>
      intro M1 F1 h n i x4 ht hi hf kp sc e8 en hH hnb hn ha
      have hM1 := hf.at hA (.of rfl) hM
      have hO1 := sc.1
      have zr := zrk_rng (c := (rC (sRd (yS Y) rr.toNat))) (b := hAt (dSy (sDc (yS Y) dd.toNat)) (dLe (sDc (yS Y) dd.toNat)) (i - 2)) (p := hAt (dSy (sDc (yS Y) dd.toNat)) (dLe (sDc (yS Y) dd.toNat)) (i - 1)) (hAt_sy hX (i := i) (by omega))
      have zr2 : 1 ≤ zrp (rC (sRd (yS Y) rr.toNat)) (dSy (sDc (yS Y) dd.toNat)) (dLe (sDc (yS Y) dd.toNat)) i ∧ zrp (rC (sRd (yS Y) rr.toNat)) (dSy (sDc (yS Y) dd.toNat)) (dLe (sDc (yS Y) dd.toNat)) i ≤ 27 := zr
      have qq := fun M2 F2 h2 n2 x => ih M2 F2 h2 n2 (i + 1) x (by omega) (by omega)
      rw [show (i + 1).toNat = i.toNat + 1 by omega, zen, show ((i.toNat : Nat) : Int) = i by omega] at qq
      have tail : ∀ (M2 : zM) (F2 h2 : Nat → Int) (n2 : Int), mF A M M2 [0, 7, 8, 9, 13] → mKp [8, 10, 13, 29] F F2 → mSc γ M2 A F2 → F2 8 = 0 → F2 29 = n2 → M2 (A 13) = some (zab γ 200 h2) → 0 ≤ n2 ∧ n2 ≤ 3 * i + 1 → n2 = (zem (zen (rC (sRd (yS Y) rr.toNat)) (sDc (yS Y) dd.toNat) i.toNat) i.toNat).2 → (∀ j : Nat, j < n2 → h2 j = (zem (zen (rC (sRd (yS Y) rr.toNat)) (sDc (yS Y) dd.toNat) i.toNat) i.toNat).1 j) → zAW p l e { frames := 10, cells := 0, slots := 0, locals := 330 } s m args below meth c γ 5 Q M2 0 0 53 [some (.ref (A 0)), some (.int (zi rr)), some (.int (zi dd)), some (.int (zi i)), some (.int (zi (zrp (rC (sRd (yS Y) rr.toNat)) (dSy (sDc (yS Y) dd.toNat)) (dLe (sDc (yS Y) dd.toNat)) i)))] [] := by
        intro M2 F2 h2 n2 f2 k2 s2 e28 e229 hH2 n2b hn2 ha2
        have hO2 := s2.1
        have dl : zdl (zrp (rC (sRd (yS Y) rr.toNat)) (dSy (sDc (yS Y) dd.toNat)) (dLe (sDc (yS Y) dd.toNat)) i) = if 10 ≤ zrp (rC (sRd (yS Y) rr.toNat)) (dSy (sDc (yS Y) dd.toNat)) (dLe (sDc (yS Y) dd.toNat)) i then 2 else 1 := rfl
        have dg : zdg (zem (zen (rC (sRd (yS Y) rr.toNat)) (sDc (yS Y) dd.toNat) i.toNat) i.toNat).1 n2 (zrp (rC (sRd (yS Y) rr.toNat)) (dSy (sDc (yS Y) dd.toNat)) (dLe (sDc (yS Y) dd.toNat)) i) = if 10 ≤ zrp (rC (sRd (yS Y) rr.toNat)) (dSy (sDc (yS Y) dd.toNat)) (dLe (sDc (yS Y) dd.toNat)) i then va_up (va_up (zem (zen (rC (sRd (yS Y) rr.toNat)) (sDc (yS Y) dd.toNat) i.toNat) i.toNat).1 n2.toNat (48 + zrp (rC (sRd (yS Y) rr.toNat)) (dSy (sDc (yS Y) dd.toNat)) (dLe (sDc (yS Y) dd.toNat)) i / 10)) (n2 + 1).toNat (48 + zrp (rC (sRd (yS Y) rr.toNat)) (dSy (sDc (yS Y) dd.toNat)) (dLe (sDc (yS Y) dd.toNat)) i % 10) else va_up (zem (zen (rC (sRd (yS Y) rr.toNat)) (sDc (yS Y) dd.toNat) i.toNat) i.toNat).1 n2.toNat (48 + zrp (rC (sRd (yS Y) rr.toNat)) (dSy (sDc (yS Y) dd.toNat)) (dLe (sDc (yS Y) dd.toNat)) i % 10) := rfl
        rw [← hn2, dl, dg] at qq
        refine z_iload C dX9_encode_53 rfl ?_
        refine z_bipush C dX9_encode_55 (by decide) ?_
        refine z_icmp_leZ (tgt := 72) C dX9_encode_57 (by decide) (by omega) (by omega) (fun h57 => ?_) (fun h57 => ?_)
        · refine z_aload_n C dX9_encode_72 rfl ?_
          refine z_bipush C dX9_encode_73 (by decide) ?_
          refine z_iload C dX9_encode_75 rfl ?_
          refine z_bipush C dX9_encode_77 (by decide) ?_
          refine z_iremZ C dX9_encode_79 (by omega) (by omega) ?_
          refine z_iaddZ C dX9_encode_80 ?_
          refine z_callV C dX9_encode_81 lk_X9_367 mw_X9_print mi_X9_print ms_X9_print rfl (by first | assumption | ((repeat (first | assumption | exact va_up_self _ _ _ | refine (va_up_ne _ _ (by first | assumption | exact hA.ne (by decide) | exact hA.ne (by omega))).trans ?_)); done)) (k_X9_print hA hO2 hH2 e229 (by omega) (by omega)) rfl (by first | decide | exact Nat.le_of_ble_eq_true rfl) ⟨by decide, by decide, by decide, by decide⟩ (fun _ _ h => False.elim h) (fun v M' hp => ?_)
          obtain ⟨rfl, f81, o81, h81⟩ := hp
          refine z_iincZ C dX9_encode_84 rfl (by decide) ?_
          refine z_goto (tgt := 18) C dX9_encode_87 (by decide) ?_
          rw [if_neg (by omega), if_neg (by omega)] at qq
          exact qq _ _ _ (n2 + 1) _ (f2.tr f81 ⟨rfl, rfl⟩) (k2.up rfl) (s2.pr hA f81 o81) ((va_up_ne _ _ (by decide)).trans e28) (va_up_self _ _ _) h81 (by omega) rfl (va_up_cg n2b.1 ha2)
        · refine z_aload_n C dX9_encode_60 rfl ?_
          refine z_bipush C dX9_encode_61 (by decide) ?_
          refine z_iload C dX9_encode_63 rfl ?_
          refine z_bipush C dX9_encode_65 (by decide) ?_
          refine z_idivZ C dX9_encode_67 (by omega) (by omega) ?_
          refine z_iaddZ C dX9_encode_68 ?_
          refine z_callV C dX9_encode_69 lk_X9_367 mw_X9_print mi_X9_print ms_X9_print rfl (by first | assumption | ((repeat (first | assumption | exact va_up_self _ _ _ | refine (va_up_ne _ _ (by first | assumption | exact hA.ne (by decide) | exact hA.ne (by omega))).trans ?_)); done)) (k_X9_print hA hO2 hH2 e229 (by omega) (by omega)) rfl (by first | decide | exact Nat.le_of_ble_eq_true rfl) ⟨by decide, by decide, by decide, by decide⟩ (fun _ _ h => False.elim h) (fun v M' hp => ?_)
          obtain ⟨rfl, f69, o69, h69⟩ := hp
          have s69 := s2.pr hA f69 o69
          refine z_aload_n C dX9_encode_72 rfl ?_
          refine z_bipush C dX9_encode_73 (by decide) ?_
          refine z_iload C dX9_encode_75 rfl ?_
          refine z_bipush C dX9_encode_77 (by decide) ?_
          refine z_iremZ C dX9_encode_79 (by omega) (by omega) ?_
          refine z_iaddZ C dX9_encode_80 ?_
          refine z_callV C dX9_encode_81 lk_X9_367 mw_X9_print mi_X9_print ms_X9_print rfl (by first | assumption | ((repeat (first | assumption | exact va_up_self _ _ _ | refine (va_up_ne _ _ (by first | assumption | exact hA.ne (by decide) | exact hA.ne (by omega))).trans ?_)); done)) (k_X9_print hA o69 h69 (va_up_self _ _ _) (by omega) (by omega)) rfl (by first | decide | exact Nat.le_of_ble_eq_true rfl) ⟨by decide, by decide, by decide, by decide⟩ (fun _ _ h => False.elim h) (fun v M' hp => ?_)
          obtain ⟨rfl, f81, o81, h81⟩ := hp
          refine z_iincZ C dX9_encode_84 rfl (by decide) ?_
          refine z_goto (tgt := 18) C dX9_encode_87 (by decide) ?_
          rw [if_pos (by omega), if_pos (by omega)] at qq
          exact qq _ _ _ (n2 + 2) _ ((f2.tr (K := [0, 7, 8, 9, 13]) f69 ⟨rfl, rfl⟩).tr (K := [0, 7, 8, 9, 13]) f81 ⟨rfl, rfl⟩) ((k2.up rfl).up rfl) (s69.pr hA f81 o81) (by rw [va_up_ne _ _ (by decide), va_up_ne _ _ (by decide)]; exact e28) (by rw [va_up_self]; omega) h81 (by omega) rfl (by rw [show n2 + 2 = n2 + 1 + 1 by omega]; exact va_up_cg (by omega) (va_up_cg n2b.1 ha2))
      refine z_iload_n C dX9_encode_18 rfl ?_
      refine z_aload_n C dX9_encode_19 rfl ?_
      refine z_get C dX9_encode_20 fl_X9_7 (by first | assumption | ((repeat (first | assumption | exact va_up_self _ _ _ | refine (va_up_ne _ _ (by first | assumption | exact hA.ne (by decide) | exact hA.ne (by omega))).trans ?_)); done)) rfl ?_
      refine z_iload_n C dX9_encode_23 rfl ?_
      refine z_callS C dX9_encode_24 lk_X9_114 mw_X9_lengthOf mst_X9_lengthOf (k_X9_lengthOf hM1 hg (by omega)) rfl (by first | decide | exact Nat.le_of_ble_eq_true rfl) ⟨by decide, by decide, by decide, by decide⟩ (fun _ _ h => False.elim h) (fun v M' hp => ?_)
      obtain ⟨rfl, rfl⟩ := hp
      rw [hSd.1.1]
      refine z_icmp_geZ (tgt := 90) C dX9_encode_27 (by decide) (by omega) (by omega) (fun h27 => ?_) (fun h27 => ?_)
      · exact absurd h27 (by omega)
      · refine z_aload_n C dX9_encode_30 rfl ?_
        refine z_aload_n C dX9_encode_31 rfl ?_
        refine z_get C dX9_encode_32 fl_X9_7 (by first | assumption | ((repeat (first | assumption | exact va_up_self _ _ _ | refine (va_up_ne _ _ (by first | assumption | exact hA.ne (by decide) | exact hA.ne (by omega))).trans ?_)); done)) rfl ?_
        refine z_iload_n C dX9_encode_35 rfl ?_
        refine z_iload_n C dX9_encode_36 rfl ?_
        refine z_iload_n C dX9_encode_37 rfl ?_
        refine z_callV C dX9_encode_38 lk_X9_148 mw_X9_rankIn mi_X9_rankIn ms_X9_rankIn rfl sc.1 (k_X9_rankIn hA sc (kq := 1) (.inl rfl) hM1 hR (i := i) (by omega)) rfl (by first | decide | exact Nat.le_of_ble_eq_true rfl) ⟨by decide, by decide, by decide, by decide⟩ (fun _ _ h => False.elim h) (fun v M' hp => ?_)
        obtain ⟨rfl, f38, F2, p38, s38⟩ := hp
        have o38 := s38.1
        have h38 := f38.at hA (.of rfl) hH
        have e38 : F2 29 = n := (p38 29 (by decide)).trans en
        have f39 := hf.tr (K := [0, 7, 8, 9, 13]) f38 ⟨rfl, rfl⟩
        have k39 := kp.tr (K := [8, 10, 13, 29]) p38 ⟨rfl, rfl⟩
        have e39 : F2 8 = 0 := (p38 8 (by decide)).trans e8
        refine z_istore C dX9_encode_41 (by decide) ?_
        refine z_iload_n C dX9_encode_43 rfl ?_
        refine z_if_leZ (tgt := 53) C dX9_encode_44 (by decide) (by omega) (fun h44 => ?_) (fun h44 => ?_)
        · obtain rfl : i = 0 := by omega
          exact tail _ F2 h n f39 k39 s38 e39 e38 h38 (by omega) hn ha
        · refine z_aload_n C dX9_encode_47 rfl ?_
          refine z_bipush C dX9_encode_48 (by decide) ?_
          refine z_callV C dX9_encode_50 lk_X9_367 mw_X9_print mi_X9_print ms_X9_print rfl (by first | assumption | ((repeat (first | assumption | exact va_up_self _ _ _ | refine (va_up_ne _ _ (by first | assumption | exact hA.ne (by decide) | exact hA.ne (by omega))).trans ?_)); done)) (k_X9_print hA o38 h38 e38 (by omega) (x := 44) (by omega)) rfl (by first | decide | exact Nat.le_of_ble_eq_true rfl) ⟨by decide, by decide, by decide, by decide⟩ (fun _ _ h => False.elim h) (fun v M' hp => ?_)
          obtain ⟨rfl, f50, o50, h50⟩ := hp
          have zz : zem (zen (rC (sRd (yS Y) rr.toNat)) (sDc (yS Y) dd.toNat) i.toNat) i.toNat = (va_up (zen (rC (sRd (yS Y) rr.toNat)) (sDc (yS Y) dd.toNat) i.toNat).1 (zen (rC (sRd (yS Y) rr.toNat)) (sDc (yS Y) dd.toNat) i.toNat).2.toNat 44, (zen (rC (sRd (yS Y) rr.toNat)) (sDc (yS Y) dd.toNat) i.toNat).2 + 1) := if_neg (by omega)
          refine tail _ _ _ (n + 1) (f39.tr (K := [0, 7, 8, 9, 13]) f50 ⟨rfl, rfl⟩) (k39.up rfl) (s38.pr hA f50 o50) ((va_up_ne _ _ (by decide)).trans e39) (va_up_self _ _ _) h50 (by omega) (by rw [zz, hn]) ?_
          rw [zz, ← hn]
          exact va_up_cg hnb.1 ha
  refine z_aload_n C dX9_encode_0 rfl ?_
  refine z_iload_n C dX9_encode_1 rfl ?_
  refine z_iload_n C dX9_encode_2 rfl ?_
  refine z_callV C dX9_encode_3 lk_X9_328 mw_X9_noBoth mi_X9_noBoth ms_X9_noBoth rfl (by first | assumption | ((repeat (first | assumption | exact va_up_self _ _ _ | refine (va_up_ne _ _ (by first | assumption | exact hA.ne (by decide) | exact hA.ne (by omega))).trans ?_)); done)) (k_X9_noBoth hA hO hM hS hY r_rr r_dd) rfl (by first | decide | exact Nat.le_of_ble_eq_true rfl) ⟨by decide, by decide, by decide, by decide⟩ (fun _ _ h => False.elim h) (fun v M' hp => ?_)
  obtain ⟨r1, F1, rfl, f1, ob1, p1, e1, z1⟩ := hp
  have s1 := z1.rng
  have cf1 := f1
  have cp1 := p1
  have hM1 := cf1.at hA (.of rfl) hM
  refine z_if_eqZ (tgt := 11) C dX9_encode_6 (by decide) (by omega) (fun h6 => ?_) (fun h6 => ?_)
  · have t1 := Decidable.not_not.mp (z1.f h6)
    rw [t1] at e1
    obtain ⟨c1, c0⟩ := mqR_0 t1
    obtain ⟨c2, -⟩ := mqD_0 c0
    have hF1 := hF.q0 hA cf1 ob1 cp1 rfl
    have hs1 := hF1.1
    have hX := hY.2.1 dd.toNat (by omega)
    have hXl := hX.1
    refine z_aload_n C dX9_encode_11 rfl ?_
    refine z_iconst C dX9_encode_12 ?_
    refine z_putM C dX9_encode_13 fl_X9_364 (by first | assumption | ((repeat (first | assumption | exact va_up_self _ _ _ | refine (va_up_ne _ _ (by first | assumption | exact hA.ne (by decide) | exact hA.ne (by omega))).trans ?_)); done)) rfl ?_
    refine z_iconst C dX9_encode_16 ?_
    refine z_istore_n C dX9_encode_17 (by decide) ?_
    exact loop c1 c2 (dLe (sDc (yS Y) dd.toNat)).toNat _ _ h0 0 0 none (by omega) (by omega) (((cf1.tr (K := [0, 7, 8, 9, 13]) (K2 := []) mF.rf ⟨rfl, rfl⟩).up (i := 0) (x := some (mOb A (va_up F1 29 0))) rfl)) (((cp1.tr (K := [8, 10, 13, 29]) (K2 := []) mKp.rf ⟨rfl, rfl⟩).up (i := 29) rfl)) (hs1.ob hA (mF.rf.up rfl) (va_up_self _ _ _)) ((va_up_ne _ _ (by decide)).trans e1) (va_up_self _ _ _) (by rw [va_up_ne _ _ (hA.ne (by decide))]; exact cf1.at hA (.of rfl) hH0) (by omega) rfl (fun j hj => absurd hj (by omega))
  · refine z_iconst C dX9_encode_9 ?_
    refine z_iret C hQ dX9_encode_10 rfl (by decide) (by decide) ?_
    exact mAnsY.no hA hF cf1 ob1 cp1 e1 (z1.t h6) (mqR_1 (mqD_1 rfl))

