/-! the model's changes: readers and documents added -/
theorem zfi_m1 {P : Nat → Prop} : ∀ t : Nat, zfi P t = -1 → ∀ j, j < t → ¬ P j
  | 0, _, j, hj => by omega
  | t + 1, h, j, hj => by
    unfold zfi at h
    by_cases w : zfi P t = -1
    · rw [if_pos w] at h
      by_cases e : j = t
      · subst e
        intro q
        rw [zif_t q] at h
        omega
      · exact zfi_m1 t w j (by omega)
    · rw [if_neg w] at h
      exact absurd h w
theorem zNT_iff {S : zSt} (hO : zOk S) {f : Nat → Int} {n : Int} : zNT S f n ↔ zNo S f n 0 n ≠ -1 := by
  have o1 := hO.1
  constructor
  · rintro ⟨i, h1, h2⟩ w
    exact zfi_m1 (sRn S).toNat w i (by omega) h2
  · intro w
    rcases zNo_rng hO f n 0 n with h | h
    · exact ⟨(zNo S f n 0 n).toNat, by omega, zfi_P (sRn S).toNat _ (by show zNo S f n 0 n = _; omega)⟩
    · exact absurd h w
theorem hNm_fe {f g : Nat → Int} {n : Int} (h : hAt f n = hAt g n) (b e : Int) : hNm f n b e ↔ hNm g n b e := by
  unfold hNm
  rw [h]
theorem hDm_fe {f g : Nat → Int} {n : Int} (h : hAt f n = hAt g n) (b e : Int) : hDm f n b e ↔ hDm g n b e := by
  unfold hDm
  rw [h]
theorem zNo_fe {S : zSt} {f g : Nat → Int} {n : Int} (h : hAt f n = hAt g n) (b e : Int) : zNo S f n b e = zNo S g n b e := by
  unfold zNo
  refine zfi_cg _ fun i _ => ?_
  unfold hNa hIs
  rw [h]
set_option maxHeartbeats 4000000 in
set_option maxRecDepth 100000 in
theorem k_X9_isDocument {l : Launch} {γ : zG} {M : zM} {A : Nat → Nat} {F f : Nat → Int} {n : Int} (hO : M (A 0) = some (mOb A F)) (hI : M (A 11) = some (zar γ 500 f)) (hn : F 19 = n) (hB : hBo f n) :
    zCon l γ yX9_isDocument cX9_isDocument 3 (some .boolean) [.ref (A 0)] M 3 66 0 0 (fun v' M' => ∃ r : Int, v' = some (.int (zi r)) ∧ M' = M ∧ zB r ((1 ≤ n ∧ n ≤ 40) ∧ hDm f n 0 n)) (fun _ _ => False) := by
  have bb := hB.1
  have hra := hAt_r hB
  refine zEnter [some (.ref (A 0)), none, none] (by decide +kernel) rfl rfl (Nat.le_of_ble_eq_true rfl) ?_
  intro p e s m args below meth c Q C hin hQ
  have loop : ∀ (t : Nat) (i r : Int), n - i = t → 0 ≤ i ∧ i ≤ n → zB r ((1 ≤ n ∧ n ≤ 40) ∧ ∀ j : Int, 0 ≤ j → j < i → zLet (hAt f n j) ∨ hAt f n j = 95) → zAW p l e { frames := 3, cells := 0, slots := 0, locals := 66 } s m args below meth c γ 3 Q M 0 0 13 [some (.ref (A 0)), some (.int (zi r)), some (.int (zi i))] [] := by
    intro t
    induction t with
    | zero =>
      intro i r ht hi hr
      obtain rfl : i = n := by omega
      have sr := hr.rng
      refine z_iload_n C dX9_isDocument_13 rfl ?_
      refine z_if_eqZ (tgt := 41) C dX9_isDocument_14 (by decide) (by omega) (fun h14 => ?_) (fun h14 => ?_)
      · refine z_iload_n C dX9_isDocument_41 rfl ?_
        refine z_iret C hQ dX9_isDocument_42 hr.nar (by decide) (by decide) ?_
        exact ⟨r, rfl, rfl, hr⟩
      · refine z_iload_n C dX9_isDocument_17 rfl ?_
        refine z_aload_n C dX9_isDocument_18 rfl ?_
        refine z_getM C dX9_isDocument_19 fl_X9_68 (by first | assumption | ((repeat (first | assumption | exact va_up_self _ _ _ | refine (va_up_ne _ _ (by first | assumption | exact hA.ne (by decide) | exact hA.ne (by omega))).trans ?_)); done)) rfl (by first | assumption | ((repeat (first | assumption | exact va_up_self _ _ _ | rewrite [va_up_ne _ _ (by decide)])); (first | done | exact rfl))) ?_
        refine z_icmp_geZ (tgt := 41) C dX9_isDocument_22 (by decide) (by omega) (by omega) (fun h22 => ?_) (fun h22 => ?_)
        · refine z_iload_n C dX9_isDocument_41 rfl ?_
          refine z_iret C hQ dX9_isDocument_42 hr.nar (by decide) (by decide) ?_
          exact ⟨r, rfl, rfl, hr⟩
        · exact absurd h22 (by omega)
    | succ t ih =>
      intro i r ht hi hr
      have sr := hr.rng
      have ri := hra i
      have hin : hAt f n i = f i.toNat := hAt_in (by omega)
      refine z_iload_n C dX9_isDocument_13 rfl ?_
      refine z_if_eqZ (tgt := 41) C dX9_isDocument_14 (by decide) (by omega) (fun h14 => ?_) (fun h14 => ?_)
      · refine z_iload_n C dX9_isDocument_41 rfl ?_
        refine z_iret C hQ dX9_isDocument_42 hr.nar (by decide) (by decide) ?_
        exact ⟨r, rfl, rfl, .inr ⟨h14, fun w => hr.f h14 ⟨w.1, fun j j1 j2 => w.2 j j1 (by omega)⟩⟩⟩
      · refine z_iload_n C dX9_isDocument_17 rfl ?_
        refine z_aload_n C dX9_isDocument_18 rfl ?_
        refine z_getM C dX9_isDocument_19 fl_X9_68 (by first | assumption | ((repeat (first | assumption | exact va_up_self _ _ _ | refine (va_up_ne _ _ (by first | assumption | exact hA.ne (by decide) | exact hA.ne (by omega))).trans ?_)); done)) rfl (by first | assumption | ((repeat (first | assumption | exact va_up_self _ _ _ | rewrite [va_up_ne _ _ (by decide)])); (first | done | exact rfl))) ?_
        refine z_icmp_geZ (tgt := 41) C dX9_isDocument_22 (by decide) (by omega) (by omega) (fun h22 => ?_) (fun h22 => ?_)
        · exact absurd h22 (by omega)
        · refine z_aload_n C dX9_isDocument_25 rfl ?_
          refine z_get C dX9_isDocument_26 fl_X9_42 (by first | assumption | ((repeat (first | assumption | exact va_up_self _ _ _ | refine (va_up_ne _ _ (by first | assumption | exact hA.ne (by decide) | exact hA.ne (by omega))).trans ?_)); done)) rfl ?_
          refine z_iload_n C dX9_isDocument_29 rfl ?_
          refine z_aldN C dX9_isDocument_30 (by first | assumption | ((repeat (first | assumption | exact va_up_self _ _ _ | refine (va_up_ne _ _ (by first | assumption | exact hA.ne (by decide) | exact hA.ne (by omega))).trans ?_)); done)) (by omega) (by omega) hB.2.1 (fun hr30 => ?_)
          rw [← hin]
          refine z_callS C dX9_isDocument_31 lk_X9_224 mw_X9_isSymbolByte mst_X9_isSymbolByte (k_X9_isSymbolByte (x := hAt f n i) (by unfold zR; omega)) rfl (by first | decide | exact Nat.le_of_ble_eq_true rfl) ⟨by decide, by decide, by decide, by decide⟩ (fun _ _ h => False.elim h) (fun v M' hp => ?_)
          obtain ⟨r31, rfl, rfl, q31⟩ := hp
          refine z_istore_n C dX9_isDocument_34 (by decide) ?_
          refine z_iincZ C dX9_isDocument_35 rfl (by decide) ?_
          refine z_goto (tgt := 13) C dX9_isDocument_38 (by decide) ?_
          refine ih (i + 1) r31 (by omega) (by omega) ?_
          rcases q31 with ⟨w1, w2⟩ | ⟨w1, w2⟩
          · refine .inl ⟨w1, (hr.t h14).1, fun j j1 j2 => ?_⟩
            by_cases w : j = i
            · rw [w]
              exact w2
            · exact (hr.t h14).2 j j1 (by omega)
          · exact .inr ⟨w1, fun w => w2 (w.2 i hi.1 (by omega))⟩
  refine z_aload_n C dX9_isDocument_0 rfl ?_
  refine z_getM C dX9_isDocument_1 fl_X9_68 (by first | assumption | ((repeat (first | assumption | exact va_up_self _ _ _ | refine (va_up_ne _ _ (by first | assumption | exact hA.ne (by decide) | exact hA.ne (by omega))).trans ?_)); done)) rfl (by first | assumption | ((repeat (first | assumption | exact va_up_self _ _ _ | rewrite [va_up_ne _ _ (by decide)])); (first | done | exact rfl))) ?_
  refine z_iconst C dX9_isDocument_4 ?_
  refine z_bipush C dX9_isDocument_5 (by decide) ?_
  refine z_callS C dX9_isDocument_7 lk_X9_128 mw_X9_isBetween mst_X9_isBetween (k_X9_isBetween (x := n) (a := 1) (b := 40) (by unfold zR; omega) (by unfold zR; omega) (by unfold zR; omega)) rfl (by first | decide | exact Nat.le_of_ble_eq_true rfl) ⟨by decide, by decide, by decide, by decide⟩ (fun _ _ h => False.elim h) (fun v M' hp => ?_)
  obtain ⟨r7, rfl, rfl, q7⟩ := hp
  refine z_istore_n C dX9_isDocument_10 (by decide) ?_
  refine z_iconst C dX9_isDocument_11 ?_
  refine z_istore_n C dX9_isDocument_12 (by decide) ?_
  exact loop n.toNat 0 r7 (by omega) (by omega) (q7.cg ⟨fun w => ⟨w, fun j j1 j2 => by omega⟩, fun w => w.1⟩)
set_option maxHeartbeats 4000000 in
set_option maxRecDepth 100000 in
theorem m_addReader {l : Launch} {γ : zG} {M : zM} {A : Nat → Nat} {Y : zSys} {t0 : Int} {mm : Int} (hMo0 : hMo γ M A Y t0) (hYk : yOk Y) (r_mm : zR mm) :
    zCon l γ yX9_addReader cX9_addReader 3 (some .int) [.ref (A 0), .int (zi mm)] M 10 330 0 0 (mAnsY γ A M Y (y_addReader Y mm) (q_addReader Y mm)) (fun _ _ => False) := by
  obtain ⟨hA, F, h8, hF⟩ := hMo0
  obtain ⟨hsc, hec, hun, hsl, hinp, hou, ⟨g, hM, hS⟩, hrs⟩ := id hF
  have hO := hsc.1
  have hg := hS.1
  have hY := hYk.1
  have o1 := hY.1
  have z_mm := r_mm
  unfold zR at z_mm
  refine zEnter [some (.ref (A 0)), some (.int (zi mm)), none] (by decide +kernel) rfl rfl (Nat.le_of_ble_eq_true rfl) ?_
  intro p e s m args below meth c Q C hin hQ
  obtain ⟨hn19, f, hI, hB, hif⟩ := hinp
  have bb := hB.1
  have hfe := hAt_fe hif
  have hnv : mNv f (yIn Y) 0 (yIn Y) ↔ (0 < yIn Y ∧ yIn Y - 0 ≤ 4 ∧ hNm (yIf Y) (yIn Y) 0 (yIn Y)) := by
    unfold mNv
    rw [Int.zero_add, hNm_fe hfe]
    constructor
    · rintro ⟨a, b⟩
      exact ⟨by omega, by omega, b⟩
    · rintro ⟨a, b, c⟩
      exact ⟨by omega, c⟩
  have hg2 : g (2 : Int).toNat = sRn (yS Y) := hS.2.2.2.1
  refine z_aload_n C dX9_addReader_0 rfl ?_
  refine z_iload_n C dX9_addReader_1 rfl ?_
  refine z_iconst C dX9_addReader_2 ?_
  refine z_iconst C dX9_addReader_3 ?_
  refine z_callV C dX9_addReader_4 lk_X9_196 mw_X9_noNumber mi_X9_noNumber ms_X9_noNumber rfl (by first | assumption | ((repeat (first | assumption | exact va_up_self _ _ _ | refine (va_up_ne _ _ (by first | assumption | exact hA.ne (by decide) | exact hA.ne (by omega))).trans ?_)); done)) (k_X9_noNumber hA hO (x := mm) (a := 0) (b := 2) r_mm (by unfold zR; omega) (by unfold zR; omega)) rfl (by first | decide | exact Nat.le_of_ble_eq_true rfl) ⟨by decide, by decide, by decide, by decide⟩ (fun _ _ h => False.elim h) (fun v M' hp => ?_)
  obtain ⟨r1, F1, rfl, f1, ob1, p1, e1, z1⟩ := hp
  have s1 := z1.rng
  have cf1 := f1
  have cp1 := p1
  have hM1 := cf1.at hA (.of rfl) hM
  refine z_if_eqZ (tgt := 12) C dX9_addReader_7 (by decide) (by omega) (fun h7 => ?_) (fun h7 => ?_)
  · have t1 := Decidable.not_not.mp (z1.f h7)
    rw [t1] at e1
    have t2 := mN1 t1
    have hi1 := cf1.at hA (.of rfl) hI
    have n1 : F1 19 = yIn Y := (cp1 19 (by decide)).trans hn19
    refine z_aload_n C dX9_addReader_12 rfl ?_
    refine z_iconst C dX9_addReader_13 ?_
    refine z_aload_n C dX9_addReader_14 rfl ?_
    refine z_getM C dX9_addReader_15 fl_X9_68 (by first | assumption | ((repeat (first | assumption | exact va_up_self _ _ _ | refine (va_up_ne _ _ (by first | assumption | exact hA.ne (by decide) | exact hA.ne (by omega))).trans ?_)); done)) rfl n1 ?_
    refine z_callV C dX9_addReader_18 lk_X9_237 mw_X9_nameFrom mi_X9_nameFrom ms_X9_nameFrom rfl (by first | assumption | ((repeat (first | assumption | exact va_up_self _ _ _ | refine (va_up_ne _ _ (by first | assumption | exact hA.ne (by decide) | exact hA.ne (by omega))).trans ?_)); done)) (k_X9_nameFrom ob1 hi1 hB (b := 0) (m0 := yIn Y) (by omega)) rfl (by first | decide | exact Nat.le_of_ble_eq_true rfl) ⟨by decide, by decide, by decide, by decide⟩ (fun _ _ h => False.elim h) (fun v M' hp => ?_)
    obtain ⟨v18, rfl, rfl, c18⟩ := hp
    refine z_istore_n C dX9_addReader_21 (by decide) ?_
    refine z_aload_n C dX9_addReader_22 rfl ?_
    refine z_iload_n C dX9_addReader_23 rfl ?_
    refine z_iconst C dX9_addReader_24 ?_
    refine z_icmp_neZ (tgt := 32) C dX9_addReader_25 (by decide) (by omega) (by omega) (fun h25 => ?_) (fun h25 => ?_)
    · refine z_iconst C dX9_addReader_32 ?_
      refine z_iconst C dX9_addReader_33 ?_
      refine z_callV C dX9_addReader_34 lk_X9_189 mw_X9_refuses mi_X9_refuses ms_X9_refuses rfl (by first | assumption | ((repeat (first | assumption | exact va_up_self _ _ _ | refine (va_up_ne _ _ (by first | assumption | exact hA.ne (by decide) | exact hA.ne (by omega))).trans ?_)); done)) (k_X9_refuses hA ob1 (r := 0) (w := 1) (by omega) (by omega) (by omega)) rfl (by first | decide | exact Nat.le_of_ble_eq_true rfl) ⟨by decide, by decide, by decide, by decide⟩ (fun _ _ h => False.elim h) (fun v M' hp => ?_)
      obtain ⟨r2, F2, rfl, f2, ob2, p2, e2, z2⟩ := hp
      have s2 := z2.rng
      have cf2 := cf1.tr (K := [0]) f2 ⟨rfl, rfl⟩
      have cp2 := cp1.tr (K := [8]) p2 ⟨rfl, rfl⟩
      have hM2 := cf2.at hA (.of rfl) hM
      refine z_if_neZ (tgt := 75) C dX9_addReader_37 (by decide) (by omega) (fun h37 => ?_) (fun h37 => ?_)
      · exact absurd (by rw [if_neg (by omega), e1]) (z2.t h37)
      · rw [if_neg (by omega), e1] at e2
        have good : mNv f (yIn Y) 0 (yIn Y) ∧ v18 = mNf (fun j => hAt f (yIn Y) (0 + j)) (yIn Y) 4 ∧ 0 ≤ v18 ∧ v18 ≤ 531440 := by
          rcases c18 with c | ⟨-, c⟩
          · exact c
          · exact absurd c h25
        obtain ⟨c1, c2, c3⟩ := good
        have hz := zNo_v hY c1
        rw [← c2, Int.zero_add, zNo_fe hfe] at hz
        have hzr := zNo_rng hY (yIf Y) (yIn Y) 0 (yIn Y)
        have hzt := zNT_iff hY (f := yIf Y) (n := yIn Y)
        refine z_aload_n C dX9_addReader_40 rfl ?_
        refine z_aload_n C dX9_addReader_41 rfl ?_
        refine z_get C dX9_addReader_42 fl_X9_7 (by first | assumption | ((repeat (first | assumption | exact va_up_self _ _ _ | refine (va_up_ne _ _ (by first | assumption | exact hA.ne (by decide) | exact hA.ne (by omega))).trans ?_)); done)) rfl ?_
        refine z_iconst C dX9_addReader_45 ?_
        refine z_aldN C dX9_addReader_46 (by first | assumption | ((repeat (first | assumption | exact va_up_self _ _ _ | refine (va_up_ne _ _ (by first | assumption | exact hA.ne (by decide) | exact hA.ne (by omega))).trans ?_)); done)) (by omega) (by omega) (by assumption) (fun hr46 => ?_)
        rw [hg2]
        refine z_iconst C dX9_addReader_47 ?_
        refine z_icmp_eqZ (tgt := 63) C dX9_addReader_48 (by decide) (by omega) (by omega) (fun h48 => ?_) (fun h48 => ?_)
        · refine z_iconst C dX9_addReader_63 ?_
          refine z_goto (tgt := 68) C dX9_addReader_64 (by decide) ?_
          refine z_iconst C dX9_addReader_68 ?_
          refine z_callV C dX9_addReader_69 lk_X9_189 mw_X9_refuses mi_X9_refuses ms_X9_refuses rfl (by first | assumption | ((repeat (first | assumption | exact va_up_self _ _ _ | refine (va_up_ne _ _ (by first | assumption | exact hA.ne (by decide) | exact hA.ne (by omega))).trans ?_)); done)) (k_X9_refuses hA ob2 (r := 1) (w := 2) (by omega) (by omega) (by omega)) rfl (by first | decide | exact Nat.le_of_ble_eq_true rfl) ⟨by decide, by decide, by decide, by decide⟩ (fun _ _ h => False.elim h) (fun v M' hp => ?_)
          obtain ⟨r3, F3, rfl, f3, ob3, p3, e3, z3⟩ := hp
          have s3 := z3.rng
          have cf3 := cf2.tr (K := [0]) f3 ⟨rfl, rfl⟩
          have cp3 := cp2.tr (K := [8]) p3 ⟨rfl, rfl⟩
          refine z_if_eqZ (tgt := 77) C dX9_addReader_72 (by decide) (by omega) (fun h72 => ?_) (fun h72 => ?_)
          · exact absurd (by rw [if_pos ⟨e2, by decide⟩]; decide) (z3.f h72)
          · refine z_iconst C dX9_addReader_75 ?_
            refine z_iret C hQ dX9_addReader_76 rfl (by decide) (by decide) ?_
            exact mAnsY.no hA hF cf3 ob3 cp3 e3 (z3.t h72) (by rw [q_addReader, zq1_t t2, zq1_t (hnv.mp c1), mq2_f (by omega), if_pos ⟨e2, by decide⟩])
        · refine z_aload_n C dX9_addReader_51 rfl ?_
          refine z_get C dX9_addReader_52 fl_X9_7 (by first | assumption | ((repeat (first | assumption | exact va_up_self _ _ _ | refine (va_up_ne _ _ (by first | assumption | exact hA.ne (by decide) | exact hA.ne (by omega))).trans ?_)); done)) rfl ?_
          refine z_iload_n C dX9_addReader_55 rfl ?_
          refine z_callS C dX9_addReader_56 lk_X9_240 mw_X9_named mst_X9_named (k_X9_named hM2 hS hY (v := v18) (by omega)) rfl (by first | decide | exact Nat.le_of_ble_eq_true rfl) ⟨by decide, by decide, by decide, by decide⟩ (fun _ _ h => False.elim h) (fun v M' hp => ?_)
          obtain ⟨rfl, rfl⟩ := hp
          rw [hz]
          refine z_iconst C dX9_addReader_59 ?_
          refine z_icmp_eqZ (tgt := 67) C dX9_addReader_60 (by decide) (by omega) (by omega) (fun h60 => ?_) (fun h60 => ?_)
          · refine z_iconst C dX9_addReader_67 ?_
            refine z_iconst C dX9_addReader_68 ?_
            refine z_callV C dX9_addReader_69 lk_X9_189 mw_X9_refuses mi_X9_refuses ms_X9_refuses rfl (by first | assumption | ((repeat (first | assumption | exact va_up_self _ _ _ | refine (va_up_ne _ _ (by first | assumption | exact hA.ne (by decide) | exact hA.ne (by omega))).trans ?_)); done)) (k_X9_refuses hA ob2 (r := 0) (w := 2) (by omega) (by omega) (by omega)) rfl (by first | decide | exact Nat.le_of_ble_eq_true rfl) ⟨by decide, by decide, by decide, by decide⟩ (fun _ _ h => False.elim h) (fun v M' hp => ?_)
            obtain ⟨r3, F3, rfl, f3, ob3, p3, e3, z3⟩ := hp
            have s3 := z3.rng
            have cf3 := cf2.tr (K := [0]) f3 ⟨rfl, rfl⟩
            have cp3 := cp2.tr (K := [8]) p3 ⟨rfl, rfl⟩
            refine z_if_eqZ (tgt := 77) C dX9_addReader_72 (by decide) (by omega) (fun h72 => ?_) (fun h72 => ?_)
            · rw [if_neg (by omega), e2] at e3
              have hF1 := hF.q0 hA cf3 ob3 cp3 rfl
              refine z_aload_n C dX9_addReader_77 rfl ?_
              refine z_callV C dX9_addReader_78 lk_X9_286 mw_X9_remember mi_X9_remember ms_X9_remember rfl (by first | assumption | ((repeat (first | assumption | exact va_up_self _ _ _ | refine (va_up_ne _ _ (by first | assumption | exact hA.ne (by decide) | exact hA.ne (by omega))).trans ?_)); done)) (k_X9_remember hA hF1 hYk) rfl (by first | decide | exact Nat.le_of_ble_eq_true rfl) ⟨by decide, by decide, by decide, by decide⟩ (fun _ _ h => False.elim h) (fun v M' hp => ?_)
              obtain ⟨rfl, fr, Fr, pr, hFr⟩ := hp
              have orr := hFr.1.1
              obtain ⟨gr, hMr, hSr0⟩ := hFr.2.2.2.2.2.2.1
              have hSr : mSt gr (yS Y) := hSr0
              have hgr := hSr.1
              have er8 : Fr 8 = 0 := (pr 8 (by decide)).trans e3
              have crr := cf3.tr (K := [0, 4]) fr ⟨rfl, rfl⟩
              obtain ⟨hnr, frr, hIr, hBr, hifr⟩ := hFr.2.2.2.2.1
              refine z_aload_n C dX9_addReader_81 rfl ?_
              refine z_iconst C dX9_addReader_82 ?_
              refine z_putM C dX9_addReader_83 fl_X9_68 (by first | assumption | ((repeat (first | assumption | exact va_up_self _ _ _ | refine (va_up_ne _ _ (by first | assumption | exact hA.ne (by decide) | exact hA.ne (by omega))).trans ?_)); done)) rfl ?_
              refine z_aload_n C dX9_addReader_86 rfl ?_
              refine z_get C dX9_addReader_87 fl_X9_7 (by first | assumption | ((repeat (first | assumption | exact va_up_self _ _ _ | refine (va_up_ne _ _ (by first | assumption | exact hA.ne (by decide) | exact hA.ne (by omega))).trans ?_)); done)) rfl ?_
              refine z_iload_n C dX9_addReader_90 rfl ?_
              refine z_iload_n C dX9_addReader_91 rfl ?_
              refine z_callS C dX9_addReader_92 lk_X9_256 mw_X9_layReader mst_X9_layReader (k_X9_layReader (by rw [va_up_ne _ _ (hA.ne (by decide))]; exact hMr) hSr hY (by omega) c3 (me := mm) (by omega) (R0 := rNew (yIf Y) (yIn Y) 0 (yIn Y) mm) (by rw [c2, hfe]; show mNf (fun j => hAt (yIf Y) (yIn Y) (0 + (j : Int))) (yIn Y - 0) 4 = _; rw [Int.sub_zero]) rfl rfl rfl rfl) rfl (by first | decide | exact Nat.le_of_ble_eq_true rfl) ⟨by decide, by decide, by decide, by decide⟩ (fun _ _ h => False.elim h) (fun v M' hp => ?_)
              obtain ⟨rfl, fu, gu, hu, hSu⟩ := hp
              have fu2 : mF A _ _ [1] := fu
              refine z_iret C hQ dX9_addReader_95 rfl (by decide) (by decide) ?_
              have hFi := hFr.inp (F' := va_up Fr 19 0) (n' := 0) (k := yIf Y) (f' := frr) hA ((mF.one (i := 0) (x := some (mOb A (va_up Fr 19 0)))).mo rfl) (va_up_self _ _ _) ((mKp.rf (K := [8, 19])).up rfl) (va_up_self _ _ _) (by rw [va_up_ne _ _ (hA.ne (by decide))]; exact hIr) ⟨(show (0 : Int) ≤ 0 ∧ (0 : Int) ≤ 500 from ⟨by decide, by decide⟩), hBr.2.1, fun j hj => absurd (show (j : Int) < 0 from hj) (by omega)⟩ (fun j hj => absurd (show (j : Int) < 0 from hj) (by omega))
              have hFu := hFi.set hA fu2 hu hSu
              exact mAnsY.ok hA hFu (((crr.up (i := 0) rfl).tr (K := [0, 4, 1]) fu2 ⟨rfl, rfl⟩).mo rfl) ((va_up_ne _ _ (by decide)).trans er8) (by rw [q_addReader, zq1_t t2, zq1_t (hnv.mp c1), mq2_t ⟨by omega, fun w => hzt.mp w h60⟩]) rfl
            · exact absurd (by rw [if_neg (by omega), e2]) (z3.t h72)
          · refine z_iconst C dX9_addReader_63 ?_
            refine z_goto (tgt := 68) C dX9_addReader_64 (by decide) ?_
            refine z_iconst C dX9_addReader_68 ?_
            refine z_callV C dX9_addReader_69 lk_X9_189 mw_X9_refuses mi_X9_refuses ms_X9_refuses rfl (by first | assumption | ((repeat (first | assumption | exact va_up_self _ _ _ | refine (va_up_ne _ _ (by first | assumption | exact hA.ne (by decide) | exact hA.ne (by omega))).trans ?_)); done)) (k_X9_refuses hA ob2 (r := 1) (w := 2) (by omega) (by omega) (by omega)) rfl (by first | decide | exact Nat.le_of_ble_eq_true rfl) ⟨by decide, by decide, by decide, by decide⟩ (fun _ _ h => False.elim h) (fun v M' hp => ?_)
            obtain ⟨r3, F3, rfl, f3, ob3, p3, e3, z3⟩ := hp
            have s3 := z3.rng
            have cf3 := cf2.tr (K := [0]) f3 ⟨rfl, rfl⟩
            have cp3 := cp2.tr (K := [8]) p3 ⟨rfl, rfl⟩
            refine z_if_eqZ (tgt := 77) C dX9_addReader_72 (by decide) (by omega) (fun h72 => ?_) (fun h72 => ?_)
            · exact absurd (by rw [if_pos ⟨e2, by decide⟩]; decide) (z3.f h72)
            · refine z_iconst C dX9_addReader_75 ?_
              refine z_iret C hQ dX9_addReader_76 rfl (by decide) (by decide) ?_
              exact mAnsY.no hA hF cf3 ob3 cp3 e3 (z3.t h72) (by rw [q_addReader, zq1_t t2, zq1_t (hnv.mp c1), mq2_f (fun w => w.2 (hzt.mpr h60)), if_pos ⟨e2, by decide⟩])
    · refine z_iconst C dX9_addReader_28 ?_
      refine z_goto (tgt := 33) C dX9_addReader_29 (by decide) ?_
      refine z_iconst C dX9_addReader_33 ?_
      refine z_callV C dX9_addReader_34 lk_X9_189 mw_X9_refuses mi_X9_refuses ms_X9_refuses rfl (by first | assumption | ((repeat (first | assumption | exact va_up_self _ _ _ | refine (va_up_ne _ _ (by first | assumption | exact hA.ne (by decide) | exact hA.ne (by omega))).trans ?_)); done)) (k_X9_refuses hA ob1 (r := 1) (w := 1) (by omega) (by omega) (by omega)) rfl (by first | decide | exact Nat.le_of_ble_eq_true rfl) ⟨by decide, by decide, by decide, by decide⟩ (fun _ _ h => False.elim h) (fun v M' hp => ?_)
      obtain ⟨r2, F2, rfl, f2, ob2, p2, e2, z2⟩ := hp
      have s2 := z2.rng
      have cf2 := cf1.tr (K := [0]) f2 ⟨rfl, rfl⟩
      have cp2 := cp1.tr (K := [8]) p2 ⟨rfl, rfl⟩
      have hM2 := cf2.at hA (.of rfl) hM
      refine z_if_neZ (tgt := 75) C dX9_addReader_37 (by decide) (by omega) (fun h37 => ?_) (fun h37 => ?_)
      · refine z_iconst C dX9_addReader_75 ?_
        refine z_iret C hQ dX9_addReader_76 rfl (by decide) (by decide) ?_
        exact mAnsY.no hA hF cf2 ob2 cp2 e2 (z2.t h37) (by rw [q_addReader, zq1_t t2, zq1_f (fun w => by rcases c18 with c | ⟨c, -⟩; omega; exact c (hnv.mpr w)), if_pos ⟨e1, by decide⟩])
      · exact absurd (by rw [if_pos ⟨e1, by decide⟩]; decide) (z2.f h37)
  · refine z_iconst C dX9_addReader_10 ?_
    refine z_iret C hQ dX9_addReader_11 rfl (by decide) (by decide) ?_
    exact mAnsY.no hA hF cf1 ob1 cp1 e1 (z1.t h7) (by rw [q_addReader, zq1_f (fun w => z1.t h7 (by rw [if_pos w])), if_neg (fun w => z1.t h7 (by rw [if_pos w]))])
set_option maxHeartbeats 4000000 in
set_option maxRecDepth 100000 in
theorem m_addDocument {l : Launch} {γ : zG} {M : zM} {A : Nat → Nat} {Y : zSys} {t0 : Int} (hMo0 : hMo γ M A Y t0) (hYk : yOk Y) :
    zCon l γ yX9_addDocument cX9_addDocument 2 (some .int) [.ref (A 0)] M 10 330 0 0 (mAnsY γ A M Y (y_addDocument Y) (q_addDocument Y)) (fun _ _ => False) := by
  obtain ⟨hA, F, h8, hF⟩ := hMo0
  obtain ⟨hsc, hec, hun, hsl, hinp, hou, ⟨g, hM, hS⟩, hrs⟩ := id hF
  have hO := hsc.1
  have hg := hS.1
  have hY := hYk.1
  have o1 := hY.1
  refine zEnter [some (.ref (A 0)), none] (by decide +kernel) rfl rfl (Nat.le_of_ble_eq_true rfl) ?_
  intro p e s m args below meth c Q C hin hQ
  obtain ⟨hn19, f, hI, hB, hif⟩ := hinp
  have bb := hB.1
  have hfe := hAt_fe hif
  have hdv : ((1 ≤ yIn Y ∧ yIn Y ≤ 40) ∧ hDm f (yIn Y) 0 (yIn Y)) ↔ (0 < yIn Y ∧ yIn Y - 0 ≤ 40 ∧ hDm (yIf Y) (yIn Y) 0 (yIn Y)) := by
    rw [hDm_fe hfe]
    constructor
    · rintro ⟨a, b⟩
      exact ⟨by omega, by omega, b⟩
    · rintro ⟨a, b, c⟩
      exact ⟨by omega, c⟩
  have hO1 : va_up M (A 0) (some (mOb A (va_up F 8 0))) (A 0) = some (mOb A (va_up F 8 0)) := va_up_self _ _ _
  have h81 : va_up F 8 0 8 = 0 := va_up_self _ _ _
  have c0 : mF A M (va_up M (A 0) (some (mOb A (va_up F 8 0)))) [0] := mF.rf.up rfl
  have k0 : mKp [8] F (va_up F 8 0) := mKp.rf.up rfl
  have hI1 := c0.at hA (.of rfl) hI
  have n1 : va_up F 8 0 19 = yIn Y := (va_up_ne _ _ (by decide)).trans hn19
  refine z_aload_n C dX9_addDocument_0 rfl ?_
  refine z_iconst C dX9_addDocument_1 ?_
  refine z_putM C dX9_addDocument_2 fl_X9_85 (by first | assumption | ((repeat (first | assumption | exact va_up_self _ _ _ | refine (va_up_ne _ _ (by first | assumption | exact hA.ne (by decide) | exact hA.ne (by omega))).trans ?_)); done)) rfl ?_
  refine z_aload_n C dX9_addDocument_5 rfl ?_
  refine z_aload_n C dX9_addDocument_6 rfl ?_
  refine z_callV C dX9_addDocument_7 lk_X9_360 mw_X9_isDocument mi_X9_isDocument ms_X9_isDocument rfl (by first | assumption | ((repeat (first | assumption | exact va_up_self _ _ _ | refine (va_up_ne _ _ (by first | assumption | exact hA.ne (by decide) | exact hA.ne (by omega))).trans ?_)); done)) (k_X9_isDocument hO1 hI1 n1 hB) rfl (by first | decide | exact Nat.le_of_ble_eq_true rfl) ⟨by decide, by decide, by decide, by decide⟩ (fun _ _ h => False.elim h) (fun v M' hp => ?_)
  obtain ⟨r0, rfl, rfl, z0⟩ := hp
  have s0 := z0.rng
  refine z_if_neZ (tgt := 17) C dX9_addDocument_10 (by decide) (by omega) (fun h10 => ?_) (fun h10 => ?_)
  · refine z_iconst C dX9_addDocument_17 ?_
    refine z_iconst C dX9_addDocument_18 ?_
    refine z_callV C dX9_addDocument_19 lk_X9_189 mw_X9_refuses mi_X9_refuses ms_X9_refuses rfl (by first | assumption | ((repeat (first | assumption | exact va_up_self _ _ _ | refine (va_up_ne _ _ (by first | assumption | exact hA.ne (by decide) | exact hA.ne (by omega))).trans ?_)); done)) (k_X9_refuses hA hO1 (r := 0) (w := 1) (by omega) (by omega) (by omega)) rfl (by first | decide | exact Nat.le_of_ble_eq_true rfl) ⟨by decide, by decide, by decide, by decide⟩ (fun _ _ h => False.elim h) (fun v M' hp => ?_)
    obtain ⟨r1, F1, rfl, f1, ob1, p1, e1, z1⟩ := hp
    have s1 := z1.rng
    have cf1 := c0.tr (K := [0]) f1 ⟨rfl, rfl⟩
    have cp1 := k0.tr (K := [8]) p1 ⟨rfl, rfl⟩
    have hM1 := cf1.at hA (.of rfl) hM
    refine z_if_neZ (tgt := 49) C dX9_addDocument_22 (by decide) (by omega) (fun h22 => ?_) (fun h22 => ?_)
    · exact absurd (by rw [if_neg (by omega), h81]) (z1.t h22)
    · rw [if_neg (by omega), h81] at e1
      have hd := hdv.mp (z0.t h10)
      refine z_aload_n C dX9_addDocument_25 rfl ?_
      refine z_aload_n C dX9_addDocument_26 rfl ?_
      refine z_get C dX9_addDocument_27 fl_X9_7 (by first | assumption | ((repeat (first | assumption | exact va_up_self _ _ _ | refine (va_up_ne _ _ (by first | assumption | exact hA.ne (by decide) | exact hA.ne (by omega))).trans ?_)); done)) rfl ?_
      refine z_iconst C dX9_addDocument_30 ?_
      refine z_aldN C dX9_addDocument_31 (by first | assumption | ((repeat (first | assumption | exact va_up_self _ _ _ | refine (va_up_ne _ _ (by first | assumption | exact hA.ne (by decide) | exact hA.ne (by omega))).trans ?_)); done)) (by omega) (by omega) (by assumption) (fun hr31 => ?_)
      rw [show g (1 : Int).toNat = sDn (yS Y) from hS.2.2.1]
      refine z_bipush C dX9_addDocument_32 (by decide) ?_
      refine z_icmp_neZ (tgt := 41) C dX9_addDocument_34 (by decide) (by omega) (by omega) (fun h34 => ?_) (fun h34 => ?_)
      · refine z_iconst C dX9_addDocument_41 ?_
        refine z_iconst C dX9_addDocument_42 ?_
        refine z_callV C dX9_addDocument_43 lk_X9_189 mw_X9_refuses mi_X9_refuses ms_X9_refuses rfl (by first | assumption | ((repeat (first | assumption | exact va_up_self _ _ _ | refine (va_up_ne _ _ (by first | assumption | exact hA.ne (by decide) | exact hA.ne (by omega))).trans ?_)); done)) (k_X9_refuses hA ob1 (r := 0) (w := 2) (by omega) (by omega) (by omega)) rfl (by first | decide | exact Nat.le_of_ble_eq_true rfl) ⟨by decide, by decide, by decide, by decide⟩ (fun _ _ h => False.elim h) (fun v M' hp => ?_)
        obtain ⟨r2, F2, rfl, f2, ob2, p2, e2, z2⟩ := hp
        have s2 := z2.rng
        have cf2 := cf1.tr (K := [0]) f2 ⟨rfl, rfl⟩
        have cp2 := cp1.tr (K := [8]) p2 ⟨rfl, rfl⟩
        refine z_if_eqZ (tgt := 51) C dX9_addDocument_46 (by decide) (by omega) (fun h46 => ?_) (fun h46 => ?_)
        · rw [if_neg (by omega), e1] at e2
          have hF1 := hF.q0 hA cf2 ob2 cp2 rfl
          refine z_aload_n C dX9_addDocument_51 rfl ?_
          refine z_callV C dX9_addDocument_52 lk_X9_286 mw_X9_remember mi_X9_remember ms_X9_remember rfl (by first | assumption | ((repeat (first | assumption | exact va_up_self _ _ _ | refine (va_up_ne _ _ (by first | assumption | exact hA.ne (by decide) | exact hA.ne (by omega))).trans ?_)); done)) (k_X9_remember hA hF1 hYk) rfl (by first | decide | exact Nat.le_of_ble_eq_true rfl) ⟨by decide, by decide, by decide, by decide⟩ (fun _ _ h => False.elim h) (fun v M' hp => ?_)
          obtain ⟨rfl, fr, Fr, pr, hFr⟩ := hp
          have orr := hFr.1.1
          obtain ⟨gr, hMr, hSr0⟩ := hFr.2.2.2.2.2.2.1
          have hSr : mSt gr (yS Y) := hSr0
          have hgr := hSr.1
          have er8 : Fr 8 = 0 := (pr 8 (by decide)).trans e2
          have crr := cf2.tr (K := [0, 4]) fr ⟨rfl, rfl⟩
          obtain ⟨hnr, frr, hIr, hBr, hifr⟩ := hFr.2.2.2.2.1
          have hnr : Fr 19 = yIn Y := hnr
          have hBr : hBo frr (yIn Y) := hBr
          refine z_aload_n C dX9_addDocument_55 rfl ?_
          refine z_aload_n C dX9_addDocument_56 rfl ?_
          refine z_get C dX9_addDocument_57 fl_X9_7 (by first | assumption | ((repeat (first | assumption | exact va_up_self _ _ _ | refine (va_up_ne _ _ (by first | assumption | exact hA.ne (by decide) | exact hA.ne (by omega))).trans ?_)); done)) rfl ?_
          refine z_iconst C dX9_addDocument_60 ?_
          refine z_aload_n C dX9_addDocument_61 rfl ?_
          refine z_getM C dX9_addDocument_62 fl_X9_68 (by first | assumption | ((repeat (first | assumption | exact va_up_self _ _ _ | refine (va_up_ne _ _ (by first | assumption | exact hA.ne (by decide) | exact hA.ne (by omega))).trans ?_)); done)) rfl hnr ?_
          refine z_callV C dX9_addDocument_65 lk_X9_259 mw_X9_layDocument mi_X9_layDocument ms_X9_layDocument rfl (by first | assumption | ((repeat (first | assumption | exact va_up_self _ _ _ | refine (va_up_ne _ _ (by first | assumption | exact hA.ne (by decide) | exact hA.ne (by omega))).trans ?_)); done)) (k_X9_layDocument hA orr hIr hBr (kq := 1) (.inl rfl) hMr hSr hY (by omega) (b := 0) (m0 := yIn Y) (by omega) (by omega)) rfl (by first | decide | exact Nat.le_of_ble_eq_true rfl) ⟨by decide, by decide, by decide, by decide⟩ (fun _ _ h => False.elim h) (fun v M' hp => ?_)
          obtain ⟨rfl, fu, gu, hu, hSu⟩ := hp
          rw [Int.zero_add, dNew_cg (show hAt frr (yIn Y) = hAt (yIf Y) (yIn Y) from hAt_fe hifr)] at hSu
          have fu2 : mF A _ _ [1] := fu
          have hFu := hFr.set hA fu2 hu hSu
          have oru := hFu.1.1
          refine z_istore_n C dX9_addDocument_68 (by decide) ?_
          refine z_aload_n C dX9_addDocument_69 rfl ?_
          refine z_iconst C dX9_addDocument_70 ?_
          refine z_putM C dX9_addDocument_71 fl_X9_68 (by first | assumption | ((repeat (first | assumption | exact va_up_self _ _ _ | refine (va_up_ne _ _ (by first | assumption | exact hA.ne (by decide) | exact hA.ne (by omega))).trans ?_)); done)) rfl ?_
          refine z_iload_n C dX9_addDocument_74 rfl ?_
          refine z_iret C hQ dX9_addDocument_75 rfl (by decide) (by decide) ?_
          have hFi := hFu.inp (F' := va_up Fr 19 0) (n' := 0) (k := yIf Y) (f' := frr) hA ((mF.one (i := 0) (x := some (mOb A (va_up Fr 19 0)))).mo rfl) (va_up_self _ _ _) ((mKp.rf (K := [8, 19])).up rfl) (va_up_self _ _ _) (by rw [va_up_ne _ _ (hA.ne (by decide))]; exact fu2.at hA (.of rfl) hIr) ⟨(show (0 : Int) ≤ 0 ∧ (0 : Int) ≤ 500 from ⟨by decide, by decide⟩), hBr.2.1, fun j hj => absurd (show (j : Int) < 0 from hj) (by omega)⟩ (fun j hj => absurd (show (j : Int) < 0 from hj) (by omega))
          exact mAnsY.ok hA hFi (((crr.tr (K := [0, 4, 1]) fu2 ⟨rfl, rfl⟩).up (i := 0) rfl).mo rfl) ((va_up_ne _ _ (by decide)).trans er8) (by rw [q_addDocument, zq1_t hd, mq2_t (by omega)]) rfl
        · exact absurd (by rw [if_neg (by omega), e1]) (z2.t h46)
      · refine z_iconst C dX9_addDocument_37 ?_
        refine z_goto (tgt := 42) C dX9_addDocument_38 (by decide) ?_
        refine z_iconst C dX9_addDocument_42 ?_
        refine z_callV C dX9_addDocument_43 lk_X9_189 mw_X9_refuses mi_X9_refuses ms_X9_refuses rfl (by first | assumption | ((repeat (first | assumption | exact va_up_self _ _ _ | refine (va_up_ne _ _ (by first | assumption | exact hA.ne (by decide) | exact hA.ne (by omega))).trans ?_)); done)) (k_X9_refuses hA ob1 (r := 1) (w := 2) (by omega) (by omega) (by omega)) rfl (by first | decide | exact Nat.le_of_ble_eq_true rfl) ⟨by decide, by decide, by decide, by decide⟩ (fun _ _ h => False.elim h) (fun v M' hp => ?_)
        obtain ⟨r2, F2, rfl, f2, ob2, p2, e2, z2⟩ := hp
        have s2 := z2.rng
        have cf2 := cf1.tr (K := [0]) f2 ⟨rfl, rfl⟩
        have cp2 := cp1.tr (K := [8]) p2 ⟨rfl, rfl⟩
        refine z_if_eqZ (tgt := 51) C dX9_addDocument_46 (by decide) (by omega) (fun h46 => ?_) (fun h46 => ?_)
        · exact absurd (by rw [if_pos ⟨e1, by decide⟩]; decide) (z2.f h46)
        · refine z_iconst C dX9_addDocument_49 ?_
          refine z_iret C hQ dX9_addDocument_50 rfl (by decide) (by decide) ?_
          exact mAnsY.no hA hF cf2 ob2 cp2 e2 (z2.t h46) (by rw [q_addDocument, zq1_t hd, mq2_f (by omega), if_pos ⟨e1, by decide⟩])
  · refine z_iconst C dX9_addDocument_13 ?_
    refine z_goto (tgt := 18) C dX9_addDocument_14 (by decide) ?_
    refine z_iconst C dX9_addDocument_18 ?_
    refine z_callV C dX9_addDocument_19 lk_X9_189 mw_X9_refuses mi_X9_refuses ms_X9_refuses rfl (by first | assumption | ((repeat (first | assumption | exact va_up_self _ _ _ | refine (va_up_ne _ _ (by first | assumption | exact hA.ne (by decide) | exact hA.ne (by omega))).trans ?_)); done)) (k_X9_refuses hA hO1 (r := 1) (w := 1) (by omega) (by omega) (by omega)) rfl (by first | decide | exact Nat.le_of_ble_eq_true rfl) ⟨by decide, by decide, by decide, by decide⟩ (fun _ _ h => False.elim h) (fun v M' hp => ?_)
    obtain ⟨r1, F1, rfl, f1, ob1, p1, e1, z1⟩ := hp
    have s1 := z1.rng
    have cf1 := c0.tr (K := [0]) f1 ⟨rfl, rfl⟩
    have cp1 := k0.tr (K := [8]) p1 ⟨rfl, rfl⟩
    have hM1 := cf1.at hA (.of rfl) hM
    refine z_if_neZ (tgt := 49) C dX9_addDocument_22 (by decide) (by omega) (fun h22 => ?_) (fun h22 => ?_)
    · refine z_iconst C dX9_addDocument_49 ?_
      refine z_iret C hQ dX9_addDocument_50 rfl (by decide) (by decide) ?_
      exact mAnsY.no hA hF cf1 ob1 cp1 e1 (z1.t h22) (by rw [q_addDocument, zq1_f (fun w => z0.f h10 (hdv.mpr w)), if_pos ⟨h81, by decide⟩])
    · exact absurd (by rw [if_pos ⟨h81, by decide⟩]; decide) (z1.f h22)

