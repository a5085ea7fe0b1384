/-! the model's output: symbols from ranks -/
theorem hMf.n14 {γ : zG} {A : Nat → Nat} {M M' : zM} {F g' : Nat → Int} {Y : zSys} (hA : mIA A) (h : hMf γ M A F Y) (f : mF A M M' [14]) (h14 : M' (A 14) = some (zar γ 40 g')) (hg : ∀ j, zR (g' j)) : hMf γ M' A F Y := by
  obtain ⟨⟨a, a1, a2⟩, ⟨b, b1, b2⟩, ⟨c, c1⟩, ⟨d, d1⟩, -⟩ := h.2.2.2.2.2.2.2
  exact h.q hA f rfl mKp.rf (K' := []) rfl (h.1.fr hA f (.of rfl) (.of rfl) (.of rfl) (.of rfl)) ⟨⟨a, f.at hA (.of rfl) a1, a2⟩, ⟨b, f.at hA (.of rfl) b1, b2⟩, ⟨c, f.at hA (.of rfl) c1⟩, ⟨d, f.at hA (.of rfl) d1⟩, g', h14, hg⟩
theorem mAnsY.no2 {γ : zG} {A : Nat → Nat} {M M' : zM} {F' : Nat → Int} {Y Y' : zSys} {q : Int × Int} {th b : Int} (hA : mIA A) (hF : hMf γ M' A F' Y) (f : mAll A M M') (e : F' 8 = th) (hn : th ≠ 0) (hq : q.1 = th) : mAnsY γ A M Y Y' q (some (.int (zi b))) M' := ⟨b, rfl, f, fun w => absurd (hq.symm.trans w) hn, fun _ => ⟨hA, F', e.trans hq.symm, hF⟩⟩
/-- i symbols are written -/
def mWr (γ : zG) (M : zM) (A : Nat → Nat) (F : Nat → Int) (c : Int → Int) (q : Nat → Int) (M1 : zM) (F1 h : Nat → Int) (i : Int) : Prop := mF A M M1 [0, 7, 8, 9, 13] ∧ mKp [10, 13, 29, 31, 32] F F1 ∧ mSc γ M1 A F1 ∧ F1 29 = i ∧ F1 31 = (zwb c q i.toNat).1 ∧ F1 32 = (zwb c q i.toNat).2 ∧ M1 (A 13) = some (zab γ 200 h) ∧ (∀ j : Nat, j < i → h j = zwo c q j) ∧ (-1 ≤ (zwb c q i.toNat).1 ∧ (zwb c q i.toNat).1 < 27) ∧ (-1 ≤ (zwb c q i.toNat).2 ∧ (zwb c q i.toNat).2 < 27) ∧ ((zwb c q i.toNat).1 ≠ -1 → (zwb c q i.toNat).2 ≠ -1)
theorem mWr.st {γ : zG} {M M1 M' : zM} {A : Nat → Nat} {F F1 F' h q : Nat → Int} {c : Int → Int} {i k : Int} (w : mWr γ M A F c q M1 F1 h i) (hi : 0 ≤ i) (hk : k = q i.toNat) (gr : 0 ≤ zgs c (zwb c q i.toNat).1 (zwb c q i.toNat).2 k ∧ zgs c (zwb c q i.toNat).1 (zwb c q i.toNat).2 k < 27) (f : mF A M1 M' [0, 7, 8, 9, 13]) (kp : mKp [10, 13, 29, 31, 32] F1 F') (sc : mSc γ M' A F') (e29 : F' 29 = i + 1) (e31 : F' 31 = (zwb c q i.toNat).2) (e32 : F' 32 = zgs c (zwb c q i.toNat).1 (zwb c q i.toNat).2 k) (h13 : M' (A 13) = some (zab γ 200 (va_up h i.toNat (zbc (zgs c (zwb c q i.toNat).1 (zwb c q i.toNat).2 k))))) : mWr γ M A F c q M' F' (va_up h i.toNat (zbc (zgs c (zwb c q i.toNat).1 (zwb c q i.toNat).2 k))) (i + 1) := by
  obtain ⟨a, b, -, -, -, -, -, o, r1, r2, r3⟩ := w
  have z : zwb c q (i + 1).toNat = ((zwb c q i.toNat).2, zgs c (zwb c q i.toNat).1 (zwb c q i.toNat).2 k) := by
    rw [show (i + 1).toNat = i.toNat + 1 by omega, zwb, hk]
  refine ⟨a.tr (K := [0, 7, 8, 9, 13]) f ⟨rfl, rfl⟩, b.tr (K := [10, 13, 29, 31, 32]) kp ⟨rfl, rfl⟩, sc, e29, by rw [z]; exact e31, by rw [z]; exact e32, h13, fun j hj => ?_, by rw [z]; exact r2, by rw [z]; exact ⟨show -1 ≤ zgs c (zwb c q i.toNat).1 (zwb c q i.toNat).2 k by omega, gr.2⟩, by rw [z]; intro _; show zgs c (zwb c q i.toNat).1 (zwb c q i.toNat).2 k ≠ -1; omega⟩
  by_cases e : j = i.toNat
  · rw [e, va_up_self]
    unfold zwo
    rw [show i.toNat + 1 = (i + 1).toNat by omega, z]
  · rw [va_up_ne _ _ e]
    exact o j (by omega)
theorem mWr.bg {γ : zG} {M M' : zM} {A : Nat → Nat} {F F' h q : Nat → Int} {c : Int → Int} (hA : mIA A) (sc : mSc γ M A F) (f : mF A M M' [0]) (o : M' (A 0) = some (mOb A F')) (kp : mKp [29, 31, 32] F F') (e29 : F' 29 = 0) (e31 : F' 31 = -1) (e32 : F' 32 = -1) (h13 : M (A 13) = some (zab γ 200 h)) : mWr γ M A F c q M' F' h 0 := ⟨f.tr (K := [0, 7, 8, 9, 13]) (K2 := []) mF.rf ⟨rfl, rfl⟩, kp.tr (K := [10, 13, 29, 31, 32]) (K2 := []) mKp.rf ⟨rfl, rfl⟩, sc.ob hA f o, e29, e31, e32, f.at hA (.of rfl) h13, fun j hj => absurd hj (by omega), ⟨by show (-1 : Int) ≤ -1; decide, by show (-1 : Int) < 27; decide⟩, ⟨by show (-1 : Int) ≤ -1; decide, by show (-1 : Int) < 27; decide⟩, fun w => absurd rfl w⟩
set_option maxHeartbeats 4000000 in
set_option maxRecDepth 100000 in
theorem m_decode {l : Launch} {γ : zG} {M : zM} {A : Nat → Nat} {Y : zSys} {t0 : Int} {rr : Int} (hMo0 : hMo γ M A Y t0) (hYk : yOk Y) (r_rr : zR rr) :
    zCon l γ yX9_decode cX9_decode 4 (some .int) [.ref (A 0), .int (zi rr)] M 10 330 0 0 (mAnsY γ A M Y (y_decode Y rr) (q_decode Y rr)) (fun _ _ => False) := by
  obtain ⟨hA, F, h8, hF⟩ := hMo0
  obtain ⟨hsc, hec, hun, hsl, hinp, hou, ⟨g, hM, hS⟩, hrs⟩ := id hF
  have hO := hsc.1
  have hg := hS.1
  have hY := hYk.1
  have o1 := hY.1
  have z_rr := r_rr
  unfold zR at z_rr
  refine zEnter [some (.ref (A 0)), some (.int (zi rr)), none, none] (by decide +kernel) rfl rfl (Nat.le_of_ble_eq_true rfl) ?_
  intro p e s m args below meth c Q C hin hQ
  obtain ⟨hn19, f, hI, hB, hif⟩ := hinp
  have hzr : zrr f (yIn Y) = zrr (yIf Y) (yIn Y) := zrr_cg (hAt_fe hif)
  obtain ⟨-, -, -, -, gn, hGn, hgn⟩ := hrs
  obtain ⟨-, -, h0, hH0, -⟩ := hou
  have loop : ∀ (c1 : 0 ≤ rr ∧ rr < sRn (yS Y)) (M2 : zM) (F2 g2 : Nat → Int) (b : Int), mF A M M2 [0, 14] → hMf γ M2 A F2 Y → F2 8 = 0 → M2 (A 14) = some (zar γ 40 g2) → (∀ j, zR (g2 j)) → (1 ≤ b ∧ b ≤ 40) → b = (zrr (yIf Y) (yIn Y)).1 → (∀ j : Nat, j < b → g2 j = (zrr (yIf Y) (yIn Y)).2 j ∧ 1 ≤ g2 j ∧ g2 j ≤ 27) → ∀ (t : Nat) (M1 : zM) (F1 h : Nat → Int) (i : Int), b - i = t → 0 ≤ i ∧ i ≤ b → mWr γ M2 A F2 (rC (sRd (yS Y) rr.toNat)) (zrr (yIf Y) (yIn Y)).2 M1 F1 h i → zAW p l e { frames := 10, cells := 0, slots := 0, locals := 330 } s m args below meth c γ 4 Q M1 0 0 41 [some (.ref (A 0)), some (.int (zi rr)), some (.int (zi b)), some (.int (zi i))] [] := by
    intro c1 M2 F2 g2 b hf2 hF2 e82 h142 hg2 hb hbe hbg t
    obtain ⟨-, -, -, -, hinp2, -, ⟨gs, hMs, hSs⟩, -⟩ := id hF2
    obtain ⟨n2, fi2, hI2, hB2, hif2⟩ := hinp2
    have hg := hSs.1
    have hRs := (hSs.r c1).2.2.2.2
    have hG : ∀ x, x ∈ sG (yS Y) → 0 ≤ x ∧ x < 20439 := fun x hx => sG_rng hx
    have hc : zcR (rC (sRd (yS Y) rr.toNat)) := (hY.2.2 rr.toNat (by omega)).1.2.2.1
    have hL := hRs
    induction t with
    | zero =>
      intro M1 F1 h i ht hi wr
      obtain rfl : i = b := by omega
      obtain ⟨wf, wk, ws, w29, w31, w32, wh, wo, wb, wp, wv⟩ := id wr
      have hO1 := ws.1
      refine z_iload_n C dX9_decode_41 rfl ?_
      refine z_iload_n C dX9_decode_42 rfl ?_
      refine z_icmp_geZ (tgt := 63) C dX9_decode_43 (by decide) (by omega) (by omega) (fun h43 => ?_) (fun h43 => ?_)
      · refine z_aload_n C dX9_decode_63 rfl ?_
        refine z_iconst C dX9_decode_64 ?_
        refine z_putM C dX9_decode_65 fl_X9_68 (by first | assumption | ((repeat (first | assumption | exact va_up_self _ _ _ | refine (va_up_ne _ _ (by first | assumption | exact hA.ne (by decide) | exact hA.ne (by omega))).trans ?_)); done)) rfl ?_
        refine z_aload_n C dX9_decode_68 rfl ?_
        refine z_getM C dX9_decode_69 fl_X9_364 (by first | assumption | ((repeat (first | assumption | exact va_up_self _ _ _ | refine (va_up_ne _ _ (by first | assumption | exact hA.ne (by decide) | exact hA.ne (by omega))).trans ?_)); done)) rfl (by first | assumption | ((repeat (first | assumption | exact va_up_self _ _ _ | rewrite [va_up_ne _ _ (by decide)])); (first | done | exact rfl))) ?_
        refine z_iret C hQ dX9_decode_72 rfl (by decide) (by decide) ?_
        have fo := hF2.out hA wf (wk.tr (K := [8, 10, 13, 29, 31, 32]) (K2 := []) mKp.rf ⟨rfl, rfl⟩) ws w29 (by omega) wh wo
        have fi := fo.inp (F' := va_up F1 19 0) (n' := 0) (k := yIf Y) (f' := fi2) hA ((mF.one (i := 0) (x := some (mOb A (va_up F1 19 0)))).mo rfl) (va_up_self _ _ _) ((mKp.rf (K := [8, 19])).up rfl) (va_up_self _ _ _) (by rw [va_up_ne _ _ (hA.ne (by decide))]; exact wf.at hA (.of rfl) hI2) ⟨(show (0 : Int) ≤ 0 ∧ (0 : Int) ≤ 500 from ⟨by decide, by decide⟩), hB2.2.1, fun j hj => absurd (show (j : Int) < 0 from hj) (by omega)⟩ (fun j hj => absurd (show (j : Int) < 0 from hj) (by omega))
        rw [hbe] at fi
        exact mAnsY.ok hA fi (((hf2.tr (K := [0, 7, 8, 9, 13, 14]) wf ⟨rfl, rfl⟩).up (i := 0) rfl).mo rfl) (by rw [va_up_ne _ _ (by decide)]; exact (wk 8 (by decide)).trans e82) (by rw [q_decode, zqR_t c1, mq2_t (by omega)]) (by rw [hbe])
      · exact absurd h43 (by omega)
    | succ t ih =>
      intro M1 F1 h i ht hi wr
      obtain ⟨wf, wk, ws, w29, w31, w32, wh, wo, wb, wp, wv⟩ := id wr
      have hO1 := ws.1
      have hM1 := wf.at hA (.of rfl) hMs
      have h141 := wf.at hA (.of rfl) h142
      have hbi := hbg i.toNat (by omega)
      refine z_iload_n C dX9_decode_41 rfl ?_
      refine z_iload_n C dX9_decode_42 rfl ?_
      refine z_icmp_geZ (tgt := 63) C dX9_decode_43 (by decide) (by omega) (by omega) (fun h43 => ?_) (fun h43 => ?_)
      · exact absurd h43 (by omega)
      · refine z_aload_n C dX9_decode_46 rfl ?_
        refine z_iload_n C dX9_decode_47 rfl ?_
        refine z_aload_n C dX9_decode_48 rfl ?_
        refine z_get C dX9_decode_49 fl_X9_56 (by first | assumption | ((repeat (first | assumption | exact va_up_self _ _ _ | refine (va_up_ne _ _ (by first | assumption | exact hA.ne (by decide) | exact hA.ne (by omega))).trans ?_)); done)) rfl ?_
        refine z_iload_n C dX9_decode_52 rfl ?_
        refine z_aldN C dX9_decode_53 h141 (by omega) (by omega) hg2 (fun hr53 => ?_)
        refine z_callV C dX9_decode_54 lk_X9_385 mw_X9_write mi_X9_write ms_X9_write rfl (by first | assumption | ((repeat (first | assumption | exact va_up_self _ _ _ | refine (va_up_ne _ _ (by first | assumption | exact hA.ne (by decide) | exact hA.ne (by omega))).trans ?_)); done)) (k_X9_write hA ws hM1 hg (r := rr) (by omega) w31 w32 wb wp wv hL hG hc (k := g2 i.toNat) (by omega) wh w29 (by omega)) rfl (by first | decide | exact Nat.le_of_ble_eq_true rfl) ⟨by decide, by decide, by decide, by decide⟩ (fun _ _ h => False.elim h) (fun v M' hp => ?_)
        obtain ⟨rfl, gr, fw, Fw, kw, sw, a29, a31, a32, a13⟩ := hp
        have wn := wr.st hi.1 hbi.1 gr fw kw sw a29 a31 a32 a13
        refine z_iincZ C dX9_decode_57 rfl (by decide) ?_
        refine z_goto (tgt := 41) C dX9_decode_60 (by decide) ?_
        exact ih _ Fw _ (i + 1) (by omega) (by omega) wn
  refine z_aload_n C dX9_decode_0 rfl ?_
  refine z_iload_n C dX9_decode_1 rfl ?_
  refine z_callV C dX9_decode_2 lk_X9_295 mw_X9_noReader mi_X9_noReader ms_X9_noReader rfl (by first | assumption | ((repeat (first | assumption | exact va_up_self _ _ _ | refine (va_up_ne _ _ (by first | assumption | exact hA.ne (by decide) | exact hA.ne (by omega))).trans ?_)); done)) (k_X9_noReader hA hO hM hS hY r_rr) rfl (by first | decide | exact Nat.le_of_ble_eq_true rfl) ⟨by decide, by decide, by decide, by decide⟩ (fun _ _ h => False.elim h) (fun v M' hp => ?_)
  obtain ⟨r1, F1, rfl, f1, ob1, p1, e1, z1⟩ := hp
  have s1 := z1.rng
  have cf1 := f1
  have cp1 := p1
  have hM1 := cf1.at hA (.of rfl) hM
  refine z_if_eqZ (tgt := 10) C dX9_decode_5 (by decide) (by omega) (fun h5 => ?_) (fun h5 => ?_)
  · have t1 := Decidable.not_not.mp (z1.f h5)
    rw [t1] at e1
    obtain ⟨c1, -⟩ := mqR_0 t1
    have hF1 := hF.q0 hA cf1 ob1 cp1 rfl
    have n1 : F1 19 = yIn Y := (cp1 19 (by decide)).trans hn19
    refine z_aload_n C dX9_decode_10 rfl ?_
    refine z_callV C dX9_decode_11 lk_X9_379 mw_X9_readNumbers mi_X9_readNumbers ms_X9_readNumbers rfl (by first | assumption | ((repeat (first | assumption | exact va_up_self _ _ _ | refine (va_up_ne _ _ (by first | assumption | exact hA.ne (by decide) | exact hA.ne (by omega))).trans ?_)); done)) (k_X9_readNumbers hA ob1 (cf1.at hA (.of rfl) hI) n1 hB (cf1.at hA (.of rfl) hGn) hgn) rfl (by first | decide | exact Nat.le_of_ble_eq_true rfl) ⟨by decide, by decide, by decide, by decide⟩ (fun _ _ h => False.elim h) (fun v M' hp => ?_)
    obtain ⟨b, rfl, hbr, f11, g2, h142, hg2, hrn⟩ := hp
    rw [hzr] at hrn
    have ob2 := f11.at hA (.of rfl) ob1
    have hF2 := hF1.n14 hA f11 h142 hg2
    have cf2 := cf1.tr (K := [0, 14]) f11 ⟨rfl, rfl⟩
    refine z_istore_n C dX9_decode_14 (by decide) ?_
    refine z_aload_n C dX9_decode_15 rfl ?_
    refine z_iload_n C dX9_decode_16 rfl ?_
    refine z_iconst C dX9_decode_17 ?_
    refine z_icmp_neZ (tgt := 25) C dX9_decode_18 (by decide) (by omega) (by omega) (fun h18 => ?_) (fun h18 => ?_)
    · refine z_iconst C dX9_decode_25 ?_
      refine z_iconst C dX9_decode_26 ?_
      refine z_callV C dX9_decode_27 lk_X9_189 mw_X9_refuses mi_X9_refuses ms_X9_refuses rfl (by first | assumption | ((repeat (first | assumption | exact va_up_self _ _ _ | refine (va_up_ne _ _ (by first | assumption | exact hA.ne (by decide) | exact hA.ne (by omega))).trans ?_)); done)) (k_X9_refuses hA ob2 (r := 0) (w := 2) (by omega) (by omega) (by omega)) rfl (by first | decide | exact Nat.le_of_ble_eq_true rfl) ⟨by decide, by decide, by decide, by decide⟩ (fun _ _ h => False.elim h) (fun v M' hp => ?_)
      obtain ⟨r3, F3, rfl, f3, ob3, p3, e3, z3⟩ := hp
      have s3 := z3.rng
      have cf3 := cf2.tr (K := [0, 14]) f3 ⟨rfl, rfl⟩
      have hF3 := hF2.q0 hA f3 ob3 p3 rfl
      refine z_if_eqZ (tgt := 35) C dX9_decode_30 (by decide) (by omega) (fun h30 => ?_) (fun h30 => ?_)
      · rw [if_neg (by omega), e1] at e3
        have hb1 := hrn.resolve_left (fun w => by omega)
        refine z_aload_n C dX9_decode_35 rfl ?_
        refine z_callV C dX9_decode_36 lk_X9_382 mw_X9_begin mi_X9_begin ms_X9_begin rfl (by first | assumption | ((repeat (first | assumption | exact va_up_self _ _ _ | refine (va_up_ne _ _ (by first | assumption | exact hA.ne (by decide) | exact hA.ne (by omega))).trans ?_)); done)) (k_X9_begin ob3) rfl (by first | decide | exact Nat.le_of_ble_eq_true rfl) ⟨by decide, by decide, by decide, by decide⟩ (fun _ _ h => False.elim h) (fun v M' hp => ?_)
        obtain ⟨rfl, f4, F4, ob4, p4, e429, e431, e432⟩ := hp
        refine z_iconst C dX9_decode_39 ?_
        refine z_istore_n C dX9_decode_40 (by decide) ?_
        exact loop c1 _ F3 g2 b cf3 hF3 e3 (f3.at hA (.of rfl) h142) hg2 (by omega) hb1.2.1 hb1.2.2 b.toNat _ F4 h0 0 (by omega) (by omega) (mWr.bg hA hF3.1 f4 ob4 p4 e429 e431 e432 (cf3.at hA (.of rfl) hH0))
      · exact absurd (by rw [if_neg (by omega), e1]) (z3.t h30)
    · refine z_iconst C dX9_decode_21 ?_
      refine z_goto (tgt := 26) C dX9_decode_22 (by decide) ?_
      refine z_iconst C dX9_decode_26 ?_
      refine z_callV C dX9_decode_27 lk_X9_189 mw_X9_refuses mi_X9_refuses ms_X9_refuses rfl (by first | assumption | ((repeat (first | assumption | exact va_up_self _ _ _ | refine (va_up_ne _ _ (by first | assumption | exact hA.ne (by decide) | exact hA.ne (by omega))).trans ?_)); done)) (k_X9_refuses hA ob2 (r := 1) (w := 2) (by omega) (by omega) (by omega)) rfl (by first | decide | exact Nat.le_of_ble_eq_true rfl) ⟨by decide, by decide, by decide, by decide⟩ (fun _ _ h => False.elim h) (fun v M' hp => ?_)
      obtain ⟨r3, F3, rfl, f3, ob3, p3, e3, z3⟩ := hp
      have s3 := z3.rng
      have cf3 := cf2.tr (K := [0, 14]) f3 ⟨rfl, rfl⟩
      have hF3 := hF2.q0 hA f3 ob3 p3 rfl
      refine z_if_eqZ (tgt := 35) C dX9_decode_30 (by decide) (by omega) (fun h30 => ?_) (fun h30 => ?_)
      · exact absurd (by rw [if_pos ⟨e1, by decide⟩]; decide) (z3.f h30)
      · refine z_iconst C dX9_decode_33 ?_
        refine z_iret C hQ dX9_decode_34 rfl (by decide) (by decide) ?_
        exact mAnsY.no2 hA hF3 (cf3.mo rfl) e3 (z3.t h30) (by rw [q_decode, zqR_t c1, mq2_f (fun w => by rcases hrn with ⟨q, -⟩ | ⟨q1, q2, -⟩ <;> omega), if_pos ⟨e1, by decide⟩])
  · refine z_iconst C dX9_decode_8 ?_
    refine z_iret C hQ dX9_decode_9 rfl (by decide) (by decide) ?_
    exact mAnsY.no hA hF cf1 ob1 cp1 e1 (z1.t h5) (by rw [q_decode, zqR_f (fun w => z1.t h5 (by rw [mqR_t w])), mqR_f (fun w => z1.t h5 (by rw [mqR_t w]))])

