/-! the model's load -/
theorem hAt_fe {f g : Nat → Int} {n : Int} (h : ∀ j : Nat, j < n → f j = g j) : hAt f n = hAt g n := funext fun i => hAt_cg h i
set_option maxHeartbeats 4000000 in
set_option maxRecDepth 100000 in
theorem m_load {l : Launch} {γ : zG} {M : zM} {A : Nat → Nat} {Y : zSys} {t0 : Int} (hMo0 : hMo γ M A Y t0) (hYk : yOk Y) :
    zCon l γ yX9_load cX9_load 1 (some .int) [.ref (A 0)] M 10 330 0 0 (mAns γ A M (y_load Y) (q_load Y)) (fun _ _ => False) := by
  obtain ⟨hA, F, h8, hF⟩ := hMo0
  obtain ⟨hsc, hec, hun, hsl, ⟨hn19, f, hI, hB, hif⟩, hou, ⟨g, hM, hS⟩, hrs⟩ := id hF
  have hO := hsc.1
  have hY := hYk.1
  have bb := hB.1
  obtain ⟨g2, h2, hg2⟩ := hrs.1
  have hfe := hAt_fe hif
  have hqe : zpA f (yIn Y) 501 zS0 0 = zpA (yIf Y) (yIn Y) 501 zS0 0 := zpA_cg hfe 501 zS0 0
  have hO1 : va_up M (A 0) (some (mOb A (va_up F 8 0))) (A 0) = some (mOb A (va_up F 8 0)) := va_up_self _ _ _
  have c0 : mF A M (va_up M (A 0) (some (mOb A (va_up F 8 0)))) [0] := mF.rf.up rfl
  have hI1 := c0.at hA (.of rfl) hI
  have h21 := c0.at hA (.of rfl) h2
  have h191 : va_up F 8 0 19 = yIn Y := (va_up_ne _ _ (by decide)).trans hn19
  have qq : ∀ q : zPR, zpA (yIf Y) (yIn Y) 501 zS0 0 = q → q_load Y = (if q.1 = 0 then (0, sRn q.2.2.1) else (1, 0)) ∧ y_load Y = (if q.1 = 0 then ySet (yRem (ySE (ySI Y (yIf Y) 0) q.1 (if q.1 = 0 then -1 else q.2.1))) q.2.2.1 else ySE (ySI Y (yIf Y) 0) q.1 (if q.1 = 0 then -1 else q.2.1)) := fun q h => by
    subst h
    exact ⟨rfl, rfl⟩
  refine zEnter [some (.ref (A 0))] (by decide +kernel) rfl rfl (Nat.le_of_ble_eq_true rfl) ?_
  intro p e s m args below meth c Q C hin hQ
  have mk : ∀ (M1 : zM) (F3 : Nat → Int) (cd pl : Int), mF A M M1 [0, 2] → mKp [8, 19, 20, 21, 22, 23, 24, 25, 26] F F3 → M1 (A 0) = some (mOb A F3) → F3 19 = 0 → F3 25 = cd → F3 26 = pl → (∃ g', M1 (A 2) = some (zar γ 5987 g') ∧ ∀ j, zR (g' j)) → hMf γ M1 A F3 (ySE (ySI Y (yIf Y) 0) cd pl) := by
    intro M1 F3 cd pl f k o e19 e25 e26 h2
    obtain ⟨s0, ⟨s7, b1, b2⟩, ⟨s8, c1, c2⟩, s9, d1, d2⟩ := hsc
    obtain ⟨-, ⟨x, x1, x2⟩, ⟨c, y1⟩, ⟨d, z1⟩, w, w1, w2⟩ := hrs
    exact ⟨⟨o, ⟨s7, f.at hA (.of rfl) b1, b2⟩, ⟨s8, f.at hA (.of rfl) c1, c2⟩, s9, f.at hA (.of rfl) d1, d2⟩, ⟨e25, e26⟩, hun.fr hA f (.of rfl) (k 6 (by decide)) (k 7 (by decide)), hsl.fr hA f (.of rfl) (.of rfl), ⟨e19, _, f.at hA (.of rfl) hI, ⟨(show (0 : Int) ≤ 0 ∧ (0 : Int) ≤ 500 from ⟨by decide, by decide⟩), hB.2.1, fun j hj => absurd (show (j : Int) < 0 from hj) (by omega)⟩, fun j hj => absurd (show (j : Int) < 0 from hj) (by omega)⟩, hou.fr hA f (.of rfl) (k 29 (by decide)), ⟨g, f.at hA (.of rfl) hM, hS⟩, h2, ⟨x, f.at hA (.of rfl) x1, x2⟩, ⟨c, f.at hA (.of rfl) y1⟩, ⟨d, f.at hA (.of rfl) z1⟩, w, f.at hA (.of rfl) w1, w2⟩
  have t14 : ∀ (M1 : zM) (F3 : Nat → Int) (q : zPR), mF A M M1 [0, 2] → mKp [8, 19, 20, 21, 22, 23, 24, 25, 26] F F3 → M1 (A 0) = some (mOb A F3) → F3 8 = 0 → F3 19 = 0 → q_load Y = (if q.1 = 0 then (0, sRn q.2.2.1) else (1, 0)) → y_load Y = (if q.1 = 0 then ySet (yRem (ySE (ySI Y (yIf Y) 0) q.1 (if q.1 = 0 then -1 else q.2.1))) q.2.2.1 else ySE (ySI Y (yIf Y) 0) q.1 (if q.1 = 0 then -1 else q.2.1)) → (q.1 = 0 ∧ F3 25 = 0 ∧ F3 26 = -1 ∧ (∃ g', M1 (A 2) = some (zar γ 5987 g') ∧ mSt g' q.2.2.1 ∧ zOk q.2.2.1) ∨ q.1 ≠ 0 ∧ F3 25 = q.1 ∧ F3 26 = q.2.1 ∧ (1 ≤ q.1 ∧ q.1 ≤ 5) ∧ ∃ g', M1 (A 2) = some (zar γ 5987 g') ∧ ∀ j, zR (g' j)) → zAW p l e { frames := 10, cells := 0, slots := 0, locals := 330 } s m args below meth c γ 1 Q M1 0 0 14 [some (.ref (A 0))] [] := by
    intro M1 F3 q f3 k3 o3 h38 h319 hq hy cR
    have r25 : 0 ≤ F3 25 ∧ F3 25 ≤ 5 := by
      rcases cR with ⟨-, w, -⟩ | ⟨-, w, -, w2, -⟩ <;> omega
    refine z_aload_n C dX9_load_14 rfl ?_
    refine z_aload_n C dX9_load_15 rfl ?_
    refine z_getM C dX9_load_16 fl_X9_199 (by first | assumption | ((repeat (first | assumption | exact va_up_self _ _ _ | refine (va_up_ne _ _ (by first | assumption | exact hA.ne (by decide) | exact hA.ne (by omega))).trans ?_)); done)) rfl rfl ?_
    refine z_if_eqZ (tgt := 26) C dX9_load_19 (by decide) (by omega) (fun h19 => ?_) (fun h19 => ?_)
    · refine z_iconst C dX9_load_26 ?_
      refine z_iconst C dX9_load_27 ?_
      refine z_callV C dX9_load_28 lk_X9_189 mw_X9_refuses mi_X9_refuses ms_X9_refuses rfl (by first | assumption | ((repeat (first | assumption | exact va_up_self _ _ _ | refine (va_up_ne _ _ (by first | assumption | exact hA.ne (by decide) | exact hA.ne (by omega))).trans ?_)); done)) (k_X9_refuses hA o3 (r := 0) (w := 1) (by omega) (by omega) (by omega)) rfl (by first | decide | exact Nat.le_of_ble_eq_true rfl) ⟨by decide, by decide, by decide, by decide⟩ (fun _ _ h => False.elim h) (fun v M' hp => ?_)
      obtain ⟨r1, F1, rfl, f1, ob1, p1, e1, z1⟩ := hp
      have s1 := z1.rng
      have cf1 := f3.tr (K := [0, 2]) f1 ⟨rfl, rfl⟩
      have ck1 := k3.tr (K := [8, 19, 20, 21, 22, 23, 24, 25, 26]) p1 ⟨rfl, rfl⟩
      refine z_if_eqZ (tgt := 36) C dX9_load_31 (by decide) (by omega) (fun h31 => ?_) (fun h31 => ?_)
      · rw [if_neg (by omega), h38] at e1
        have good : q.1 = 0 ∧ F3 25 = 0 ∧ F3 26 = -1 ∧ (∃ g', M1 (A 2) = some (zar γ 5987 g') ∧ mSt g' q.2.2.1 ∧ zOk q.2.2.1) := by
          rcases cR with w | ⟨q0, w25, -⟩
          · exact w
          · exact absurd (w25.symm.trans h19) q0
        obtain ⟨q0, w25, w26, g', hg2', hSq, hOq⟩ := good
        rw [if_pos q0] at hq
        rw [if_pos q0, if_pos q0] at hy
        have g2' := f1.at hA (.of rfl) hg2'
        have hF1 := mk _ F1 q.1 (-1) cf1 ck1 ob1 ((p1 19 (by decide)).trans h319) ((p1 25 (by decide)).trans (w25.trans q0.symm)) ((p1 26 (by decide)).trans w26) ⟨g', g2', hSq.1⟩
        refine z_aload_n C dX9_load_36 rfl ?_
        refine z_callV C dX9_load_37 lk_X9_286 mw_X9_remember mi_X9_remember ms_X9_remember rfl (by first | assumption | ((repeat (first | assumption | exact va_up_self _ _ _ | refine (va_up_ne _ _ (by first | assumption | exact hA.ne (by decide) | exact hA.ne (by omega))).trans ?_)); done)) (k_X9_remember hA hF1 (hYk : yOk (ySE (ySI Y (yIf Y) 0) q.1 (-1)))) rfl (by first | decide | exact Nat.le_of_ble_eq_true rfl) ⟨by decide, by decide, by decide, by decide⟩ (fun _ _ h => False.elim h) (fun v M' hp => ?_)
        obtain ⟨rfl, fr, Fr, pr, hFr⟩ := hp
        have orr := hFr.1.1
        obtain ⟨gr, hMr, hSr⟩ := hFr.2.2.2.2.2.2.1
        have hgr := hSr.1
        have er8 : Fr 8 = 0 := (pr 8 (by decide)).trans e1
        have g3' := fr.at hA (.of rfl) g2'
        refine z_aload_n C dX9_load_40 rfl ?_
        refine z_get C dX9_load_41 fl_X9_13 (by first | assumption | ((repeat (first | assumption | exact va_up_self _ _ _ | refine (va_up_ne _ _ (by first | assumption | exact hA.ne (by decide) | exact hA.ne (by omega))).trans ?_)); done)) rfl ?_
        refine z_iconst C dX9_load_44 ?_
        refine z_aload_n C dX9_load_45 rfl ?_
        refine z_get C dX9_load_46 fl_X9_7 (by first | assumption | ((repeat (first | assumption | exact va_up_self _ _ _ | refine (va_up_ne _ _ (by first | assumption | exact hA.ne (by decide) | exact hA.ne (by omega))).trans ?_)); done)) rfl ?_
        refine z_iconst C dX9_load_49 ?_
        refine z_callS C dX9_load_50 lk_X9_71 mw_X9_copyRow mst_X9_copyRow (k_X9_copyRow g3' hSq.1 hMr hgr (hA.ne (by decide)) (by decide) (fa := 0) (ga := 0) (by omega) (by omega)) rfl (by first | decide | exact Nat.le_of_ble_eq_true rfl) ⟨by decide, by decide, by decide, by decide⟩ (fun _ _ h => False.elim h) (fun v M' hp => ?_)
        obtain ⟨rfl, fu, hu, zu⟩ := hp
        have fu2 : mF A _ _ [1] := fu
        have hSu := hSq.cg hOq zu (fun i hi => by
          rw [mCp_at (by omega) (by omega), if_pos (by omega)]
          congr 1
          omega)
        have hFu := hFr.set hA fu2 hu hSu
        have ou := hFu.1.1
        refine z_aload_n C dX9_load_53 rfl ?_
        refine z_get C dX9_load_54 fl_X9_7 (by first | assumption | ((repeat (first | assumption | exact va_up_self _ _ _ | refine (va_up_ne _ _ (by first | assumption | exact hA.ne (by decide) | exact hA.ne (by omega))).trans ?_)); done)) rfl ?_
        refine z_iconst C dX9_load_57 ?_
        refine z_aldN C dX9_load_58 (by first | assumption | ((repeat (first | assumption | exact va_up_self _ _ _ | refine (va_up_ne _ _ (by first | assumption | exact hA.ne (by decide) | exact hA.ne (by omega))).trans ?_)); done)) (by omega) (by omega) (by assumption) (fun hr58 => ?_)
        refine z_iret C hQ dX9_load_59 rfl (by decide) (by decide) ?_
        rw [hq, hy]
        exact mAns.ok hA hFu (((cf1.tr (K := [0, 2, 4]) fr ⟨rfl, rfl⟩).tr (K := [0, 2, 4, 1]) fu2 ⟨rfl, rfl⟩).mo rfl) er8 rfl (congrArg zi hSu.2.2.2.1)
      · exact absurd (by rw [if_neg (by omega), h38]) (z1.t h31)
    · refine z_iconst C dX9_load_22 ?_
      refine z_goto (tgt := 27) C dX9_load_23 (by decide) ?_
      refine z_iconst C dX9_load_27 ?_
      refine z_callV C dX9_load_28 lk_X9_189 mw_X9_refuses mi_X9_refuses ms_X9_refuses rfl (by first | assumption | ((repeat (first | assumption | exact va_up_self _ _ _ | refine (va_up_ne _ _ (by first | assumption | exact hA.ne (by decide) | exact hA.ne (by omega))).trans ?_)); done)) (k_X9_refuses hA o3 (r := 1) (w := 1) (by omega) (by omega) (by omega)) rfl (by first | decide | exact Nat.le_of_ble_eq_true rfl) ⟨by decide, by decide, by decide, by decide⟩ (fun _ _ h => False.elim h) (fun v M' hp => ?_)
      obtain ⟨r1, F1, rfl, f1, ob1, p1, e1, z1⟩ := hp
      have s1 := z1.rng
      have cf1 := f3.tr (K := [0, 2]) f1 ⟨rfl, rfl⟩
      have ck1 := k3.tr (K := [8, 19, 20, 21, 22, 23, 24, 25, 26]) p1 ⟨rfl, rfl⟩
      refine z_if_eqZ (tgt := 36) C dX9_load_31 (by decide) (by omega) (fun h31 => ?_) (fun h31 => ?_)
      · exact absurd (by rw [if_pos ⟨h38, by decide⟩]; decide) (z1.f h31)
      · refine z_iconst C dX9_load_34 ?_
        refine z_iret C hQ dX9_load_35 rfl (by decide) (by decide) ?_
        rw [if_pos ⟨h38, by decide⟩] at e1
        rcases cR with ⟨q0, w25, -⟩ | ⟨q0, w25, w26, w1, g', hg2', zg⟩
        · exact absurd w25 h19
        · rw [if_neg q0] at hq
          rw [if_neg q0, if_neg q0] at hy
          rw [hq, hy]
          exact ⟨0, rfl, cf1.mo rfl, ⟨hA, F1, e1, mk _ F1 q.1 q.2.1 cf1 ck1 ob1 ((p1 19 (by decide)).trans h319) ((p1 25 (by decide)).trans w25) ((p1 26 (by decide)).trans w26) ⟨g', f1.at hA (.of rfl) hg2', zg⟩⟩, fun w => absurd w (by decide)⟩
  refine z_aload_n C dX9_load_0 rfl ?_
  refine z_iconst C dX9_load_1 ?_
  refine z_putM C dX9_load_2 fl_X9_85 (by first | assumption | ((repeat (first | assumption | exact va_up_self _ _ _ | refine (va_up_ne _ _ (by first | assumption | exact hA.ne (by decide) | exact hA.ne (by omega))).trans ?_)); done)) rfl ?_
  refine z_aload_n C dX9_load_5 rfl ?_
  refine z_callV C dX9_load_6 lk_X9_65 mw_X9_read mi_X9_read ms_X9_read rfl (by first | assumption | ((repeat (first | assumption | exact va_up_self _ _ _ | refine (va_up_ne _ _ (by first | assumption | exact hA.ne (by decide) | exact hA.ne (by omega))).trans ?_)); done)) (k_X9_read hA hO1 hI1 h191 hB h21 hg2) rfl (by first | decide | exact Nat.le_of_ble_eq_true rfl) ⟨by decide, by decide, by decide, by decide⟩ (fun _ _ h => False.elim h) (fun v M' hp => ?_)
  obtain ⟨rfl, fR, F2, pR, oR, cR⟩ := hp
  rw [hqe] at cR
  generalize hqv : zpA (yIf Y) (yIn Y) 501 zS0 0 = q at cR
  obtain ⟨qq1, qq2⟩ := qq q hqv
  have f02 := c0.tr (K := [0, 2]) fR ⟨rfl, rfl⟩
  have kR : mKp [8, 19, 20, 21, 22, 23, 24, 25, 26] F F2 := (mKp.rf.up (K := [8]) (i := 8) rfl).tr pR ⟨rfl, rfl⟩
  have h28 : F2 8 = 0 := (pR 8 (by decide)).trans (va_up_self _ _ _)
  refine z_aload_n C dX9_load_9 rfl ?_
  refine z_iconst C dX9_load_10 ?_
  refine z_putM C dX9_load_11 fl_X9_68 (by first | assumption | ((repeat (first | assumption | exact va_up_self _ _ _ | refine (va_up_ne _ _ (by first | assumption | exact hA.ne (by decide) | exact hA.ne (by omega))).trans ?_)); done)) rfl ?_
  refine t14 _ _ q (f02.up rfl) (kR.up rfl) (va_up_self _ _ _) ((va_up_ne _ _ (by decide)).trans h28) (va_up_self _ _ _) qq1 qq2 ?_
  rw [va_up_ne _ _ (by decide), va_up_ne _ _ (by decide), va_up_ne _ _ (hA.ne (by decide))]
  exact cR

