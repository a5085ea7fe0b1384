/-! the model's changes: readers merged -/
def mmg (g : Nat → Int) (src : Int) (c : Int → Int) : Nat → Int → Int
  | 0 => c
  | t + 1 => zadd (mmg g src c t) (mKe g src t) (mVa g src t)
theorem mmg_at {g : Nat → Int} {src : Int} {c d : Int → Int} {G : List Int} (h : mRp g src d G) (hc : ∀ x, c x ≤ 999) (key : Int) : ∀ t : Nat, (t : Int) ≤ mMa g src → (∃ j : Nat, j < t ∧ mKe g src j = key) ∧ mmg g src c t key = min (c key + d key) 999 ∨ (∀ j : Nat, j < t → mKe g src j ≠ key) ∧ mmg g src c t key = c key
  | 0, _ => .inr ⟨fun j hj => by omega, rfl⟩
  | t + 1, ht => by
    have ih := mmg_at h hc key t (by omega)
    obtain ⟨-, -, q3⟩ := h.2.1 t (by omega) (by omega)
    show _ ∧ zadd (mmg g src c t) (mKe g src t) (mVa g src t) key = _ ∨ _ ∧ zadd (mmg g src c t) (mKe g src t) (mVa g src t) key = _
    unfold zadd
    by_cases e : key = mKe g src t
    · rw [if_pos e]
      left
      refine ⟨⟨t, by omega, e.symm⟩, ?_⟩
      rcases ih with ⟨⟨j, j1, j2⟩, -⟩ | ⟨-, h2⟩
      · exact absurd (j2.trans e) (h.2.2.1 j t (by omega) (by omega) (by omega))
      · rw [h2, ← q3, ← e]
    · rw [if_neg e]
      rcases ih with ⟨⟨j, j1, j2⟩, h2⟩ | ⟨h1, h2⟩
      · exact .inl ⟨⟨j, by omega, j2⟩, h2⟩
      · refine .inr ⟨fun j hj => ?_, h2⟩
        by_cases w : j = t
        · rw [w]
          exact fun q => e q.symm
        · exact h1 j (by omega)
theorem mmg_fin {g : Nat → Int} {src : Int} {c d : Int → Int} {G : List Int} (h : mRp g src d G) (hc : ∀ x, c x ≤ 999) : mmg g src c (mMa g src).toNat = zmrg c d := by
  funext key
  have := h.1
  have hk := hc key
  unfold zmrg
  rcases mmg_at h hc key (mMa g src).toNat (by omega) with ⟨-, h2⟩ | ⟨h1, h2⟩
  · exact h2
  · rw [h2]
    by_cases e : d key = 0
    · rw [e]
      omega
    · obtain ⟨j, a1, a2, a3⟩ := h.2.2.2 key e
      have := h1 j.toNat (by omega)
      rw [show ((j.toNat : Nat) : Int) = j by omega] at this
      exact absurd a3 this
theorem mRp.hd {g g' : Nat → Int} {r : Int} {c : Int → Int} {G : List Int} (h : mRp g r c G) (hr : 0 ≤ r) (q : ∀ i : Nat, 339 + 1412 * r + 11 ≤ i → (i : Int) < 339 + 1412 * r + 1412 → g' i = g i) : mRp g' r c G := by
  obtain ⟨h1, h2, h3, h4⟩ := h
  have e1 : mMa g' r = mMa g r := q _ (by omega) (by omega)
  have e2 : ∀ j : Int, 0 ≤ j → j < mMa g r → mKe g' r j = mKe g r j ∧ mVa g' r j = mVa g r j := fun j a1 a2 => ⟨q _ (by omega) (by omega), q _ (by omega) (by omega)⟩
  refine ⟨by rw [e1]; exact h1, fun j a1 a2 => ?_, fun i j a1 a2 a3 => ?_, fun key hk => ?_⟩
  · rw [e1] at a2
    rw [(e2 j a1 a2).1, (e2 j a1 a2).2]
    exact h2 j a1 a2
  · rw [e1] at a3
    rw [(e2 i a1 (by omega)).1, (e2 j (by omega) a3).1]
    exact h3 i j a1 a2 a3
  · obtain ⟨j, a1, a2, a3⟩ := h4 key hk
    exact ⟨j, a1, by rw [e1]; exact a2, by rw [(e2 j a1 a2).1]; exact a3⟩
set_option maxHeartbeats 4000000 in
set_option maxRecDepth 100000 in
theorem m_merge {l : Launch} {γ : zG} {M : zM} {A : Nat → Nat} {Y : zSys} {t0 : Int} {rr oo : Int} (hMo0 : hMo γ M A Y t0) (hYk : yOk Y) (r_rr : zR rr) (r_oo : zR oo) :
    zCon l γ yX9_merge cX9_merge 4 (some .int) [.ref (A 0), .int (zi rr), .int (zi oo)] M 10 330 0 0 (mAnsY γ A M Y (y_merge Y rr oo) (q_merge Y rr oo)) (fun _ _ => False) := by
  obtain ⟨hA, F, h8, hF⟩ := hMo0
  obtain ⟨hsc, hec, hun, hsl, hinp, hou, ⟨g, hM, hS⟩, hrs⟩ := id hF
  have hO := hsc.1
  have hg := hS.1
  have hY := hYk.1
  have o1 := hY.1
  have z_rr := r_rr
  unfold zR at z_rr
  have z_oo := r_oo
  unfold zR at z_oo
  refine zEnter [some (.ref (A 0)), some (.int (zi rr)), some (.int (zi oo)), none] (by decide +kernel) rfl rfl (Nat.le_of_ble_eq_true rfl) ?_
  intro p e s m args below meth c Q C hin hQ
  have fin : ∀ (c1 : 0 ≤ rr ∧ rr < sRn (yS Y)) (c2 : 0 ≤ oo ∧ oo < sRn (yS Y)) (c3 : rr ≠ oo) (t : Nat) (Mr M1 : zM) (Fr gr g1 g2 : Nat → Int) (k : Int), 8 - k = t → 0 ≤ k ∧ k ≤ 8 → mF A M Mr [0, 4] → hMf γ Mr A Fr (yRem Y) → Fr 8 = 0 → mF A Mr M1 [1] → M1 (A 0) = some (mOb A Fr) → M1 (A 1) = some (zar γ 5987 g2) → (∀ j, zR (g2 j)) → mSt gr (yS Y) → mEq gr g1 oo → mRp g1 oo (zmrg (rC (sRd (yS Y) oo.toNat)) (rC (sRd (yS Y) rr.toNat))) (sG (yS Y)) → (∀ d : Int, 0 ≤ d → d < k → zi (g2 (339 + 1412 * oo + 3 + d).toNat) = zi (gr (339 + 1412 * oo + 3 + d).toNat + gr (339 + 1412 * rr + 3 + d).toNat)) → (∀ i : Nat, ((i : Int) < 339 + 1412 * oo + 3 ∨ 339 + 1412 * oo + 3 + k ≤ i) → g2 i = g1 i) → zAW p l e { frames := 10, cells := 0, slots := 0, locals := 330 } s m args below meth c γ 4 Q M1 0 0 96 [some (.ref (A 0)), some (.int (zi rr)), some (.int (zi oo)), some (.int (zi k))] [] := by
    intro c1 c2 c3 t
    induction t with
    | zero =>
      intro Mr M1 Fr gr g1 g2 k ht hk cr hFr er8 f1 hO1 hM1 hg2 hSr he hL hd ho
      obtain rfl : k = 8 := by omega
      have hRo := hSr.r c2
      have hRr := hSr.r c1
      have eT : g2 (339 + 1412 * oo + 2).toNat = gr (339 + 1412 * oo + 2).toNat := (ho _ (by omega)).trans (he _ (by omega))
      have eS : g2 (339 + 1412 * rr + 2).toNat = gr (339 + 1412 * rr + 2).toNat := (ho _ (by omega)).trans (he _ (by omega))
      have hL2 : ∀ v, mRp (va_up g2 (339 + 1412 * oo + 2).toNat v) oo (zmrg (rC (sRd (yS Y) oo.toNat)) (rC (sRd (yS Y) rr.toNat))) (sG (yS Y)) := fun v => hL.hd (by omega) (fun i i1 i2 => by
        rw [va_up_ne _ _ (by omega)]
        exact ho i (by omega))
      refine z_iload_n C dX9_merge_96 rfl ?_
      refine z_bipush C dX9_merge_97 (by decide) ?_
      refine z_icmp_geZ (tgt := 137) C dX9_merge_99 (by decide) (by omega) (by omega) (fun h99 => ?_) (fun h99 => ?_)
      · refine z_aload_n C dX9_merge_137 rfl ?_
        refine z_get C dX9_merge_138 fl_X9_7 (by first | assumption | ((repeat (first | assumption | exact va_up_self _ _ _ | refine (va_up_ne _ _ (by first | assumption | exact hA.ne (by decide) | exact hA.ne (by omega))).trans ?_)); done)) rfl ?_
        refine z_iload_n C dX9_merge_141 rfl ?_
        refine z_callS C dX9_merge_142 lk_X9_92 mw_X9_atReader mst_X9_atReader k_X9_atReader rfl (by first | decide | exact Nat.le_of_ble_eq_true rfl) ⟨by decide, by decide, by decide, by decide⟩ (fun _ _ h => False.elim h) (fun v M' hp => ?_)
        obtain ⟨rfl, rfl⟩ := hp
        refine z_iconst C dX9_merge_145 ?_
        refine z_iaddZ C dX9_merge_146 ?_
        refine z_dup2 C dX9_merge_147 rfl rfl ?_
        refine z_aldN C dX9_merge_148 (by first | assumption | ((repeat (first | assumption | exact va_up_self _ _ _ | refine (va_up_ne _ _ (by first | assumption | exact hA.ne (by decide) | exact hA.ne (by omega))).trans ?_)); done)) (by omega) (by omega) (by assumption) (fun hr148 => ?_)
        refine z_aload_n C dX9_merge_149 rfl ?_
        refine z_get C dX9_merge_150 fl_X9_7 (by first | assumption | ((repeat (first | assumption | exact va_up_self _ _ _ | refine (va_up_ne _ _ (by first | assumption | exact hA.ne (by decide) | exact hA.ne (by omega))).trans ?_)); done)) rfl ?_
        refine z_iload_n C dX9_merge_153 rfl ?_
        refine z_callS C dX9_merge_154 lk_X9_92 mw_X9_atReader mst_X9_atReader k_X9_atReader rfl (by first | decide | exact Nat.le_of_ble_eq_true rfl) ⟨by decide, by decide, by decide, by decide⟩ (fun _ _ h => False.elim h) (fun v M' hp => ?_)
        obtain ⟨rfl, rfl⟩ := hp
        refine z_iconst C dX9_merge_157 ?_
        refine z_iaddZ C dX9_merge_158 ?_
        refine z_aldN C dX9_merge_159 (by first | assumption | ((repeat (first | assumption | exact va_up_self _ _ _ | refine (va_up_ne _ _ (by first | assumption | exact hA.ne (by decide) | exact hA.ne (by omega))).trans ?_)); done)) (by omega) (by omega) (by assumption) (fun hr159 => ?_)
        refine z_iaddZ C dX9_merge_160 ?_
        rw [← zi_zw (g2 (339 + 1412 * oo + 2).toNat + g2 (339 + 1412 * rr + 2).toNat)]
        refine z_astN C dX9_merge_161 (by first | assumption | ((repeat (first | assumption | exact va_up_self _ _ _ | refine (va_up_ne _ _ (by first | assumption | exact hA.ne (by decide) | exact hA.ne (by omega))).trans ?_)); done)) (by omega) (by omega) (by assumption) (zw_rng _) (fun hr161 => ?_)
        refine z_aload_n C dX9_merge_162 rfl ?_
        refine z_get C dX9_merge_163 fl_X9_7 (by first | assumption | ((repeat (first | assumption | exact va_up_self _ _ _ | refine (va_up_ne _ _ (by first | assumption | exact hA.ne (by decide) | exact hA.ne (by omega))).trans ?_)); done)) rfl ?_
        refine z_iload_n C dX9_merge_166 rfl ?_
        refine z_callS C dX9_merge_167 lk_X9_325 mw_X9_positiveOf mst_X9_positiveOf (k_X9_positiveOf (va_up_self _ _ _) hr161 (r := oo) (by omega) (hL2 _).1) rfl (by first | decide | exact Nat.le_of_ble_eq_true rfl) ⟨by decide, by decide, by decide, by decide⟩ (fun _ _ h => False.elim h) (fun v M' hp => ?_)
        obtain ⟨rfl, rfl⟩ := hp
        rw [mPo_sum (hL2 _) (fun x hx => sG_rng hx)]
        refine z_iret C hQ dX9_merge_170 rfl (by decide) (by decide) ?_
        have hSu := hSr.setR hY hr161 (r := oo.toNat) (R := rMrg (sRd (yS Y) oo.toNat) (sRd (yS Y) rr.toNat)) (by omega) (fun i hi => by rw [va_up_ne _ _ (by omega), ho i (by omega)]; exact he i (by omega)) (by
          rw [show ((oo.toNat : Nat) : Int) = oo by omega]
          refine ⟨?_, ?_, ?_, fun d d1 d2 => ?_, hL2 _⟩
          · rw [va_up_ne _ _ (by omega), ho _ (by omega), he _ (by omega)]; exact hRo.1
          · rw [va_up_ne _ _ (by omega), ho _ (by omega), he _ (by omega)]; exact hRo.2.1
          · rw [va_up_self, zi_zw, eT, eS]; exact zi_addc hRo.2.2.1 hRr.2.2.1
          · rw [va_up_ne _ _ (by omega), hd d d1 d2]; exact zi_addc (hRo.2.2.2.1 d d1 d2) (hRr.2.2.2.1 d d1 d2))
        have fz := f1.tr (K := [1]) (mF.one (i := 1) (x := some (zar γ 5987 (va_up g2 (339 + 1412 * oo + 2).toNat (zw (g2 (339 + 1412 * oo + 2).toNat + g2 (339 + 1412 * rr + 2).toNat)))))) ⟨rfl, rfl⟩
        exact mAnsY.ok hA (hFr.set hA fz (va_up_self _ _ _) hSu) ((cr.tr (K := [0, 4, 1]) fz ⟨rfl, rfl⟩).mo rfl) er8 (by rw [q_merge, mqR_t c1, mqR_t c2, mq2_t c3]) rfl
      · exact absurd h99 (by omega)
    | succ t ih =>
      intro Mr M1 Fr gr g1 g2 k ht hk cr hFr er8 f1 hO1 hM1 hg2 hSr he hL hd ho
      have eT : g2 (339 + 1412 * oo + 3 + k).toNat = gr (339 + 1412 * oo + 3 + k).toNat := (ho _ (by omega)).trans (he _ (by omega))
      have eS : g2 (339 + 1412 * rr + 3 + k).toNat = gr (339 + 1412 * rr + 3 + k).toNat := (ho _ (by omega)).trans (he _ (by omega))
      refine z_iload_n C dX9_merge_96 rfl ?_
      refine z_bipush C dX9_merge_97 (by decide) ?_
      refine z_icmp_geZ (tgt := 137) C dX9_merge_99 (by decide) (by omega) (by omega) (fun h99 => ?_) (fun h99 => ?_)
      · exact absurd h99 (by omega)
      · refine z_aload_n C dX9_merge_102 rfl ?_
        refine z_get C dX9_merge_103 fl_X9_7 (by first | assumption | ((repeat (first | assumption | exact va_up_self _ _ _ | refine (va_up_ne _ _ (by first | assumption | exact hA.ne (by decide) | exact hA.ne (by omega))).trans ?_)); done)) rfl ?_
        refine z_iload_n C dX9_merge_106 rfl ?_
        refine z_callS C dX9_merge_107 lk_X9_92 mw_X9_atReader mst_X9_atReader k_X9_atReader rfl (by first | decide | exact Nat.le_of_ble_eq_true rfl) ⟨by decide, by decide, by decide, by decide⟩ (fun _ _ h => False.elim h) (fun v M' hp => ?_)
        obtain ⟨rfl, rfl⟩ := hp
        refine z_iconst C dX9_merge_110 ?_
        refine z_iaddZ C dX9_merge_111 ?_
        refine z_iload_n C dX9_merge_112 rfl ?_
        refine z_iaddZ C dX9_merge_113 ?_
        refine z_dup2 C dX9_merge_114 rfl rfl ?_
        refine z_aldN C dX9_merge_115 (by first | assumption | ((repeat (first | assumption | exact va_up_self _ _ _ | refine (va_up_ne _ _ (by first | assumption | exact hA.ne (by decide) | exact hA.ne (by omega))).trans ?_)); done)) (by omega) (by omega) (by assumption) (fun hr115 => ?_)
        refine z_aload_n C dX9_merge_116 rfl ?_
        refine z_get C dX9_merge_117 fl_X9_7 (by first | assumption | ((repeat (first | assumption | exact va_up_self _ _ _ | refine (va_up_ne _ _ (by first | assumption | exact hA.ne (by decide) | exact hA.ne (by omega))).trans ?_)); done)) rfl ?_
        refine z_iload_n C dX9_merge_120 rfl ?_
        refine z_callS C dX9_merge_121 lk_X9_92 mw_X9_atReader mst_X9_atReader k_X9_atReader rfl (by first | decide | exact Nat.le_of_ble_eq_true rfl) ⟨by decide, by decide, by decide, by decide⟩ (fun _ _ h => False.elim h) (fun v M' hp => ?_)
        obtain ⟨rfl, rfl⟩ := hp
        refine z_iconst C dX9_merge_124 ?_
        refine z_iaddZ C dX9_merge_125 ?_
        refine z_iload_n C dX9_merge_126 rfl ?_
        refine z_iaddZ C dX9_merge_127 ?_
        refine z_aldN C dX9_merge_128 (by first | assumption | ((repeat (first | assumption | exact va_up_self _ _ _ | refine (va_up_ne _ _ (by first | assumption | exact hA.ne (by decide) | exact hA.ne (by omega))).trans ?_)); done)) (by omega) (by omega) (by assumption) (fun hr128 => ?_)
        refine z_iaddZ C dX9_merge_129 ?_
        rw [← zi_zw (g2 (339 + 1412 * oo + 3 + k).toNat + g2 (339 + 1412 * rr + 3 + k).toNat)]
        refine z_astN C dX9_merge_130 (by first | assumption | ((repeat (first | assumption | exact va_up_self _ _ _ | refine (va_up_ne _ _ (by first | assumption | exact hA.ne (by decide) | exact hA.ne (by omega))).trans ?_)); done)) (by omega) (by omega) (by assumption) (zw_rng _) (fun hr130 => ?_)
        refine z_iincZ C dX9_merge_131 rfl (by decide) ?_
        refine z_goto (tgt := 96) C dX9_merge_134 (by decide) ?_
        refine ih Mr _ Fr gr g1 _ (k + 1) (by omega) (by omega) cr hFr er8 (f1.up rfl) (by rw [va_up_ne _ _ (hA.ne (by decide))]; exact hO1) (va_up_self _ _ _) hr130 hSr he hL (fun d d1 d2 => ?_) (fun i hi => ?_)
        · by_cases w : d = k
          · rw [w, va_up_self, zi_zw, eT, eS]
          · rw [va_up_ne _ _ (by omega)]
            exact hd d d1 (by omega)
        · rw [va_up_ne _ _ (by omega)]
          exact ho i (by omega)
  have adds : ∀ (c1 : 0 ≤ rr ∧ rr < sRn (yS Y)) (c2 : 0 ≤ oo ∧ oo < sRn (yS Y)) (c3 : rr ≠ oo) (t : Nat) (Mr M1 : zM) (Fr gr g1 : Nat → Int) (k : Int), mMa gr rr - k = t → 0 ≤ k ∧ k ≤ mMa gr rr → mF A M Mr [0, 4] → hMf γ Mr A Fr (yRem Y) → Fr 8 = 0 → mF A Mr M1 [1] → M1 (A 0) = some (mOb A Fr) → M1 (A 1) = some (zar γ 5987 g1) → (∀ j, zR (g1 j)) → mSt gr (yS Y) → mEq gr g1 oo → mRp g1 oo (mmg gr rr (rC (sRd (yS Y) oo.toNat)) k.toNat) (sG (yS Y)) → zAW p l e { frames := 10, cells := 0, slots := 0, locals := 330 } s m args below meth c γ 4 Q M1 0 0 42 [some (.ref (A 0)), some (.int (zi rr)), some (.int (zi oo)), some (.int (zi k))] [] := by
    intro c1 c2 c3 t
    have hco := (hY.2.2 oo.toNat (by omega)).1.2.2.1
    have hlen := sG_len hY
    induction t with
    | zero =>
      intro Mr M1 Fr gr g1 k ht hk cr hFr er8 f1 hO1 hM1 hg1 hSr he hL
      obtain rfl : k = mMa gr rr := by omega
      have hRr := hSr.r c1
      have ll := hRr.2.2.2.2.1
      have em : g1 (339 + 1412 * rr + 11).toNat = mMa gr rr := he _ (by omega)
      rw [mmg_fin hRr.2.2.2.2 (fun x => (hco x).2)] at hL
      refine z_iload_n C dX9_merge_42 rfl ?_
      refine z_aload_n C dX9_merge_43 rfl ?_
      refine z_get C dX9_merge_44 fl_X9_7 (by first | assumption | ((repeat (first | assumption | exact va_up_self _ _ _ | refine (va_up_ne _ _ (by first | assumption | exact hA.ne (by decide) | exact hA.ne (by omega))).trans ?_)); done)) rfl ?_
      refine z_iload_n C dX9_merge_47 rfl ?_
      refine z_callS C dX9_merge_48 lk_X9_92 mw_X9_atReader mst_X9_atReader k_X9_atReader rfl (by first | decide | exact Nat.le_of_ble_eq_true rfl) ⟨by decide, by decide, by decide, by decide⟩ (fun _ _ h => False.elim h) (fun v M' hp => ?_)
      obtain ⟨rfl, rfl⟩ := hp
      refine z_bipush C dX9_merge_51 (by decide) ?_
      refine z_iaddZ C dX9_merge_53 ?_
      refine z_aldN C dX9_merge_54 (by first | assumption | ((repeat (first | assumption | exact va_up_self _ _ _ | refine (va_up_ne _ _ (by first | assumption | exact hA.ne (by decide) | exact hA.ne (by omega))).trans ?_)); done)) (by omega) (by omega) (by assumption) (fun hr54 => ?_)
      rw [em]
      refine z_icmp_geZ (tgt := 94) C dX9_merge_55 (by decide) (by omega) (by omega) (fun h55 => ?_) (fun h55 => ?_)
      · refine z_iconst C dX9_merge_94 ?_
        refine z_istore_n C dX9_merge_95 (by decide) ?_
        exact fin c1 c2 c3 8 Mr _ Fr gr g1 g1 0 (by omega) (by omega) cr hFr er8 f1 hO1 hM1 hg1 hSr he hL (fun d d1 d2 => by omega) (fun i hi => rfl)
      · exact absurd h55 (by omega)
    | succ t ih =>
      intro Mr M1 Fr gr g1 k ht hk cr hFr er8 f1 hO1 hM1 hg1 hSr he hL
      have hRr := hSr.r c1
      obtain ⟨l1, l2, l3, l4⟩ := id hRr.2.2.2.2
      obtain ⟨k1, k2, k3⟩ := l2 k hk.1 (by omega)
      have kr := sG_rng k1
      have em : g1 (339 + 1412 * rr + 11).toNat = mMa gr rr := he _ (by omega)
      have ek : g1 (339 + 1412 * rr + 12 + 2 * k).toNat = mKe gr rr k := he _ (by omega)
      have ev : g1 (339 + 1412 * rr + 12 + 2 * k + 1).toNat = mVa gr rr k := he _ (by omega)
      have hle := hL.le hlen
      have had := hL.ad (by omega) k1 k2.1 (by omega)
      rw [zadd_fn] at had
      have haq := mAd_eq (g := g1) (r := oo) (key := mKe gr rr k) (v := mVa gr rr k) (by omega) ⟨hL.1.1, by omega⟩
      have qq := fun M2 g2 => ih Mr M2 Fr gr g2 (k + 1) (by omega) (by omega) cr hFr er8
      rw [show (k + 1).toNat = k.toNat + 1 by omega, mmg, show ((k.toNat : Nat) : Int) = k by omega] at qq
      refine z_iload_n C dX9_merge_42 rfl ?_
      refine z_aload_n C dX9_merge_43 rfl ?_
      refine z_get C dX9_merge_44 fl_X9_7 (by first | assumption | ((repeat (first | assumption | exact va_up_self _ _ _ | refine (va_up_ne _ _ (by first | assumption | exact hA.ne (by decide) | exact hA.ne (by omega))).trans ?_)); done)) rfl ?_
      refine z_iload_n C dX9_merge_47 rfl ?_
      refine z_callS C dX9_merge_48 lk_X9_92 mw_X9_atReader mst_X9_atReader k_X9_atReader rfl (by first | decide | exact Nat.le_of_ble_eq_true rfl) ⟨by decide, by decide, by decide, by decide⟩ (fun _ _ h => False.elim h) (fun v M' hp => ?_)
      obtain ⟨rfl, rfl⟩ := hp
      refine z_bipush C dX9_merge_51 (by decide) ?_
      refine z_iaddZ C dX9_merge_53 ?_
      refine z_aldN C dX9_merge_54 (by first | assumption | ((repeat (first | assumption | exact va_up_self _ _ _ | refine (va_up_ne _ _ (by first | assumption | exact hA.ne (by decide) | exact hA.ne (by omega))).trans ?_)); done)) (by omega) (by omega) (by assumption) (fun hr54 => ?_)
      rw [em]
      refine z_icmp_geZ (tgt := 94) C dX9_merge_55 (by decide) (by omega) (by omega) (fun h55 => ?_) (fun h55 => ?_)
      · exact absurd h55 (by omega)
      · refine z_aload_n C dX9_merge_58 rfl ?_
        refine z_get C dX9_merge_59 fl_X9_7 (by first | assumption | ((repeat (first | assumption | exact va_up_self _ _ _ | refine (va_up_ne _ _ (by first | assumption | exact hA.ne (by decide) | exact hA.ne (by omega))).trans ?_)); done)) rfl ?_
        refine z_iload_n C dX9_merge_62 rfl ?_
        refine z_aload_n C dX9_merge_63 rfl ?_
        refine z_get C dX9_merge_64 fl_X9_7 (by first | assumption | ((repeat (first | assumption | exact va_up_self _ _ _ | refine (va_up_ne _ _ (by first | assumption | exact hA.ne (by decide) | exact hA.ne (by omega))).trans ?_)); done)) rfl ?_
        refine z_iload_n C dX9_merge_67 rfl ?_
        refine z_iload_n C dX9_merge_68 rfl ?_
        refine z_callS C dX9_merge_69 lk_X9_95 mw_X9_entryAt mst_X9_entryAt k_X9_entryAt rfl (by first | decide | exact Nat.le_of_ble_eq_true rfl) ⟨by decide, by decide, by decide, by decide⟩ (fun _ _ h => False.elim h) (fun v M' hp => ?_)
        obtain ⟨rfl, rfl⟩ := hp
        refine z_aldN C dX9_merge_72 (by first | assumption | ((repeat (first | assumption | exact va_up_self _ _ _ | refine (va_up_ne _ _ (by first | assumption | exact hA.ne (by decide) | exact hA.ne (by omega))).trans ?_)); done)) (by omega) (by omega) (by assumption) (fun hr72 => ?_)
        rw [ek]
        refine z_aload_n C dX9_merge_73 rfl ?_
        refine z_get C dX9_merge_74 fl_X9_7 (by first | assumption | ((repeat (first | assumption | exact va_up_self _ _ _ | refine (va_up_ne _ _ (by first | assumption | exact hA.ne (by decide) | exact hA.ne (by omega))).trans ?_)); done)) rfl ?_
        refine z_iload_n C dX9_merge_77 rfl ?_
        refine z_iload_n C dX9_merge_78 rfl ?_
        refine z_callS C dX9_merge_79 lk_X9_95 mw_X9_entryAt mst_X9_entryAt k_X9_entryAt rfl (by first | decide | exact Nat.le_of_ble_eq_true rfl) ⟨by decide, by decide, by decide, by decide⟩ (fun _ _ h => False.elim h) (fun v M' hp => ?_)
        obtain ⟨rfl, rfl⟩ := hp
        refine z_iconst C dX9_merge_82 ?_
        refine z_iaddZ C dX9_merge_83 ?_
        refine z_aldN C dX9_merge_84 (by first | assumption | ((repeat (first | assumption | exact va_up_self _ _ _ | refine (va_up_ne _ _ (by first | assumption | exact hA.ne (by decide) | exact hA.ne (by omega))).trans ?_)); done)) (by omega) (by omega) (by assumption) (fun hr84 => ?_)
        rw [ev]
        refine z_callS C dX9_merge_85 lk_X9_110 mw_X9_addTo mst_X9_addTo (k_X9_addTo hM1 hg1 (r := oo) (by omega) hL.li (by omega) (key := mKe gr rr k) (by unfold zR; omega) (v := mVa gr rr k) (by omega)) rfl (by first | decide | exact Nat.le_of_ble_eq_true rfl) ⟨by decide, by decide, by decide, by decide⟩ (fun _ _ h => False.elim h) (fun v M' hp => ?_)
        obtain ⟨rfl, f85, h85, z85⟩ := hp
        have f85m : mF A _ _ [1] := f85
        refine z_iincZ C dX9_merge_88 rfl (by decide) ?_
        refine z_goto (tgt := 42) C dX9_merge_91 (by decide) ?_
        exact qq _ _ (f1.tr f85m ⟨rfl, rfl⟩) (f85m.at hA (.of rfl) hO1) h85 z85 hSr (he.tr haq) had
  refine z_aload_n C dX9_merge_0 rfl ?_
  refine z_iload_n C dX9_merge_1 rfl ?_
  refine z_callV C dX9_merge_2 lk_X9_295 mw_X9_noReader mi_X9_noReader ms_X9_noReader rfl (by first | assumption | ((repeat (first | assumption | exact va_up_self _ _ _ | refine (va_up_ne _ _ (by first | assumption | exact hA.ne (by decide) | exact hA.ne (by omega))).trans ?_)); done)) (k_X9_noReader hA hO hM hS hY r_rr) rfl (by first | decide | exact Nat.le_of_ble_eq_true rfl) ⟨by decide, by decide, by decide, by decide⟩ (fun _ _ h => False.elim h) (fun v M' hp => ?_)
  obtain ⟨r1, F1, rfl, f1, ob1, p1, e1, z1⟩ := hp
  have s1 := z1.rng
  have cf1 := f1
  have cp1 := p1
  have hM1 := cf1.at hA (.of rfl) hM
  refine z_if_neZ (tgt := 34) C dX9_merge_5 (by decide) (by omega) (fun h5 => ?_) (fun h5 => ?_)
  · refine z_iconst C dX9_merge_34 ?_
    refine z_iret C hQ dX9_merge_35 rfl (by decide) (by decide) ?_
    exact mAnsY.no hA hF cf1 ob1 cp1 e1 (z1.t h5) (by rw [q_merge, mqR_f (fun w => z1.t h5 (by rw [mqR_t w])), mqR_f (fun w => z1.t h5 (by rw [mqR_t w]))])
  · have t1 := Decidable.not_not.mp (z1.f h5)
    rw [t1] at e1
    obtain ⟨c1, -⟩ := mqR_0 t1
    refine z_aload_n C dX9_merge_8 rfl ?_
    refine z_iload_n C dX9_merge_9 rfl ?_
    refine z_callV C dX9_merge_10 lk_X9_295 mw_X9_noReader mi_X9_noReader ms_X9_noReader rfl (by first | assumption | ((repeat (first | assumption | exact va_up_self _ _ _ | refine (va_up_ne _ _ (by first | assumption | exact hA.ne (by decide) | exact hA.ne (by omega))).trans ?_)); done)) (k_X9_noReader hA ob1 hM1 hS hY r_oo) rfl (by first | decide | exact Nat.le_of_ble_eq_true rfl) ⟨by decide, by decide, by decide, by decide⟩ (fun _ _ h => False.elim h) (fun v M' hp => ?_)
    obtain ⟨r2, F2, rfl, f2, ob2, p2, e2, z2⟩ := hp
    have s2 := z2.rng
    have cf2 := cf1.tr (K := [0]) f2 ⟨rfl, rfl⟩
    have cp2 := cp1.tr (K := [8]) p2 ⟨rfl, rfl⟩
    have hM2 := cf2.at hA (.of rfl) hM
    refine z_if_neZ (tgt := 34) C dX9_merge_13 (by decide) (by omega) (fun h13 => ?_) (fun h13 => ?_)
    · refine z_iconst C dX9_merge_34 ?_
      refine z_iret C hQ dX9_merge_35 rfl (by decide) (by decide) ?_
      exact mAnsY.no hA hF cf2 ob2 cp2 e2 (z2.t h13) (by rw [q_merge, mqR_t c1, mqR_f (fun w => z2.t h13 (by rw [mqR_t w])), mqR_f (fun w => z2.t h13 (by rw [mqR_t w]))])
    · have t2 := Decidable.not_not.mp (z2.f h13)
      rw [t2] at e2
      obtain ⟨c2, -⟩ := mqR_0 t2
      refine z_aload_n C dX9_merge_16 rfl ?_
      refine z_iload_n C dX9_merge_17 rfl ?_
      refine z_iload_n C dX9_merge_18 rfl ?_
      refine z_icmp_neZ (tgt := 26) C dX9_merge_19 (by decide) (by omega) (by omega) (fun h19 => ?_) (fun h19 => ?_)
      · refine z_iconst C dX9_merge_26 ?_
        refine z_iconst C dX9_merge_27 ?_
        refine z_callV C dX9_merge_28 lk_X9_189 mw_X9_refuses mi_X9_refuses ms_X9_refuses rfl (by first | assumption | ((repeat (first | assumption | exact va_up_self _ _ _ | refine (va_up_ne _ _ (by first | assumption | exact hA.ne (by decide) | exact hA.ne (by omega))).trans ?_)); done)) (k_X9_refuses hA ob2 (r := 0) (w := 2) (by omega) (by omega) (by omega)) rfl (by first | decide | exact Nat.le_of_ble_eq_true rfl) ⟨by decide, by decide, by decide, by decide⟩ (fun _ _ h => False.elim h) (fun v M' hp => ?_)
        obtain ⟨r3, F3, rfl, f3, ob3, p3, e3, z3⟩ := hp
        have s3 := z3.rng
        have cf3 := cf2.tr (K := [0]) f3 ⟨rfl, rfl⟩
        have cp3 := cp2.tr (K := [8]) p3 ⟨rfl, rfl⟩
        refine z_if_eqZ (tgt := 36) C dX9_merge_31 (by decide) (by omega) (fun h31 => ?_) (fun h31 => ?_)
        · rw [if_neg (by omega), e2] at e3
          have hF1 := hF.q0 hA cf3 ob3 cp3 rfl
          refine z_aload_n C dX9_merge_36 rfl ?_
          refine z_callV C dX9_merge_37 lk_X9_286 mw_X9_remember mi_X9_remember ms_X9_remember rfl (by first | assumption | ((repeat (first | assumption | exact va_up_self _ _ _ | refine (va_up_ne _ _ (by first | assumption | exact hA.ne (by decide) | exact hA.ne (by omega))).trans ?_)); done)) (k_X9_remember hA hF1 hYk) rfl (by first | decide | exact Nat.le_of_ble_eq_true rfl) ⟨by decide, by decide, by decide, by decide⟩ (fun _ _ h => False.elim h) (fun v M' hp => ?_)
          obtain ⟨rfl, fr, Fr, pr, hFr⟩ := hp
          have orr := hFr.1.1
          obtain ⟨gr, hMr, hSr0⟩ := hFr.2.2.2.2.2.2.1
          have hSr : mSt gr (yS Y) := hSr0
          have hgr := hSr.1
          have er8 : Fr 8 = 0 := (pr 8 (by decide)).trans e3
          have crr := cf3.tr (K := [0, 4]) fr ⟨rfl, rfl⟩
          have ll := (hSr.r c1).2.2.2.2.1
          refine z_iconst C dX9_merge_40 ?_
          refine z_istore_n C dX9_merge_41 (by decide) ?_
          exact adds c1 c2 (by omega) (mMa gr rr).toNat _ _ Fr gr gr 0 (by omega) (by omega) crr hFr er8 mF.rf orr hMr hgr hSr (fun i hi => rfl) (hSr.r c2).2.2.2.2
        · exact absurd (by rw [if_neg (by omega), e2]) (z3.t h31)
      · refine z_iconst C dX9_merge_22 ?_
        refine z_goto (tgt := 27) C dX9_merge_23 (by decide) ?_
        refine z_iconst C dX9_merge_27 ?_
        refine z_callV C dX9_merge_28 lk_X9_189 mw_X9_refuses mi_X9_refuses ms_X9_refuses rfl (by first | assumption | ((repeat (first | assumption | exact va_up_self _ _ _ | refine (va_up_ne _ _ (by first | assumption | exact hA.ne (by decide) | exact hA.ne (by omega))).trans ?_)); done)) (k_X9_refuses hA ob2 (r := 1) (w := 2) (by omega) (by omega) (by omega)) rfl (by first | decide | exact Nat.le_of_ble_eq_true rfl) ⟨by decide, by decide, by decide, by decide⟩ (fun _ _ h => False.elim h) (fun v M' hp => ?_)
        obtain ⟨r3, F3, rfl, f3, ob3, p3, e3, z3⟩ := hp
        have s3 := z3.rng
        have cf3 := cf2.tr (K := [0]) f3 ⟨rfl, rfl⟩
        have cp3 := cp2.tr (K := [8]) p3 ⟨rfl, rfl⟩
        refine z_if_eqZ (tgt := 36) C dX9_merge_31 (by decide) (by omega) (fun h31 => ?_) (fun h31 => ?_)
        · exact absurd (by rw [if_pos ⟨e2, by decide⟩]; decide) (z3.f h31)
        · refine z_iconst C dX9_merge_34 ?_
          refine z_iret C hQ dX9_merge_35 rfl (by decide) (by decide) ?_
          exact mAnsY.no hA hF cf3 ob3 cp3 e3 (z3.t h31) (by rw [q_merge, mqR_t c1, mqR_t c2, mq2_f (by omega), if_pos ⟨e2, by decide⟩])

