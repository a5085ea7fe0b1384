/-! the model's questions: pairs of symbols -/
set_option maxHeartbeats 4000000 in
set_option maxRecDepth 100000 in
theorem k_X9_clearPairs {l : Launch} {γ : zG} {M : zM} {A : Nat → Nat} {F e0 : Nat → Int} (hA : mIA A) (hO : M (A 0) = some (mOb A F)) (hE : M (A 12) = some (zaz γ 729 e0)) :
    zCon l γ yX9_clearPairs cX9_clearPairs 2 none [.ref (A 0)] M 0 0 0 0 (fun v' M' => v' = none ∧ mF A M M' [12] ∧ ∃ ee, M' (A 12) = some (zaz γ 729 ee) ∧ ∀ s : Int, 0 ≤ s → s < 729 → ee s.toNat = 0) (fun _ _ => False) := by
  refine zEnter [some (.ref (A 0)), none] (by decide +kernel) rfl rfl (Nat.le_of_ble_eq_true rfl) ?_
  intro p e s m args below meth c Q C hin hQ
  have loop : ∀ (t : Nat) (M1 : zM) (i : Int) (ee : Nat → Int), 729 - i = t → 0 ≤ i ∧ i ≤ 729 → mF A M M1 [12] → M1 (A 0) = some (mOb A F) → M1 (A 12) = some (zaz γ 729 ee) → (∀ s : Int, 0 ≤ s → s < i → ee s.toNat = 0) → zAW p l e { frames := 0, cells := 0, slots := 0, locals := 0 } s m args below meth c γ 2 Q M1 0 0 2 [some (.ref (A 0)), some (.int (zi i))] [] := by
    intro t
    induction t with
    | zero =>
      intro M1 i ee ht hi hf hO1 hE1 hz
      obtain rfl : i = 729 := by omega
      refine z_iload_n C dX9_clearPairs_2 rfl ?_
      refine z_sipush C dX9_clearPairs_3 (by decide) ?_
      refine z_icmp_geZ (tgt := 22) C dX9_clearPairs_6 (by decide) (by omega) (by omega) (fun h6 => ?_) (fun h6 => ?_)
      · refine z_vret C hQ dX9_clearPairs_22 (by decide) (by decide) ?_
        exact ⟨rfl, hf, ee, hE1, hz⟩
      · exact absurd h6 (by omega)
    | succ t ih =>
      intro M1 i ee ht hi hf hO1 hE1 hz
      refine z_iload_n C dX9_clearPairs_2 rfl ?_
      refine z_sipush C dX9_clearPairs_3 (by decide) ?_
      refine z_icmp_geZ (tgt := 22) C dX9_clearPairs_6 (by decide) (by omega) (by omega) (fun h6 => ?_) (fun h6 => ?_)
      · exact absurd h6 (by omega)
      · refine z_aload_n C dX9_clearPairs_9 rfl ?_
        refine z_get C dX9_clearPairs_10 fl_X9_49 (by first | assumption | ((repeat (first | assumption | exact va_up_self _ _ _ | refine (va_up_ne _ _ (by first | assumption | exact hA.ne (by decide) | exact hA.ne (by omega))).trans ?_)); done)) rfl ?_
        refine z_iload_n C dX9_clearPairs_13 rfl ?_
        refine z_iconst C dX9_clearPairs_14 ?_
        refine z_astZi C dX9_clearPairs_15 hE1 (by omega) (by omega) (by decide) ?_
        refine z_iincZ C dX9_clearPairs_16 rfl (by decide) ?_
        refine z_goto (tgt := 2) C dX9_clearPairs_19 (by decide) ?_
        refine ih _ (i + 1) _ (by omega) (by omega) (hf.up rfl) (by rw [va_up_ne _ _ (hA.ne (by decide))]; exact hO1) (va_up_self _ _ _) (fun s s1 s2 => ?_)
        unfold va_up
        split
        · rfl
        · exact hz s s1 (by omega)
  refine z_iconst C dX9_clearPairs_0 ?_
  refine z_istore_n C dX9_clearPairs_1 (by decide) ?_
  exact loop 729 M 0 e0 (by omega) (by omega) mF.rf hO hE (fun s s1 s2 => by omega)
theorem zgp_ex {c : Int → Int} {q : Int} : zgp c q = 1 ↔ ∃ k, 756 + 27 * q ≤ k ∧ k < 756 + 27 * q + 27 ∧ c k ≠ 0 := by
  constructor
  · intro h
    by_cases w : ∃ k, 756 + 27 * q ≤ k ∧ k < 756 + 27 * q + 27 ∧ c k ≠ 0
    · exact w
    · have := zgp0 (c := c) (q := q) (fun k h1 h2 => by
        by_cases ee : c k = 0
        · exact ee
        · exact absurd ⟨k, h1, h2, ee⟩ w)
      omega
  · rintro ⟨k, h1, h2, h3⟩
    exact zgp1 h1 h2 h3
theorem zgp_01 (c : Int → Int) (q : Int) : zgp c q = 0 ∨ zgp c q = 1 := by
  unfold zgp
  split
  · exact .inl rfl
  · exact .inr rfl
set_option maxHeartbeats 4000000 in
set_option maxRecDepth 100000 in
theorem k_X9_markPairs {l : Launch} {γ : zG} {M : zM} {A : Nat → Nat} {F e0 g : Nat → Int} {r : Int} {c0 : Int → Int} {G : List Int} (hA : mIA A) (hO : M (A 0) = some (mOb A F)) (hM : M (A 1) = some (zar γ 5987 g)) (hg : ∀ j, zR (g j)) (hr : 0 ≤ r ∧ r < 4) (hL : mRp g r c0 G) (hG : ∀ x, x ∈ G → 0 ≤ x ∧ x < 20439) (hE : M (A 12) = some (zaz γ 729 e0)) (he : ∀ s : Int, 0 ≤ s → s < 729 → e0 s.toNat = 0 ∨ e0 s.toNat = 1) :
    zCon l γ yX9_markPairs cX9_markPairs 4 none [.ref (A 0), .int (zi r)] M 2 45 0 0 (fun v' M' => v' = none ∧ mF A M M' [12] ∧ ∃ ee, M' (A 12) = some (zaz γ 729 ee) ∧ ∀ s : Int, 0 ≤ s → s < 729 → (ee s.toNat = 0 ∨ ee s.toNat = 1) ∧ (ee s.toNat = 1 ↔ e0 s.toNat = 1 ∨ zgp c0 s = 1)) (fun _ _ => False) := by
  obtain ⟨l1, l2, l3, l4⟩ := id hL
  refine zEnter [some (.ref (A 0)), some (.int (zi r)), none, none] (by decide +kernel) rfl rfl (Nat.le_of_ble_eq_true rfl) ?_
  intro p e s m args below meth c Q C hin hQ
  have loop : ∀ (t : Nat) (M1 : zM) (i : Int) (ee : Nat → Int) (x3 : Option Value), mMa g r - i = t → 0 ≤ i ∧ i ≤ mMa g r → mF A M M1 [12] → M1 (A 12) = some (zaz γ 729 ee) → (∀ s : Int, 0 ≤ s → s < 729 → (ee s.toNat = 0 ∨ ee s.toNat = 1) ∧ (ee s.toNat = 1 ↔ e0 s.toNat = 1 ∨ ∃ j : Int, 0 ≤ j ∧ j < i ∧ 756 ≤ mKe g r j ∧ 0 < mVa g r j ∧ (mKe g r j - 756) / 27 = s)) → zAW p l e { frames := 2, cells := 0, slots := 0, locals := 45 } s m args below meth c γ 4 Q M1 0 0 2 [some (.ref (A 0)), some (.int (zi r)), some (.int (zi i)), x3] [] := by
    intro t
    induction t with
    | zero =>
      intro M1 i ee x3 ht hi hf hE1 hz
      obtain rfl : i = mMa g r := by omega
      have hO1 := hf.at hA (.of rfl) hO
      have hM1 := hf.at hA (.of rfl) hM
      refine z_iload_n C dX9_markPairs_2 rfl ?_
      refine z_aload_n C dX9_markPairs_3 rfl ?_
      refine z_get C dX9_markPairs_4 fl_X9_7 (by first | assumption | ((repeat (first | assumption | exact va_up_self _ _ _ | refine (va_up_ne _ _ (by first | assumption | exact hA.ne (by decide) | exact hA.ne (by omega))).trans ?_)); done)) rfl ?_
      refine z_iload_n C dX9_markPairs_7 rfl ?_
      refine z_callS C dX9_markPairs_8 lk_X9_92 mw_X9_atReader mst_X9_atReader k_X9_atReader rfl (by first | decide | exact Nat.le_of_ble_eq_true rfl) ⟨by decide, by decide, by decide, by decide⟩ (fun _ _ h => False.elim h) (fun v M' hp => ?_)
      obtain ⟨rfl, rfl⟩ := hp
      refine z_bipush C dX9_markPairs_11 (by decide) ?_
      refine z_iaddZ C dX9_markPairs_13 ?_
      refine z_aldN C dX9_markPairs_14 (by first | assumption | ((repeat (first | assumption | exact va_up_self _ _ _ | refine (va_up_ne _ _ (by first | assumption | exact hA.ne (by decide) | exact hA.ne (by omega))).trans ?_)); done)) (by omega) (by omega) (by assumption) (fun hr14 => ?_)
      rw [show g (339 + 1412 * r + 11).toNat = mMa g r from rfl]
      refine z_icmp_geZ (tgt := 71) C dX9_markPairs_15 (by decide) (by omega) (by omega) (fun h15 => ?_) (fun h15 => ?_)
      · refine z_vret C hQ dX9_markPairs_71 (by decide) (by decide) ?_
        refine ⟨rfl, hf, ee, hE1, fun s s1 s2 => ⟨(hz s s1 s2).1, (hz s s1 s2).2.trans ?_⟩⟩
        rw [zgp_ex]
        constructor
        · rintro (w | ⟨j, j1, j2, j3, j4, j5⟩)
          · exact .inl w
          · exact .inr ⟨mKe g r j, by omega, by omega, by rw [(l2 j j1 j2).2.2]; omega⟩
        · rintro (w | ⟨k, k1, k2, k3⟩)
          · exact .inl w
          · obtain ⟨j, j1, j2, j3⟩ := l4 k k3
            have q := l2 j j1 j2
            rw [j3] at q
            exact .inr ⟨j, j1, j2, by omega, by omega, by omega⟩
      · exact absurd h15 (by omega)
    | succ t ih =>
      intro M1 i ee x3 ht hi hf hE1 hz
      have hO1 := hf.at hA (.of rfl) hO
      have hM1 := hf.at hA (.of rfl) hM
      obtain ⟨k1, k2, k3⟩ := l2 i hi.1 (by omega)
      have k4 := hG _ k1
      have st : ∀ x3, ¬ (756 ≤ mKe g r i ∧ 0 < mVa g r i) → zAW p l e { frames := 2, cells := 0, slots := 0, locals := 45 } s m args below meth c γ 4 Q M1 0 0 2 [some (.ref (A 0)), some (.int (zi r)), some (.int (zi (i + 1))), x3] [] := fun x3 hn => ih M1 (i + 1) ee x3 (by omega) (by omega) hf hE1 (fun s s1 s2 => ⟨(hz s s1 s2).1, (hz s s1 s2).2.trans (or_congr Iff.rfl ⟨fun ⟨j, j1, j2, j3⟩ => ⟨j, j1, by omega, j3⟩, fun ⟨j, j1, j2, j3, j4, j5⟩ => ⟨j, j1, by
        by_cases w : j = i
        · rw [w] at j3 j4
          exact absurd ⟨j3, j4⟩ hn
        · omega, j3, j4, j5⟩⟩)⟩)
      refine z_iload_n C dX9_markPairs_2 rfl ?_
      refine z_aload_n C dX9_markPairs_3 rfl ?_
      refine z_get C dX9_markPairs_4 fl_X9_7 (by first | assumption | ((repeat (first | assumption | exact va_up_self _ _ _ | refine (va_up_ne _ _ (by first | assumption | exact hA.ne (by decide) | exact hA.ne (by omega))).trans ?_)); done)) rfl ?_
      refine z_iload_n C dX9_markPairs_7 rfl ?_
      refine z_callS C dX9_markPairs_8 lk_X9_92 mw_X9_atReader mst_X9_atReader k_X9_atReader rfl (by first | decide | exact Nat.le_of_ble_eq_true rfl) ⟨by decide, by decide, by decide, by decide⟩ (fun _ _ h => False.elim h) (fun v M' hp => ?_)
      obtain ⟨rfl, rfl⟩ := hp
      refine z_bipush C dX9_markPairs_11 (by decide) ?_
      refine z_iaddZ C dX9_markPairs_13 ?_
      refine z_aldN C dX9_markPairs_14 (by first | assumption | ((repeat (first | assumption | exact va_up_self _ _ _ | refine (va_up_ne _ _ (by first | assumption | exact hA.ne (by decide) | exact hA.ne (by omega))).trans ?_)); done)) (by omega) (by omega) (by assumption) (fun hr14 => ?_)
      rw [show g (339 + 1412 * r + 11).toNat = mMa g r from rfl]
      refine z_icmp_geZ (tgt := 71) C dX9_markPairs_15 (by decide) (by omega) (by omega) (fun h15 => ?_) (fun h15 => ?_)
      · exact absurd h15 (by omega)
      · refine z_aload_n C dX9_markPairs_18 rfl ?_
        refine z_get C dX9_markPairs_19 fl_X9_7 (by first | assumption | ((repeat (first | assumption | exact va_up_self _ _ _ | refine (va_up_ne _ _ (by first | assumption | exact hA.ne (by decide) | exact hA.ne (by omega))).trans ?_)); done)) rfl ?_
        refine z_iload_n C dX9_markPairs_22 rfl ?_
        refine z_iload_n C dX9_markPairs_23 rfl ?_
        refine z_callS C dX9_markPairs_24 lk_X9_95 mw_X9_entryAt mst_X9_entryAt k_X9_entryAt rfl (by first | decide | exact Nat.le_of_ble_eq_true rfl) ⟨by decide, by decide, by decide, by decide⟩ (fun _ _ h => False.elim h) (fun v M' hp => ?_)
        obtain ⟨rfl, rfl⟩ := hp
        refine z_aldN C dX9_markPairs_27 (by first | assumption | ((repeat (first | assumption | exact va_up_self _ _ _ | refine (va_up_ne _ _ (by first | assumption | exact hA.ne (by decide) | exact hA.ne (by omega))).trans ?_)); done)) (by omega) (by omega) (by assumption) (fun hr27 => ?_)
        rw [show g (339 + 1412 * r + 12 + 2 * i).toNat = mKe g r i from rfl] at hr27 ⊢
        refine z_istore_n C dX9_markPairs_28 (by decide) ?_
        refine z_iload_n C dX9_markPairs_29 rfl ?_
        refine z_sipush C dX9_markPairs_30 (by decide) ?_
        refine z_icmp_ltZ (tgt := 65) C dX9_markPairs_33 (by decide) (by omega) (by omega) (fun h33 => ?_) (fun h33 => ?_)
        · refine z_iincZ C dX9_markPairs_65 rfl (by decide) ?_
          refine z_goto (tgt := 2) C dX9_markPairs_68 (by decide) ?_
          exact st _ (by omega)
        · refine z_aload_n C dX9_markPairs_36 rfl ?_
          refine z_get C dX9_markPairs_37 fl_X9_7 (by first | assumption | ((repeat (first | assumption | exact va_up_self _ _ _ | refine (va_up_ne _ _ (by first | assumption | exact hA.ne (by decide) | exact hA.ne (by omega))).trans ?_)); done)) rfl ?_
          refine z_iload_n C dX9_markPairs_40 rfl ?_
          refine z_iload_n C dX9_markPairs_41 rfl ?_
          refine z_callS C dX9_markPairs_42 lk_X9_95 mw_X9_entryAt mst_X9_entryAt k_X9_entryAt rfl (by first | decide | exact Nat.le_of_ble_eq_true rfl) ⟨by decide, by decide, by decide, by decide⟩ (fun _ _ h => False.elim h) (fun v M' hp => ?_)
          obtain ⟨rfl, rfl⟩ := hp
          refine z_iconst C dX9_markPairs_45 ?_
          refine z_iaddZ C dX9_markPairs_46 ?_
          refine z_aldN C dX9_markPairs_47 (by first | assumption | ((repeat (first | assumption | exact va_up_self _ _ _ | refine (va_up_ne _ _ (by first | assumption | exact hA.ne (by decide) | exact hA.ne (by omega))).trans ?_)); done)) (by omega) (by omega) (by assumption) (fun hr47 => ?_)
          rw [show g (339 + 1412 * r + 12 + 2 * i + 1).toNat = mVa g r i from rfl]
          refine z_if_leZ (tgt := 65) C dX9_markPairs_48 (by decide) (by omega) (fun h48 => ?_) (fun h48 => ?_)
          · refine z_iincZ C dX9_markPairs_65 rfl (by decide) ?_
            refine z_goto (tgt := 2) C dX9_markPairs_68 (by decide) ?_
            exact st _ (by omega)
          · refine z_aload_n C dX9_markPairs_51 rfl ?_
            refine z_get C dX9_markPairs_52 fl_X9_49 (by first | assumption | ((repeat (first | assumption | exact va_up_self _ _ _ | refine (va_up_ne _ _ (by first | assumption | exact hA.ne (by decide) | exact hA.ne (by omega))).trans ?_)); done)) rfl ?_
            refine z_iload_n C dX9_markPairs_55 rfl ?_
            refine z_sipush C dX9_markPairs_56 (by decide) ?_
            refine z_isubZ C dX9_markPairs_59 ?_
            refine z_bipush C dX9_markPairs_60 (by decide) ?_
            refine z_idivZ C dX9_markPairs_62 (by omega) (by omega) ?_
            refine z_iconst C dX9_markPairs_63 ?_
            refine z_astZi C dX9_markPairs_64 hE1 (by omega) (by omega) (by decide) ?_
            refine z_iincZ C dX9_markPairs_65 rfl (by decide) ?_
            refine z_goto (tgt := 2) C dX9_markPairs_68 (by decide) ?_
            refine ih _ (i + 1) _ _ (by omega) (by omega) (hf.up rfl) (va_up_self _ _ _) (fun s s1 s2 => ?_)
            by_cases w : s = (mKe g r i - 756) / 27
            · rw [w, va_up_self]
              exact ⟨.inr rfl, fun _ => .inr ⟨i, hi.1, by omega, by omega, by omega, rfl⟩, fun _ => rfl⟩
            · rw [va_up_ne _ _ (by omega)]
              refine ⟨(hz s s1 s2).1, (hz s s1 s2).2.trans (or_congr Iff.rfl ⟨fun ⟨j, j1, j2, j3⟩ => ⟨j, j1, by omega, j3⟩, fun ⟨j, j1, j2, j3, j4, j5⟩ => ⟨j, j1, ?_, j3, j4, j5⟩⟩)⟩
              by_cases w2 : j = i
              · rw [w2] at j5
                exact absurd j5.symm w
              · omega
  refine z_iconst C dX9_markPairs_0 ?_
  refine z_istore_n C dX9_markPairs_1 (by decide) ?_
  refine loop (mMa g r).toNat M 0 e0 none (by omega) (by omega) mF.rf hE (fun s s1 s2 => ⟨he s s1 s2, ⟨fun w => .inl w, fun w => ?_⟩⟩)
  rcases w with w | ⟨j, j1, j2, -⟩
  · exact w
  · omega
theorem hMf.p {γ : zG} {A : Nat → Nat} {M M' : zM} {F : Nat → Int} {Y : zSys} (hA : mIA A) (h : hMf γ M A F Y) (f : mF A M M' [12]) (h12 : ∃ ee, M' (A 12) = some (zaz γ 729 ee)) : hMf γ M' A F Y := by
  obtain ⟨⟨a, a1, a2⟩, ⟨b, b1, b2⟩, ⟨c, c1⟩, -, x, x1, x2⟩ := h.2.2.2.2.2.2.2
  exact h.q hA f rfl mKp.rf (K' := []) rfl (h.1.fr hA f (.of rfl) (.of rfl) (.of rfl) (.of rfl)) ⟨⟨a, f.at hA (.of rfl) a1, a2⟩, ⟨b, f.at hA (.of rfl) b1, b2⟩, ⟨c, f.at hA (.of rfl) c1⟩, h12, x, f.at hA (.of rfl) x1, x2⟩
set_option maxHeartbeats 4000000 in
set_option maxRecDepth 100000 in
theorem k_X9_firstIn {l : Launch} {γ : zG} {M : zM} {A : Nat → Nat} {F : Nat → Int} {g : Nat → Int} {r b0 p0 : Int} {c0 : Int → Int} {G : List Int} (hA : mIA A) (hO : mSc γ M A F) (hM : M (A 1) = some (zar γ 5987 g)) (hg : ∀ j, zR (g j)) (hr : 0 ≤ r ∧ r < 4) (hb : -1 ≤ b0 ∧ b0 < 27) (hp0 : -1 ≤ p0 ∧ p0 < 27) (hv : b0 ≠ -1 → p0 ≠ -1) (hL : mRp g r c0 G) (hG : ∀ x, x ∈ G → 0 ≤ x ∧ x < 20439) (hc : zcR c0) :
    zCon l γ yX9_firstIn cX9_firstIn 4 (some .int) [.ref (A 0), .int (zi r), .int (zi b0), .int (zi p0)] M 4 98 0 0 (fun v' M' => v' = some (.int (zi (zgs c0 b0 p0 1))) ∧ (0 ≤ zgs c0 b0 p0 1 ∧ zgs c0 b0 p0 1 < 27) ∧ mF A M M' [0, 7, 8, 9] ∧ ∃ F', mKp [10, 13] F F' ∧ mSc γ M' A F') (fun _ _ => False) := by
  refine zEnter [some (.ref (A 0)), some (.int (zi r)), some (.int (zi b0)), some (.int (zi p0))] (by decide +kernel) rfl rfl (Nat.le_of_ble_eq_true rfl) ?_
  intro p e s m args below meth c Q C hin hQ
  refine z_aload_n C dX9_firstIn_0 rfl ?_
  refine z_aload_n C dX9_firstIn_1 rfl ?_
  refine z_get C dX9_firstIn_2 fl_X9_7 hO.1 rfl ?_
  refine z_iload_n C dX9_firstIn_5 rfl ?_
  refine z_iload_n C dX9_firstIn_6 rfl ?_
  refine z_iload_n C dX9_firstIn_7 rfl ?_
  refine z_callV C dX9_firstIn_8 lk_X9_145 mw_X9_rankAll mi_X9_rankAll ms_X9_rankAll rfl hO.1 (k_X9_rankAll hA hO (kq := 1) (.inl rfl) hM hg hr hb hp0 hv hL hG hc) rfl (by first | decide | exact Nat.le_of_ble_eq_true rfl) ⟨by decide, by decide, by decide, by decide⟩ (fun _ _ h => False.elim h) (fun v M' hp => ?_)
  obtain ⟨rfl, fa, Fa, pa, sa, ⟨ra, ra1, ra2, ra3⟩, rb, rb1, rb2, rb3⟩ := hp
  have oa := sa.1
  have gs := ra3.gs (i := 0) (by omega)
  have gr := ra3.gs_rng (k := 1) (by omega)
  refine z_aload_n C dX9_firstIn_11 rfl ?_
  refine z_get C dX9_firstIn_12 fl_X9_33 (by first | assumption | ((repeat (first | assumption | exact va_up_self _ _ _ | refine (va_up_ne _ _ (by first | assumption | exact hA.ne (by decide) | exact hA.ne (by omega))).trans ?_)); done)) rfl ?_
  refine z_iconst C dX9_firstIn_15 ?_
  refine z_aldN C dX9_firstIn_16 (by first | assumption | ((repeat (first | assumption | exact va_up_self _ _ _ | refine (va_up_ne _ _ (by first | assumption | exact hA.ne (by decide) | exact hA.ne (by omega))).trans ?_)); done)) (by omega) (by omega) ra2 (fun hr16 => ?_)
  refine z_iret C hQ dX9_firstIn_17 rfl (by decide) (by decide) ?_
  rw [show ra (0 : Int).toNat = zgs c0 b0 p0 1 from gs.symm]
  exact ⟨rfl, gr, fa, Fa, pa, sa⟩
set_option maxHeartbeats 4000000 in
set_option maxRecDepth 100000 in
theorem m_order2Contexts {l : Launch} {γ : zG} {M : zM} {A : Nat → Nat} {Y : zSys} {t0 : Int} {rr : Int} (hMo0 : hMo γ M A Y t0) (hY : zOk (yS Y)) (r_rr : zR rr) :
    zCon l γ yX9_order2Contexts cX9_order2Contexts 4 (some .int) [.ref (A 0), .int (zi rr)] M 10 330 0 0 (mAns γ A M Y (q_order2Contexts (yS Y) rr)) (fun _ _ => False) := by
  obtain ⟨hA, F, h8, hF⟩ := hMo0
  obtain ⟨hsc, hec, hun, hsl, hinp, hou, ⟨g, hM, hS⟩, hrs⟩ := id hF
  have hO := hsc.1
  have hg := hS.1
  have o1 := hY.1
  have z_rr := r_rr
  unfold zR at z_rr
  refine zEnter [some (.ref (A 0)), some (.int (zi rr)), none, none] (by decide +kernel) rfl rfl (Nat.le_of_ble_eq_true rfl) ?_
  intro p e s m args below meth c Q C hin hQ
  have loop : ∀ (c1 : 0 ≤ rr ∧ rr < sRn (yS Y)) (t : Nat) (M1 : zM) (F1 ee : Nat → Int) (i : Int), 729 - i = t → 0 ≤ i ∧ i ≤ 729 → M1 (A 12) = some (zaz γ 729 ee) → (∀ s : Int, 0 ≤ s → s < 729 → (ee s.toNat = 0 ∨ ee s.toNat = 1) ∧ (ee s.toNat = 1 ↔ zgp (rC (sRd (yS Y) rr.toNat)) s = 1)) → hMf γ M1 A F1 Y → F1 8 = 0 → mAll A M M1 → zAW p l e { frames := 10, cells := 0, slots := 0, locals := 330 } s m args below meth c γ 4 Q M1 0 0 23 [some (.ref (A 0)), some (.int (zi rr)), some (.int (zi (zsum (zgp (rC (sRd (yS Y) rr.toNat))) 0 i.toNat))), some (.int (zi i))] [] := by
    intro c1 t
    induction t with
    | zero =>
      intro M1 F1 ee i ht hi hE hz hF1 e8 hal
      obtain rfl : i = 729 := by omega
      refine z_iload_n C dX9_order2Contexts_23 rfl ?_
      refine z_sipush C dX9_order2Contexts_24 (by decide) ?_
      refine z_icmp_geZ (tgt := 53) C dX9_order2Contexts_27 (by decide) (by omega) (by omega) (fun h27 => ?_) (fun h27 => ?_)
      · refine z_iload_n C dX9_order2Contexts_53 rfl ?_
        refine z_iret C hQ dX9_order2Contexts_54 rfl (by decide) (by decide) ?_
        exact mAns.ok hA hF1 hal e8 (by rw [q_order2Contexts, mqR_t c1]; rfl) rfl
      · exact absurd h27 (by omega)
    | succ t ih =>
      intro M1 F1 ee i ht hi hE hz hF1 e8 hal
      have hO1 := hF1.1.1
      obtain ⟨z1, z2⟩ := hz i hi.1 (by omega)
      have z3 := zgp_01 (rC (sRd (yS Y) rr.toNat)) i
      have qq := ih M1 F1 ee (i + 1) (by omega) (by omega) hE hz hF1 e8 hal
      rw [zsum_nx hi.1] at qq
      refine z_iload_n C dX9_order2Contexts_23 rfl ?_
      refine z_sipush C dX9_order2Contexts_24 (by decide) ?_
      refine z_icmp_geZ (tgt := 53) C dX9_order2Contexts_27 (by decide) (by omega) (by omega) (fun h27 => ?_) (fun h27 => ?_)
      · exact absurd h27 (by omega)
      · refine z_iload_n C dX9_order2Contexts_30 rfl ?_
        refine z_aload_n C dX9_order2Contexts_31 rfl ?_
        refine z_get C dX9_order2Contexts_32 fl_X9_49 (by first | assumption | ((repeat (first | assumption | exact va_up_self _ _ _ | refine (va_up_ne _ _ (by first | assumption | exact hA.ne (by decide) | exact hA.ne (by omega))).trans ?_)); done)) rfl ?_
        refine z_iload_n C dX9_order2Contexts_35 rfl ?_
        refine z_aldZi C dX9_order2Contexts_36 hE (by omega) (by omega) ?_
        refine z_if_eqZ (tgt := 44) C dX9_order2Contexts_37 (by decide) (by omega) (fun h37 => ?_) (fun h37 => ?_)
        · refine z_iconst C dX9_order2Contexts_44 ?_
          refine z_iaddZ C dX9_order2Contexts_45 ?_
          refine z_istore_n C dX9_order2Contexts_46 (by decide) ?_
          refine z_iincZ C dX9_order2Contexts_47 rfl (by decide) ?_
          refine z_goto (tgt := 23) C dX9_order2Contexts_50 (by decide) ?_
          rw [show zgp (rC (sRd (yS Y) rr.toNat)) i = 0 by omega] at qq
          exact qq
        · refine z_iconst C dX9_order2Contexts_40 ?_
          refine z_goto (tgt := 45) C dX9_order2Contexts_41 (by decide) ?_
          refine z_iaddZ C dX9_order2Contexts_45 ?_
          refine z_istore_n C dX9_order2Contexts_46 (by decide) ?_
          refine z_iincZ C dX9_order2Contexts_47 rfl (by decide) ?_
          refine z_goto (tgt := 23) C dX9_order2Contexts_50 (by decide) ?_
          rw [show zgp (rC (sRd (yS Y) rr.toNat)) i = 1 by omega] at qq
          exact qq
  refine z_aload_n C dX9_order2Contexts_0 rfl ?_
  refine z_iload_n C dX9_order2Contexts_1 rfl ?_
  refine z_callV C dX9_order2Contexts_2 lk_X9_295 mw_X9_noReader mi_X9_noReader ms_X9_noReader rfl (by first | assumption | ((repeat (first | assumption | exact va_up_self _ _ _ | refine (va_up_ne _ _ (by first | assumption | exact hA.ne (by decide) | exact hA.ne (by omega))).trans ?_)); done)) (k_X9_noReader hA hO hM hS hY r_rr) rfl (by first | decide | exact Nat.le_of_ble_eq_true rfl) ⟨by decide, by decide, by decide, by decide⟩ (fun _ _ h => False.elim h) (fun v M' hp => ?_)
  obtain ⟨r1, F1, rfl, f1, ob1, p1, e1, z1⟩ := hp
  have s1 := z1.rng
  have cf1 := f1
  have cp1 := p1
  have hM1 := cf1.at hA (.of rfl) hM
  refine z_if_eqZ (tgt := 10) C dX9_order2Contexts_5 (by decide) (by omega) (fun h5 => ?_) (fun h5 => ?_)
  · have t1 := Decidable.not_not.mp (z1.f h5)
    rw [t1] at e1
    obtain ⟨c1, -⟩ := mqR_0 t1
    have hF1 := hF.q0 hA cf1 ob1 cp1 rfl
    have hSr := hS.r c1
    obtain ⟨e12, h12⟩ := hF1.2.2.2.2.2.2.2.2.2.2.1
    refine z_aload_n C dX9_order2Contexts_10 rfl ?_
    refine z_callV C dX9_order2Contexts_11 lk_X9_319 mw_X9_clearPairs mi_X9_clearPairs ms_X9_clearPairs rfl (by first | assumption | ((repeat (first | assumption | exact va_up_self _ _ _ | refine (va_up_ne _ _ (by first | assumption | exact hA.ne (by decide) | exact hA.ne (by omega))).trans ?_)); done)) (k_X9_clearPairs hA ob1 h12) rfl (by first | decide | exact Nat.le_of_ble_eq_true rfl) ⟨by decide, by decide, by decide, by decide⟩ (fun _ _ h => False.elim h) (fun v M' hp => ?_)
    obtain ⟨rfl, fc, ec, hc12, hcz⟩ := hp
    have oc := fc.at hA (.of rfl) ob1
    have mc12 := fc.at hA (.of rfl) hM1
    refine z_aload_n C dX9_order2Contexts_14 rfl ?_
    refine z_iload_n C dX9_order2Contexts_15 rfl ?_
    refine z_callV C dX9_order2Contexts_16 lk_X9_322 mw_X9_markPairs mi_X9_markPairs ms_X9_markPairs rfl (by first | assumption | ((repeat (first | assumption | exact va_up_self _ _ _ | refine (va_up_ne _ _ (by first | assumption | exact hA.ne (by decide) | exact hA.ne (by omega))).trans ?_)); done)) (k_X9_markPairs hA oc mc12 hg (r := rr) (by omega) hSr.2.2.2.2 (fun x hx => sG_rng hx) hc12 (fun s s1 s2 => .inl (hcz s s1 s2))) rfl (by first | decide | exact Nat.le_of_ble_eq_true rfl) ⟨by decide, by decide, by decide, by decide⟩ (fun _ _ h => False.elim h) (fun v M' hp => ?_)
    obtain ⟨rfl, fm, em, hm12, hmz⟩ := hp
    refine z_iconst C dX9_order2Contexts_19 ?_
    refine z_istore_n C dX9_order2Contexts_20 (by decide) ?_
    refine z_iconst C dX9_order2Contexts_21 ?_
    refine z_istore_n C dX9_order2Contexts_22 (by decide) ?_
    exact loop c1 729 _ F1 em 0 (by omega) (by omega) hm12 (fun s s1 s2 => ⟨(hmz s s1 s2).1, (hmz s s1 s2).2.trans ⟨fun w => by rcases w with w | w; rw [hcz s s1 s2] at w; omega; exact w, fun w => .inr w⟩⟩) ((hF1.p hA fc ⟨_, hc12⟩).p hA fm ⟨_, hm12⟩) e1 ((cf1.tr (K := [0, 12]) (fc.tr (K := [12]) fm ⟨rfl, rfl⟩) ⟨rfl, rfl⟩).mo rfl)
  · refine z_iconst C dX9_order2Contexts_8 ?_
    refine z_iret C hQ dX9_order2Contexts_9 rfl (by decide) (by decide) ?_
    exact mAns.no hA hF cf1 ob1 cp1 e1 (z1.t h5) (mqR_1 rfl)

