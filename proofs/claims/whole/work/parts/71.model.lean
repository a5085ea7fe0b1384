/-! the model: a year ends -/
def sYh (S : zSt) (r : Nat) : zSt := (sYr S + 1, sRn S, sDn S, fun i => if i < r then rHlf (sRd S i) else sRd S i, sDc S)
theorem sYh_ok {S : zSt} (h : zOk S) (r : Nat) : zOk (sYh S r) := ⟨h.1, h.2.1, fun i hi => by
  show zRok (if i < r then rHlf (sRd S i) else sRd S i) ∧ zRki (if i < r then rHlf (sRd S i) else sRd S i) _
  split
  · exact h.year.2.2 i hi
  · exact h.2.2 i hi⟩
theorem sYh_next (S : zSt) (r : Nat) : sSetR (sYh S r) r (rHlf (sRd S r)) = sYh S (r + 1) := by
  unfold sSetR sYh
  congr 3
  congr 1
  funext i
  show va_up (fun i => if i < r then rHlf (sRd S i) else sRd S i) r (rHlf (sRd S r)) i = _
  by_cases e : i = r
  · subst e
    rw [va_up_self, if_pos (by omega)]
  · rw [va_up_ne _ _ e]
    by_cases q : i < r
    · rw [if_pos q, if_pos (by omega)]
    · rw [if_neg q, if_neg (by omega)]
theorem mSt.rds {g : Nat → Int} {S S' : zSt} (h : mSt g S) (e1 : sYr S = sYr S') (e2 : sRn S = sRn S') (e3 : sDn S = sDn S') (e4 : ∀ d : Nat, d < sDn S → sDc S d = sDc S' d) (e5 : ∀ r : Nat, r < sRn S → sRd S r = sRd S' r) : mSt g S' := by
  obtain ⟨h0, h1, h2, h3, h4, h5⟩ := h
  have eG : sG S = sG S' := sG_cg e3 e4
  refine ⟨h0, by rw [← e1]; exact h1, by rw [← e3]; exact h2, by rw [← e2]; exact h3, fun d hd => ?_, fun r hr => ?_⟩
  · rw [← e4 d (by omega)]
    exact h4 d (by omega)
  · rw [← e5 r (by omega), ← eG]
    exact h5 r (by omega)
/-- the first k entries of a reader halved -/
def mHi (g g1 : Nat → Int) (r k : Int) : Prop := mEq g g1 r ∧ mMa g1 r = mMa g r ∧ ∀ j : Int, 0 ≤ j → j < mMa g r → mKe g1 r j = mKe g r j ∧ mVa g1 r j = if j < k then mVa g r j / 2 else mVa g r j
theorem mHi.fin {g g1 : Nat → Int} {r : Int} {c : Int → Int} {G : List Int} (h : mHi g g1 r (mMa g r)) (hL : mRp g r c G) : mRp g1 r (zhlf c) G := by
  obtain ⟨h1, h2, h3⟩ := h
  obtain ⟨l1, l2, l3, l4⟩ := hL
  refine ⟨by rw [h2]; exact l1, fun j a1 a2 => ?_, fun i j a1 a2 a3 => ?_, fun key hk => ?_⟩
  · rw [h2] at a2
    obtain ⟨b1, b2⟩ := h3 j a1 a2
    rw [if_pos a2] at b2
    obtain ⟨k1, k2, k3⟩ := l2 j a1 a2
    rw [b1, b2]
    refine ⟨k1, by omega, ?_⟩
    unfold zhlf
    rw [k3]
  · rw [h2] at a3
    rw [(h3 i a1 (by omega)).1, (h3 j (by omega) a3).1]
    exact l3 i j a1 a2 a3
  · have : c key ≠ 0 := fun q => hk (by unfold zhlf; rw [q]; decide)
    obtain ⟨j, a1, a2, a3⟩ := l4 key this
    exact ⟨j, a1, by rw [h2]; exact a2, by rw [(h3 j a1 a2).1]; exact a3⟩
theorem mHi.step {g g1 : Nat → Int} {r k : Int} (hr : 0 ≤ r) (hm : mMa g r ≤ 700) (h : mHi g g1 r k) (hk : 0 ≤ k ∧ k < mMa g r) : mHi g (va_up g1 (339 + 1412 * r + 12 + 2 * k + 1).toNat (g1 (339 + 1412 * r + 12 + 2 * k + 1).toNat / 2)) r (k + 1) := by
  obtain ⟨h1, h2, h3⟩ := h
  refine ⟨fun i hi => ?_, ?_, fun j a1 a2 => ?_⟩
  · rw [va_up_ne _ _ (by omega)]
    exact h1 i hi
  · unfold mMa
    rw [va_up_ne _ _ (by omega)]
    exact h2
  · obtain ⟨b1, b2⟩ := h3 j a1 a2
    unfold mKe mVa at *
    rw [va_up_ne _ _ (by omega)]
    refine ⟨b1, ?_⟩
    by_cases e : j = k
    · subst e
      rw [va_up_self, if_pos (by omega), b2, if_neg (by omega)]
    · rw [va_up_ne _ _ (by omega), b2]
      by_cases q : j < k
      · rw [if_pos q, if_pos (by omega)]
      · rw [if_neg q, if_neg (by omega)]
set_option maxHeartbeats 4000000 in
set_option maxRecDepth 100000 in
theorem k_X9_passYear {l : Launch} {γ : zG} {M : zM} {q : Nat} {g : Nat → Int} {S0 : zSt} (hM : M q = some (zar γ 5987 g)) (hS : mSt g S0) (hO : zOk S0) :
    zCon l γ yX9_passYear cX9_passYear 3 none [.ref q] M 2 42 0 0 (fun v' M' => v' = none ∧ zFr M M' [q] ∧ ∃ g', M' q = some (zar γ 5987 g') ∧ mSt g' (sYear S0)) (fun _ _ => False) := by
  have o1 := hO.1
  have hg := hS.1
  refine zEnter [some (.ref q), none, none] (by decide +kernel) rfl rfl (Nat.le_of_ble_eq_true rfl) ?_
  intro p e s m args below meth c Q C hin hQ
  have inner : ∀ (t : Nat) (M1 : zM) (r k : Int) (gr g1 : Nat → Int), mMa gr r - k = t → 0 ≤ k ∧ k ≤ mMa gr r → 0 ≤ r ∧ r < sRn S0 → mRp gr r (rC (sRd S0 r.toNat)) (sG S0) → mHi gr g1 r k → (∀ j, zR (g1 j)) → zFr M M1 [q] → M1 q = some (zar γ 5987 g1) → (∀ (M2 : zM) (g2 : Nat → Int), (∀ j, zR (g2 j)) → mHi gr g2 r (mMa gr r) → zFr M M2 [q] → M2 q = some (zar γ 5987 g2) → zAW p l e { frames := 2, cells := 0, slots := 0, locals := 42 } s m args below meth c γ 3 Q M2 0 0 50 [some (.ref q), some (.int (zi r)), some (.int (zi (mMa gr r)))] []) → zAW p l e { frames := 2, cells := 0, slots := 0, locals := 42 } s m args below meth c γ 3 Q M1 0 0 18 [some (.ref q), some (.int (zi r)), some (.int (zi k))] [] := by
    intro t
    induction t with
    | zero =>
      intro M1 r k gr g1 ht hk hr hL hH hg1 hf hM1 kk
      obtain rfl : k = mMa gr r := by omega
      have e1 : g1 (339 + 1412 * r + 11).toNat = mMa gr r := hH.2.1
      have l1 := hL.1
      refine z_iload_n C dX9_passYear_18 rfl ?_
      refine z_aload_n C dX9_passYear_19 rfl ?_
      refine z_iload_n C dX9_passYear_20 rfl ?_
      refine z_callS C dX9_passYear_21 lk_X9_92 mw_X9_atReader mst_X9_atReader k_X9_atReader rfl (by first | decide | exact Nat.le_of_ble_eq_true rfl) ⟨by decide, by decide, by decide, by decide⟩ (fun _ _ h => False.elim h) (fun v M' hp => ?_)
      obtain ⟨rfl, rfl⟩ := hp
      refine z_bipush C dX9_passYear_24 (by decide) ?_
      refine z_iaddZ C dX9_passYear_26 ?_
      refine z_aldN C dX9_passYear_27 (by first | assumption | ((repeat (first | assumption | exact va_up_self _ _ _ | refine (va_up_ne _ _ (by assumption)).trans ?_)); done) | (simp [va_up, *] <;> rfl)) (by omega) (by omega) (by assumption) (fun hr27 => ?_)
      rw [e1]
      refine z_icmp_geZ (tgt := 50) C dX9_passYear_28 (by decide) (by omega) (by omega) (fun h28 => ?_) (fun h28 => ?_)
      · exact kk _ g1 hg1 hH hf hM1
      · exact absurd h28 (by omega)
    | succ t ih =>
      intro M1 r k gr g1 ht hk hr hL hH hg1 hf hM1 kk
      have e1 : g1 (339 + 1412 * r + 11).toNat = mMa gr r := hH.2.1
      have l1 := hL.1
      have e2 := (hH.2.2 k hk.1 (by omega)).2
      rw [if_neg (by omega)] at e2
      have e3 := (hL.2.1 k hk.1 (by omega)).2.1
      have e4 : 0 ≤ g1 (339 + 1412 * r + 12 + 2 * k + 1).toNat ∧ g1 (339 + 1412 * r + 12 + 2 * k + 1).toNat ≤ 999 := by
        have : g1 (339 + 1412 * r + 12 + 2 * k + 1).toNat = mVa gr r k := e2
        omega
      have nx := hH.step hr.1 l1.2 (k := k) (by omega)
      refine z_iload_n C dX9_passYear_18 rfl ?_
      refine z_aload_n C dX9_passYear_19 rfl ?_
      refine z_iload_n C dX9_passYear_20 rfl ?_
      refine z_callS C dX9_passYear_21 lk_X9_92 mw_X9_atReader mst_X9_atReader k_X9_atReader rfl (by first | decide | exact Nat.le_of_ble_eq_true rfl) ⟨by decide, by decide, by decide, by decide⟩ (fun _ _ h => False.elim h) (fun v M' hp => ?_)
      obtain ⟨rfl, rfl⟩ := hp
      refine z_bipush C dX9_passYear_24 (by decide) ?_
      refine z_iaddZ C dX9_passYear_26 ?_
      refine z_aldN C dX9_passYear_27 (by first | assumption | ((repeat (first | assumption | exact va_up_self _ _ _ | refine (va_up_ne _ _ (by assumption)).trans ?_)); done) | (simp [va_up, *] <;> rfl)) (by omega) (by omega) (by assumption) (fun hr27 => ?_)
      rw [e1]
      refine z_icmp_geZ (tgt := 50) C dX9_passYear_28 (by decide) (by omega) (by omega) (fun h28 => ?_) (fun h28 => ?_)
      · exact absurd h28 (by omega)
      · refine z_aload_n C dX9_passYear_31 rfl ?_
        refine z_iload_n C dX9_passYear_32 rfl ?_
        refine z_iload_n C dX9_passYear_33 rfl ?_
        refine z_callS C dX9_passYear_34 lk_X9_95 mw_X9_entryAt mst_X9_entryAt k_X9_entryAt rfl (by first | decide | exact Nat.le_of_ble_eq_true rfl) ⟨by decide, by decide, by decide, by decide⟩ (fun _ _ h => False.elim h) (fun v M' hp => ?_)
        obtain ⟨rfl, rfl⟩ := hp
        refine z_iconst C dX9_passYear_37 ?_
        refine z_iaddZ C dX9_passYear_38 ?_
        refine z_dup2 C dX9_passYear_39 rfl rfl ?_
        refine z_aldN C dX9_passYear_40 (by first | assumption | ((repeat (first | assumption | exact va_up_self _ _ _ | refine (va_up_ne _ _ (by assumption)).trans ?_)); done) | (simp [va_up, *] <;> rfl)) (by omega) (by omega) (by assumption) (fun hr40 => ?_)
        refine z_iconst C dX9_passYear_41 ?_
        refine z_idivZ C dX9_passYear_42 (by omega) (by omega) ?_
        refine z_astN C dX9_passYear_43 (by first | assumption | ((repeat (first | assumption | exact va_up_self _ _ _ | refine (va_up_ne _ _ (by assumption)).trans ?_)); done) | (simp [va_up, *] <;> rfl)) (by omega) (by omega) (by assumption) (by omega) (fun hr43 => ?_)
        refine z_iincZ C dX9_passYear_44 rfl (by decide) ?_
        refine z_goto (tgt := 18) C dX9_passYear_47 (by decide) ?_
        exact ih _ r (k + 1) gr _ (by omega) (by omega) hr hL nx hr43 (hf.u1 (by simp)) (va_up_self _ _ _) kk
  have outer : ∀ (t : Nat) (M1 : zM) (r : Int) (g1 : Nat → Int) (x2 : Option Value), sRn S0 - r = t → 0 ≤ r ∧ r ≤ sRn S0 → mSt g1 (sYh S0 r.toNat) → zFr M M1 [q] → M1 q = some (zar γ 5987 g1) → zAW p l e { frames := 2, cells := 0, slots := 0, locals := 42 } s m args below meth c γ 3 Q M1 0 0 9 [some (.ref q), some (.int (zi r)), x2] [] := by
    intro t
    induction t with
    | zero =>
      intro M1 r g1 x2 ht hr hS1 hf hM1
      obtain rfl : r = sRn S0 := by omega
      have e1 : g1 2 = sRn S0 := hS1.2.2.2.1
      have hg1 := hS1.1
      refine z_iload_n C dX9_passYear_9 rfl ?_
      refine z_aload_n C dX9_passYear_10 rfl ?_
      refine z_iconst C dX9_passYear_11 ?_
      refine z_aldN C dX9_passYear_12 (by first | assumption | ((repeat (first | assumption | exact va_up_self _ _ _ | refine (va_up_ne _ _ (by assumption)).trans ?_)); done) | (simp [va_up, *] <;> rfl)) (by omega) (by omega) (by assumption) (fun hr12 => ?_)
      rw [show (2 : Int).toNat = 2 from rfl, e1]
      refine z_icmp_geZ (tgt := 56) C dX9_passYear_13 (by decide) (by omega) (by omega) (fun h13 => ?_) (fun h13 => ?_)
      · refine z_vret C hQ dX9_passYear_56 (by decide) (by decide) ?_
        exact ⟨rfl, hf, g1, hM1, hS1.rds rfl rfl rfl (fun _ _ => rfl) fun i hi => if_pos (by have hi : (i : Int) < sRn S0 := hi; omega)⟩
      · exact absurd h13 (by omega)
    | succ t ih =>
      intro M1 r g1 x2 ht hr hS1 hf hM1
      have e1 : g1 2 = sRn S0 := hS1.2.2.2.1
      have hg1 := hS1.1
      have hSr := hS1.2.2.2.2.2 r.toNat (by show ((r.toNat : Nat) : Int) < sRn S0; omega)
      rw [show ((r.toNat : Nat) : Int) = r by omega] at hSr
      have er : sRd (sYh S0 r.toNat) r.toNat = sRd S0 r.toNat := if_neg (by omega)
      rw [er] at hSr
      have hL : mRp g1 r (rC (sRd S0 r.toNat)) (sG S0) := hSr.2.2.2.2
      have l1 := hL.1
      refine z_iload_n C dX9_passYear_9 rfl ?_
      refine z_aload_n C dX9_passYear_10 rfl ?_
      refine z_iconst C dX9_passYear_11 ?_
      refine z_aldN C dX9_passYear_12 (by first | assumption | ((repeat (first | assumption | exact va_up_self _ _ _ | refine (va_up_ne _ _ (by assumption)).trans ?_)); done) | (simp [va_up, *] <;> rfl)) (by omega) (by omega) (by assumption) (fun hr12 => ?_)
      rw [show (2 : Int).toNat = 2 from rfl, e1]
      refine z_icmp_geZ (tgt := 56) C dX9_passYear_13 (by decide) (by omega) (by omega) (fun h13 => ?_) (fun h13 => ?_)
      · exact absurd h13 (by omega)
      · refine z_iconst C dX9_passYear_16 ?_
        refine z_istore_n C dX9_passYear_17 (by decide) ?_
        refine inner (mMa g1 r).toNat _ r 0 g1 g1 (by omega) (by omega) (by omega) hL ⟨fun _ _ => rfl, rfl, fun j a1 a2 => ⟨rfl, by rw [if_neg (by omega)]⟩⟩ hg1 hf hM1 ?_
        intro M2 g2 hg2 hH2 hf2 hM2
        have hs := hSr.setC hr.1 hH2.1 (hH2.fin hL)
        have hn := hS1.setR (sYh_ok hO _) hg2 (r := r.toNat) (R := rHlf (sRd S0 r.toNat)) (by omega) (fun i hi => hH2.1 i (by omega)) (by rw [show ((r.toNat : Nat) : Int) = r by omega]; exact hs)
        rw [sYh_next] at hn
        have qq := ih M2 (r + 1) g2 (some (.int (zi (mMa g1 r)))) (by omega) (by omega) (by rw [show (r + 1).toNat = r.toNat + 1 by omega]; exact hn) hf2 hM2
        refine z_iincZ C dX9_passYear_50 rfl (by decide) ?_
        refine z_goto (tgt := 9) C dX9_passYear_53 (by decide) ?_
        exact qq
  refine z_aload_n C dX9_passYear_0 rfl ?_
  refine z_iconst C dX9_passYear_1 ?_
  refine z_dup2 C dX9_passYear_2 rfl rfl ?_
  refine z_aldN C dX9_passYear_3 (by first | assumption | ((repeat (first | assumption | exact va_up_self _ _ _ | refine (va_up_ne _ _ (by assumption)).trans ?_)); done) | (simp [va_up, *] <;> rfl)) (by omega) (by omega) (by assumption) (fun hr3 => ?_)
  refine z_iconst C dX9_passYear_4 ?_
  refine z_iaddZ C dX9_passYear_5 ?_
  rw [← zi_zw (g (0 : Int).toNat + 1)]
  refine z_astN C dX9_passYear_6 (by first | assumption | ((repeat (first | assumption | exact va_up_self _ _ _ | refine (va_up_ne _ _ (by assumption)).trans ?_)); done) | (simp [va_up, *] <;> rfl)) (by omega) (by omega) (by assumption) (zw_rng _) (fun hr6 => ?_)
  refine z_iconst C dX9_passYear_7 ?_
  refine z_istore_n C dX9_passYear_8 (by decide) ?_
  refine outer (sRn S0).toNat _ 0 _ none (by omega) (by omega) ?_ (zFr.u1 zFr.rf (by simp)) (va_up_self _ _ _)
  obtain ⟨-, s1, s2, s3, s4, s5⟩ := hS
  refine ⟨hr6, ?_, ?_, ?_, fun d hd => ?_, fun r hr => ?_⟩
  · show zi (va_up g 0 _ 0) = _
    rw [va_up_self, zi_zw]
    exact zi_addc s1 rfl
  · rw [va_up_ne _ _ (by decide)]
    exact s2
  · rw [va_up_ne _ _ (by decide)]
    exact s3
  · have hd : (d : Int) < sDn S0 := hd
    exact (s4 d hd).cg (by omega) (hO.2.1 d hd).1.2 fun i i1 i2 => va_up_ne _ _ (by show i ≠ 0; omega)
  · have hr : (r : Int) < sRn S0 := hr
    exact (s5 r hr).cg (by omega) fun i i1 i2 => va_up_ne _ _ (by show i ≠ 0; omega)

