/-! the model: one position learned -/
theorem mRp.le {g : Nat → Int} {r : Int} {c : Int → Int} {G : List Int} (h : mRp g r c G) (hG : G.length ≤ 643) : mMa g r ≤ 643 := by
  obtain ⟨h1, h2, h3, -⟩ := h
  have := zpig (ks := fun j => mKe g r j) (mMa g r).toNat G (fun j hj => (h2 j (by omega) (by omega)).1) (fun i j hi hj => h3 i j (by omega) (by omega) (by omega))
  omega
theorem mEq.tr {g g1 g2 : Nat → Int} {r : Int} (h1 : mEq g g1 r) (h2 : mEq g1 g2 r) : mEq g g2 r := fun i hi => (h2 i hi).trans (h1 i hi)
def mLn (c : Int → Int) (b p s : Int) : Int → Int := if b ≠ -1 then zadd (if p ≠ -1 then zadd (zadd c (mKy (-1) (-1) s) 1) (mKy (-1) p s) 1 else zadd c (mKy (-1) (-1) s) 1) (mKy b p s) 1 else (if p ≠ -1 then zadd (zadd c (mKy (-1) (-1) s) 1) (mKy (-1) p s) 1 else zadd c (mKy (-1) (-1) s) 1)
theorem zadd_fn (c : Int → Int) (key v : Int) : (fun k => if k = key then min (c key + v) 999 else c k) = zadd c key v := by
  funext k
  unfold zadd
  split
  · rename_i e
    rw [e]
  · rfl
theorem mRp.a1 {g : Nat → Int} {r : Int} {c : Int → Int} {G : List Int} (h : mRp g r c G) (hr : 0 ≤ r) (hG : G.length ≤ 643) {key : Int} (hk : key ∈ G) : mRp (mAd g r key 1) r (zadd c key 1) G ∧ mEq g (mAd g r key 1) r := by
  have l1 := h.le hG
  have l2 := h.1
  have q := h.ad hr hk (v := 1) (by omega) (by omega)
  rw [zadd_fn] at q
  exact ⟨q, mAd_eq hr (by omega)⟩
set_option maxHeartbeats 4000000 in
set_option maxRecDepth 100000 in
theorem k_X9_learnOne {l : Launch} {γ : zG} {M : zM} {q : Nat} {g : Nat → Int} {r d i b0 p0 s0 : Int} {c0 : Int → Int} {G : List Int} (hM : M q = some (zar γ 5987 g)) (hg : ∀ j, zR (g j)) (hr : 0 ≤ r ∧ r < 4) (hd : 0 ≤ d ∧ d < 8) (hi : 0 ≤ i ∧ i < 40) (hb : mSy g d (i - 2) = b0) (hp0 : mSy g d (i - 1) = p0) (hs : mSy g d i = s0) (rb : -1 ≤ b0 ∧ b0 < 27) (rp : -1 ≤ p0 ∧ p0 < 27) (rs : 0 ≤ s0 ∧ s0 < 27) (hL : mRp g r c0 G) (hG : G.length ≤ 643) (k1 : mKy (-1) (-1) s0 ∈ G) (k2 : p0 ≠ -1 → mKy (-1) p0 s0 ∈ G) (k3 : b0 ≠ -1 → mKy b0 p0 s0 ∈ G) :
    zCon l γ yX9_learnOne cX9_learnOne 7 none [.ref q, .int (zi r), .int (zi d), .int (zi i)] M 5 115 0 0 (fun v' M' => v' = none ∧ zFr M M' [q] ∧ ∃ g', M' q = some (zar γ 5987 g') ∧ (∀ j, zR (g' j)) ∧ mEq g g' r ∧ mRp g' r (mLn c0 b0 p0 s0) G) (fun _ _ => False) := by
  have w1 : zR (mKy (-1) (-1) s0) := by unfold mKy zR; simp; omega
  have w2 : zR (mKy (-1) p0 s0) := by
    unfold mKy zR
    split
    · omega
    · split <;> omega
  have w3 : zR (mKy b0 p0 s0) := by
    unfold mKy zR
    split
    · omega
    · split <;> omega
  refine zEnter [some (.ref q), some (.int (zi r)), some (.int (zi d)), some (.int (zi i)), none, none, none] (by decide +kernel) rfl rfl (Nat.le_of_ble_eq_true rfl) ?_
  intro p e s m args below meth c Q C hin hQ
  have t61 : ∀ (M1 : zM) (g1 : Nat → Int) (c1 : Int → Int), zFr M M1 [q] → M1 q = some (zar γ 5987 g1) → (∀ j, zR (g1 j)) → mEq g g1 r → mRp g1 r c1 G → c1 = (if p0 ≠ -1 then zadd (zadd c0 (mKy (-1) (-1) s0) 1) (mKy (-1) p0 s0) 1 else zadd c0 (mKy (-1) (-1) s0) 1) → zAW p l e { frames := 5, cells := 0, slots := 0, locals := 115 } s m args below meth c γ 7 Q M1 0 0 61 [some (.ref q), some (.int (zi r)), some (.int (zi d)), some (.int (zi i)), some (.int (zi s0)), some (.int (zi p0)), some (.int (zi b0))] [] := by
    intro M1 g1 c1 f1 h1 h2 h3 h4 h5
    have l1 := h4.le hG
    refine z_iload C dX9_learnOne_61 rfl ?_
    refine z_iconst C dX9_learnOne_63 ?_
    refine z_icmp_eqZ (tgt := 82) C dX9_learnOne_64 (by decide) (by omega) (by omega) (fun h64 => ?_) (fun h64 => ?_)
    · refine z_vret C hQ dX9_learnOne_82 (by decide) (by decide) ?_
      exact ⟨rfl, f1, g1, h1, h2, h3, by rw [mLn, if_neg (by omega), ← h5]; exact h4⟩
    · refine z_aload_n C dX9_learnOne_67 rfl ?_
      refine z_iload_n C dX9_learnOne_68 rfl ?_
      refine z_iload C dX9_learnOne_69 rfl ?_
      refine z_iload C dX9_learnOne_71 rfl ?_
      refine z_iload C dX9_learnOne_73 rfl ?_
      refine z_callS C dX9_learnOne_75 lk_X9_106 mw_X9_keyOf mst_X9_keyOf (k_X9_keyOf (b := b0) (p0 := p0) (s0 := s0) (by unfold zR; omega) (by unfold zR; omega)) rfl (by first | decide | exact Nat.le_of_ble_eq_true rfl) ⟨by decide, by decide, by decide, by decide⟩ (fun _ _ h => False.elim h) (fun v M' hp => ?_)
      obtain ⟨rfl, rfl⟩ := hp
      refine z_iconst C dX9_learnOne_78 ?_
      refine z_callS C dX9_learnOne_79 lk_X9_110 mw_X9_addTo mst_X9_addTo (k_X9_addTo h1 h2 hr h4.li (by omega) w3 (v := 1) (by omega)) rfl (by first | decide | exact Nat.le_of_ble_eq_true rfl) ⟨by decide, by decide, by decide, by decide⟩ (fun _ _ h => False.elim h) (fun v M' hp => ?_)
      obtain ⟨rfl, f79, h79, z79⟩ := hp
      refine z_vret C hQ dX9_learnOne_82 (by decide) (by decide) ?_
      obtain ⟨a1, a2⟩ := h4.a1 hr.1 hG (k3 h64)
      exact ⟨rfl, f1.tr f79 (fun _ h => h) (fun _ h => h), _, h79, z79, h3.tr a2, by rw [mLn, if_pos h64, ← h5]; exact a1⟩
  have l0 := hL.le hG
  refine z_aload_n C dX9_learnOne_0 rfl ?_
  refine z_iload_n C dX9_learnOne_1 rfl ?_
  refine z_iload_n C dX9_learnOne_2 rfl ?_
  refine z_callS C dX9_learnOne_3 lk_X9_103 mw_X9_symbolOf mst_X9_symbolOf (k_X9_symbolOf hM hg hd (i := i) (by omega)) rfl (by first | decide | exact Nat.le_of_ble_eq_true rfl) ⟨by decide, by decide, by decide, by decide⟩ (fun _ _ h => False.elim h) (fun v M' hp => ?_)
  obtain ⟨rfl, rfl⟩ := hp
  rw [hs]
  refine z_istore C dX9_learnOne_6 (by decide) ?_
  refine z_aload_n C dX9_learnOne_8 rfl ?_
  refine z_iload_n C dX9_learnOne_9 rfl ?_
  refine z_iload_n C dX9_learnOne_10 rfl ?_
  refine z_iconst C dX9_learnOne_11 ?_
  refine z_isubZ C dX9_learnOne_12 ?_
  refine z_callS C dX9_learnOne_13 lk_X9_103 mw_X9_symbolOf mst_X9_symbolOf (k_X9_symbolOf hM hg hd (i := i - 1) (by omega)) rfl (by first | decide | exact Nat.le_of_ble_eq_true rfl) ⟨by decide, by decide, by decide, by decide⟩ (fun _ _ h => False.elim h) (fun v M' hp => ?_)
  obtain ⟨rfl, rfl⟩ := hp
  rw [hp0]
  refine z_istore C dX9_learnOne_16 (by decide) ?_
  refine z_aload_n C dX9_learnOne_18 rfl ?_
  refine z_iload_n C dX9_learnOne_19 rfl ?_
  refine z_iload_n C dX9_learnOne_20 rfl ?_
  refine z_iconst C dX9_learnOne_21 ?_
  refine z_isubZ C dX9_learnOne_22 ?_
  refine z_callS C dX9_learnOne_23 lk_X9_103 mw_X9_symbolOf mst_X9_symbolOf (k_X9_symbolOf hM hg hd (i := i - 2) (by omega)) rfl (by first | decide | exact Nat.le_of_ble_eq_true rfl) ⟨by decide, by decide, by decide, by decide⟩ (fun _ _ h => False.elim h) (fun v M' hp => ?_)
  obtain ⟨rfl, rfl⟩ := hp
  rw [hb]
  refine z_istore C dX9_learnOne_26 (by decide) ?_
  refine z_aload_n C dX9_learnOne_28 rfl ?_
  refine z_iload_n C dX9_learnOne_29 rfl ?_
  refine z_iconst C dX9_learnOne_30 ?_
  refine z_iconst C dX9_learnOne_31 ?_
  refine z_iload C dX9_learnOne_32 rfl ?_
  refine z_callS C dX9_learnOne_34 lk_X9_106 mw_X9_keyOf mst_X9_keyOf (k_X9_keyOf (b := -1) (p0 := -1) (s0 := s0) (by unfold zR; omega) (by unfold zR; omega)) rfl (by first | decide | exact Nat.le_of_ble_eq_true rfl) ⟨by decide, by decide, by decide, by decide⟩ (fun _ _ h => False.elim h) (fun v M' hp => ?_)
  obtain ⟨rfl, rfl⟩ := hp
  refine z_iconst C dX9_learnOne_37 ?_
  refine z_callS C dX9_learnOne_38 lk_X9_110 mw_X9_addTo mst_X9_addTo (k_X9_addTo hM hg hr hL.li (by omega) w1 (v := 1) (by omega)) rfl (by first | decide | exact Nat.le_of_ble_eq_true rfl) ⟨by decide, by decide, by decide, by decide⟩ (fun _ _ h => False.elim h) (fun v M' hp => ?_)
  obtain ⟨rfl, f38, h38, z38⟩ := hp
  obtain ⟨a1, a2⟩ := hL.a1 hr.1 hG k1
  have l1 := a1.le hG
  refine z_iload C dX9_learnOne_41 rfl ?_
  refine z_iconst C dX9_learnOne_43 ?_
  refine z_icmp_eqZ (tgt := 61) C dX9_learnOne_44 (by decide) (by omega) (by omega) (fun h44 => ?_) (fun h44 => ?_)
  · exact t61 _ _ _ f38 h38 z38 a2 a1 (by rw [if_neg (by omega)])
  · refine z_aload_n C dX9_learnOne_47 rfl ?_
    refine z_iload_n C dX9_learnOne_48 rfl ?_
    refine z_iconst C dX9_learnOne_49 ?_
    refine z_iload C dX9_learnOne_50 rfl ?_
    refine z_iload C dX9_learnOne_52 rfl ?_
    refine z_callS C dX9_learnOne_54 lk_X9_106 mw_X9_keyOf mst_X9_keyOf (k_X9_keyOf (b := -1) (p0 := p0) (s0 := s0) (by unfold zR; omega) (by unfold zR; omega)) rfl (by first | decide | exact Nat.le_of_ble_eq_true rfl) ⟨by decide, by decide, by decide, by decide⟩ (fun _ _ h => False.elim h) (fun v M' hp => ?_)
    obtain ⟨rfl, rfl⟩ := hp
    refine z_iconst C dX9_learnOne_57 ?_
    refine z_callS C dX9_learnOne_58 lk_X9_110 mw_X9_addTo mst_X9_addTo (k_X9_addTo h38 z38 hr a1.li (by omega) w2 (v := 1) (by omega)) rfl (by first | decide | exact Nat.le_of_ble_eq_true rfl) ⟨by decide, by decide, by decide, by decide⟩ (fun _ _ h => False.elim h) (fun v M' hp => ?_)
    obtain ⟨rfl, f58, h58, z58⟩ := hp
    obtain ⟨b1, b2⟩ := a1.a1 hr.1 hG (k2 h44)
    exact t61 _ _ _ (f38.tr f58 (fun _ h => h) (fun _ h => h)) h58 z58 (a2.tr b2) b1 (by rw [if_pos h44])

