/-! the model: a reader trained -/
def mDc (g : Nat → Int) (d : Int) (X : zDoc) : Prop := g (3 + 42 * d).toNat = dLe X ∧ ∀ i : Nat, i < dLe X → g (3 + 42 * d + 2 + i).toNat = dSy X i
theorem mDc.sy {g : Nat → Int} {d : Int} {X : zDoc} (h : mDc g d X) {i : Int} (hi : i < dLe X) : mSy g d i = hAt (dSy X) (dLe X) i := by
  unfold mSy
  by_cases e : i < 0
  · rw [if_pos e, hAt_out (by omega)]
  · rw [if_neg e, hAt_in (by omega), ← h.2 i.toNat (by omega), show ((i.toNat : Nat) : Int) = i by omega]
theorem mDc.eq {g g' : Nat → Int} {d r : Int} {X : zDoc} (h : mDc g d X) (hd : 0 ≤ d ∧ d < 8) (hr : 0 ≤ r) (hX : dLe X ≤ 40) (q : mEq g g' r) : mDc g' d X := ⟨(q _ (by omega)).trans h.1, fun i hi => (q _ (by omega)).trans (h.2 i hi)⟩
theorem mKy_in {G : List Int} {sy : Nat → Int} {len i : Int} (h : hKy G sy len) (hi : 0 ≤ i ∧ i < len) : mKy (-1) (-1) (hAt sy len i) ∈ G ∧ (hAt sy len (i - 1) ≠ -1 → mKy (-1) (hAt sy len (i - 1)) (hAt sy len i) ∈ G) ∧ (hAt sy len (i - 2) ≠ -1 → hAt sy len (i - 1) ≠ -1 → mKy (hAt sy len (i - 2)) (hAt sy len (i - 1)) (hAt sy len i) ∈ G) := by
  have q := h i hi.1 hi.2
  have hf := zFo_rng (hAt sy len (i - 2)) (hAt sy len (i - 1))
  refine ⟨?_, fun e => ?_, fun e e2 => ?_⟩
  · have := q 0 (by omega) hf.1
    unfold zCs at this
    unfold mKy
    simpa using this
  · have := q 1 (by omega) (by unfold zFo; split; omega; split <;> omega)
    unfold zCs at this
    unfold mKy
    simpa [e] using this
  · have := q 2 (by omega) (by rw [zFo, if_neg e2, if_neg e]; omega)
    unfold zCs at this
    unfold mKy
    simpa [e] using this
set_option maxHeartbeats 4000000 in
set_option maxRecDepth 100000 in
theorem k_X9_trainOn {l : Launch} {γ : zG} {M : zM} {q : Nat} {g : Nat → Int} {r d : Int} {c0 : Int → Int} {G : List Int} {X : zDoc} (hM : M q = some (zar γ 5987 g)) (hg : ∀ j, zR (g j)) (hr : 0 ≤ r ∧ r < 4) (hd : 0 ≤ d ∧ d < 8) (hX : zDok X) (hD : mDc g d X) (hL : mRp g r c0 G) (hG : G.length ≤ 643) (hK : hKy G (dSy X) (dLe X)) :
    zCon l γ yX9_trainOn cX9_trainOn 4 none [.ref q, .int (zi r), .int (zi d)] M 6 142 0 0 (fun v' M' => v' = none ∧ zFr M M' [q] ∧ ∃ g1, M' q = some (zar γ 5987 (mNo g1 r d)) ∧ (∀ j, zR (mNo g1 r d j)) ∧ mEq g g1 r ∧ mRp g1 r (zdoc c0 X) G) (fun _ _ => False) := by
  have hl := hX.1
  refine zEnter [some (.ref q), some (.int (zi r)), some (.int (zi d)), none] (by decide +kernel) rfl rfl (Nat.le_of_ble_eq_true rfl) ?_
  intro p e s m args below meth c Q C hin hQ
  have loop : ∀ (t : Nat) (M1 : zM) (i : Int) (g1 : Nat → Int), dLe X - i = t → 0 ≤ i ∧ i ≤ dLe X → zFr M M1 [q] → M1 q = some (zar γ 5987 g1) → (∀ j, zR (g1 j)) → mEq g g1 r → mRp g1 r (zldn (dSy X) (dLe X) c0 i.toNat) G → zAW p l e { frames := 6, cells := 0, slots := 0, locals := 142 } s m args below meth c γ 4 Q M1 0 0 2 [some (.ref q), some (.int (zi r)), some (.int (zi d)), some (.int (zi i))] [] := by
    intro t
    induction t with
    | zero =>
      intro M1 i g1 ht hi hf hM1 hg1 he hL1
      obtain rfl : i = dLe X := by omega
      have hD1 := hD.eq hd hr.1 hl.2 he
      refine z_iload_n C dX9_trainOn_2 rfl ?_
      refine z_aload_n C dX9_trainOn_3 rfl ?_
      refine z_iload_n C dX9_trainOn_4 rfl ?_
      refine z_callS C dX9_trainOn_5 lk_X9_114 mw_X9_lengthOf mst_X9_lengthOf (k_X9_lengthOf hM1 hg1 hd) rfl (by first | decide | exact Nat.le_of_ble_eq_true rfl) ⟨by decide, by decide, by decide, by decide⟩ (fun _ _ h => False.elim h) (fun v M' hp => ?_)
      obtain ⟨rfl, rfl⟩ := hp
      rw [hD1.1]
      refine z_icmp_geZ (tgt := 24) C dX9_trainOn_8 (by decide) (by omega) (by omega) (fun h8 => ?_) (fun h8 => ?_)
      · refine z_aload_n C dX9_trainOn_24 rfl ?_
        refine z_iload_n C dX9_trainOn_25 rfl ?_
        refine z_iload_n C dX9_trainOn_26 rfl ?_
        refine z_callS C dX9_trainOn_27 lk_X9_121 mw_X9_noteTraining mst_X9_noteTraining (k_X9_noteTraining hM1 hg1 hr hd) rfl (by first | decide | exact Nat.le_of_ble_eq_true rfl) ⟨by decide, by decide, by decide, by decide⟩ (fun _ _ h => False.elim h) (fun v M' hp => ?_)
        obtain ⟨rfl, f27, h27, z27⟩ := hp
        refine z_vret C hQ dX9_trainOn_30 (by decide) (by decide) ?_
        exact ⟨rfl, hf.tr f27 (fun _ h => h) (fun _ h => h), g1, h27, z27, he, hL1⟩
      · exact absurd h8 (by omega)
    | succ t ih =>
      intro M1 i g1 ht hi hf hM1 hg1 he hL1
      have hD1 := hD.eq hd hr.1 hl.2 he
      obtain ⟨y1, y2, y3⟩ := mKy_in hK (i := i) (by omega)
      have hdk : zDk (dSy X) (dLe X) ∨ True := .inr trivial
      have rgt : ∀ j : Int, -1 ≤ hAt (dSy X) (dLe X) j ∧ hAt (dSy X) (dLe X) j < 27 := fun j => by
        unfold hAt
        split
        · have := hX.2 j.toNat (by omega)
          omega
        · omega
      have rg0 : 0 ≤ hAt (dSy X) (dLe X) i ∧ hAt (dSy X) (dLe X) i < 27 := by
        rw [hAt_in (by omega)]
        exact hX.2 i.toNat (by omega)
      have hbp : hAt (dSy X) (dLe X) (i - 2) ≠ -1 → hAt (dSy X) (dLe X) (i - 1) ≠ -1 := fun e => by
        by_cases w : i - 2 < 0
        · exact absurd (hAt_out (by omega)) e
        · rw [hAt_in (by omega)]
          have := hX.2 (i - 1).toNat (by omega)
          omega
      have qq := fun M2 g2 => ih M2 (i + 1) g2 (by omega) (by omega)
      rw [show (i + 1).toNat = i.toNat + 1 by omega, zldn, show ((i.toNat : Nat) : Int) = i by omega] at qq
      refine z_iload_n C dX9_trainOn_2 rfl ?_
      refine z_aload_n C dX9_trainOn_3 rfl ?_
      refine z_iload_n C dX9_trainOn_4 rfl ?_
      refine z_callS C dX9_trainOn_5 lk_X9_114 mw_X9_lengthOf mst_X9_lengthOf (k_X9_lengthOf hM1 hg1 hd) rfl (by first | decide | exact Nat.le_of_ble_eq_true rfl) ⟨by decide, by decide, by decide, by decide⟩ (fun _ _ h => False.elim h) (fun v M' hp => ?_)
      obtain ⟨rfl, rfl⟩ := hp
      rw [hD1.1]
      refine z_icmp_geZ (tgt := 24) C dX9_trainOn_8 (by decide) (by omega) (by omega) (fun h8 => ?_) (fun h8 => ?_)
      · exact absurd h8 (by omega)
      · refine z_aload_n C dX9_trainOn_11 rfl ?_
        refine z_iload_n C dX9_trainOn_12 rfl ?_
        refine z_iload_n C dX9_trainOn_13 rfl ?_
        refine z_iload_n C dX9_trainOn_14 rfl ?_
        refine z_callS C dX9_trainOn_15 lk_X9_118 mw_X9_learnOne mst_X9_learnOne (k_X9_learnOne hM1 hg1 hr hd (i := i) (by omega) (hD1.sy (by omega)) (hD1.sy (by omega)) (hD1.sy (by omega)) (rgt _) (rgt _) rg0 hL1 hG y1 y2 (fun e => y3 e (hbp e))) rfl (by first | decide | exact Nat.le_of_ble_eq_true rfl) ⟨by decide, by decide, by decide, by decide⟩ (fun _ _ h => False.elim h) (fun v M' hp => ?_)
        obtain ⟨rfl, f15, g2, h15, z15, e15, L15⟩ := hp
        rw [mLn_eq (rgt _) (rgt _) rg0 hbp] at L15
        refine z_iincZ C dX9_trainOn_18 rfl (by decide) ?_
        refine z_goto (tgt := 2) C dX9_trainOn_21 (by decide) ?_
        exact qq _ g2 (hf.tr f15 (fun _ h => h) (fun _ h => h)) h15 z15 (he.tr e15) L15
  refine z_iconst C dX9_trainOn_0 ?_
  refine z_istore_n C dX9_trainOn_1 (by decide) ?_
  exact loop (dLe X).toNat M 0 g (by omega) (by omega) zFr.rf hM hg (fun i hi => rfl) hL

