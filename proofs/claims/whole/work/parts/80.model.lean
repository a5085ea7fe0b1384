/-! the model's parser: words, names, what is laid -/
theorem mtk_3 {K : Int} (h : 0 ≤ K ∧ K ≤ 3) : (mtk K = 3 ↔ K = 1) ∧ (mtk K = 2 ↔ K = 2) ∧ (mtk K = 1 ↔ K = 3) ∧ (mtk K = 0 ↔ K = 0) ∧ 0 ≤ mtk K ∧ mtk K ≤ 3 := by
  unfold mtk
  split
  · omega
  · split
    · omega
    · split <;> omega
theorem ztK_rng (f : Nat → Int) (n e : Int) : 0 ≤ ztK f n e ∧ ztK f n e ≤ 3 := zkd_rng _
/-- the words of the parser begin with a letter -/
def zWj (j : Nat) : Prop := j < 30 ∧ 1 ≤ zStrLen.getD j 0 ∧ zLet (zSc j 0)
theorem zWd.k {f : Nat → Int} {n e : Int} {j : Nat} (hj : zWj j) (h : zWd f n j (ztS f n e) (ztE f n e)) : ztK f n e = 1 := by
  have := h.2 0 (by omega) (by have := hj.2.1; omega)
  rw [Int.add_zero] at this
  show zkd (hAt f n (ztS f n e)) = 1
  rw [this, zkd_1i]
  exact .inl hj.2.2
set_option maxHeartbeats 4000000 in
set_option maxRecDepth 100000 in
theorem k_X9_is {l : Launch} {γ : zG} {M : zM} {A : Nat → Nat} {F f : Nat → Int} {n e0 : Int} {j : Nat} (hO : M (A 0) = some (mOb A F)) (hI : M (A 11) = some (zar γ 500 f)) (hB : hBo f n) (re : 0 ≤ e0 ∧ e0 ≤ n) (hT : mTk F f n e0) (hj : zWj j) :
    zCon l γ yX9_is cX9_is 3 (some .boolean) [.ref (A 0), .ref (γ.2.2.2.1 j)] M 4 85 0 0 (fun v' M' => ∃ r : Int, v' = some (.int (zi r)) ∧ M' = M ∧ zB r (zWd f n j (ztS f n e0) (ztE f n e0))) (fun _ _ => False) := by
  have hb := hB.1
  have rS := ztS_rng (f := f) re
  have rE := ztE_rng hB re
  have rK := ztK_rng f n e0
  have m3 := (mtk_3 rK).1
  have mr := (mtk_3 rK).2.2.2.2
  have hra := hAt_r hB
  obtain ⟨h20, h21, h22, h24, h23⟩ := hT
  have hwk := fun w => zWd.k (f := f) (n := n) (e := e0) hj w
  obtain ⟨hj, hl1, -⟩ := hj
  have hlen := (zStr_all j hj).2.1
  have hlk := @k_J0_length l γ M j hj
  have hch := fun i h => @k_J0_charAt l γ M j i hj h
  have hcr := fun q : Nat => zSc_rng (k := q) hj
  have hwd : zWd f n j (ztS f n e0) (ztE f n e0) = (ztE f n e0 - ztS f n e0 = (zStrLen.getD j 0 : Nat) ∧ ∀ q : Int, 0 ≤ q → q < (zStrLen.getD j 0 : Nat) → hAt f n (ztS f n e0 + q) = zSc j q.toNat) := rfl
  rw [hwd] at hwk ⊢
  generalize zStrLen.getD j 0 = L at *
  have r24 : 0 ≤ F 24 ∧ F 24 ≤ 500 := by
    rw [h24]
    split <;> omega
  refine zEnter [some (.ref (A 0)), some (.ref (γ.2.2.2.1 j)), none] (by decide +kernel) rfl rfl (Nat.le_of_ble_eq_true rfl) ?_
  intro p e s m args below meth c Q C hin hQ
  have loop : ∀ (t : Nat) (i : Int), L - i = t → 0 ≤ i ∧ i ≤ L → F 24 = L → ztE f n e0 - ztS f n e0 = L → (∀ q : Int, 0 ≤ q → q < i → hAt f n (ztS f n e0 + q) = zSc j q.toNat) → zAW p l e { frames := 4, cells := 0, slots := 0, locals := 85 } s m args below meth c γ 3 Q M 0 0 23 [some (.ref (A 0)), some (.ref (γ.2.2.2.1 j)), some (.int (zi i))] [] := by
    intro t
    induction t with
    | zero =>
      intro i ht hi hF hE ha
      obtain rfl : i = L := by omega
      refine z_iload_n C dX9_is_23 rfl ?_
      refine z_aload_n C dX9_is_24 rfl ?_
      refine z_getM C dX9_is_25 fl_X9_215 (by first | assumption | ((repeat (first | assumption | exact va_up_self _ _ _ | refine (va_up_ne _ _ (by first | assumption | exact hA.ne (by decide) | exact hA.ne (by omega))).trans ?_)); done)) rfl hF ?_
      refine z_icmp_geZ (tgt := 58) C dX9_is_28 (by decide) (by omega) (by omega) (fun h28 => ?_) (fun h28 => ?_)
      · refine z_iconst C dX9_is_58 ?_
        refine z_iret C hQ dX9_is_59 rfl (by decide) (by decide) ?_
        exact ⟨1, rfl, rfl, .inl ⟨rfl, hE, ha⟩⟩
      · exact absurd h28 (by omega)
    | succ t ih =>
      intro i ht hi hF hE ha
      have hci := hcr i.toNat
      have hai := hra (ztS f n e0 + i)
      have hin : hAt f n (ztS f n e0 + i) = f (ztS f n e0 + i).toNat := hAt_in (by omega)
      refine z_iload_n C dX9_is_23 rfl ?_
      refine z_aload_n C dX9_is_24 rfl ?_
      refine z_getM C dX9_is_25 fl_X9_215 (by first | assumption | ((repeat (first | assumption | exact va_up_self _ _ _ | refine (va_up_ne _ _ (by first | assumption | exact hA.ne (by decide) | exact hA.ne (by omega))).trans ?_)); done)) rfl hF ?_
      refine z_icmp_geZ (tgt := 58) C dX9_is_28 (by decide) (by omega) (by omega) (fun h28 => ?_) (fun h28 => ?_)
      · exact absurd h28 (by omega)
      · refine z_aload_n C dX9_is_31 rfl ?_
        refine z_get C dX9_is_32 fl_X9_42 (by first | assumption | ((repeat (first | assumption | exact va_up_self _ _ _ | refine (va_up_ne _ _ (by first | assumption | exact hA.ne (by decide) | exact hA.ne (by omega))).trans ?_)); done)) rfl ?_
        refine z_aload_n C dX9_is_35 rfl ?_
        refine z_getM C dX9_is_36 fl_X9_212 (by first | assumption | ((repeat (first | assumption | exact va_up_self _ _ _ | refine (va_up_ne _ _ (by first | assumption | exact hA.ne (by decide) | exact hA.ne (by omega))).trans ?_)); done)) rfl (by first | assumption | ((repeat (first | assumption | exact va_up_self _ _ _ | rewrite [va_up_ne _ _ (by decide)])); (first | done | exact rfl))) ?_
        refine z_iload_n C dX9_is_39 rfl ?_
        refine z_iaddZ C dX9_is_40 ?_
        refine z_aldN C dX9_is_41 (by first | assumption | ((repeat (first | assumption | exact va_up_self _ _ _ | refine (va_up_ne _ _ (by first | assumption | exact hA.ne (by decide) | exact hA.ne (by omega))).trans ?_)); done)) (by omega) (by omega) hB.2.1 (fun hr41 => ?_)
        rw [← hin]
        refine z_aload_n C dX9_is_42 rfl ?_
        refine z_iload_n C dX9_is_43 rfl ?_
        refine z_callVS C hj dX9_is_44 lk_X9_81 mw_J0_charAt_5068e mi_J0_charAt_5068e ms_J0_charAt_5068e (hch i (by omega)) rfl (by first | decide | exact Nat.le_of_ble_eq_true rfl) ⟨by decide, by decide, by decide, by decide⟩ (fun _ _ h => False.elim h) (fun v M' hp => ?_)
        obtain ⟨rfl, rfl⟩ := hp
        refine z_icmp_eqZ (tgt := 52) C dX9_is_47 (by decide) (by omega) (by omega) (fun h47 => ?_) (fun h47 => ?_)
        · refine z_iincZ C dX9_is_52 rfl (by decide) ?_
          refine z_goto (tgt := 23) C dX9_is_55 (by decide) ?_
          refine ih (i + 1) (by omega) (by omega) hF hE (fun q q1 q2 => ?_)
          by_cases w : q = i
          · rw [w]
            exact h47
          · exact ha q q1 (by omega)
        · refine z_iconst C dX9_is_50 ?_
          refine z_iret C hQ dX9_is_51 rfl (by decide) (by decide) ?_
          exact ⟨0, rfl, rfl, .inr ⟨rfl, fun w => h47 (w.2 i (by omega) (by omega))⟩⟩
  refine z_aload_n C dX9_is_0 rfl ?_
  refine z_getM C dX9_is_1 fl_X9_221 (by first | assumption | ((repeat (first | assumption | exact va_up_self _ _ _ | refine (va_up_ne _ _ (by first | assumption | exact hA.ne (by decide) | exact hA.ne (by omega))).trans ?_)); done)) rfl h22 ?_
  refine z_iconst C dX9_is_4 ?_
  refine z_icmp_neZ (tgt := 19) C dX9_is_5 (by decide) (by omega) (by omega) (fun h5 => ?_) (fun h5 => ?_)
  · refine z_iconst C dX9_is_19 ?_
    refine z_iret C hQ dX9_is_20 rfl (by decide) (by decide) ?_
    exact ⟨0, rfl, rfl, .inr ⟨rfl, fun w => h5 (m3.mpr (hwk w))⟩⟩
  · refine z_aload_n C dX9_is_8 rfl ?_
    refine z_getM C dX9_is_9 fl_X9_215 (by first | assumption | ((repeat (first | assumption | exact va_up_self _ _ _ | refine (va_up_ne _ _ (by first | assumption | exact hA.ne (by decide) | exact hA.ne (by omega))).trans ?_)); done)) rfl rfl ?_
    refine z_aload_n C dX9_is_12 rfl ?_
    refine z_callVS C hj dX9_is_13 lk_X9_75 mw_J0_length_8abf5 mi_J0_length_8abf5 ms_J0_length_8abf5 hlk rfl (by first | decide | exact Nat.le_of_ble_eq_true rfl) ⟨by decide, by decide, by decide, by decide⟩ (fun _ _ h => False.elim h) (fun v M' hp => ?_)
    obtain ⟨rfl, rfl⟩ := hp
    refine z_icmp_eqZ (tgt := 21) C dX9_is_16 (by decide) (by omega) (by omega) (fun h16 => ?_) (fun h16 => ?_)
    · refine z_iconst C dX9_is_21 ?_
      refine z_istore_n C dX9_is_22 (by decide) ?_
      have hk1 : ztK f n e0 = 1 := m3.mp (by omega)
      rw [if_pos hk1] at h24
      exact loop L 0 (by omega) (by omega) (by omega) (by omega) (fun q q1 q2 => by omega)
    · refine z_iconst C dX9_is_19 ?_
      refine z_iret C hQ dX9_is_20 rfl (by decide) (by decide) ?_
      refine ⟨0, rfl, rfl, .inr ⟨rfl, fun w => h16 ?_⟩⟩
      rw [h24, if_pos (hwk w)]
      exact w.1
def mck (F : Nat → Int) (r what : Int) : Nat → Int := if F 25 = 0 ∧ r = 0 then va_up (va_up F 25 what) 26 (F 21) else F
theorem mck_kp (F : Nat → Int) (r what : Int) : mKp [25, 26] F (mck F r what) := by
  unfold mck
  split
  · exact (mKp.rf.up rfl).up rfl
  · exact mKp.rf
set_option maxHeartbeats 4000000 in
set_option maxRecDepth 100000 in
theorem k_X9_check {l : Launch} {γ : zG} {M : zM} {A : Nat → Nat} {F : Nat → Int} {r what : Int} (hA : mIA A) (hO : M (A 0) = some (mOb A F)) (hr : 0 ≤ r ∧ r ≤ 1) (hw : 1 ≤ what ∧ what ≤ 5) (h25 : 0 ≤ F 25 ∧ F 25 ≤ 5) :
    zCon l γ yX9_check cX9_check 3 (some .boolean) [.ref (A 0), .int (zi r), .int (zi what)] M 0 0 0 0 (fun v' M' => ∃ b : Int, v' = some (.int (zi b)) ∧ mF A M M' [0] ∧ M' (A 0) = some (mOb A (mck F r what))) (fun _ _ => False) := by
  refine zEnter [some (.ref (A 0)), some (.int (zi r)), some (.int (zi what))] (by decide +kernel) rfl rfl (Nat.le_of_ble_eq_true rfl) ?_
  intro p e s m args below meth c Q C hin hQ
  refine z_aload_n C dX9_check_0 rfl ?_
  refine z_getM C dX9_check_1 fl_X9_199 (by first | assumption | ((repeat (first | assumption | exact va_up_self _ _ _ | refine (va_up_ne _ _ (by first | assumption | exact hA.ne (by decide) | exact hA.ne (by omega))).trans ?_)); done)) rfl (by first | assumption | ((repeat (first | assumption | exact va_up_self _ _ _ | rewrite [va_up_ne _ _ (by decide)])); (first | done | exact rfl))) ?_
  refine z_if_neZ (tgt := 24) C dX9_check_4 (by decide) (by omega) (fun h4 => ?_) (fun h4 => ?_)
  · refine z_aload_n C dX9_check_24 rfl ?_
    refine z_getM C dX9_check_25 fl_X9_199 (by first | assumption | ((repeat (first | assumption | exact va_up_self _ _ _ | refine (va_up_ne _ _ (by first | assumption | exact hA.ne (by decide) | exact hA.ne (by omega))).trans ?_)); done)) rfl rfl ?_
    refine z_if_neZ (tgt := 35) C dX9_check_28 (by decide) (by omega) (fun h28 => ?_) (fun h28 => ?_)
    · refine z_iconst C dX9_check_35 ?_
      refine z_iret C hQ dX9_check_36 rfl (by decide) (by decide) ?_
      exact ⟨0, rfl, mF.rf, by rw [mck, if_neg (by omega)]; exact hO⟩
    · refine z_iconst C dX9_check_31 ?_
      refine z_goto (tgt := 36) C dX9_check_32 (by decide) ?_
      refine z_iret C hQ dX9_check_36 rfl (by decide) (by decide) ?_
      exact ⟨1, rfl, mF.rf, by rw [mck, if_neg (by omega)]; exact hO⟩
  · refine z_iload_n C dX9_check_7 rfl ?_
    refine z_if_neZ (tgt := 24) C dX9_check_8 (by decide) (by omega) (fun h8 => ?_) (fun h8 => ?_)
    · refine z_aload_n C dX9_check_24 rfl ?_
      refine z_getM C dX9_check_25 fl_X9_199 (by first | assumption | ((repeat (first | assumption | exact va_up_self _ _ _ | refine (va_up_ne _ _ (by first | assumption | exact hA.ne (by decide) | exact hA.ne (by omega))).trans ?_)); done)) rfl rfl ?_
      refine z_if_neZ (tgt := 35) C dX9_check_28 (by decide) (by omega) (fun h28 => ?_) (fun h28 => ?_)
      · refine z_iconst C dX9_check_35 ?_
        refine z_iret C hQ dX9_check_36 rfl (by decide) (by decide) ?_
        exact ⟨0, rfl, mF.rf, by rw [mck, if_neg (by omega)]; exact hO⟩
      · refine z_iconst C dX9_check_31 ?_
        refine z_goto (tgt := 36) C dX9_check_32 (by decide) ?_
        refine z_iret C hQ dX9_check_36 rfl (by decide) (by decide) ?_
        exact ⟨1, rfl, mF.rf, by rw [mck, if_neg (by omega)]; exact hO⟩
    · refine z_aload_n C dX9_check_11 rfl ?_
      refine z_iload_n C dX9_check_12 rfl ?_
      refine z_putM C dX9_check_13 fl_X9_199 (by first | assumption | ((repeat (first | assumption | exact va_up_self _ _ _ | refine (va_up_ne _ _ (by first | assumption | exact hA.ne (by decide) | exact hA.ne (by omega))).trans ?_)); done)) rfl ?_
      refine z_aload_n C dX9_check_16 rfl ?_
      refine z_aload_n C dX9_check_17 rfl ?_
      refine z_getM C dX9_check_18 fl_X9_212 (by first | assumption | ((repeat (first | assumption | exact va_up_self _ _ _ | refine (va_up_ne _ _ (by first | assumption | exact hA.ne (by decide) | exact hA.ne (by omega))).trans ?_)); done)) rfl (by first | assumption | ((repeat (first | assumption | exact va_up_self _ _ _ | rewrite [va_up_ne _ _ (by decide)])); (first | done | exact rfl))) ?_
      refine z_putM C dX9_check_21 fl_X9_45 (by first | assumption | ((repeat (first | assumption | exact va_up_self _ _ _ | refine (va_up_ne _ _ (by first | assumption | exact hA.ne (by decide) | exact hA.ne (by omega))).trans ?_)); done)) rfl ?_
      refine z_aload_n C dX9_check_24 rfl ?_
      refine z_getM C dX9_check_25 fl_X9_199 (by first | assumption | ((repeat (first | assumption | exact va_up_self _ _ _ | refine (va_up_ne _ _ (by first | assumption | exact hA.ne (by decide) | exact hA.ne (by omega))).trans ?_)); done)) rfl (by first | assumption | ((repeat (first | assumption | exact va_up_self _ _ _ | rewrite [va_up_ne _ _ (by decide)])); (first | done | exact rfl))) ?_
      refine z_if_neZ (tgt := 35) C dX9_check_28 (by decide) (by omega) (fun h28 => ?_) (fun h28 => ?_)
      · refine z_iconst C dX9_check_35 ?_
        refine z_iret C hQ dX9_check_36 rfl (by decide) (by decide) ?_
        exact ⟨0, rfl, (mF.rf.up rfl).up rfl, by rw [mck, if_pos (by omega)]; exact va_up_self _ _ _⟩
      · refine z_iconst C dX9_check_31 ?_
        refine z_goto (tgt := 36) C dX9_check_32 (by decide) ?_
        refine z_iret C hQ dX9_check_36 rfl (by decide) (by decide) ?_
        exact ⟨1, rfl, (mF.rf.up rfl).up rfl, by rw [mck, if_pos (by omega)]; exact va_up_self _ _ _⟩
/-- the parser's fields, the token behind e under its eyes -/
def mPs (γ : zG) (M : zM) (A : Nat → Nat) (F f : Nat → Int) (n e : Int) : Prop := M (A 0) = some (mOb A F) ∧ M (A 11) = some (zar γ 500 f) ∧ F 19 = n ∧ hBo f n ∧ (0 ≤ e ∧ e ≤ n) ∧ mTk F f n e
theorem mPs.kp {γ : zG} {M M' : zM} {A : Nat → Nat} {F F' f : Nat → Int} {n e : Int} {K K' : List Nat} (hA : mIA A) (h : mPs γ M A F f n e) (hf : mF A M M' K) (h11 : mNi 11 K) (hO : M' (A 0) = some (mOb A F')) (hk : mKp K' F F') (hK : K'.all (fun j => decide (j ∉ [19, 20, 21, 22, 23, 24])) = true) : mPs γ M' A F' f n e := by
  have nk : ∀ j, j ∈ [19, 20, 21, 22, 23, 24] → F' j = F j := fun j hj => hk j (fun w => by
    have := List.all_eq_true.mp hK j w
    simp at this
    simp at hj
    omega)
  obtain ⟨q1, q2, q3, q4, q5, q6, q7, q8, q9, q10⟩ := h
  exact ⟨hO, hf.at hA h11 q2, (nk 19 (by simp)).trans q3, q4, q5, (nk 20 (by simp)).trans q6, (nk 21 (by simp)).trans q7, (nk 22 (by simp)).trans q8, (nk 24 (by simp)).trans q9, (nk 23 (by simp)).trans q10⟩
set_option maxHeartbeats 4000000 in
set_option maxRecDepth 100000 in
theorem k_X9_next {l : Launch} {γ : zG} {M : zM} {A : Nat → Nat} {F f : Nat → Int} {n e0 : Int} (hA : mIA A) (hP : mPs γ M A F f n e0) (h25 : 0 ≤ F 25 ∧ F 25 ≤ 5) :
    zCon l γ yX9_next cX9_next 1 none [.ref (A 0)] M 4 86 0 0 (fun v' M' => v' = none ∧ mF A M M' [0] ∧ ∃ F', mKp [20, 21, 22, 23, 24] F F' ∧ (F 25 = 0 ∧ mPs γ M' A F' f n (ztE f n e0) ∨ F 25 ≠ 0 ∧ mPs γ M' A F' f n e0)) (fun _ _ => False) := by
  obtain ⟨q1, q2, q3, q4, q5, q6⟩ := id hP
  have rE := ztE_rng q4 q5
  have rS := ztS_rng (f := f) q5
  refine zEnter [some (.ref (A 0))] (by decide +kernel) rfl rfl (Nat.le_of_ble_eq_true rfl) ?_
  intro p e s m args below meth c Q C hin hQ
  refine z_aload_n C dX9_next_0 rfl ?_
  refine z_getM C dX9_next_1 fl_X9_199 (by first | assumption | ((repeat (first | assumption | exact va_up_self _ _ _ | refine (va_up_ne _ _ (by first | assumption | exact hA.ne (by decide) | exact hA.ne (by omega))).trans ?_)); done)) rfl (by first | assumption | ((repeat (first | assumption | exact va_up_self _ _ _ | rewrite [va_up_ne _ _ (by decide)])); (first | done | exact rfl))) ?_
  refine z_if_neZ (tgt := 11) C dX9_next_4 (by decide) (by omega) (fun h4 => ?_) (fun h4 => ?_)
  · refine z_vret C hQ dX9_next_11 (by decide) (by decide) ?_
    exact ⟨rfl, mF.rf, F, mKp.rf, .inr ⟨h4, hP⟩⟩
  · refine z_aload_n C dX9_next_7 rfl ?_
    refine z_callV C dX9_next_8 lk_X9_228 mw_X9_advance mi_X9_advance ms_X9_advance rfl (by first | assumption | ((repeat (first | assumption | exact va_up_self _ _ _ | refine (va_up_ne _ _ (by first | assumption | exact hA.ne (by decide) | exact hA.ne (by omega))).trans ?_)); done)) (k_X9_advance hA q1 q2 q3 q4 q6.1 (by omega)) rfl (by first | decide | exact Nat.le_of_ble_eq_true rfl) ⟨by decide, by decide, by decide, by decide⟩ (fun _ _ h => False.elim h) (fun v M' hp => ?_)
    obtain ⟨rfl, a1, F1, a2, a3, a4⟩ := hp
    refine z_vret C hQ dX9_next_11 (by decide) (by decide) ?_
    exact ⟨rfl, a1, F1, a3, .inl ⟨h4, a2, a1.at hA (.of rfl) q2, (a3 19 (by decide)).trans q3, q4, by omega, a4⟩⟩

