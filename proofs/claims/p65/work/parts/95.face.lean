/-! the face's constructor -/
theorem zkeep {M M1 : zM} {q : Nat} {o : va_E} {L : List Nat} (hq : M q = none) (g : zFr (va_up M q (some o)) M1 L) (hL : ∀ b ∈ L, b = q ∨ va_up M q (some o) b = none) {b : Nat} {x : va_E} (hb : M b = some x) : M1 b = some x := by
  have nq : b ≠ q := fun w => by
    rw [w, hq] at hb
    cases hb
  rw [g b (fun w => ?_), va_up_ne _ _ nq]
  · exact hb
  · rcases hL b w with v | v
    · exact nq v
    · rw [va_up_ne _ _ nq, hb] at v
      cases v
def kS0 (i : Nat) : Prop := i = 0
def kS1 (i : Nat) : Prop := i = 0 ∨ (16 ≤ i ∧ i < 59)
def kS (s i : Nat) : Prop := i < s ∨ (16 ≤ i ∧ i < 102)
set_option maxHeartbeats 4000000 in
set_option maxRecDepth 100000 in
theorem k_X8_init {l : Launch} {γ : zG} {M : zM} {a : Nat} (hM : M a = some (.inr (8, [.null, .null, .null, .int 0, .int 0, .null, .null, .null, .null, .int 0, .int 0, .null, .null, .null, .null]))) :
    zCon l γ yX8_init cX8_init 2 none [.ref a] M 10 250 560 75000 (fun v' M' => v' = none ∧ ∃ U : Nat → Nat, U 0 = a ∧ (∀ j, 1 ≤ j → j < 532 → M (U j) = none) ∧ zFr M M' (zFU U) ∧ hFc γ M' U zY0) (fun _ _ => False) := by
  refine zEnter [some (.ref a), none] (by decide +kernel) rfl rfl (Nat.le_of_ble_eq_true rfl) ?_
  intro p e s m args below meth c Q C hin hQ
  have loop2 : ∀ (U0 : Nat → Nat) (t : Nat) (M1 : zM) (U : Nat → Nat) (Dk : Nat → Nat → Nat) (k : Nat), k + t = 2 → zLq γ M a U0 (8 + k) U Dk M1 → M1 a = some (.inr (8, [.ref (U0 16), .ref (U0 59), .ref (U0 1), .int (zi 0), .int (zi 0), .ref (U0 2), .ref (U0 3), .ref (U0 4), .ref (U0 6), .int (zi 0), .int (zi (-1)), .ref (U0 8), .ref (U0 11), .ref (U0 14), .ref (U0 15)])) → M1 (U0 1) = some (zaQ γ 7 8 (fun j => if j < 8 then some (Dk (2 + j) 0) else none)) → M1 (U0 2) = some (zaQ γ 7 2 (fun j => if j < k then some (Dk (10 + j) 0) else none)) → zAW p l e { frames := 10, cells := 560, slots := 75000, locals := 250 } s m args below meth c γ 2 Q M1 (452 + 43 * k) (58908 + 5589 * k) 158 [some (.ref a), some (.int (zi k))] [] := by
    intro U0 t
    induction t with
    | zero =>
      intro M1 U Dk k hk h h0 h1 h2
      obtain rfl : k = 2 := by omega
      have h0' : M1 a = some (.inr (8, [.ref (U 16), .ref (U 59), .ref (U 1), .int (zi 0), .int (zi 0), .ref (U 2), .ref (U 3), .ref (U 4), .ref (U 6), .int (zi 0), .int (zi (-1)), .ref (U 8), .ref (U 11), .ref (U 14), .ref (U 15)])) := by
        rw [h.2.1 16 (by omega), h.2.1 59 (by omega), h.2.1 1 (by omega), h.2.1 2 (by omega), h.2.1 3 (by omega), h.2.1 4 (by omega), h.2.1 6 (by omega), h.2.1 8 (by omega), h.2.1 11 (by omega), h.2.1 14 (by omega), h.2.1 15 (by omega)]
        exact h0
      refine z_fin h rfl rfl h0' h1 h2 (fun M2 r2 => ?_)
      refine z_iload_n C dX8_init_158 rfl ?_
      refine z_iconst C dX8_init_159 ?_
      refine z_icmp_geZ (tgt := 182) C dX8_init_160 (by decide) (by omega) (by omega) (fun h160 => ?_) (fun h160 => ?_)
      · refine z_vret C hQ dX8_init_182 (by decide) (by decide) ?_
        exact ⟨rfl, U, r2.face⟩
      · exact absurd h160 (by omega)
    | succ t ih =>
      intro M1 U Dk k hk h h0 h1 h2
      refine z_iload_n C dX8_init_158 rfl ?_
      refine z_iconst C dX8_init_159 ?_
      refine z_icmp_geZ (tgt := 182) C dX8_init_160 (by decide) (by omega) (by omega) (fun h160 => ?_) (fun h160 => ?_)
      · exact absurd h160 (by omega)
      · refine z_aload_n C dX8_init_163 rfl ?_
        refine z_get C dX8_init_164 fl_X8_34 (by first | assumption | ((repeat (first | assumption | exact va_up_self _ _ _ | refine (va_up_ne _ _ (by assumption)).trans ?_)); done) | (simp [va_up, *] <;> rfl)) rfl ?_
        refine z_iload_n C dX8_init_167 rfl ?_
        refine z_new C dX8_init_168 nw_X8_17 ⟨by show _ ≤ 560; omega, by show _ ≤ 75000; omega⟩ (fun q168 hq168 => ?_)
        refine z_dup C dX8_init_171 rfl ?_
        refine z_callI C dX8_init_172 lk_X8_19 mw_X7_init rfl mi_X7_init (k_X7_init (va_up_self _ _ _)) rfl (by first | decide | exact Nat.le_of_ble_eq_true rfl) ⟨by decide, by decide, by show _ ≤ 560; omega, by show _ ≤ 75000; omega⟩ (fun _ _ h => False.elim h) (fun v M' hp => ?_)
        obtain ⟨rfl, D, G, hS⟩ := hp
        have L : ∀ b ∈ (List.range 43).map D, b = q168 ∨ va_up M1 q168 (some (.inr (7, [.null, .int 0, .null, .int 0, .int 0]))) b = none := fun b hb => by
          obtain ⟨j, j1, j2⟩ := zRm.mp hb
          by_cases e1 : j = 0
          · left
            rw [← j2, e1]
            exact G.1
          · right
            rw [← j2]
            exact G.2.2.1 j (by omega) j1
        have m0 := zkeep hq168 G.2.2.2.1 L h0
        have m1 := zkeep hq168 G.2.2.2.1 L h1
        have m2 := zkeep hq168 G.2.2.2.1 L h2
        obtain ⟨Rs, Ds, ⟨hb0, -⟩, -⟩ := id hS
        rw [G.1] at hb0
        refine z_astQ C dX8_init_175 m2 (by decide) (ci := 7) rfl rfl hb0 (by omega) (by decide) ?_
        refine z_iincZ C dX8_init_176 rfl (by decide) ?_
        refine z_goto (tgt := 158) C dX8_init_179 (by decide) ?_
        refine z_kn (k' := 452 + 43 * (k + 1)) (n' := 58908 + 5589 * (k + 1)) (by omega) (by omega) ?_
        exact ih _ _ _ (k + 1) (by omega) (h.stp (w := 2) hq168 G m0 hS (by omega) rfl) ((va_up_ne _ _ (h.a (by omega) (by omega))).trans m0) ((va_up_ne _ _ (h.ne (by omega) (by omega) (by omega))).trans (m1.trans (congrArg some (zqJ2 fun j hj => by omega)))) (by rw [va_up_self]; exact congrArg some (zqJ1 G.1 (by omega)))
  have loop1 : ∀ (U0 : Nat → Nat) (t : Nat) (M1 : zM) (U : Nat → Nat) (Dk : Nat → Nat → Nat) (k : Nat), k + t = 8 → zLq γ M a U0 k U Dk M1 → M1 a = some (.inr (8, [.ref (U0 16), .ref (U0 59), .ref (U0 1), .int (zi 0), .int (zi 0), .ref (U0 2), .ref (U0 3), .ref (U0 4), .ref (U0 6), .int (zi 0), .int (zi (-1)), .ref (U0 8), .ref (U0 11), .ref (U0 14), .ref (U0 15)])) → M1 (U0 1) = some (zaQ γ 7 8 (fun j => if j < k then some (Dk (2 + j) 0) else none)) → M1 (U0 2) = some (zaQ γ 7 2 (fun j => if j < 0 then some (Dk (10 + j) 0) else none)) → zAW p l e { frames := 10, cells := 560, slots := 75000, locals := 250 } s m args below meth c γ 2 Q M1 (108 + 43 * k) (14196 + 5589 * k) 131 [some (.ref a), some (.int (zi k))] [] := by
    intro U0 t
    induction t with
    | zero =>
      intro M1 U Dk k hk h h0 h1 h2
      obtain rfl : k = 8 := by omega
      refine z_iload_n C dX8_init_131 rfl ?_
      refine z_bipush C dX8_init_132 (by decide) ?_
      refine z_icmp_geZ (tgt := 156) C dX8_init_134 (by decide) (by omega) (by omega) (fun h134 => ?_) (fun h134 => ?_)
      · refine z_iconst C dX8_init_156 ?_
        refine z_istore_n C dX8_init_157 (by decide) ?_
        exact loop2 U0 2 M1 U Dk 0 (by omega) h h0 h1 h2
      · exact absurd h134 (by omega)
    | succ t ih =>
      intro M1 U Dk k hk h h0 h1 h2
      refine z_iload_n C dX8_init_131 rfl ?_
      refine z_bipush C dX8_init_132 (by decide) ?_
      refine z_icmp_geZ (tgt := 156) C dX8_init_134 (by decide) (by omega) (by omega) (fun h134 => ?_) (fun h134 => ?_)
      · exact absurd h134 (by omega)
      · refine z_aload_n C dX8_init_137 rfl ?_
        refine z_get C dX8_init_138 fl_X8_23 (by first | assumption | ((repeat (first | assumption | exact va_up_self _ _ _ | refine (va_up_ne _ _ (by assumption)).trans ?_)); done) | (simp [va_up, *] <;> rfl)) rfl ?_
        refine z_iload_n C dX8_init_141 rfl ?_
        refine z_new C dX8_init_142 nw_X8_17 ⟨by show _ ≤ 560; omega, by show _ ≤ 75000; omega⟩ (fun q142 hq142 => ?_)
        refine z_dup C dX8_init_145 rfl ?_
        refine z_callI C dX8_init_146 lk_X8_19 mw_X7_init rfl mi_X7_init (k_X7_init (va_up_self _ _ _)) rfl (by first | decide | exact Nat.le_of_ble_eq_true rfl) ⟨by decide, by decide, by show _ ≤ 560; omega, by show _ ≤ 75000; omega⟩ (fun _ _ h => False.elim h) (fun v M' hp => ?_)
        obtain ⟨rfl, D, G, hS⟩ := hp
        have L : ∀ b ∈ (List.range 43).map D, b = q142 ∨ va_up M1 q142 (some (.inr (7, [.null, .int 0, .null, .int 0, .int 0]))) b = none := fun b hb => by
          obtain ⟨j, j1, j2⟩ := zRm.mp hb
          by_cases e1 : j = 0
          · left
            rw [← j2, e1]
            exact G.1
          · right
            rw [← j2]
            exact G.2.2.1 j (by omega) j1
        have m0 := zkeep hq142 G.2.2.2.1 L h0
        have m1 := zkeep hq142 G.2.2.2.1 L h1
        have m2 := zkeep hq142 G.2.2.2.1 L h2
        obtain ⟨Rs, Ds, ⟨hb0, -⟩, -⟩ := id hS
        rw [G.1] at hb0
        refine z_astQ C dX8_init_149 m1 (by decide) (ci := 7) rfl rfl hb0 (by omega) (by decide) ?_
        refine z_iincZ C dX8_init_150 rfl (by decide) ?_
        refine z_goto (tgt := 131) C dX8_init_153 (by decide) ?_
        refine z_kn (k' := 108 + 43 * (k + 1)) (n' := 14196 + 5589 * (k + 1)) (by omega) (by omega) ?_
        exact ih _ _ _ (k + 1) (by omega) (h.stp (w := 1) hq142 G m0 hS (by omega) rfl) ((va_up_ne _ _ (h.a (by omega) (by omega))).trans m0) (by rw [va_up_self]; exact congrArg some (zqJ1 G.1 rfl)) ((va_up_ne _ _ (h.ne (by omega) (by omega) (by omega))).trans (m2.trans (congrArg some (zqJ2 fun j hj => by omega))))
  have sg0 : zSg M a (fun _ => a) kS0 (fun _ => True) M := ⟨⟨⟨rfl, rfl⟩, fun i j h1 h2 _ => by unfold kS0 at h1 h2; omega, fun i _ => ⟨_, hM⟩, fun i h1 h2 => absurd h1 h2, fun b _ => rfl⟩, trivial, fun _ _ _ _ _ _ => trivial⟩
  refine z_aload_n C dX8_init_0 rfl ?_
  refine z_objInit C dX8_init_1 t1_34 ob_in ob_co ⟨by decide, (by first | decide | exact Nat.le_of_ble_eq_true rfl)⟩ ?_
  refine z_aload_n C dX8_init_4 rfl ?_
  refine z_callS C dX8_init_5 lk_X8_9 mw_X8_firstState mst_X8_firstState k_X8_firstState rfl (by first | decide | exact Nat.le_of_ble_eq_true rfl) ⟨by decide, by decide, by decide, by decide⟩ (fun _ _ h => False.elim h) (fun v M' hp => ?_)
  obtain ⟨D0, rfl, i0, n0, f5, hS0⟩ := hp
  have m5 : _ = some _ := f5.at (fun w => by obtain ⟨j, h1, h2⟩ := zRm.mp w; have := n0 j h1; rw [h2, hM] at this; cases this) hM
  refine z_putF C dX8_init_8 fl_X8_13 hin m5 (fun _ _ _ h => by cases h; rfl) rfl rfl (by simp) ?_
  refine z_gen (P := fun M1 => zSg M a (zUx (fun _ => a) D0 16 43) kS1 (fun M => (fun _ => True) M ∧ hSt γ M D0 zFs9) M1 ∧ M1 a = some (.inr (8, [.ref (D0 0), .null, .null, .int 0, .int 0, .null, .null, .null, .null, .int 0, .int 0, .null, .null, .null, .null]))) ⟨sg0.fst (lo := 16) (mk' := kS1) (by omega) (fun i => by unfold kS1 kS0; omega) (fun i w => by unfold kS0 at w; omega) n0 i0 f5 hS0, va_up_self _ _ _⟩ (fun M8 h8 => ?_)
  obtain ⟨sg8, o8⟩ := h8
  refine z_aload_n C dX8_init_11 rfl ?_
  refine z_new C dX8_init_12 nw_X8_17 ⟨by decide, by decide⟩ (fun q12 hq12 => ?_)
  refine z_dup C dX8_init_15 rfl ?_
  refine z_callI C dX8_init_16 lk_X8_19 mw_X7_init rfl mi_X7_init (k_X7_init (va_up_self _ _ _)) rfl (by first | decide | exact Nat.le_of_ble_eq_true rfl) ⟨by decide, by decide, by decide, by decide⟩ (fun _ _ h => False.elim h) (fun v M' hp => ?_)
  obtain ⟨rfl, D1, G1, hS1⟩ := hp
  have L16 : ∀ b ∈ (List.range 43).map D1, b = q12 ∨ va_up M8 q12 (some (.inr (7, [.null, .int 0, .null, .int 0, .int 0]))) b = none := fun b hb => by
    obtain ⟨j, h1, h2⟩ := zRm.mp hb
    by_cases e1 : j = 0
    · left
      rw [← h2, e1]
      exact G1.1
    · right
      rw [← h2]
      exact G1.2.2.1 j (by omega) h1
  have m16 := zkeep hq12 G1.2.2.2.1 L16 o8
  rw [← G1.1]
  refine z_putF C dX8_init_19 fl_X8_20 hin m16 (fun _ _ _ h => by cases h; rfl) rfl rfl (by simp) ?_
  refine z_gen (P := fun M1 => zSg M a (zUx (zUx (fun _ => a) D0 16 43) D1 59 43) (kS 1) (fun M => (fun M => (fun _ => True) M ∧ hSt γ M D0 zFs9) M ∧ hSt γ M D1 zS0) M1 ∧ M1 a = some (.inr (8, [.ref (D0 0), .ref (D1 0), .null, .int 0, .int 0, .null, .null, .null, .null, .int 0, .int 0, .null, .null, .null, .null]))) ⟨sg8.blk (lo := 59) (mk' := kS 1) (by omega) (fun i => by unfold kS kS1; omega) (fun i w => by unfold kS1 at w; omega) hq12 G1 hS1, va_up_self _ _ _⟩ (fun M19 h19 => ?_)
  obtain ⟨sg19, o19⟩ := h19
  refine z_aload_n C dX8_init_22 rfl ?_
  refine z_bipush C dX8_init_23 (by decide) ?_
  refine z_newQ (kd := 7) C dX8_init_25 t1_109 (by decide) rfl C.ev.2.2.2.2.2.2.2.2.2.1 (by omega) ⟨by decide, by decide⟩ (fun q25 hq25 => ?_)
  have na25 : a ≠ q25 := sg19.a hq25
  have m25 := (va_up_ne _ (some (zaQ γ 7 8 (fun _ => none))) na25).trans o19
  refine z_putF C dX8_init_28 fl_X8_23 hin m25 (fun _ _ _ h => by cases h; rfl) rfl rfl (by simp) ?_
  refine z_gen (P := fun M1 => zSg M a (zUx (zUx (zUx (fun _ => a) D0 16 43) D1 59 43) (fun _ => q25) 1 1) (kS 2) (fun M => (fun M => (fun M => (fun _ => True) M ∧ hSt γ M D0 zFs9) M ∧ hSt γ M D1 zS0) M ∧ True) M1 ∧ M1 a = some (.inr (8, [.ref (D0 0), .ref (D1 0), .ref q25, .int 0, .int 0, .null, .null, .null, .null, .int 0, .int 0, .null, .null, .null, .null])) ∧ M1 q25 = some (zaQ γ 7 8 (fun _ => none))) ⟨sg19.rw (lo := 1) (mk' := kS 2) (by omega) (fun i => by unfold kS; omega) (fun i w => by unfold kS at w; omega) hq25, va_up_self _ _ _, (va_up_ne _ _ na25.symm).trans (va_up_self _ _ _)⟩ (fun M28 h28 => ?_)
  obtain ⟨sg28, o28, ra_28⟩ := h28
  refine z_aload_n C dX8_init_31 rfl ?_
  refine z_iconst C dX8_init_32 ?_
  refine z_put C dX8_init_33 fl_X8_27 o28 rfl rfl (by simp) ?_
  refine z_gen (P := fun M1 => zSg M a (zUx (zUx (zUx (fun _ => a) D0 16 43) D1 59 43) (fun _ => q25) 1 1) (kS 2) (fun M => (fun M => (fun M => (fun _ => True) M ∧ hSt γ M D0 zFs9) M ∧ hSt γ M D1 zS0) M ∧ True) M1 ∧ M1 a = some (.inr (8, [.ref (D0 0), .ref (D1 0), .ref q25, .int (zi 0), .int 0, .null, .null, .null, .null, .int 0, .int 0, .null, .null, .null, .null])) ∧ M1 q25 = some (zaQ γ 7 8 (fun _ => none))) ⟨sg28.put, va_up_self _ _ _, (va_up_ne _ _ na25.symm).trans ra_28⟩ (fun M33 h33 => ?_)
  obtain ⟨sg33, o33, ra_33⟩ := h33
  refine z_aload_n C dX8_init_36 rfl ?_
  refine z_iconst C dX8_init_37 ?_
  refine z_put C dX8_init_38 fl_X8_31 o33 rfl rfl (by simp) ?_
  refine z_gen (P := fun M1 => zSg M a (zUx (zUx (zUx (fun _ => a) D0 16 43) D1 59 43) (fun _ => q25) 1 1) (kS 2) (fun M => (fun M => (fun M => (fun _ => True) M ∧ hSt γ M D0 zFs9) M ∧ hSt γ M D1 zS0) M ∧ True) M1 ∧ M1 a = some (.inr (8, [.ref (D0 0), .ref (D1 0), .ref q25, .int (zi 0), .int (zi 0), .null, .null, .null, .null, .int 0, .int 0, .null, .null, .null, .null])) ∧ M1 q25 = some (zaQ γ 7 8 (fun _ => none))) ⟨sg33.put, va_up_self _ _ _, (va_up_ne _ _ na25.symm).trans ra_33⟩ (fun M38 h38 => ?_)
  obtain ⟨sg38, o38, ra_38⟩ := h38
  refine z_aload_n C dX8_init_41 rfl ?_
  refine z_iconst C dX8_init_42 ?_
  refine z_newQ (kd := 7) C dX8_init_43 t1_109 (by decide) rfl C.ev.2.2.2.2.2.2.2.2.2.1 (by omega) ⟨by decide, by decide⟩ (fun q43 hq43 => ?_)
  have na43 : a ≠ q43 := sg38.a hq43
  have m43 := (va_up_ne _ (some (zaQ γ 7 2 (fun _ => none))) na43).trans o38
  have ra_n43 := zkeep hq43 zFr.rf (L := []) (o := zaQ γ 7 2 (fun _ => none)) (fun b hb => by cases hb) ra_38
  refine z_putF C dX8_init_46 fl_X8_34 hin m43 (fun _ _ _ h => by cases h; rfl) rfl rfl (by simp) ?_
  refine z_gen (P := fun M1 => zSg M a (zUx (zUx (zUx (zUx (fun _ => a) D0 16 43) D1 59 43) (fun _ => q25) 1 1) (fun _ => q43) 2 1) (kS 3) (fun M => (fun M => (fun M => (fun M => (fun _ => True) M ∧ hSt γ M D0 zFs9) M ∧ hSt γ M D1 zS0) M ∧ True) M ∧ True) M1 ∧ M1 a = some (.inr (8, [.ref (D0 0), .ref (D1 0), .ref q25, .int (zi 0), .int (zi 0), .ref q43, .null, .null, .null, .int 0, .int 0, .null, .null, .null, .null])) ∧ M1 q25 = some (zaQ γ 7 8 (fun _ => none)) ∧ M1 q43 = some (zaQ γ 7 2 (fun _ => none))) ⟨sg38.rw (lo := 2) (mk' := kS 3) (by omega) (fun i => by unfold kS; omega) (fun i w => by unfold kS at w; omega) hq43, va_up_self _ _ _, (va_up_ne _ _ na25.symm).trans ra_n43, (va_up_ne _ _ na43.symm).trans (va_up_self _ _ _)⟩ (fun M46 h46 => ?_)
  obtain ⟨sg46, o46, ra_46, rb_46⟩ := h46
  refine z_aload_n C dX8_init_49 rfl ?_
  refine z_iconst C dX8_init_50 ?_
  refine z_newZ C dX8_init_51 t2_192 (by omega) ⟨by decide, by decide⟩ (fun q51 hq51 => ?_)
  have na51 : a ≠ q51 := sg46.a hq51
  have m51 := (va_up_ne _ (some (zaZ γ 2 (fun _ => 0))) na51).trans o46
  have ra_n51 := zkeep hq51 zFr.rf (L := []) (o := zaZ γ 2 (fun _ => 0)) (fun b hb => by cases hb) ra_46
  have rb_n51 := zkeep hq51 zFr.rf (L := []) (o := zaZ γ 2 (fun _ => 0)) (fun b hb => by cases hb) rb_46
  refine z_putF C dX8_init_53 fl_X8_37 hin m51 (fun _ _ _ h => by cases h; rfl) rfl rfl (by simp) ?_
  refine z_gen (P := fun M1 => zSg M a (zUx (zUx (zUx (zUx (zUx (fun _ => a) D0 16 43) D1 59 43) (fun _ => q25) 1 1) (fun _ => q43) 2 1) (fun _ => q51) 3 1) (kS 4) (fun M => (fun M => (fun M => (fun M => (fun M => (fun _ => True) M ∧ hSt γ M D0 zFs9) M ∧ hSt γ M D1 zS0) M ∧ True) M ∧ True) M ∧ M q51 = some (zaZ γ 2 (fun _ => 0))) M1 ∧ M1 a = some (.inr (8, [.ref (D0 0), .ref (D1 0), .ref q25, .int (zi 0), .int (zi 0), .ref q43, .ref q51, .null, .null, .int 0, .int 0, .null, .null, .null, .null])) ∧ M1 q25 = some (zaQ γ 7 8 (fun _ => none)) ∧ M1 q43 = some (zaQ γ 7 2 (fun _ => none))) ⟨sg46.row (lo := 3) (mk' := kS 4) (by omega) (fun i => by unfold kS; omega) (fun i w => by unfold kS at w; omega) hq51, va_up_self _ _ _, (va_up_ne _ _ na25.symm).trans ra_n51, (va_up_ne _ _ na43.symm).trans rb_n51⟩ (fun M53 h53 => ?_)
  obtain ⟨sg53, o53, ra_53, rb_53⟩ := h53
  refine z_aload_n C dX8_init_56 rfl ?_
  refine z_new C dX8_init_57 nw_X8_41 ⟨by decide, by decide⟩ (fun q57 hq57 => ?_)
  refine z_dup C dX8_init_60 rfl ?_
  refine z_callIN C dX8_init_61 nk_X8_43 mw_X0_init rfl mi_X0_init (k_X0_init (va_up_self _ _ _)) rfl (by first | decide | exact Nat.le_of_ble_eq_true rfl) ⟨by decide, by decide, by decide, by decide⟩ (fun _ _ h => False.elim h) (fun v M' hp => ?_)
  obtain ⟨rfl, r57, n57, g61, b57⟩ := hp
  have L61 : ∀ b ∈ [q57, r57], b = q57 ∨ va_up M53 q57 (some (.inr (0, [.null, .int 0]))) b = none := fun b hb => by
    simp only [List.mem_cons, List.not_mem_nil, or_false] at hb
    rcases hb with rfl | rfl
    · exact .inl rfl
    · exact .inr n57
  have na57 : a ≠ q57 := sg53.a hq57
  have m57 := zkeep hq57 g61 L61 o53
  have ra_n57 := zkeep hq57 g61 L61 ra_53
  have rb_n57 := zkeep hq57 g61 L61 rb_53
  refine z_putF C dX8_init_64 fl_X8_44 hin m57 (fun _ _ _ h => by cases h; rfl) rfl rfl (by simp) ?_
  refine z_gen (P := fun M1 => zSg M a (zUx (zUx (zUx (zUx (zUx (zUx (fun _ => a) D0 16 43) D1 59 43) (fun _ => q25) 1 1) (fun _ => q43) 2 1) (fun _ => q51) 3 1) (fun j => if j = 0 then q57 else r57) 4 2) (kS 6) (fun M => (fun M => (fun M => (fun M => (fun M => (fun M => (fun _ => True) M ∧ hSt γ M D0 zFs9) M ∧ hSt γ M D1 zS0) M ∧ True) M ∧ True) M ∧ M q51 = some (zaZ γ 2 (fun _ => 0))) M ∧ hBy γ M q57 r57 (fun _ => 0) 0) M1 ∧ M1 a = some (.inr (8, [.ref (D0 0), .ref (D1 0), .ref q25, .int (zi 0), .int (zi 0), .ref q43, .ref q51, .ref q57, .null, .int 0, .int 0, .null, .null, .null, .null])) ∧ M1 q25 = some (zaQ γ 7 8 (fun _ => none)) ∧ M1 q43 = some (zaQ γ 7 2 (fun _ => none))) ⟨sg53.by (lo := 4) (mk' := kS 6) (by omega) (fun i => by unfold kS; omega) (fun i w => by unfold kS at w; omega) hq57 n57 g61 b57, va_up_self _ _ _, (va_up_ne _ _ na25.symm).trans ra_n57, (va_up_ne _ _ na43.symm).trans rb_n57⟩ (fun M64 h64 => ?_)
  obtain ⟨sg64, o64, ra_64, rb_64⟩ := h64
  refine z_aload_n C dX8_init_67 rfl ?_
  refine z_new C dX8_init_68 nw_X8_41 ⟨by decide, by decide⟩ (fun q68 hq68 => ?_)
  refine z_dup C dX8_init_71 rfl ?_
  refine z_callIN C dX8_init_72 nk_X8_43 mw_X0_init rfl mi_X0_init (k_X0_init (va_up_self _ _ _)) rfl (by first | decide | exact Nat.le_of_ble_eq_true rfl) ⟨by decide, by decide, by decide, by decide⟩ (fun _ _ h => False.elim h) (fun v M' hp => ?_)
  obtain ⟨rfl, r68, n68, g72, b68⟩ := hp
  have L72 : ∀ b ∈ [q68, r68], b = q68 ∨ va_up M64 q68 (some (.inr (0, [.null, .int 0]))) b = none := fun b hb => by
    simp only [List.mem_cons, List.not_mem_nil, or_false] at hb
    rcases hb with rfl | rfl
    · exact .inl rfl
    · exact .inr n68
  have na68 : a ≠ q68 := sg64.a hq68
  have m68 := zkeep hq68 g72 L72 o64
  have ra_n68 := zkeep hq68 g72 L72 ra_64
  have rb_n68 := zkeep hq68 g72 L72 rb_64
  refine z_putF C dX8_init_75 fl_X8_48 hin m68 (fun _ _ _ h => by cases h; rfl) rfl rfl (by simp) ?_
  refine z_gen (P := fun M1 => zSg M a (zUx (zUx (zUx (zUx (zUx (zUx (zUx (fun _ => a) D0 16 43) D1 59 43) (fun _ => q25) 1 1) (fun _ => q43) 2 1) (fun _ => q51) 3 1) (fun j => if j = 0 then q57 else r57) 4 2) (fun j => if j = 0 then q68 else r68) 6 2) (kS 8) (fun M => (fun M => (fun M => (fun M => (fun M => (fun M => (fun M => (fun _ => True) M ∧ hSt γ M D0 zFs9) M ∧ hSt γ M D1 zS0) M ∧ True) M ∧ True) M ∧ M q51 = some (zaZ γ 2 (fun _ => 0))) M ∧ hBy γ M q57 r57 (fun _ => 0) 0) M ∧ hBy γ M q68 r68 (fun _ => 0) 0) M1 ∧ M1 a = some (.inr (8, [.ref (D0 0), .ref (D1 0), .ref q25, .int (zi 0), .int (zi 0), .ref q43, .ref q51, .ref q57, .ref q68, .int 0, .int 0, .null, .null, .null, .null])) ∧ M1 q25 = some (zaQ γ 7 8 (fun _ => none)) ∧ M1 q43 = some (zaQ γ 7 2 (fun _ => none))) ⟨sg64.by (lo := 6) (mk' := kS 8) (by omega) (fun i => by unfold kS; omega) (fun i w => by unfold kS at w; omega) hq68 n68 g72 b68, va_up_self _ _ _, (va_up_ne _ _ na25.symm).trans ra_n68, (va_up_ne _ _ na43.symm).trans rb_n68⟩ (fun M75 h75 => ?_)
  obtain ⟨sg75, o75, ra_75, rb_75⟩ := h75
  refine z_aload_n C dX8_init_78 rfl ?_
  refine z_iconst C dX8_init_79 ?_
  refine z_put C dX8_init_80 fl_X8_51 o75 rfl rfl (by simp) ?_
  refine z_gen (P := fun M1 => zSg M a (zUx (zUx (zUx (zUx (zUx (zUx (zUx (fun _ => a) D0 16 43) D1 59 43) (fun _ => q25) 1 1) (fun _ => q43) 2 1) (fun _ => q51) 3 1) (fun j => if j = 0 then q57 else r57) 4 2) (fun j => if j = 0 then q68 else r68) 6 2) (kS 8) (fun M => (fun M => (fun M => (fun M => (fun M => (fun M => (fun M => (fun _ => True) M ∧ hSt γ M D0 zFs9) M ∧ hSt γ M D1 zS0) M ∧ True) M ∧ True) M ∧ M q51 = some (zaZ γ 2 (fun _ => 0))) M ∧ hBy γ M q57 r57 (fun _ => 0) 0) M ∧ hBy γ M q68 r68 (fun _ => 0) 0) M1 ∧ M1 a = some (.inr (8, [.ref (D0 0), .ref (D1 0), .ref q25, .int (zi 0), .int (zi 0), .ref q43, .ref q51, .ref q57, .ref q68, .int (zi 0), .int 0, .null, .null, .null, .null])) ∧ M1 q25 = some (zaQ γ 7 8 (fun _ => none)) ∧ M1 q43 = some (zaQ γ 7 2 (fun _ => none))) ⟨sg75.put, va_up_self _ _ _, (va_up_ne _ _ na25.symm).trans ra_75, (va_up_ne _ _ na43.symm).trans rb_75⟩ (fun M80 h80 => ?_)
  obtain ⟨sg80, o80, ra_80, rb_80⟩ := h80
  refine z_aload_n C dX8_init_83 rfl ?_
  refine z_iconst C dX8_init_84 ?_
  refine z_put C dX8_init_85 fl_X8_54 o80 rfl rfl (by simp) ?_
  refine z_gen (P := fun M1 => zSg M a (zUx (zUx (zUx (zUx (zUx (zUx (zUx (fun _ => a) D0 16 43) D1 59 43) (fun _ => q25) 1 1) (fun _ => q43) 2 1) (fun _ => q51) 3 1) (fun j => if j = 0 then q57 else r57) 4 2) (fun j => if j = 0 then q68 else r68) 6 2) (kS 8) (fun M => (fun M => (fun M => (fun M => (fun M => (fun M => (fun M => (fun _ => True) M ∧ hSt γ M D0 zFs9) M ∧ hSt γ M D1 zS0) M ∧ True) M ∧ True) M ∧ M q51 = some (zaZ γ 2 (fun _ => 0))) M ∧ hBy γ M q57 r57 (fun _ => 0) 0) M ∧ hBy γ M q68 r68 (fun _ => 0) 0) M1 ∧ M1 a = some (.inr (8, [.ref (D0 0), .ref (D1 0), .ref q25, .int (zi 0), .int (zi 0), .ref q43, .ref q51, .ref q57, .ref q68, .int (zi 0), .int (zi (-1)), .null, .null, .null, .null])) ∧ M1 q25 = some (zaQ γ 7 8 (fun _ => none)) ∧ M1 q43 = some (zaQ γ 7 2 (fun _ => none))) ⟨sg80.put, va_up_self _ _ _, (va_up_ne _ _ na25.symm).trans ra_80, (va_up_ne _ _ na43.symm).trans rb_80⟩ (fun M85 h85 => ?_)
  obtain ⟨sg85, o85, ra_85, rb_85⟩ := h85
  refine z_aload_n C dX8_init_88 rfl ?_
  refine z_new C dX8_init_89 nw_X8_57 ⟨by decide, by decide⟩ (fun q89 hq89 => ?_)
  refine z_dup C dX8_init_92 rfl ?_
  refine z_callIN C dX8_init_93 nk_X8_59 mw_X2_init rfl mi_X2_init (k_X2_init (va_up_self _ _ _)) rfl (by first | decide | exact Nat.le_of_ble_eq_true rfl) ⟨by decide, by decide, by decide, by decide⟩ (fun _ _ h => False.elim h) (fun v M' hp => ?_)
  obtain ⟨rfl, k89, v89, n89, w89, g93, c89⟩ := hp
  obtain ⟨kv89, nn89, ks89, vs89, ⟨a89, b89, d89⟩, -⟩ := id c89
  have L93 : ∀ b ∈ [q89, k89, v89], b = q89 ∨ va_up M85 q89 (some (.inr (2, [.null, .null, .int 0]))) b = none := fun b hb => by
    simp only [List.mem_cons, List.not_mem_nil, or_false] at hb
    rcases hb with rfl | rfl | rfl
    · exact .inl rfl
    · exact .inr n89
    · exact .inr w89
  have na89 : a ≠ q89 := sg85.a hq89
  have m89 := zkeep hq89 g93 L93 o85
  have ra_n89 := zkeep hq89 g93 L93 ra_85
  have rb_n89 := zkeep hq89 g93 L93 rb_85
  refine z_putF C dX8_init_96 fl_X8_60 hin m89 (fun _ _ _ h => by cases h; rfl) rfl rfl (by simp) ?_
  refine z_gen (P := fun M1 => zSg M a (zUx (zUx (zUx (zUx (zUx (zUx (zUx (zUx (fun _ => a) D0 16 43) D1 59 43) (fun _ => q25) 1 1) (fun _ => q43) 2 1) (fun _ => q51) 3 1) (fun j => if j = 0 then q57 else r57) 4 2) (fun j => if j = 0 then q68 else r68) 6 2) (zA3 q89 k89 v89) 8 3) (kS 11) (fun M => (fun M => (fun M => (fun M => (fun M => (fun M => (fun M => (fun M => (fun _ => True) M ∧ hSt γ M D0 zFs9) M ∧ hSt γ M D1 zS0) M ∧ True) M ∧ True) M ∧ M q51 = some (zaZ γ 2 (fun _ => 0))) M ∧ hBy γ M q57 r57 (fun _ => 0) 0) M ∧ hBy γ M q68 r68 (fun _ => 0) 0) M ∧ hCn γ M q89 k89 v89 (fun _ => 0)) M1 ∧ M1 a = some (.inr (8, [.ref (D0 0), .ref (D1 0), .ref q25, .int (zi 0), .int (zi 0), .ref q43, .ref q51, .ref q57, .ref q68, .int (zi 0), .int (zi (-1)), .ref q89, .null, .null, .null])) ∧ M1 q25 = some (zaQ γ 7 8 (fun _ => none)) ∧ M1 q43 = some (zaQ γ 7 2 (fun _ => none))) ⟨sg85.b3 (R := fun M => hCn γ M q89 k89 v89 (fun _ => 0)) (lo := 8) (mk' := kS 11) (by omega) (fun i => by unfold kS; omega) (fun i w => by unfold kS at w; omega) hq89 n89 w89 kv89 g93 a89 b89 d89 c89 (fun U1 e0 e1 e2 m0 m1 m2 => zKp.cn m0 m1 m2 e0 e1 e2), va_up_self _ _ _, (va_up_ne _ _ na25.symm).trans ra_n89, (va_up_ne _ _ na43.symm).trans rb_n89⟩ (fun M96 h96 => ?_)
  obtain ⟨sg96, o96, ra_96, rb_96⟩ := h96
  refine z_aload_n C dX8_init_99 rfl ?_
  refine z_new C dX8_init_100 nw_X8_64 ⟨by decide, by decide⟩ (fun q100 hq100 => ?_)
  refine z_dup C dX8_init_103 rfl ?_
  refine z_callIN C dX8_init_104 nk_X8_66 mw_X5_init rfl mi_X5_init (k_X5_init (va_up_self _ _ _)) rfl (by first | decide | exact Nat.le_of_ble_eq_true rfl) ⟨by decide, by decide, by decide, by decide⟩ (fun _ _ h => False.elim h) (fun v M' hp => ?_)
  obtain ⟨rfl, k100, v100, n100, w100, g104, c100⟩ := hp
  obtain ⟨ks100, vs100, nn100, mm100, ⟨kv100, a100, b100, d100⟩, -⟩ := id c100
  have L104 : ∀ b ∈ [q100, k100, v100], b = q100 ∨ va_up M96 q100 (some (.inr (5, [.null, .null, .int 0, .int 0]))) b = none := fun b hb => by
    simp only [List.mem_cons, List.not_mem_nil, or_false] at hb
    rcases hb with rfl | rfl | rfl
    · exact .inl rfl
    · exact .inr n100
    · exact .inr w100
  have na100 : a ≠ q100 := sg96.a hq100
  have m100 := zkeep hq100 g104 L104 o96
  have ra_n100 := zkeep hq100 g104 L104 ra_96
  have rb_n100 := zkeep hq100 g104 L104 rb_96
  refine z_putF C dX8_init_107 fl_X8_67 hin m100 (fun _ _ _ h => by cases h; rfl) rfl rfl (by simp) ?_
  refine z_gen (P := fun M1 => zSg M a (zUx (zUx (zUx (zUx (zUx (zUx (zUx (zUx (zUx (fun _ => a) D0 16 43) D1 59 43) (fun _ => q25) 1 1) (fun _ => q43) 2 1) (fun _ => q51) 3 1) (fun j => if j = 0 then q57 else r57) 4 2) (fun j => if j = 0 then q68 else r68) 6 2) (zA3 q89 k89 v89) 8 3) (zA3 q100 k100 v100) 11 3) (kS 14) (fun M => (fun M => (fun M => (fun M => (fun M => (fun M => (fun M => (fun M => (fun M => (fun _ => True) M ∧ hSt γ M D0 zFs9) M ∧ hSt γ M D1 zS0) M ∧ True) M ∧ True) M ∧ M q51 = some (zaZ γ 2 (fun _ => 0))) M ∧ hBy γ M q57 r57 (fun _ => 0) 0) M ∧ hBy γ M q68 r68 (fun _ => 0) 0) M ∧ hCn γ M q89 k89 v89 (fun _ => 0)) M ∧ hRq γ M q100 k100 v100) M1 ∧ M1 a = some (.inr (8, [.ref (D0 0), .ref (D1 0), .ref q25, .int (zi 0), .int (zi 0), .ref q43, .ref q51, .ref q57, .ref q68, .int (zi 0), .int (zi (-1)), .ref q89, .ref q100, .null, .null])) ∧ M1 q25 = some (zaQ γ 7 8 (fun _ => none)) ∧ M1 q43 = some (zaQ γ 7 2 (fun _ => none))) ⟨sg96.b3 (R := fun M => hRq γ M q100 k100 v100) (lo := 11) (mk' := kS 14) (by omega) (fun i => by unfold kS; omega) (fun i w => by unfold kS at w; omega) hq100 n100 w100 kv100 g104 a100 b100 d100 c100 (fun U1 e0 e1 e2 m0 m1 m2 => zKp.rq m0 m1 m2 e0 e1 e2), va_up_self _ _ _, (va_up_ne _ _ na25.symm).trans ra_n100, (va_up_ne _ _ na43.symm).trans rb_n100⟩ (fun M107 h107 => ?_)
  obtain ⟨sg107, o107, ra_107, rb_107⟩ := h107
  refine z_aload_n C dX8_init_110 rfl ?_
  refine z_new C dX8_init_111 nw_X8_71 ⟨by decide, by decide⟩ (fun q111 hq111 => ?_)
  refine z_dup C dX8_init_114 rfl ?_
  refine z_callIN C dX8_init_115 nk_X8_73 mw_X1_init rfl mi_X1_init (k_X1_init (va_up_self _ _ _)) rfl (by first | decide | exact Nat.le_of_ble_eq_true rfl) ⟨by decide, by decide, by decide, by decide⟩ (fun _ _ h => False.elim h) (fun v M' hp => ?_)
  obtain ⟨rfl, g115, c111⟩ := hp
  have L115 : ∀ b ∈ [q111], b = q111 ∨ va_up M107 q111 (some (.inr (1, [.long 0, .long 0, .int 0, .int 0]))) b = none := fun b hb => by
    simp only [List.mem_cons, List.not_mem_nil, or_false] at hb
    exact .inl hb
  have na111 : a ≠ q111 := sg107.a hq111
  have m111 := zkeep hq111 g115 L115 o107
  have ra_n111 := zkeep hq111 g115 L115 ra_107
  have rb_n111 := zkeep hq111 g115 L115 rb_107
  refine z_putF C dX8_init_118 fl_X8_74 hin m111 (fun _ _ _ h => by cases h; rfl) rfl rfl (by simp) ?_
  refine z_gen (P := fun M1 => zSg M a (zUx (zUx (zUx (zUx (zUx (zUx (zUx (zUx (zUx (zUx (fun _ => a) D0 16 43) D1 59 43) (fun _ => q25) 1 1) (fun _ => q43) 2 1) (fun _ => q51) 3 1) (fun j => if j = 0 then q57 else r57) 4 2) (fun j => if j = 0 then q68 else r68) 6 2) (zA3 q89 k89 v89) 8 3) (zA3 q100 k100 v100) 11 3) (fun _ => q111) 14 1) (kS 15) (fun M => (fun M => (fun M => (fun M => (fun M => (fun M => (fun M => (fun M => (fun M => (fun M => (fun _ => True) M ∧ hSt γ M D0 zFs9) M ∧ hSt γ M D1 zS0) M ∧ True) M ∧ True) M ∧ M q51 = some (zaZ γ 2 (fun _ => 0))) M ∧ hBy γ M q57 r57 (fun _ => 0) 0) M ∧ hBy γ M q68 r68 (fun _ => 0) 0) M ∧ hCn γ M q89 k89 v89 (fun _ => 0)) M ∧ hRq γ M q100 k100 v100) M ∧ M q111 = some (.inr (1, [.long (zl 1), .long (zl 1), .int (zi 0), .int 0]))) M1 ∧ M1 a = some (.inr (8, [.ref (D0 0), .ref (D1 0), .ref q25, .int (zi 0), .int (zi 0), .ref q43, .ref q51, .ref q57, .ref q68, .int (zi 0), .int (zi (-1)), .ref q89, .ref q100, .ref q111, .null])) ∧ M1 q25 = some (zaQ γ 7 8 (fun _ => none)) ∧ M1 q43 = some (zaQ γ 7 2 (fun _ => none))) ⟨sg107.one (x := .inr (1, [.long (zl 1), .long (zl 1), .int (zi 0), .int 0])) (lo := 14) (mk' := kS 15) (by omega) (fun i => by unfold kS; omega) (fun i w => by unfold kS at w; omega) hq111 g115 c111, va_up_self _ _ _, (va_up_ne _ _ na25.symm).trans ra_n111, (va_up_ne _ _ na43.symm).trans rb_n111⟩ (fun M118 h118 => ?_)
  obtain ⟨sg118, o118, ra_118, rb_118⟩ := h118
  refine z_aload_n C dX8_init_121 rfl ?_
  refine z_bipush C dX8_init_122 (by decide) ?_
  refine z_newI C dX8_init_124 t1_55 (by omega) ⟨by decide, by decide⟩ (fun q124 hq124 => ?_)
  have na124 : a ≠ q124 := sg118.a hq124
  have m124 := (va_up_ne _ (some (zaI γ 40 (fun _ => 0))) na124).trans o118
  have ra_n124 := zkeep hq124 zFr.rf (L := []) (o := zaI γ 40 (fun _ => 0)) (fun b hb => by cases hb) ra_118
  have rb_n124 := zkeep hq124 zFr.rf (L := []) (o := zaI γ 40 (fun _ => 0)) (fun b hb => by cases hb) rb_118
  refine z_putF C dX8_init_126 fl_X8_78 hin m124 (fun _ _ _ h => by cases h; rfl) rfl rfl (by simp) ?_
  refine z_gen (P := fun M1 => zSg M a (zUx (zUx (zUx (zUx (zUx (zUx (zUx (zUx (zUx (zUx (zUx (fun _ => a) D0 16 43) D1 59 43) (fun _ => q25) 1 1) (fun _ => q43) 2 1) (fun _ => q51) 3 1) (fun j => if j = 0 then q57 else r57) 4 2) (fun j => if j = 0 then q68 else r68) 6 2) (zA3 q89 k89 v89) 8 3) (zA3 q100 k100 v100) 11 3) (fun _ => q111) 14 1) (fun _ => q124) 15 1) (kS 16) (fun M => (fun M => (fun M => (fun M => (fun M => (fun M => (fun M => (fun M => (fun M => (fun M => (fun M => (fun _ => True) M ∧ hSt γ M D0 zFs9) M ∧ hSt γ M D1 zS0) M ∧ True) M ∧ True) M ∧ M q51 = some (zaZ γ 2 (fun _ => 0))) M ∧ hBy γ M q57 r57 (fun _ => 0) 0) M ∧ hBy γ M q68 r68 (fun _ => 0) 0) M ∧ hCn γ M q89 k89 v89 (fun _ => 0)) M ∧ hRq γ M q100 k100 v100) M ∧ M q111 = some (.inr (1, [.long (zl 1), .long (zl 1), .int (zi 0), .int 0]))) M ∧ M q124 = some (zaI γ 40 (fun _ => 0))) M1 ∧ M1 a = some (.inr (8, [.ref (D0 0), .ref (D1 0), .ref q25, .int (zi 0), .int (zi 0), .ref q43, .ref q51, .ref q57, .ref q68, .int (zi 0), .int (zi (-1)), .ref q89, .ref q100, .ref q111, .ref q124])) ∧ M1 q25 = some (zaQ γ 7 8 (fun _ => none)) ∧ M1 q43 = some (zaQ γ 7 2 (fun _ => none))) ⟨sg118.row (lo := 15) (mk' := kS 16) (by omega) (fun i => by unfold kS; omega) (fun i w => by unfold kS at w; omega) hq124, va_up_self _ _ _, (va_up_ne _ _ na25.symm).trans ra_n124, (va_up_ne _ _ na43.symm).trans rb_n124⟩ (fun M126 h126 => ?_)
  obtain ⟨sg126, o126, ra_126, rb_126⟩ := h126
  refine z_iconst C dX8_init_129 ?_
  refine z_istore_n C dX8_init_130 (by decide) ?_
  refine z_kn (k' := 108 + 43 * 0) (n' := 14196 + 5589 * 0) rfl rfl ?_
  have uA : ∀ r, r < 43 → (zUx (zUx (zUx (zUx (zUx (zUx (zUx (zUx (zUx (zUx (zUx (fun _ => a) D0 16 43) D1 59 43) (fun _ => q25) 1 1) (fun _ => q43) 2 1) (fun _ => q51) 3 1) (fun j => if j = 0 then q57 else r57) 4 2) (fun j => if j = 0 then q68 else r68) 6 2) (zA3 q89 k89 v89) 8 3) (zA3 q100 k100 v100) 11 3) (fun _ => q111) 14 1) (fun _ => q124) 15 1) (16 + r) = D0 r := fun r hr => by
    rw [zUx_o (by omega), zUx_o (by omega), zUx_o (by omega), zUx_o (by omega), zUx_o (by omega), zUx_o (by omega), zUx_o (by omega), zUx_o (by omega), zUx_o (by omega), zUx_o (by omega), zUx_n hr]
  have uB : ∀ r, r < 43 → (zUx (zUx (zUx (zUx (zUx (zUx (zUx (zUx (zUx (zUx (zUx (fun _ => a) D0 16 43) D1 59 43) (fun _ => q25) 1 1) (fun _ => q43) 2 1) (fun _ => q51) 3 1) (fun j => if j = 0 then q57 else r57) 4 2) (fun j => if j = 0 then q68 else r68) 6 2) (zA3 q89 k89 v89) 8 3) (zA3 q100 k100 v100) 11 3) (fun _ => q111) 14 1) (fun _ => q124) 15 1) (59 + r) = D1 r := fun r hr => by
    rw [zUx_o (by omega), zUx_o (by omega), zUx_o (by omega), zUx_o (by omega), zUx_o (by omega), zUx_o (by omega), zUx_o (by omega), zUx_o (by omega), zUx_o (by omega), zUx_n hr]
  refine loop1 (zUx (zUx (zUx (zUx (zUx (zUx (zUx (zUx (zUx (zUx (zUx (fun _ => a) D0 16 43) D1 59 43) (fun _ => q25) 1 1) (fun _ => q43) 2 1) (fun _ => q51) 3 1) (fun j => if j = 0 then q57 else r57) 4 2) (fun j => if j = 0 then q68 else r68) 6 2) (zA3 q89 k89 v89) 8 3) (zA3 q100 k100 v100) 11 3) (fun _ => q111) 14 1) (fun _ => q124) 15 1) 8 M126 (zUx (zUx (zUx (zUx (zUx (zUx (zUx (zUx (zUx (zUx (zUx (fun _ => a) D0 16 43) D1 59 43) (fun _ => q25) 1 1) (fun _ => q43) 2 1) (fun _ => q51) 3 1) (fun j => if j = 0 then q57 else r57) 4 2) (fun j => if j = 0 then q68 else r68) 6 2) (zA3 q89 k89 v89) 8 3) (zA3 q100 k100 v100) 11 3) (fun _ => q111) 14 1) (fun _ => q124) 15 1) (fun j => if j = 0 then D0 else D1) 0 (by omega) ⟨sg126.iff (fun i => by unfold kS kT; omega) (fun M => ⟨fun v => ?_, fun v => ?_⟩), fun _ _ => rfl, fun j r hj hr => ?_⟩ o126 ra_126 rb_126
  · obtain ⟨⟨⟨⟨⟨⟨⟨⟨⟨⟨⟨-, t0⟩, t1⟩, -⟩, -⟩, t3⟩, t4⟩, t6⟩, t8⟩, t11⟩, t14⟩, t15⟩ := v
    exact ⟨⟨t3, t4, t6, t8, t11, t14, t15⟩, fun j hj => by
      rcases (show j = 0 ∨ j = 1 by omega) with rfl | rfl
      · exact t0
      · exact t1⟩
  · obtain ⟨⟨t3, t4, t6, t8, t11, t14, t15⟩, tb⟩ := v
    exact ⟨⟨⟨⟨⟨⟨⟨⟨⟨⟨⟨trivial, tb 0 (by omega)⟩, tb 1 (by omega)⟩, trivial⟩, trivial⟩, t3⟩, t4⟩, t6⟩, t8⟩, t11⟩, t14⟩, t15⟩
  · rcases (show j = 0 ∨ j = 1 by omega) with rfl | rfl
    · show D0 r = (zUx (zUx (zUx (zUx (zUx (zUx (zUx (zUx (zUx (zUx (zUx (fun _ => a) D0 16 43) D1 59 43) (fun _ => q25) 1 1) (fun _ => q43) 2 1) (fun _ => q51) 3 1) (fun j => if j = 0 then q57 else r57) 4 2) (fun j => if j = 0 then q68 else r68) 6 2) (zA3 q89 k89 v89) 8 3) (zA3 q100 k100 v100) 11 3) (fun _ => q111) 14 1) (fun _ => q124) 15 1) (16 + 43 * 0 + r)
      rw [show 16 + 43 * 0 + r = 16 + r by omega, uA r hr]
    · show D1 r = (zUx (zUx (zUx (zUx (zUx (zUx (zUx (zUx (zUx (zUx (zUx (fun _ => a) D0 16 43) D1 59 43) (fun _ => q25) 1 1) (fun _ => q43) 2 1) (fun _ => q51) 3 1) (fun j => if j = 0 then q57 else r57) 4 2) (fun j => if j = 0 then q68 else r68) 6 2) (zA3 q89 k89 v89) 8 3) (zA3 q100 k100 v100) 11 3) (fun _ => q111) 14 1) (fun _ => q124) 15 1) (16 + 43 * 1 + r)
      rw [show 16 + 43 * 1 + r = 59 + r by omega, uB r hr]

