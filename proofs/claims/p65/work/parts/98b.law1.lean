/-! the law's small helpers: cell, document, word -/
/-- what lay there is there, unchanged -/
def zNw (M M' : zM) : Prop := ∀ b x, M b = some x → M' b = some x
theorem zNw.rf {M : zM} : zNw M M := fun _ _ h => h
theorem zNw.tr {M M1 M2 : zM} (h : zNw M M1) (q : zNw M1 M2) : zNw M M2 := fun b x w => q b x (h b x w)
theorem zNw.up {M M1 : zM} {q : Nat} {y : Option va_E} (h : zNw M M1) (hq : M q = none) : zNw M (va_up M1 q y) := fun b x w => by
  rw [va_up_ne _ _ (fun e => by rw [e, hq] at w; cases w)]
  exact h b x w
theorem zNw.fr {M M1 M2 : zM} {S : List Nat} (h : zNw M M1) (f : zFr M1 M2 S) (hS : ∀ b ∈ S, M b = none) : zNw M M2 := fun b x w => (f b (fun e => by rw [hS b e] at w; cases w)).trans (h b x w)
theorem zNw.no {M M1 : zM} {q : Nat} (h : zNw M M1) (hq : M1 q = none) : M q = none := by
  cases e : M q with
  | none => rfl
  | some x => rw [h q x e] at hq; cases hq
/-- a StringBuilder made since M0 -/
def zBd (γ : zG) (M0 M : zM) (a : Nat) (w : List Int) : Prop := zNw M0 M ∧ M0 a = none ∧ ∃ v m, M0 v = none ∧ hSb γ M a v w m
theorem zBd.of {γ : zG} {M0 M M' : zM} {a v : Nat} {w : List Int} (h : zNw M0 M) (ha : M0 a = none) (hv : M0 v = none) (x : hBx γ M M' a v w) : zBd γ M0 M' a w := by
  obtain ⟨v2, m2, h1, h2, h3⟩ := x
  have hv2 : M0 v2 = none := by
    rcases h2 with rfl | h2
    · exact hv
    · exact h.no h2
  exact ⟨h.fr h3 (fun b hb => by
    simp only [List.mem_cons, List.not_mem_nil, or_false] at hb
    rcases hb with rfl | rfl
    · exact ha
    · exact hv2), ha, v2, m2, hv2, h1⟩
theorem zdvr {x d : Int} (hx : 0 ≤ x ∧ x ≤ 2147483647) (hd : 0 < d) : 0 ≤ x / d ∧ x / d ≤ 2147483647 := ⟨Int.ediv_nonneg hx.1 (by omega), Int.le_trans (Int.ediv_le_self d hx.1) hx.2⟩
/-- what the law reads of its script -/
def zce (γ : zG) (k : Int) : Int := if 0 ≤ k ∧ k < (γ.2.2.2.2 26 : Nat) then ((γ.2.2.2.2 (27 + k.toNat) % 2147483648 : Nat) : Int) else 0
theorem zce_rng (γ : zG) (k : Int) : 0 ≤ zce γ k ∧ zce γ k ≤ 2147483647 := by
  unfold zce
  split <;> omega
theorem zsc_and (γ : zG) (j : Nat) : zsc γ j &&& 2147483647 = zi ((γ.2.2.2.2 (27 + j) % 2147483648 : Nat) : Int) := by
  have e1 : zsc γ j = zi ((γ.2.2.2.2 (27 + j) % 4294967296 : Nat) : Int) := by
    unfold zsc
    refine zi_ofU ?_
    show (BitVec.ofNat 32 (γ.2.2.2.2 (27 + j))).toNat = _
    rw [BitVec.toNat_ofNat]
  rw [e1, show (2147483647 : Int32) = zi ((2147483647 : Nat) : Int) from rfl, zi_andN (by omega) (by decide)]
  rw [show (2147483647 : Nat) = 2 ^ 31 - 1 by rfl, Nat.and_two_pow_sub_one_eq_mod]
  congr 2
  omega
set_option maxHeartbeats 4000000 in
set_option maxRecDepth 100000 in
theorem k_L_cell {l : Launch} {γ : zG} {M : zM} {k : Int} (hk : 0 ≤ k ∧ k ≤ 1000) :
    zCon l γ yL_cell cL_cell 2 (some .int) [.ref (γ.2.2.2.1 26), .int (zi k)] M 0 0 0 0 (fun v' M' => v' = some (.int (zi (zce γ k))) ∧ M' = M) (fun _ _ => False) := by
  refine zEnter [some (.ref (γ.2.2.2.1 26)), some (.int (zi k))] (by decide +kernel) rfl rfl (Nat.le_of_ble_eq_true rfl) ?_
  intro p e s m args below meth c Q C hin hQ
  obtain ⟨hX0, ⟨hb, hN⟩, -⟩ := C.ev.2.2.2.2.2.1.2.2.2.2
  have hX := hX0.kept (H1 := s.heap) (C.hb.2 _ hb)
  refine z_iload_n C dL_cell_0 rfl ?_
  refine z_aload_n C dL_cell_1 rfl ?_
  refine z_xlen C hX hb (by omega) dL_cell_2 ?_
  refine z_icmp_geZ (tgt := 15) C dL_cell_3 (by decide) (by omega) (by omega) (fun h3 => ?_) (fun h3 => ?_)
  · refine z_iconst C dL_cell_15 ?_
    refine z_iret C hQ dL_cell_16 rfl (by decide) (by decide) ?_
    exact ⟨by rw [zce, if_neg (by omega)], rfl⟩
  · refine z_aload_n C dL_cell_6 rfl ?_
    refine z_iload_n C dL_cell_7 rfl ?_
    refine z_xld C hX hb (by omega) (by omega) dL_cell_8 ?_
    refine z_ldc C dL_cell_9 t3_122 ?_
    refine z_iand C dL_cell_11 ?_
    rw [zsc_and]
    refine z_goto (tgt := 16) C dL_cell_12 (by decide) ?_
    refine z_iret C hQ dL_cell_16 rfl (by decide) (by decide) ?_
    exact ⟨by rw [zce, if_pos (by omega)], rfl⟩
/-- symbols of a document that the law makes -/
def zds (f : Nat → Int) (n : Nat) : Prop := ∀ j, j < n → (0 ≤ f j ∧ f j ≤ 3) ∨ f j = 26
theorem zds.up {f : Nat → Int} {i : Nat} {v : Int} (h : zds f i) (hv : (0 ≤ v ∧ v ≤ 3) ∨ v = 26) : zds (va_up f i v) (i + 1) := fun j hj => by
  by_cases e : j = i
  · rw [e, va_up_self]
    exact hv
  · rw [va_up_ne _ _ e]
    exact h j (by omega)
set_option maxHeartbeats 4000000 in
set_option maxRecDepth 100000 in
theorem k_L_document {l : Launch} {γ : zG} {M : zM} {x y : Int} (hx : 0 ≤ x ∧ x ≤ 2147483647) (hy : 0 ≤ y ∧ y ≤ 2147483647) :
    zCon l γ yL_document cL_document 5 (some (.array .int)) [.int (zi x), .int (zi y)] M 0 0 1 14 (fun v' M' => ∃ q f, M q = none ∧ v' = some (.ref q) ∧ M' = va_up M q (some (zar γ (1 + x % 14).toNat f)) ∧ zds f (1 + x % 14).toNat) (fun _ _ => False) := by
  have hn : 1 ≤ 1 + x % 14 ∧ 1 + x % 14 ≤ 14 := by omega
  obtain ⟨n0, hn0⟩ : ∃ n, n = 1 + x % 14 := ⟨_, rfl⟩
  rw [← hn0] at hn ⊢
  refine zEnter [some (.int (zi x)), some (.int (zi y)), none, none, none] (by decide +kernel) rfl rfl (Nat.le_of_ble_eq_true rfl) ?_
  intro p e s m args below meth c Q C hin hQ
  have loop : ∀ (q : Nat) (hq : M q = none) (t : Nat) (i : Int) (f : Nat → Int) (o4 : Option Value), n0 - i = t → 0 ≤ i ∧ i ≤ n0 → (∀ j, zR (f j)) → zds f i.toNat → zAW p l e { frames := 0, cells := 1, slots := 14, locals := 0 } s m args below meth c γ 5 Q (va_up M q (some (zar γ n0.toNat f))) 1 n0.toNat 11 [some (.int (zi x)), some (.int (zi y)), some (.ref q), some (.int (zi i)), o4] [] := by
    intro q hq t
    induction t with
    | zero =>
      intro i f o4 ht hi hf hd
      have hM : va_up M q (some (zar γ n0.toNat f)) q = some (zar γ n0.toNat f) := va_up_self _ _ _
      refine z_iload_n C dL_document_11 rfl ?_
      refine z_aload_n C dL_document_12 rfl ?_
      refine z_alenI C dL_document_13 hM (by omega) ?_
      refine z_icmp_geZ (tgt := 66) C dL_document_14 (by decide) (by omega) (by omega) (fun h14 => ?_) (fun h14 => ?_)
      · refine z_aload_n C dL_document_66 rfl ?_
        refine z_aret C hQ dL_document_67 (by first | exact Or.inl ⟨_, rfl⟩ | exact Or.inr ⟨_, rfl⟩) (Or.inr ⟨_, rfl⟩) (by decide) (by show n0.toNat ≤ 14; omega) ?_
        exact ⟨q, f, hq, rfl, rfl, by rw [show n0.toNat = i.toNat by omega]; exact hd⟩
      · exact absurd h14 (by omega)
    | succ t ih =>
      intro i f o4 ht hi hf hd
      have hM : va_up M q (some (zar γ n0.toNat f)) q = some (zar γ n0.toNat f) := va_up_self _ _ _
      refine z_iload_n C dL_document_11 rfl ?_
      refine z_aload_n C dL_document_12 rfl ?_
      refine z_alenI C dL_document_13 hM (by omega) ?_
      refine z_icmp_geZ (tgt := 66) C dL_document_14 (by decide) (by omega) (by omega) (fun h14 => ?_) (fun h14 => ?_)
      · exact absurd h14 (by omega)
      · refine z_iload_n C dL_document_17 rfl ?_
        refine z_bipush C dL_document_18 (by decide) ?_
        refine z_icmp_geZ (tgt := 30) C dL_document_20 (by decide) (by omega) (by omega) (fun h20 => ?_) (fun h20 => ?_)
        · refine z_iload_n C dL_document_30 rfl ?_
          refine z_iconst C dL_document_31 ?_
          refine z_iconst C dL_document_32 ?_
          refine z_iload_n C dL_document_33 rfl ?_
          refine z_bipush C dL_document_34 (by decide) ?_
          refine z_iremZ C dL_document_36 (by omega) (by omega) ?_
          refine z_imulZ C dL_document_37 ?_
          refine z_iaddZ C dL_document_38 ?_
          refine z_idivZ C dL_document_39 (by omega) (by omega) ?_
          have h39 := zdvr (x := y) (d := 1 + 5 * (i % 7)) hy (by omega)
          generalize y / (1 + 5 * (i % 7)) = z at h39 ⊢
          refine z_iconst C dL_document_40 ?_
          refine z_iremZ C dL_document_41 (by omega) (by omega) ?_
          refine z_istore C dL_document_42 (by decide) ?_
          refine z_aload_n C dL_document_44 rfl ?_
          refine z_iload_n C dL_document_45 rfl ?_
          refine z_iload C dL_document_46 rfl ?_
          refine z_iconst C dL_document_48 ?_
          refine z_icmp_neZ (tgt := 57) C dL_document_49 (by decide) (by omega) (by omega) (fun h49 => ?_) (fun h49 => ?_)
          · refine z_iload C dL_document_57 rfl ?_
            refine z_astN C dL_document_59 (by first | assumption | ((repeat (first | assumption | exact va_up_self _ _ _ | refine (va_up_ne _ _ (by assumption)).trans ?_)); done) | (simp [va_up, *] <;> rfl)) (by omega) (by omega) (by assumption) (by omega) (fun hr59 => ?_)
            refine z_iincZ C dL_document_60 rfl (by decide) ?_
            refine z_goto (tgt := 11) C dL_document_63 (by decide) ?_
            rw [va_up_tw]
            exact ih (i + 1) _ _ (by omega) (by omega) hr59 (by rw [show (i + 1).toNat = i.toNat + 1 by omega]; exact hd.up (by omega))
          · refine z_bipush C dL_document_52 (by decide) ?_
            refine z_goto (tgt := 59) C dL_document_54 (by decide) ?_
            refine z_astN C dL_document_59 (by first | assumption | ((repeat (first | assumption | exact va_up_self _ _ _ | refine (va_up_ne _ _ (by assumption)).trans ?_)); done) | (simp [va_up, *] <;> rfl)) (by omega) (by omega) (by assumption) (by omega) (fun hr59 => ?_)
            refine z_iincZ C dL_document_60 rfl (by decide) ?_
            refine z_goto (tgt := 11) C dL_document_63 (by decide) ?_
            rw [va_up_tw]
            exact ih (i + 1) _ _ (by omega) (by omega) hr59 (by rw [show (i + 1).toNat = i.toNat + 1 by omega]; exact hd.up (by omega))
        · refine z_iload_n C dL_document_23 rfl ?_
          refine z_bipush C dL_document_24 (by decide) ?_
          refine z_idivZ C dL_document_26 (by omega) (by omega) ?_
          refine z_goto (tgt := 31) C dL_document_27 (by decide) ?_
          refine z_iconst C dL_document_31 ?_
          refine z_iconst C dL_document_32 ?_
          refine z_iload_n C dL_document_33 rfl ?_
          refine z_bipush C dL_document_34 (by decide) ?_
          refine z_iremZ C dL_document_36 (by omega) (by omega) ?_
          refine z_imulZ C dL_document_37 ?_
          refine z_iaddZ C dL_document_38 ?_
          refine z_idivZ C dL_document_39 (by omega) (by omega) ?_
          have h39 := zdvr (x := x / 16) (d := 1 + 5 * (i % 7)) (by omega) (by omega)
          generalize x / 16 / (1 + 5 * (i % 7)) = z at h39 ⊢
          refine z_iconst C dL_document_40 ?_
          refine z_iremZ C dL_document_41 (by omega) (by omega) ?_
          refine z_istore C dL_document_42 (by decide) ?_
          refine z_aload_n C dL_document_44 rfl ?_
          refine z_iload_n C dL_document_45 rfl ?_
          refine z_iload C dL_document_46 rfl ?_
          refine z_iconst C dL_document_48 ?_
          refine z_icmp_neZ (tgt := 57) C dL_document_49 (by decide) (by omega) (by omega) (fun h49 => ?_) (fun h49 => ?_)
          · refine z_iload C dL_document_57 rfl ?_
            refine z_astN C dL_document_59 (by first | assumption | ((repeat (first | assumption | exact va_up_self _ _ _ | refine (va_up_ne _ _ (by assumption)).trans ?_)); done) | (simp [va_up, *] <;> rfl)) (by omega) (by omega) (by assumption) (by omega) (fun hr59 => ?_)
            refine z_iincZ C dL_document_60 rfl (by decide) ?_
            refine z_goto (tgt := 11) C dL_document_63 (by decide) ?_
            rw [va_up_tw]
            exact ih (i + 1) _ _ (by omega) (by omega) hr59 (by rw [show (i + 1).toNat = i.toNat + 1 by omega]; exact hd.up (by omega))
          · refine z_bipush C dL_document_52 (by decide) ?_
            refine z_goto (tgt := 59) C dL_document_54 (by decide) ?_
            refine z_astN C dL_document_59 (by first | assumption | ((repeat (first | assumption | exact va_up_self _ _ _ | refine (va_up_ne _ _ (by assumption)).trans ?_)); done) | (simp [va_up, *] <;> rfl)) (by omega) (by omega) (by assumption) (by omega) (fun hr59 => ?_)
            refine z_iincZ C dL_document_60 rfl (by decide) ?_
            refine z_goto (tgt := 11) C dL_document_63 (by decide) ?_
            rw [va_up_tw]
            exact ih (i + 1) _ _ (by omega) (by omega) hr59 (by rw [show (i + 1).toNat = i.toNat + 1 by omega]; exact hd.up (by omega))
  refine z_iconst C dL_document_0 ?_
  refine z_iload_n C dL_document_1 rfl ?_
  refine z_bipush C dL_document_2 (by decide) ?_
  refine z_iremZ C dL_document_4 (by omega) (by omega) ?_
  refine z_iaddZ C dL_document_5 ?_
  rw [← hn0]
  refine z_newI C dL_document_6 t1_55 (by omega) ⟨by decide, by show 0 + n0.toNat ≤ 14; omega⟩ (fun q hq => ?_)
  refine z_astore_n C dL_document_8 (by decide) ?_
  refine z_iconst C dL_document_9 ?_
  refine z_istore_n C dL_document_10 (by decide) ?_
  exact z_kn (k' := 1) (n' := n0.toNat) rfl (Nat.zero_add _) (loop q hq n0.toNat 0 (fun _ => 0) none (by omega) (by omega) (fun j => by unfold zR; omega) (fun j hj => absurd hj (by simp)))
theorem zSw_abc : ∀ j, j < 26 → (zSw 23).getD j 0 = 97 + (j : Int) := by decide +kernel
/-- a word's letters -/
def zwl (w : List Int) : Prop := ∀ x ∈ w, x = 95 ∨ (97 ≤ x ∧ x ≤ 100)
theorem zwl.app {w : List Int} {x : Int} (h : zwl w) (hx : x = 95 ∨ (97 ≤ x ∧ x ≤ 100)) : zwl (w ++ [x]) := fun y hy => (List.mem_append.mp hy).elim (h y) (fun q => by rw [List.mem_singleton.mp q]; exact hx)
set_option maxHeartbeats 4000000 in
set_option maxRecDepth 100000 in
theorem k_L_word {l : Launch} {γ : zG} {M : zM} {q n0 : Nat} {f : Nat → Int} (hM : M q = some (zar γ n0 f)) (hn : 1 ≤ n0 ∧ n0 ≤ 14) (hf : zds f n0) :
    zCon l γ yL_word cL_word 3 (some (.object "java/lang/String")) [.ref q] M 6 190 18 15200 (fun v' M' => ∃ b u w, v' = some (.ref b) ∧ hSg γ M' b u w ∧ M b = none ∧ M u = none ∧ zNw M M' ∧ w.length = n0 ∧ zwl w) (fun _ _ => False) := by
  refine zEnter [some (.ref q), none, none] (by decide +kernel) rfl rfl (Nat.le_of_ble_eq_true rfl) ?_
  intro p e s m args below meth c Q C hin hQ
  have loop : ∀ (t i : Nat) (M1 : zM) (a : Nat) (w : List Int), n0 - i = t → i ≤ n0 → zBd γ M M1 a w → w.length = i → zwl w → zAW p l e { frames := 6, cells := 18, slots := 15200, locals := 190 } s m args below meth c γ 3 Q M1 (2 + i) (20 + 1002 * i) 10 [some (.ref q), some (.ref a), some (.int (zi i))] [] := by
    intro t
    induction t with
    | zero =>
      intro i M1 a w ht hi hB hl hw
      obtain ⟨hN, ha, v, mm, hv, hB⟩ := hB
      have hM1 := hN _ _ hM
      have hob := hB.2.2.1
      refine z_iload_n C dL_word_10 rfl ?_
      refine z_aload_n C dL_word_11 rfl ?_
      refine z_alenI C dL_word_12 hM1 (by omega) ?_
      refine z_icmp_geZ (tgt := 48) C dL_word_13 (by decide) (by omega) (by omega) (fun h13 => ?_) (fun h13 => ?_)
      · refine z_aload_n C dL_word_48 rfl ?_
        refine z_callV C dL_word_49 lk_L_42 mw_J4_toString_0e30d mi_J4_toString_0e30d ms_J4_toString_0e30d rfl hob (k_B_toString hB) rfl (by first | decide | exact Nat.le_of_ble_eq_true rfl) ⟨by decide, by decide, by show 2 + i + 2 ≤ 18; omega, by show 20 + 1002 * i + 1010 ≤ 15200; omega⟩ (fun _ _ h => False.elim h) (fun v M' hp => ?_)
        obtain ⟨b, u, hb, hu, rfl, hS, f49⟩ := hp
        refine z_aret C hQ dL_word_52 (by first | exact Or.inl ⟨_, rfl⟩ | exact Or.inr ⟨_, rfl⟩) (Or.inr ⟨_, rfl⟩) (by show 2 + i + 2 ≤ 18; omega) (by show 20 + 1002 * i + 1010 ≤ 15200; omega) ?_
        exact ⟨b, u, w, rfl, hS, hN.no hb, hN.no hu, hN.fr f49 (fun x hx => by
          simp only [List.mem_cons, List.not_mem_nil, or_false] at hx
          rcases hx with rfl | rfl
          · exact hN.no hb
          · exact hN.no hu), by omega, hw⟩
      · exact absurd h13 (by omega)
    | succ t ih =>
      intro i M1 a w ht hi hB hl hw
      obtain ⟨hN, ha, v, mm, hv, hB⟩ := hB
      have hM1 := hN _ _ hM
      have hob := hB.2.2.1
      have hfi := hf i (by omega)
      refine z_iload_n C dL_word_10 rfl ?_
      refine z_aload_n C dL_word_11 rfl ?_
      refine z_alenI C dL_word_12 hM1 (by omega) ?_
      refine z_icmp_geZ (tgt := 48) C dL_word_13 (by decide) (by omega) (by omega) (fun h13 => ?_) (fun h13 => ?_)
      · exact absurd h13 (by omega)
      · refine z_aload_n C dL_word_16 rfl ?_
        refine z_aload_n C dL_word_17 rfl ?_
        refine z_iload_n C dL_word_18 rfl ?_
        refine z_aldW C dL_word_19 hM1 (by omega) (by omega) ?_
        rw [show ((i : Int)).toNat = i by omega]
        refine z_bipush C dL_word_20 (by decide) ?_
        refine z_icmp_neZ (tgt := 30) C dL_word_22 (by decide) (by omega) (by omega) (fun h22 => ?_) (fun h22 => ?_)
        · refine z_ldcS (i := 23) C rfl dL_word_30 ?_
          refine z_aload_n C dL_word_32 rfl ?_
          refine z_iload_n C dL_word_33 rfl ?_
          refine z_aldW C dL_word_34 hM1 (by omega) (by omega) ?_
          rw [show ((i : Int)).toNat = i by omega]
          refine z_callVT C (hSg.con γ M1 (i := 23) (by decide)) dL_word_35 lk_L_14 mw_J0_charAt_5068e mi_J0_charAt_5068e ms_J0_charAt_5068e (k_T_charAt (hSg.con γ M1 (i := 23) (by decide)) (by rw [zSw_len (by decide)]; show 0 ≤ f i ∧ f i < ((26 : Nat) : Int); omega)) rfl (by first | decide | exact Nat.le_of_ble_eq_true rfl) ⟨by decide, by decide, by show 2 + i + 0 ≤ 18; omega, by show 20 + 1002 * i + 0 ≤ 15200; omega⟩ (fun _ _ h => False.elim h) (fun v M' hp => ?_)
          obtain ⟨rfl, rfl⟩ := hp
          rw [zSw_abc (f i).toNat (by omega), show (97 : Int) + ((f i).toNat : Int) = 97 + f i by omega]
          refine z_callV C dL_word_38 lk_L_38 mw_J4_append_cf468 mi_J4_append_cf468 ms_J4_append_cf468 rfl hob (k_B_appC hB (x := 97 + f i) (by omega) (by omega)) rfl (by first | decide | exact Nat.le_of_ble_eq_true rfl) ⟨by decide, by decide, by show 2 + i + 1 ≤ 18; omega, by show 20 + 1002 * i + 1002 ≤ 15200; omega⟩ (fun _ _ h => False.elim h) (fun v M' hp => ?_)
          obtain ⟨rfl, hx⟩ := hp
          refine z_pop C dL_word_41 rfl ?_
          refine z_iincZ C dL_word_42 rfl (by decide) ?_
          refine z_goto (tgt := 10) C dL_word_45 (by decide) ?_
          refine z_kn (k' := 2 + (i + 1)) (n' := 20 + 1002 * (i + 1)) (by omega) (by omega) ?_
          exact ih (i + 1) _ a _ (by omega) (by omega) (zBd.of hN ha hv hx) (by rw [List.length_append, hl]; rfl) (hw.app (by omega))
        · refine z_bipush C dL_word_25 (by decide) ?_
          refine z_goto (tgt := 38) C dL_word_27 (by decide) ?_
          refine z_callV C dL_word_38 lk_L_38 mw_J4_append_cf468 mi_J4_append_cf468 ms_J4_append_cf468 rfl hob (k_B_appC hB (x := 95) (by omega) (by omega)) rfl (by first | decide | exact Nat.le_of_ble_eq_true rfl) ⟨by decide, by decide, by show 2 + i + 1 ≤ 18; omega, by show 20 + 1002 * i + 1002 ≤ 15200; omega⟩ (fun _ _ h => False.elim h) (fun v M' hp => ?_)
          obtain ⟨rfl, hx⟩ := hp
          refine z_pop C dL_word_41 rfl ?_
          refine z_iincZ C dL_word_42 rfl (by decide) ?_
          refine z_goto (tgt := 10) C dL_word_45 (by decide) ?_
          refine z_kn (k' := 2 + (i + 1)) (n' := 20 + 1002 * (i + 1)) (by omega) (by omega) ?_
          exact ih (i + 1) _ a _ (by omega) (by omega) (zBd.of hN ha hv hx) (by rw [List.length_append, hl]; rfl) (hw.app (by omega))
  refine z_new C dL_word_0 nw_L_33 ⟨by decide, by decide⟩ (fun q0 hq0 => ?_)
  refine z_dup C dL_word_3 rfl ?_
  refine z_callI C dL_word_4 lk_L_35 mw_J4_init_da8c8 rfl mi_J4_init_da8c8 (k_B_init (va_up_self _ _ _)) rfl (by first | decide | exact Nat.le_of_ble_eq_true rfl) ⟨by decide, by decide, by decide, by decide⟩ (fun _ _ h => False.elim h) (fun v M' hp => ?_)
  obtain ⟨rfl, v, hv, hB, f4⟩ := hp
  refine z_astore_n C dL_word_7 (by decide) ?_
  refine z_iconst C dL_word_8 ?_
  refine z_istore_n C dL_word_9 (by decide) ?_
  have hv0 : M v = none := by
    by_cases e : v = q0
    · rw [e]; exact hq0
    · rw [va_up_ne _ _ e] at hv; exact hv
  refine z_kn (k' := 2 + 0) (n' := 20 + 1002 * 0) (by omega) (by omega) (loop n0 0 _ q0 [] (by omega) (by omega) ⟨(zNw.rf.up hq0).fr f4 (fun x hx => by
    simp only [List.mem_cons, List.not_mem_nil, or_false] at hx
    rcases hx with rfl | rfl
    · exact hq0
    · exact hv0), hq0, v, 16, hv0, hB⟩ rfl (fun x hx => by cases hx))

