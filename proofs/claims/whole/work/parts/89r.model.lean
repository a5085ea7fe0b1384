/-! the model reads ranks -/
/-- what the model reads: none (-1) or as many as the text tells -/
def mRn (q : Int × (Nat → Int)) (b : Int) (g : Nat → Int) : Prop := (q.1 = 0 ∧ b = -1) ∨ ((1 ≤ q.1 ∧ q.1 ≤ 40) ∧ b = q.1 ∧ ∀ j : Nat, j < b → g j = q.2 j ∧ 1 ≤ g j ∧ g j ≤ 27)
set_option maxHeartbeats 4000000 in
set_option maxRecDepth 100000 in
theorem k_X9_readNumbers {l : Launch} {γ : zG} {M : zM} {A : Nat → Nat} {F f g : Nat → Int} {n : Int} (hA : mIA A) (hO : M (A 0) = some (mOb A F)) (hI : M (A 11) = some (zar γ 500 f)) (hn : F 19 = n) (hB : hBo f n) (hG : M (A 14) = some (zar γ 40 g)) (hg : ∀ j, zR (g j)) :
    zCon l γ yX9_readNumbers cX9_readNumbers 6 (some .int) [.ref (A 0)] M 2 30 0 0 (fun v' M' => ∃ b : Int, v' = some (.int (zi b)) ∧ (-1 ≤ b ∧ b ≤ 40) ∧ mF A M M' [14] ∧ ∃ g', M' (A 14) = some (zar γ 40 g') ∧ (∀ j, zR (g' j)) ∧ mRn (zrr f n) b g') (fun _ _ => False) := by
  have bb := hB.1
  have hrg := hAt_rng hB
  refine zEnter [some (.ref (A 0)), none, none, none, none, none] (by decide +kernel) rfl rfl (Nat.le_of_ble_eq_true rfl) ?_
  intro p e s m args below meth c Q C hin hQ
  have loop : ∀ (t : Nat) (M1 : zM) (i z v w dg : Int) (g1 h1 : Nat → Int), n - i = t → 0 ≤ i ∧ i ≤ n → 0 ≤ z ∧ z ≤ 40 → 0 ≤ v ∧ v < 1000000000 → (v = w ∧ w ≤ 27) ∨ (27 < v ∧ 27 < w) → (dg = 0 → v = 0) → 0 ≤ dg ∧ dg ≤ i → mF A M M1 [14] → M1 (A 14) = some (zar γ 40 g1) → (∀ j, zR (g1 j)) → (∀ j : Nat, j < z → g1 j = h1 j ∧ 1 ≤ g1 j ∧ g1 j ≤ 27) → zrrt f n (t + 1) i z w h1 = zrr f n → zAW p l e { frames := 2, cells := 0, slots := 0, locals := 30 } s m args below meth c γ 6 Q M1 0 0 16 [some (.ref (A 0)), some (.int (zi z)), some (.int (zi i)), some (.int (zi 1)), some (.int (zi v)), some (.int (zi dg))] [] := by
    intro t
    induction t using Nat.strongRecOn with
    | _ t ih =>
      intro M1 i z v w dg g1 h1 ht hi hz hv hvw hd0 hdg hf hG1 hg1 hh he
      have hO1 := hf.at hA (.of rfl) hO
      have hI1 := hf.at hA (.of rfl) hI
      have ra := hrg i
      have hlt : hAt f n i ≠ -1 → i < n := fun q => by
        unfold hAt at q
        split at q
        · omega
        · exact absurd rfl q
      have hge : i < n → 0 ≤ hAt f n i := fun q => by
        rw [hAt_in ⟨hi.1, q⟩]
        exact (hB.2.2 i.toNat (by omega)).1
      have heD : 48 ≤ hAt f n i ∧ hAt f n i ≤ 57 → zrrt f n t (i + 1) z (min (w * 10 + hAt f n i - 48) 1000) h1 = zrr f n := fun q => by
        rw [← he, zrrt, if_pos q]
      have heN : ¬ (48 ≤ hAt f n i ∧ hAt f n i ≤ 57) → ¬ ((hAt f n i = 44 ∨ hAt f n i = -1) ∧ 1 ≤ w ∧ w ≤ 27 ∧ z < 40) → (zrr f n).1 = 0 := fun q1 q2 => by
        rw [← he, zrrt, if_neg q1, if_neg q2]
      have heC : ¬ (48 ≤ hAt f n i ∧ hAt f n i ≤ 57) → ((hAt f n i = 44 ∨ hAt f n i = -1) ∧ 1 ≤ w ∧ w ≤ 27 ∧ z < 40) → zrrt f n t (i + 1) (z + 1) 0 (va_up h1 z.toNat w) = zrr f n := fun q1 q2 => by
        rw [← he, zrrt, if_neg q1, if_pos q2]
      have goon : ∀ (M2 : zM) (i2 z2 v2 w2 d2 : Int) (g2 h2 : Nat → Int), i < n → i2 = i + 1 → 0 ≤ z2 ∧ z2 ≤ 40 → 0 ≤ v2 ∧ v2 < 1000000000 → (v2 = w2 ∧ w2 ≤ 27) ∨ (27 < v2 ∧ 27 < w2) → (d2 = 0 → v2 = 0) → 0 ≤ d2 ∧ d2 ≤ i2 → mF A M M2 [14] → M2 (A 14) = some (zar γ 40 g2) → (∀ j, zR (g2 j)) → (∀ j : Nat, j < z2 → g2 j = h2 j ∧ 1 ≤ g2 j ∧ g2 j ≤ 27) → zrrt f n t i2 z2 w2 h2 = zrr f n → zAW p l e { frames := 2, cells := 0, slots := 0, locals := 30 } s m args below meth c γ 6 Q M2 0 0 16 [some (.ref (A 0)), some (.int (zi z2)), some (.int (zi i2)), some (.int (zi 1)), some (.int (zi v2)), some (.int (zi d2))] [] := by
        intro M2 i2 z2 v2 w2 d2 g2 h2 q1 q2 q3 q4 q5 q6 q7 q8 q9 q10 q11 q12
        exact ih (t - 1) (by omega) M2 i2 z2 v2 w2 d2 g2 h2 (by omega) (by omega) q3 q4 q5 q6 q7 q8 q9 q10 q11 (by rw [show t - 1 + 1 = t by omega]; exact q12)
      refine z_aload_n C dX9_readNumbers_16 rfl ?_
      refine z_iload_n C dX9_readNumbers_17 rfl ?_
      refine z_callV C dX9_readNumbers_18 lk_X9_209 mw_X9_byteAt mi_X9_byteAt ms_X9_byteAt rfl (by first | assumption | ((repeat (first | assumption | exact va_up_self _ _ _ | refine (va_up_ne _ _ (by first | assumption | exact hA.ne (by decide) | exact hA.ne (by omega))).trans ?_)); done)) (k_X9_byteAt hO1 hI1 hn hB (i := i) (by omega)) rfl (by first | decide | exact Nat.le_of_ble_eq_true rfl) ⟨by decide, by decide, by decide, by decide⟩ (fun _ _ h => False.elim h) (fun v M' hp => ?_)
      obtain ⟨rfl, rfl⟩ := hp
      refine z_bipush C dX9_readNumbers_21 (by decide) ?_
      refine z_bipush C dX9_readNumbers_23 (by decide) ?_
      refine z_callS C dX9_readNumbers_25 lk_X9_128 mw_X9_isBetween mst_X9_isBetween (k_X9_isBetween (x := hAt f n i) (a := 48) (b := 57) (by unfold zR; omega) (by unfold zR; omega) (by unfold zR; omega)) rfl (by first | decide | exact Nat.le_of_ble_eq_true rfl) ⟨by decide, by decide, by decide, by decide⟩ (fun _ _ h => False.elim h) (fun v M' hp => ?_)
      obtain ⟨r25, rfl, rfl, q25⟩ := hp
      have s25 := q25.rng
      refine z_if_eqZ (tgt := 68) C dX9_readNumbers_28 (by decide) (by omega) (fun h28 => ?_) (fun h28 => ?_)
      · refine z_iload C dX9_readNumbers_68 rfl ?_
        refine z_if_eqZ (tgt := 90) C dX9_readNumbers_70 (by decide) (by omega) (fun h70 => ?_) (fun h70 => ?_)
        · refine z_iconst C dX9_readNumbers_90 ?_
          refine z_iret C hQ dX9_readNumbers_91 rfl (by decide) (by decide) ?_
          exact ⟨-1, rfl, by omega, hf, g1, hG1, hg1, .inl ⟨heN (q25.f h28) (fun q => by omega), rfl⟩⟩
        · refine z_iload C dX9_readNumbers_73 rfl ?_
          refine z_iconst C dX9_readNumbers_75 ?_
          refine z_bipush C dX9_readNumbers_76 (by decide) ?_
          refine z_callS C dX9_readNumbers_78 lk_X9_128 mw_X9_isBetween mst_X9_isBetween (k_X9_isBetween (x := v) (a := 1) (b := 27) (by unfold zR; omega) (by unfold zR; omega) (by unfold zR; omega)) rfl (by first | decide | exact Nat.le_of_ble_eq_true rfl) ⟨by decide, by decide, by decide, by decide⟩ (fun _ _ h => False.elim h) (fun v M' hp => ?_)
          obtain ⟨r78, rfl, rfl, q78⟩ := hp
          have s78 := q78.rng
          refine z_if_eqZ (tgt := 90) C dX9_readNumbers_81 (by decide) (by omega) (fun h81 => ?_) (fun h81 => ?_)
          · refine z_iconst C dX9_readNumbers_90 ?_
            refine z_iret C hQ dX9_readNumbers_91 rfl (by decide) (by decide) ?_
            exact ⟨-1, rfl, by omega, hf, g1, hG1, hg1, .inl ⟨heN (q25.f h28) (fun q => q78.f h81 (by omega)), rfl⟩⟩
          · refine z_iload_n C dX9_readNumbers_84 rfl ?_
            refine z_bipush C dX9_readNumbers_85 (by decide) ?_
            refine z_icmp_neZ (tgt := 92) C dX9_readNumbers_87 (by decide) (by omega) (by omega) (fun h87 => ?_) (fun h87 => ?_)
            · refine z_aload_n C dX9_readNumbers_92 rfl ?_
              refine z_get C dX9_readNumbers_93 fl_X9_56 (by first | assumption | ((repeat (first | assumption | exact va_up_self _ _ _ | refine (va_up_ne _ _ (by first | assumption | exact hA.ne (by decide) | exact hA.ne (by omega))).trans ?_)); done)) rfl ?_
              refine z_iload_n C dX9_readNumbers_96 rfl ?_
              refine z_iload C dX9_readNumbers_97 rfl ?_
              have w27 := q78.t h81
              have fz : mF A M _ [14] := hf.up (i := 14) (x := some (zar γ 40 (va_up g1 z.toNat v))) rfl
              have hO2 := fz.at hA (.of rfl) hO
              have hI2 := fz.at hA (.of rfl) hI
              have hh2 : ∀ j : Nat, j < z + 1 → va_up g1 z.toNat v j = va_up h1 z.toNat w j ∧ 1 ≤ va_up g1 z.toNat v j ∧ va_up g1 z.toNat v j ≤ 27 := fun j hj => by
                by_cases q : j = z.toNat
                · rw [q, va_up_self, va_up_self]
                  omega
                · rw [va_up_ne _ _ q, va_up_ne _ _ q]
                  exact hh j (by omega)
              refine z_astN C dX9_readNumbers_99 (by first | assumption | ((repeat (first | assumption | exact va_up_self _ _ _ | refine (va_up_ne _ _ (by first | assumption | exact hA.ne (by decide) | exact hA.ne (by omega))).trans ?_)); done)) (by omega) (by omega) (by assumption) (by omega) (fun hr99 => ?_)
              refine z_iincZ C dX9_readNumbers_100 rfl (by decide) ?_
              refine z_aload_n C dX9_readNumbers_103 rfl ?_
              refine z_iload_n C dX9_readNumbers_104 rfl ?_
              refine z_callV C dX9_readNumbers_105 lk_X9_209 mw_X9_byteAt mi_X9_byteAt ms_X9_byteAt rfl (by first | assumption | ((repeat (first | assumption | exact va_up_self _ _ _ | refine (va_up_ne _ _ (by first | assumption | exact hA.ne (by decide) | exact hA.ne (by omega))).trans ?_)); done)) (k_X9_byteAt hO2 hI2 hn hB (i := i) (by omega)) rfl (by first | decide | exact Nat.le_of_ble_eq_true rfl) ⟨by decide, by decide, by decide, by decide⟩ (fun _ _ h => False.elim h) (fun v M' hp => ?_)
              obtain ⟨rfl, rfl⟩ := hp
              refine z_bipush C dX9_readNumbers_108 (by decide) ?_
              refine z_icmp_neZ (tgt := 117) C dX9_readNumbers_110 (by decide) (by omega) (by omega) (fun h110 => ?_) (fun h110 => ?_)
              · refine z_iconst C dX9_readNumbers_117 ?_
                refine z_istore_n C dX9_readNumbers_118 (by decide) ?_
                refine z_iload_n C dX9_readNumbers_119 rfl ?_
                refine z_iload_n C dX9_readNumbers_120 rfl ?_
                refine z_if_eqZ (tgt := 128) C dX9_readNumbers_121 (by decide) (by omega) (fun h121 => ?_) (fun h121 => ?_)
                · refine z_iconst C dX9_readNumbers_128 ?_
                  refine z_iaddZ C dX9_readNumbers_129 ?_
                  refine z_istore_n C dX9_readNumbers_130 (by decide) ?_
                  refine z_goto (tgt := 6) C dX9_readNumbers_131 (by decide) ?_
                  refine z_iload_n C dX9_readNumbers_6 rfl ?_
                  refine z_if_eqZ (tgt := 134) C dX9_readNumbers_7 (by decide) (by omega) (fun h7 => ?_) (fun h7 => ?_)
                  · refine z_iload_n C dX9_readNumbers_134 rfl ?_
                    refine z_aload_n C dX9_readNumbers_135 rfl ?_
                    refine z_getM C dX9_readNumbers_136 fl_X9_68 (by first | assumption | ((repeat (first | assumption | exact va_up_self _ _ _ | refine (va_up_ne _ _ (by first | assumption | exact hA.ne (by decide) | exact hA.ne (by omega))).trans ?_)); done)) rfl (by first | assumption | ((repeat (first | assumption | exact va_up_self _ _ _ | rewrite [va_up_ne _ _ (by decide)])); (first | done | exact rfl))) ?_
                    refine z_icmp_neZ (tgt := 146) C dX9_readNumbers_139 (by decide) (by omega) (by omega) (fun h139 => ?_) (fun h139 => ?_)
                    · refine z_iconst C dX9_readNumbers_146 ?_
                      refine z_iret C hQ dX9_readNumbers_147 rfl (by decide) (by decide) ?_
                      exact ⟨-1, rfl, by omega, fz, _, va_up_self _ _ _, hr99, .inl ⟨heN (q25.f h28) (fun q => by omega), rfl⟩⟩
                    · refine z_iload_n C dX9_readNumbers_142 rfl ?_
                      refine z_goto (tgt := 147) C dX9_readNumbers_143 (by decide) ?_
                      refine z_iret C hQ dX9_readNumbers_147 rfl (by decide) (by decide) ?_
                      have hC := heC (q25.f h28) (by omega)
                      obtain rfl : t = 0 := by omega
                      have hC : (z + 1, va_up h1 z.toNat w) = zrr f n := hC
                      refine ⟨z + 1, rfl, by omega, fz, _, va_up_self _ _ _, hr99, .inr ?_⟩
                      rw [← hC]
                      exact ⟨(show (1 : Int) ≤ z + 1 ∧ z + 1 ≤ 40 by omega), rfl, hh2⟩
                  · exact absurd h7 (by omega)
                · exact absurd h121 (by omega)
              · refine z_iconst C dX9_readNumbers_113 ?_
                refine z_goto (tgt := 118) C dX9_readNumbers_114 (by decide) ?_
                refine z_istore_n C dX9_readNumbers_118 (by decide) ?_
                refine z_iload_n C dX9_readNumbers_119 rfl ?_
                refine z_iload_n C dX9_readNumbers_120 rfl ?_
                refine z_if_eqZ (tgt := 128) C dX9_readNumbers_121 (by decide) (by omega) (fun h121 => ?_) (fun h121 => ?_)
                · exact absurd h121 (by omega)
                · refine z_iconst C dX9_readNumbers_124 ?_
                  refine z_goto (tgt := 129) C dX9_readNumbers_125 (by decide) ?_
                  refine z_iaddZ C dX9_readNumbers_129 ?_
                  refine z_istore_n C dX9_readNumbers_130 (by decide) ?_
                  refine z_goto (tgt := 6) C dX9_readNumbers_131 (by decide) ?_
                  refine z_iload_n C dX9_readNumbers_6 rfl ?_
                  refine z_if_eqZ (tgt := 134) C dX9_readNumbers_7 (by decide) (by omega) (fun h7 => ?_) (fun h7 => ?_)
                  · exact absurd h7 (by omega)
                  · refine z_iconst C dX9_readNumbers_10 ?_
                    refine z_istore C dX9_readNumbers_11 (by decide) ?_
                    refine z_iconst C dX9_readNumbers_13 ?_
                    refine z_istore C dX9_readNumbers_14 (by decide) ?_
                    exact goon _ (i + 1) (z + 1) 0 0 0 _ _ (hlt (by omega)) rfl (by omega) (by omega) (.inl ⟨rfl, by omega⟩) (fun _ => rfl) (by omega) fz (va_up_self _ _ _) hr99 hh2 (heC (q25.f h28) (by omega))
            · refine z_iconst C dX9_readNumbers_90 ?_
              refine z_iret C hQ dX9_readNumbers_91 rfl (by decide) (by decide) ?_
              exact ⟨-1, rfl, by omega, hf, g1, hG1, hg1, .inl ⟨heN (q25.f h28) (fun q => by omega), rfl⟩⟩
      · refine z_iload C dX9_readNumbers_31 rfl ?_
        refine z_ldc (v := zi 99999999) C dX9_readNumbers_33 ((show (99999999 : Int32) = zi 99999999 by decide) ▸ t6_99) ?_
        refine z_icmp_leZ (tgt := 43) C dX9_readNumbers_35 (by decide) (by omega) (by omega) (fun h35 => ?_) (fun h35 => ?_)
        · refine z_bipush C dX9_readNumbers_43 (by decide) ?_
          refine z_iload C dX9_readNumbers_45 rfl ?_
          refine z_imulZ C dX9_readNumbers_47 ?_
          refine z_aload_n C dX9_readNumbers_48 rfl ?_
          refine z_iload_n C dX9_readNumbers_49 rfl ?_
          refine z_callV C dX9_readNumbers_50 lk_X9_209 mw_X9_byteAt mi_X9_byteAt ms_X9_byteAt rfl (by first | assumption | ((repeat (first | assumption | exact va_up_self _ _ _ | refine (va_up_ne _ _ (by first | assumption | exact hA.ne (by decide) | exact hA.ne (by omega))).trans ?_)); done)) (k_X9_byteAt hO1 hI1 hn hB (i := i) (by omega)) rfl (by first | decide | exact Nat.le_of_ble_eq_true rfl) ⟨by decide, by decide, by decide, by decide⟩ (fun _ _ h => False.elim h) (fun v M' hp => ?_)
          obtain ⟨rfl, rfl⟩ := hp
          refine z_iaddZ C dX9_readNumbers_53 ?_
          refine z_bipush C dX9_readNumbers_54 (by decide) ?_
          refine z_isubZ C dX9_readNumbers_56 ?_
          refine z_istore C dX9_readNumbers_57 (by decide) ?_
          refine z_iincZ C dX9_readNumbers_59 rfl (by decide) ?_
          refine z_iincZ C dX9_readNumbers_62 rfl (by decide) ?_
          refine z_goto (tgt := 16) C dX9_readNumbers_65 (by decide) ?_
          have qd := q25.t h28
          rw [show 10 * v + hAt f n i - 48 = v * 10 + hAt f n i - 48 by omega]
          exact goon _ (i + 1) z _ _ (dg + 1) g1 h1 (hlt (by omega)) rfl hz (by omega) (by omega) (by omega) (by omega) hf hG1 hg1 hh (heD qd)
        · refine z_iload C dX9_readNumbers_38 rfl ?_
          refine z_goto (tgt := 57) C dX9_readNumbers_40 (by decide) ?_
          refine z_istore C dX9_readNumbers_57 (by decide) ?_
          refine z_iincZ C dX9_readNumbers_59 rfl (by decide) ?_
          refine z_iincZ C dX9_readNumbers_62 rfl (by decide) ?_
          refine z_goto (tgt := 16) C dX9_readNumbers_65 (by decide) ?_
          have qd := q25.t h28
          exact goon _ (i + 1) z _ _ (dg + 1) g1 h1 (hlt (by omega)) rfl hz (by omega) (by omega) (by omega) (by omega) hf hG1 hg1 hh (heD qd)
  refine z_iconst C dX9_readNumbers_0 ?_
  refine z_istore_n C dX9_readNumbers_1 (by decide) ?_
  refine z_iconst C dX9_readNumbers_2 ?_
  refine z_istore_n C dX9_readNumbers_3 (by decide) ?_
  refine z_iconst C dX9_readNumbers_4 ?_
  refine z_istore_n C dX9_readNumbers_5 (by decide) ?_
  refine z_iload_n C dX9_readNumbers_6 rfl ?_
  refine z_if_eqZ (tgt := 134) C dX9_readNumbers_7 (by decide) (by omega) (fun h7 => ?_) (fun h7 => ?_)
  · exact absurd h7 (by omega)
  · refine z_iconst C dX9_readNumbers_10 ?_
    refine z_istore C dX9_readNumbers_11 (by decide) ?_
    refine z_iconst C dX9_readNumbers_13 ?_
    refine z_istore C dX9_readNumbers_14 (by decide) ?_
    exact loop n.toNat M 0 0 0 0 0 g (fun _ => 0) (by omega) (by omega) (by omega) (by omega) (.inl ⟨rfl, by omega⟩) (fun _ => rfl) (by omega) mF.rf hG hg (fun j hj => by omega) (by rw [show n.toNat + 1 = (n + 1).toNat by omega]; rfl)

