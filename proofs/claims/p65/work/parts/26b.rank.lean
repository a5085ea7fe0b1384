theorem hRk.fr {γ : zG} {M M' : zM} {a ys ws : Nat} {f g : Nat → Int} {size : Int} {mk : Int32} {S : List Nat} (h : hRk γ M a ys ws f g size mk) (q : zFr M M' S) (h1 : a ∉ S) (h2 : ys ∉ S) (h3 : ws ∉ S) : hRk γ M' a ys ws f g size mk := ⟨h.1, q.at h1 h.2.1, q.at h2 h.2.2.1, q.at h3 h.2.2.2⟩
set_option maxHeartbeats 4000000 in
set_option maxRecDepth 100000 in
theorem k_X5_insert {l : Launch} {γ : zG} {M : zM} {a ys ws : Nat} {f g : Nat → Int} {size : Int} {mk : Int32} {c0 : Int → Int} {pb pp o os s0 w : Int} (hK : hRk γ M a ys ws f g size mk) (hV : hRv c0 pb pp o os f g size mk s0) (hs : 0 ≤ s0 ∧ s0 < 27) (hw : zR w) (hl : o < zlv c0 pb pp s0 ∨ (zlv c0 pb pp s0 = o ∧ w = zwt c0 pb pp s0)) :
    zCon l γ yX5_insert cX5_insert 6 none [.ref a, .int (zi os), .int (zi s0), .int (zi w)] M 0 0 0 0 (fun v' M' => v' = none ∧ zFr M M' [a, ys, ws] ∧ ∃ f' g' size' mk', hRk γ M' a ys ws f' g' size' mk' ∧ hRv c0 pb pp o os f' g' size' mk' (s0 + 1)) (fun _ _ => False) := by
  obtain ⟨hyw, hB, hY, hW⟩ := id hK
  have n1 := zne_ka hB hY
  have n2 := zne_ka hB hW
  have m1 := n1.symm
  have m2 := n2.symm
  have hwy := hyw.symm
  obtain ⟨v1, v2, v3, v4, v5, v6, v7, v8, v9⟩ := id hV
  have ba := zbit_and mk (s := s0) (by omega)
  have b9 := v9 s0 hs.1 hs.2
  have b8 := v8 s0 hs.1 hs.2
  have hlt := fun h => hV.lt hs h
  unfold zR at hw
  refine zEnter [some (.ref a), some (.int (zi os)), some (.int (zi s0)), some (.int (zi w)), none, none] (by decide +kernel) rfl rfl (Nat.le_of_ble_eq_true rfl) ?_
  intro p e s m args below meth c Q C hin hQ
  have loop : ∀ (t : Nat) (M1 : zM) (q : Int) (f1 g1 : Nat → Int), ¬ zIn f size s0 → zlv c0 pb pp s0 = o → w = zwt c0 pb pp s0 → size < 27 → os ≤ q ∧ q ≤ size ∧ q - os = t → zFr M M1 [a, ys, ws] → M1 a = some (.inr (5, [.ref ys, .ref ws, .int (zi size), .int mk])) → M1 ys = some (zar γ 27 f1) → M1 ws = some (zar γ 27 g1) → (∀ j, zR (f1 j)) → (∀ j, zR (g1 j)) → (∀ j : Nat, j < q → f1 j = f j ∧ g1 j = g j) → (∀ j : Nat, q < j → j ≤ size → f1 j = f (j - 1) ∧ g1 j = g (j - 1)) → (∀ j : Nat, q ≤ j → j < size → g j < w) → zAW p l e { frames := 0, cells := 0, slots := 0, locals := 0 } s m args below meth c γ 6 Q M1 0 0 31 [some (.ref a), some (.int (zi os)), some (.int (zi s0)), some (.int (zi w)), some (.int (zi 1 <<< (zi s0 &&& 31))), some (.int (zi q))] [] := by
    intro t
    have fin : ∀ (M1 : zM) (q : Int) (f1 g1 : Nat → Int), ¬ zIn f size s0 → zlv c0 pb pp s0 = o → w = zwt c0 pb pp s0 → size < 27 → os ≤ q ∧ q ≤ size → zFr M M1 [a, ys, ws] → M1 a = some (.inr (5, [.ref ys, .ref ws, .int (zi size), .int mk])) → M1 ys = some (zar γ 27 f1) → M1 ws = some (zar γ 27 g1) → (∀ j, zR (f1 j)) → (∀ j, zR (g1 j)) → (∀ j : Nat, j < q → f1 j = f j ∧ g1 j = g j) → (∀ j : Nat, q < j → j ≤ size → f1 j = f (j - 1) ∧ g1 j = g (j - 1)) → (∀ j : Nat, q ≤ j → j < size → g j < w) → (os < q → w ≤ g (q - 1).toNat) → zAW p l e { frames := 0, cells := 0, slots := 0, locals := 0 } s m args below meth c γ 6 Q M1 0 0 88 [some (.ref a), some (.int (zi os)), some (.int (zi s0)), some (.int (zi w)), some (.int (zi 1 <<< (zi s0 &&& 31))), some (.int (zi q))] [] := by
      intro M1 q f1 g1 k1 k2 k3 k4 k5 k6 k7 k8 k9 k10 k11 k12 k13 k14 k15
      refine z_aload_n C dX5_insert_88 rfl ?_
      refine z_get C dX5_insert_89 fl_X5_9 (by first | assumption | ((repeat (first | assumption | exact va_up_self _ _ _ | refine (va_up_ne _ _ (by assumption)).trans ?_)); done) | (simp [va_up, *] <;> rfl)) rfl ?_
      refine z_iload C dX5_insert_92 rfl ?_
      refine z_iload_n C dX5_insert_94 rfl ?_
      refine z_astN C dX5_insert_95 (by first | assumption | ((repeat (first | assumption | exact va_up_self _ _ _ | refine (va_up_ne _ _ (by assumption)).trans ?_)); done) | (simp [va_up, *] <;> rfl)) (by omega) (by omega) (by assumption) (by omega) (fun hr95 => ?_)
      refine z_aload_n C dX5_insert_96 rfl ?_
      refine z_get C dX5_insert_97 fl_X5_15 (by first | assumption | ((repeat (first | assumption | exact va_up_self _ _ _ | refine (va_up_ne _ _ (by assumption)).trans ?_)); done) | (simp [va_up, *] <;> rfl)) rfl ?_
      refine z_iload C dX5_insert_100 rfl ?_
      refine z_iload_n C dX5_insert_102 rfl ?_
      refine z_astN C dX5_insert_103 (by first | assumption | ((repeat (first | assumption | exact va_up_self _ _ _ | refine (va_up_ne _ _ (by assumption)).trans ?_)); done) | (simp [va_up, *] <;> rfl)) (by omega) (by omega) (by assumption) (by omega) (fun hr103 => ?_)
      refine z_aload_n C dX5_insert_104 rfl ?_
      refine z_dup C dX5_insert_105 rfl ?_
      refine z_get C dX5_insert_106 fl_X5_22 (by first | assumption | ((repeat (first | assumption | exact va_up_self _ _ _ | refine (va_up_ne _ _ (by assumption)).trans ?_)); done) | (simp [va_up, *] <;> rfl)) rfl ?_
      refine z_iload C dX5_insert_109 rfl ?_
      refine z_ior C dX5_insert_111 ?_
      refine z_put C dX5_insert_112 fl_X5_22 (by first | assumption | ((repeat (first | assumption | exact va_up_self _ _ _ | refine (va_up_ne _ _ (by assumption)).trans ?_)); done) | (simp [va_up, *] <;> rfl)) rfl rfl (by simp) ?_
      refine z_aload_n C dX5_insert_115 rfl ?_
      refine z_dup C dX5_insert_116 rfl ?_
      refine z_get C dX5_insert_117 fl_X5_18 (by first | assumption | ((repeat (first | assumption | exact va_up_self _ _ _ | refine (va_up_ne _ _ (by assumption)).trans ?_)); done) | (simp [va_up, *] <;> rfl)) rfl ?_
      refine z_iconst C dX5_insert_120 ?_
      refine z_iaddZ C dX5_insert_121 ?_
      refine z_put C dX5_insert_122 fl_X5_18 (by first | assumption | ((repeat (first | assumption | exact va_up_self _ _ _ | refine (va_up_ne _ _ (by assumption)).trans ?_)); done) | (simp [va_up, *] <;> rfl)) rfl rfl (by simp) ?_
      refine z_vret C hQ dX5_insert_125 (by decide) (by decide) ?_
      refine ⟨rfl, zFr.u2 (zFr.u2 k6 (by simp) (by simp)) (by simp) (by simp), va_up f1 q.toNat s0, va_up g1 q.toNat w, size + 1, mk ||| (zi 1 <<< (zi s0 &&& 31)), ⟨hyw, va_up_self _ _ _, ?_, ?_⟩, hV.put hs k2 k3 k5 k15 k14 hr95 hr103 (fun j hj => ?_) ⟨va_up_self _ _ _, va_up_self _ _ _⟩ (fun j hj hj2 => ?_)⟩
      · rw [va_up_ne _ _ m1, va_up_ne _ _ m1, va_up_ne _ _ hyw]
        exact va_up_self _ _ _
      · rw [va_up_ne _ _ m2, va_up_ne _ _ m2]
        exact va_up_self _ _ _
      · rw [va_up_ne _ _ (by omega), va_up_ne _ _ (by omega)]
        exact k12 j hj
      · rw [va_up_ne _ _ (by omega), va_up_ne _ _ (by omega)]
        exact k13 j hj hj2
    induction t with
    | zero =>
      intro M1 q f1 g1 k1 k2 k3 k4 k5 k6 k7 k8 k9 k10 k11 k12 k13 k14
      refine z_iload C dX5_insert_31 rfl ?_
      refine z_iload_n C dX5_insert_33 rfl ?_
      refine z_icmp_leZ (tgt := 88) C dX5_insert_34 (by decide) (by omega) (by omega) (fun h34 => ?_) (fun h34 => ?_)
      · exact fin M1 q f1 g1 k1 k2 k3 k4 ⟨k5.1, k5.2.1⟩ k6 k7 k8 k9 k10 k11 k12 k13 k14 (by omega)
      · exact absurd h34 (by omega)
    | succ t ih =>
      intro M1 q f1 g1 k1 k2 k3 k4 k5 k6 k7 k8 k9 k10 k11 k12 k13 k14
      have e1 := k12 (q - 1).toNat (by omega)
      refine z_iload C dX5_insert_31 rfl ?_
      refine z_iload_n C dX5_insert_33 rfl ?_
      refine z_icmp_leZ (tgt := 88) C dX5_insert_34 (by decide) (by omega) (by omega) (fun h34 => ?_) (fun h34 => ?_)
      · exact absurd h34 (by omega)
      · refine z_aload_n C dX5_insert_37 rfl ?_
        refine z_get C dX5_insert_38 fl_X5_15 (by first | assumption | ((repeat (first | assumption | exact va_up_self _ _ _ | refine (va_up_ne _ _ (by assumption)).trans ?_)); done) | (simp [va_up, *] <;> rfl)) rfl ?_
        refine z_iload C dX5_insert_41 rfl ?_
        refine z_iconst C dX5_insert_43 ?_
        refine z_isubZ C dX5_insert_44 ?_
        refine z_aldN C dX5_insert_45 (by first | assumption | ((repeat (first | assumption | exact va_up_self _ _ _ | refine (va_up_ne _ _ (by assumption)).trans ?_)); done) | (simp [va_up, *] <;> rfl)) (by omega) (by omega) (by assumption) (fun hr45 => ?_)
        refine z_iload_n C dX5_insert_46 rfl ?_
        refine z_icmp_geZ (tgt := 88) C dX5_insert_47 (by decide) (by omega) (by omega) (fun h47 => ?_) (fun h47 => ?_)
        · exact fin M1 q f1 g1 k1 k2 k3 k4 ⟨k5.1, k5.2.1⟩ k6 k7 k8 k9 k10 k11 k12 k13 k14 (by omega)
        · refine z_aload_n C dX5_insert_50 rfl ?_
          refine z_get C dX5_insert_51 fl_X5_9 (by first | assumption | ((repeat (first | assumption | exact va_up_self _ _ _ | refine (va_up_ne _ _ (by assumption)).trans ?_)); done) | (simp [va_up, *] <;> rfl)) rfl ?_
          refine z_iload C dX5_insert_54 rfl ?_
          refine z_aload_n C dX5_insert_56 rfl ?_
          refine z_get C dX5_insert_57 fl_X5_9 (by first | assumption | ((repeat (first | assumption | exact va_up_self _ _ _ | refine (va_up_ne _ _ (by assumption)).trans ?_)); done) | (simp [va_up, *] <;> rfl)) rfl ?_
          refine z_iload C dX5_insert_60 rfl ?_
          refine z_iconst C dX5_insert_62 ?_
          refine z_isubZ C dX5_insert_63 ?_
          refine z_aldN C dX5_insert_64 (by first | assumption | ((repeat (first | assumption | exact va_up_self _ _ _ | refine (va_up_ne _ _ (by assumption)).trans ?_)); done) | (simp [va_up, *] <;> rfl)) (by omega) (by omega) (by assumption) (fun hr64 => ?_)
          refine z_astN C dX5_insert_65 (by first | assumption | ((repeat (first | assumption | exact va_up_self _ _ _ | refine (va_up_ne _ _ (by assumption)).trans ?_)); done) | (simp [va_up, *] <;> rfl)) (by omega) (by omega) (by assumption) (by omega) (fun hr65 => ?_)
          refine z_aload_n C dX5_insert_66 rfl ?_
          refine z_get C dX5_insert_67 fl_X5_15 (by first | assumption | ((repeat (first | assumption | exact va_up_self _ _ _ | refine (va_up_ne _ _ (by assumption)).trans ?_)); done) | (simp [va_up, *] <;> rfl)) rfl ?_
          refine z_iload C dX5_insert_70 rfl ?_
          refine z_aload_n C dX5_insert_72 rfl ?_
          refine z_get C dX5_insert_73 fl_X5_15 (by first | assumption | ((repeat (first | assumption | exact va_up_self _ _ _ | refine (va_up_ne _ _ (by assumption)).trans ?_)); done) | (simp [va_up, *] <;> rfl)) rfl ?_
          refine z_iload C dX5_insert_76 rfl ?_
          refine z_iconst C dX5_insert_78 ?_
          refine z_isubZ C dX5_insert_79 ?_
          refine z_aldN C dX5_insert_80 (by first | assumption | ((repeat (first | assumption | exact va_up_self _ _ _ | refine (va_up_ne _ _ (by assumption)).trans ?_)); done) | (simp [va_up, *] <;> rfl)) (by omega) (by omega) (by assumption) (fun hr80 => ?_)
          refine z_astN C dX5_insert_81 (by first | assumption | ((repeat (first | assumption | exact va_up_self _ _ _ | refine (va_up_ne _ _ (by assumption)).trans ?_)); done) | (simp [va_up, *] <;> rfl)) (by omega) (by omega) (by assumption) (by omega) (fun hr81 => ?_)
          refine z_iincZ C dX5_insert_82 rfl (by decide) ?_
          refine z_goto (tgt := 31) C dX5_insert_85 (by decide) ?_
          refine ih _ (q - 1) _ _ k1 k2 k3 k4 (by omega) (zFr.u2 k6 (by simp) (by simp)) ?_ ?_ (va_up_self _ _ _) hr65 hr81 (fun j hj => ?_) (fun j hj hj2 => ?_) (fun j hj hj2 => ?_)
          · rw [va_up_ne _ _ n2, va_up_ne _ _ n1]
            exact k7
          · rw [va_up_ne _ _ hyw]
            exact va_up_self _ _ _
          · rw [va_up_ne _ _ (by omega), va_up_ne _ _ (by omega)]
            exact k12 j (by omega)
          · by_cases e : j = q.toNat
            · subst e
              rw [va_up_self, va_up_self, show q.toNat - 1 = (q - 1).toNat by omega]
              exact e1
            · rw [va_up_ne _ _ e, va_up_ne _ _ e]
              exact k13 j (by omega) hj2
          · by_cases e : j = (q - 1).toNat
            · subst e
              omega
            · exact k14 j (by omega) hj2
  refine z_iconst C dX5_insert_0 ?_
  refine z_iload_n C dX5_insert_1 rfl ?_
  refine z_ishl C dX5_insert_2 ?_
  refine z_istore C dX5_insert_3 (by decide) ?_
  refine z_aload_n C dX5_insert_5 rfl ?_
  refine z_get C dX5_insert_6 fl_X5_22 (by first | assumption | ((repeat (first | assumption | exact va_up_self _ _ _ | refine (va_up_ne _ _ (by assumption)).trans ?_)); done) | (simp [va_up, *] <;> rfl)) rfl ?_
  refine z_iload C dX5_insert_9 rfl ?_
  refine z_iand C dX5_insert_11 ?_
  refine z_if_ne (tgt := 24) C dX5_insert_12 (by decide) (fun h12 => ?_) (fun h12 => ?_)
  · refine z_vret C hQ dX5_insert_24 (by decide) (by decide) ?_
    have hz : zbit mk s0.toNat = true := by
      by_cases e : zbit mk s0.toNat = true
      · exact e
      · exact absurd (ba.mpr (by simpa using e)) h12
    have k1 := b8.mp hz
    have k2 := b9.mp k1
    refine ⟨rfl, zFr.rf, f, g, size, mk, hK, hV.adv (by omega) (fun y y1 y2 y3 y4 => ?_)⟩
    rw [show y = s0 by omega]
    omega
  · have hz := ba.mp h12
    have k1 : ¬ zIn f size s0 := fun e => by
      rw [b8.mpr e] at hz
      cases hz
    have k2 : ¬ o < zlv c0 pb pp s0 := fun e => k1 (b9.mpr (.inl e))
    have k4 := hlt k1
    refine z_aload_n C dX5_insert_15 rfl ?_
    refine z_get C dX5_insert_16 fl_X5_18 (by first | assumption | ((repeat (first | assumption | exact va_up_self _ _ _ | refine (va_up_ne _ _ (by assumption)).trans ?_)); done) | (simp [va_up, *] <;> rfl)) rfl ?_
    refine z_bipush C dX5_insert_19 (by decide) ?_
    refine z_icmp_ltZ (tgt := 25) C dX5_insert_21 (by decide) (by omega) (by omega) (fun h21 => ?_) (fun h21 => ?_)
    · refine z_aload_n C dX5_insert_25 rfl ?_
      refine z_get C dX5_insert_26 fl_X5_18 (by first | assumption | ((repeat (first | assumption | exact va_up_self _ _ _ | refine (va_up_ne _ _ (by assumption)).trans ?_)); done) | (simp [va_up, *] <;> rfl)) rfl ?_
      refine z_istore C dX5_insert_29 (by decide) ?_
      exact loop (size - os).toNat M size f g k1 (by omega) (by omega) k4 (by omega) zFr.rf hB hY hW v2 v3 (fun j _ => ⟨rfl, rfl⟩) (fun j h1 h2 => by omega) (fun j h1 h2 => by omega)
    · exact absurd h21 (by omega)

