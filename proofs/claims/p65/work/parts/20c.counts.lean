/-- halving under way: m rows kept of i looked at -/
def hHv (ks vs ks' vs' : Nat → Int) (m i : Int) : Prop := (∀ j, zR (ks' j)) ∧ (∀ j, zR (vs' j)) ∧ (0 ≤ m ∧ m ≤ i) ∧ (∀ j : Nat, i ≤ j → ks' j = ks j ∧ vs' j = vs j) ∧ (∀ j : Nat, j < m → ∃ q : Nat, q < i ∧ ks' j = ks q ∧ vs' j = vs q / 2 ∧ 1 ≤ vs q / 2) ∧ (∀ j j' : Nat, j < j' → j' < m → ks' j < ks' j') ∧ ∀ q : Nat, q < i → 1 ≤ vs q / 2 → ∃ j : Nat, j < m ∧ ks' j = ks q
theorem hHv.skip {ks vs ks' vs' : Nat → Int} {m i : Int} (h : hHv ks vs ks' vs' m i) (h0 : ¬ 1 ≤ vs i.toNat / 2) : hHv ks vs ks' vs' m (i + 1) := by
  obtain ⟨r1, r2, hm, A, B, D, E⟩ := h
  refine ⟨r1, r2, by omega, fun j hj => A j (by omega), fun j hj => ?_, D, fun q hq h1 => ?_⟩
  · obtain ⟨q, h1, h2⟩ := B j hj
    exact ⟨q, by omega, h2⟩
  · by_cases e : q = i.toNat
    · exact absurd (by rw [← e]; exact h1) h0
    · exact E q (by omega) h1
theorem hHv.keep {ks vs ks' vs' : Nat → Int} {m i n : Int} (h : hHv ks vs ks' vs' m i) (hS : hSo ks vs n) (hi : i < n) (h0 : 1 ≤ vs i.toNat / 2) (r1 : ∀ j, zR (va_up ks' m.toNat (ks' i.toNat) j)) (r2 : ∀ j, zR (va_up vs' m.toNat (vs' i.toNat / 2) j)) : hHv ks vs (va_up ks' m.toNat (ks' i.toNat)) (va_up vs' m.toNat (vs' i.toNat / 2)) (m + 1) (i + 1) := by
  obtain ⟨-, -, hm, A, B, D, E⟩ := h
  have hA := A i.toNat (by omega)
  refine ⟨r1, r2, by omega, fun j hj => ?_, fun j hj => ?_, fun j j' hj hj' => ?_, fun q hq h1 => ?_⟩
  · rw [va_up_ne _ _ (by omega), va_up_ne _ _ (by omega)]
    exact A j (by omega)
  · by_cases e : j = m.toNat
    · subst e
      rw [va_up_self, va_up_self, hA.1, hA.2]
      exact ⟨i.toNat, by omega, rfl, rfl, h0⟩
    · rw [va_up_ne _ _ e, va_up_ne _ _ e]
      obtain ⟨q, h1, h2⟩ := B j (by omega)
      exact ⟨q, by omega, h2⟩
  · rw [va_up_ne _ _ (show j ≠ m.toNat by omega)]
    by_cases e : j' = m.toNat
    · subst e
      rw [va_up_self, hA.1]
      obtain ⟨q, h1, h2, -⟩ := B j (by omega)
      rw [h2]
      exact hS.2.2.2 q i.toNat (by omega) (by omega)
    · rw [va_up_ne _ _ e]
      exact D j j' hj (by omega)
  · by_cases e : q = i.toNat
    · exact ⟨m.toNat, by omega, by rw [va_up_self, hA.1, e]⟩
    · obtain ⟨j, hj, h2⟩ := E q (by omega) h1
      exact ⟨j, by omega, by rw [va_up_ne _ _ (by omega)]; exact h2⟩
/-- halved counts -/
def zhlf (c : Int → Int) : Int → Int := fun x => c x / 2
theorem hHv.fin {ks vs ks' vs' : Nat → Int} {m n : Int} {c : Int → Int} (h : hHv ks vs ks' vs' m n) (hS : hSo ks vs n) (hR : hRp ks vs n c) : hSo ks' vs' m ∧ hRp ks' vs' m (zhlf c) := by
  obtain ⟨r1, r2, hm, A, B, D, E⟩ := h
  have hn := hS.1
  refine ⟨⟨by omega, r1, r2, D⟩, fun j hj => ?_, fun x hx => ?_⟩
  · obtain ⟨q, h1, h2, h3, h4⟩ := B j hj
    have := hR.1 q h1
    rw [h2, h3]
    unfold zhlf
    omega
  · unfold zhlf at hx
    obtain ⟨q, hq, rfl⟩ := hR.2 x (fun q => hx (by rw [q]; rfl))
    have := hR.1 q hq
    rw [this.2.2] at hx
    exact E q hq (by omega)
theorem hCt.fr3 {M M1 : zM} {a k v : Nat} {e1 e2 : Option va_E} (h : zFr M M1 [a, k, v]) : zFr M (va_up (va_up M1 k e1) v e2) [a, k, v] := (h.tr (zFr.up (S := [a, k, v]) (by simp)) (fun _ h => h) (fun _ h => h)).tr (zFr.up (S := [a, k, v]) (by simp)) (fun _ h => h) (fun _ h => h)
set_option maxHeartbeats 4000000 in
set_option maxRecDepth 100000 in
theorem k_X2_halve {l : Launch} {γ : zG} {M : zM} {a k v : Nat} {c0 : Int → Int} (hC : hCn γ M a k v c0) :
    zCon l γ yX2_halve cX2_halve 4 none [.ref a] M 0 0 0 0 (fun v' M' => v' = none ∧ zFr M M' [a, k, v] ∧ hCn γ M' a k v (zhlf c0)) (fun _ _ => False) := by
  obtain ⟨hkv, n, ks, vs, hC, hS, hR⟩ := hC
  obtain ⟨hC, hK, hV⟩ := hC
  obtain ⟨hn, hks, hvs, hsort⟩ := id hS
  have n1 := zne_ka hC hK
  have n2 := zne_ka hC hV
  have n3 := n1.symm
  have n4 := n2.symm
  have n5 := hkv.symm
  refine zEnter [some (.ref a), none, none, none] (by decide +kernel) rfl rfl (Nat.le_of_ble_eq_true rfl) ?_
  intro p e s m args below meth c Q C hin hQ
  have loop : ∀ (t : Nat) (M1 : zM) (mx i : Int) (ks' vs' : Nat → Int) (x3 : Option Value), i ≤ n ∧ n - i = t → hHv ks vs ks' vs' mx i → zFr M M1 [a, k, v] → M1 a = some (.inr (2, [.ref k, .ref v, .int (zi n)])) → M1 k = some (zar γ 643 ks') → M1 v = some (zar γ 643 vs') → zAW p l e { frames := 0, cells := 0, slots := 0, locals := 0 } s m args below meth c γ 4 Q M1 0 0 4 [some (.ref a), some (.int (zi mx)), some (.int (zi i)), x3] [] := by
    intro t
    induction t with
    | zero =>
      intro M1 mx i ks' vs' x3 hi hI hf hC1 hK1 hV1
      obtain rfl : i = n := by omega
      have hm := hI.2.2.1
      refine z_iload_n C dX2_halve_4 rfl ?_
      refine z_aload_n C dX2_halve_5 rfl ?_
      refine z_get C dX2_halve_6 fl_X2_18 (by first | assumption | ((repeat (first | assumption | exact va_up_self _ _ _ | refine (va_up_ne _ _ (by assumption)).trans ?_)); done) | (simp [va_up, *] <;> rfl)) rfl ?_
      refine z_icmp_geZ (tgt := 53) C dX2_halve_9 (by decide) (by omega) (by omega) (fun h9 => ?_) (fun h9 => ?_)
      · refine z_aload_n C dX2_halve_53 rfl ?_
        refine z_iload_n C dX2_halve_54 rfl ?_
        refine z_put C dX2_halve_55 fl_X2_18 (by first | assumption | ((repeat (first | assumption | exact va_up_self _ _ _ | refine (va_up_ne _ _ (by assumption)).trans ?_)); done) | (simp [va_up, *] <;> rfl)) rfl rfl (by simp) ?_
        refine z_vret C hQ dX2_halve_58 (by decide) (by decide) ?_
        have q := hI.fin hS hR
        refine ⟨rfl, hf.tr (zFr.up (S := [a, k, v]) (by simp)) (fun _ h => h) (fun _ h => h), hkv, mx, ks', vs', ⟨?_, ?_, ?_⟩, q⟩
        · simp [va_up]
        · simp [va_up, n3, hK1]
        · simp [va_up, n4, hV1]
      · exact absurd h9 (by omega)
    | succ t ih =>
      intro M1 mx i ks' vs' x3 hi hI hf hC1 hK1 hV1
      obtain ⟨r1, r2, hm, hA, -⟩ := id hI
      have q1 := hA i.toNat (by omega)
      have q2 := hR.1 i.toNat (by omega)
      refine z_iload_n C dX2_halve_4 rfl ?_
      refine z_aload_n C dX2_halve_5 rfl ?_
      refine z_get C dX2_halve_6 fl_X2_18 (by first | assumption | ((repeat (first | assumption | exact va_up_self _ _ _ | refine (va_up_ne _ _ (by assumption)).trans ?_)); done) | (simp [va_up, *] <;> rfl)) rfl ?_
      refine z_icmp_geZ (tgt := 53) C dX2_halve_9 (by decide) (by omega) (by omega) (fun h9 => ?_) (fun h9 => ?_)
      · exact absurd h9 (by omega)
      · refine z_aload_n C dX2_halve_12 rfl ?_
        refine z_get C dX2_halve_13 fl_X2_15 (by first | assumption | ((repeat (first | assumption | exact va_up_self _ _ _ | refine (va_up_ne _ _ (by assumption)).trans ?_)); done) | (simp [va_up, *] <;> rfl)) rfl ?_
        refine z_iload_n C dX2_halve_16 rfl ?_
        refine z_aldN C dX2_halve_17 (by first | assumption | ((repeat (first | assumption | exact va_up_self _ _ _ | refine (va_up_ne _ _ (by assumption)).trans ?_)); done) | (simp [va_up, *] <;> rfl)) (by omega) (by omega) (by assumption) (fun hr17 => ?_)
        refine z_iconst C dX2_halve_18 ?_
        refine z_idivZ C dX2_halve_19 (by omega) (by omega) ?_
        refine z_istore_n C dX2_halve_20 (by decide) ?_
        refine z_iload_n C dX2_halve_21 rfl ?_
        refine z_if_leZ (tgt := 47) C dX2_halve_22 (by decide) (by omega) (fun h22 => ?_) (fun h22 => ?_)
        · refine z_iincZ C dX2_halve_47 rfl (by decide) ?_
          refine z_goto (tgt := 4) C dX2_halve_50 (by decide) ?_
          exact ih M1 _ _ ks' vs' _ (by omega) (hI.skip (by omega)) hf hC1 hK1 hV1
        · refine z_aload_n C dX2_halve_25 rfl ?_
          refine z_get C dX2_halve_26 fl_X2_9 (by first | assumption | ((repeat (first | assumption | exact va_up_self _ _ _ | refine (va_up_ne _ _ (by assumption)).trans ?_)); done) | (simp [va_up, *] <;> rfl)) rfl ?_
          refine z_iload_n C dX2_halve_29 rfl ?_
          refine z_aload_n C dX2_halve_30 rfl ?_
          refine z_get C dX2_halve_31 fl_X2_9 (by first | assumption | ((repeat (first | assumption | exact va_up_self _ _ _ | refine (va_up_ne _ _ (by assumption)).trans ?_)); done) | (simp [va_up, *] <;> rfl)) rfl ?_
          refine z_iload_n C dX2_halve_34 rfl ?_
          refine z_aldN C dX2_halve_35 (by first | assumption | ((repeat (first | assumption | exact va_up_self _ _ _ | refine (va_up_ne _ _ (by assumption)).trans ?_)); done) | (simp [va_up, *] <;> rfl)) (by omega) (by omega) (by assumption) (fun hr35 => ?_)
          refine z_astN C dX2_halve_36 (by first | assumption | ((repeat (first | assumption | exact va_up_self _ _ _ | refine (va_up_ne _ _ (by assumption)).trans ?_)); done) | (simp [va_up, *] <;> rfl)) (by omega) (by omega) (by assumption) (by omega) (fun hr36 => ?_)
          refine z_aload_n C dX2_halve_37 rfl ?_
          refine z_get C dX2_halve_38 fl_X2_15 (by first | assumption | ((repeat (first | assumption | exact va_up_self _ _ _ | refine (va_up_ne _ _ (by assumption)).trans ?_)); done) | (simp [va_up, *] <;> rfl)) rfl ?_
          refine z_iload_n C dX2_halve_41 rfl ?_
          refine z_iload_n C dX2_halve_42 rfl ?_
          refine z_astN C dX2_halve_43 (by first | assumption | ((repeat (first | assumption | exact va_up_self _ _ _ | refine (va_up_ne _ _ (by assumption)).trans ?_)); done) | (simp [va_up, *] <;> rfl)) (by omega) (by omega) (by assumption) (by omega) (fun hr43 => ?_)
          refine z_iincZ C dX2_halve_44 rfl (by decide) ?_
          refine z_iincZ C dX2_halve_47 rfl (by decide) ?_
          refine z_goto (tgt := 4) C dX2_halve_50 (by decide) ?_
          exact ih _ _ _ _ _ _ (by omega) (hI.keep hS (by omega) (by omega) hr36 hr43) (hCt.fr3 hf) (by simp [va_up, n1, n2, hC1]) (by simp [va_up, hkv]) (by simp [va_up])
  refine z_iconst C dX2_halve_0 ?_
  refine z_istore_n C dX2_halve_1 (by decide) ?_
  refine z_iconst C dX2_halve_2 ?_
  refine z_istore_n C dX2_halve_3 (by decide) ?_
  exact loop n.toNat M 0 0 ks vs none (by omega) ⟨hks, hvs, by omega, fun j hj => ⟨rfl, rfl⟩, fun j hj => by omega, fun j j' h1 h2 => by omega, fun q h1 => by omega⟩ zFr.rf hC hK hV
/-- 1 where a context of order 2 has a count -/
def zgp (c : Int → Int) (q : Int) : Int := if zsum (zind c) (756 + 27 * q) 27 = 0 then 0 else 1
theorem zgp0 {c : Int → Int} {q : Int} (h : ∀ k, 756 + 27 * q ≤ k → k < 756 + 27 * q + 27 → c k = 0) : zgp c q = 0 := if_pos (zsum_zero fun i hi => zind0 c _ (h _ (by omega) (by omega)))
theorem zgp1 {c : Int → Int} {q k : Int} (h1 : 756 + 27 * q ≤ k) (h2 : k < 756 + 27 * q + 27) (h : c k ≠ 0) : zgp c q = 1 := if_neg (by
  have := zsum_pos (f := zind c) (lo := 756 + 27 * q) (t := 27) (fun i _ => (zind_rng c _).1) h1 (by omega) (by rw [zind1 c k h]; decide)
  omega)
theorem zgp_next {ks vs : Nat → Int} {n i L : Int} {c : Int → Int} (hS : hSo ks vs n) (hR : hRp ks vs n c) (hL : -1 ≤ L) (hi : 0 ≤ i ∧ i < n) (h1 : ∀ j : Nat, j < i → ks j < 756 + 27 * (L + 1)) (q : Int) (hq : 756 + 27 * q ≤ ks i.toNat ∧ ks i.toNat < 756 + 27 * q + 27) (hLq : L < q) : zsum (zgp c) 0 (q + 1).toNat = zsum (zgp c) 0 (L + 1).toNat + 1 := by
  rw [show (q + 1).toNat = (L + 1).toNat + (q - L - 1).toNat + 1 by omega]
  show zsum (zgp c) 0 ((L + 1).toNat + (q - L - 1).toNat) + zgp c (0 + (((L + 1).toNat + (q - L - 1).toNat : Nat) : Int)) = _
  have e0 : zsum (zgp c) (0 + ((L + 1).toNat : Int)) (q - L - 1).toNat = 0 := zsum_zero fun j hj => ?_
  · rw [zsum_add, show (0 + (((L + 1).toNat + (q - L - 1).toNat : Nat) : Int)) = q by omega, zgp1 hq.1 hq.2 (by have := hR.1 i.toNat (by omega); omega), e0]
    omega
  · refine zgp0 fun x x1 x2 => ?_
    by_cases e : c x = 0
    · exact e
    · obtain ⟨y, hy, rfl⟩ := hR.2 x e
      by_cases e1 : y < i
      · have := h1 y e1
        omega
      · by_cases e2 : y = i.toNat
        · subst e2
          omega
        · have := hS.2.2.2 i.toNat y (by omega) hy
          omega
theorem zgp_end {ks vs : Nat → Int} {n L : Int} {c : Int → Int} (hR : hRp ks vs n c) (hL : -1 ≤ L ∧ L ≤ 728) (h1 : ∀ j : Nat, j < n → ks j < 756 + 27 * (L + 1)) : zsum (zgp c) 0 729 = zsum (zgp c) 0 (L + 1).toNat := by
  have e0 : zsum (zgp c) (0 + ((L + 1).toNat : Int)) (728 - L).toNat = 0 := zsum_zero fun j hj => ?_
  · rw [show (729 : Nat) = (L + 1).toNat + (728 - L).toNat by omega, zsum_add, e0]
    omega
  · refine zgp0 fun x x1 x2 => ?_
    by_cases e : c x = 0
    · exact e
    · obtain ⟨y, hy, rfl⟩ := hR.2 x e
      have := h1 y hy
      omega
set_option maxHeartbeats 4000000 in
set_option maxRecDepth 100000 in
theorem k_X2_copyFrom {l : Launch} {γ : zG} {M : zM} {a k v b kb vb : Nat} {c0 c1 : Int → Int} (hC : hCn γ M a k v c0) (hD : hCn γ M b kb vb c1) (hne : k ≠ kb ∧ k ≠ vb ∧ v ≠ vb) :
    zCon l γ yX2_copyFrom cX2_copyFrom 2 none [.ref a, .ref b] M 1 18 0 0 (fun v' M' => v' = none ∧ zFr M M' [a, k, v] ∧ hCn γ M' a k v c1) (fun _ _ => False) := by
  obtain ⟨hkv, n, ks, vs, hC, hS, hR⟩ := hC
  obtain ⟨hC, hK, hV⟩ := hC
  obtain ⟨hn, hks, hvs, hsort⟩ := id hS
  obtain ⟨-, n', ks', vs', hD, hS', hR'⟩ := hD
  obtain ⟨hD, hK', hV'⟩ := hD
  obtain ⟨hn', hks', hvs', hsort'⟩ := id hS'
  obtain ⟨z1, z2, z3⟩ := hne
  have n1 := zne_ka hC hK
  have n2 := zne_ka hC hV
  have n3 := n1.symm
  have n4 := n2.symm
  have n5 := hkv.symm
  have m1 := zne_ka hD hK
  have m2 := zne_ka hD hV
  have m3 := (zne_ka hC hK').symm
  have m4 := (zne_ka hC hV').symm
  have z1' := z1.symm
  have z2' := z2.symm
  have z3' := z3.symm
  refine zEnter [some (.ref a), some (.ref b)] (by decide +kernel) rfl rfl (Nat.le_of_ble_eq_true rfl) ?_
  intro p e s m args below meth c Q C hin hQ
  by_cases hab : b = a
  · exact absurd (by subst hab; have h := hC.symm.trans hD; simp at h; exact h.1) z1
  refine z_aload_n C dX2_copyFrom_0 rfl ?_
  refine z_aload_n C dX2_copyFrom_1 rfl ?_
  refine z_get C dX2_copyFrom_2 fl_X2_18 (by first | assumption | ((repeat (first | assumption | exact va_up_self _ _ _ | refine (va_up_ne _ _ (by assumption)).trans ?_)); done) | (simp [va_up, *] <;> rfl)) rfl ?_
  refine z_put C dX2_copyFrom_5 fl_X2_18 (by first | assumption | ((repeat (first | assumption | exact va_up_self _ _ _ | refine (va_up_ne _ _ (by assumption)).trans ?_)); done) | (simp [va_up, *] <;> rfl)) rfl rfl (by simp) ?_
  refine z_aload_n C dX2_copyFrom_8 rfl ?_
  refine z_get C dX2_copyFrom_9 fl_X2_9 (by first | assumption | ((repeat (first | assumption | exact va_up_self _ _ _ | refine (va_up_ne _ _ (by assumption)).trans ?_)); done) | (simp [va_up, *] <;> rfl)) rfl ?_
  refine z_iconst C dX2_copyFrom_12 ?_
  refine z_aload_n C dX2_copyFrom_13 rfl ?_
  refine z_get C dX2_copyFrom_14 fl_X2_9 (by first | assumption | ((repeat (first | assumption | exact va_up_self _ _ _ | refine (va_up_ne _ _ (by assumption)).trans ?_)); done) | (simp [va_up, *] <;> rfl)) rfl ?_
  refine z_iconst C dX2_copyFrom_17 ?_
  refine z_aload_n C dX2_copyFrom_18 rfl ?_
  refine z_get C dX2_copyFrom_19 fl_X2_18 (by first | assumption | ((repeat (first | assumption | exact va_up_self _ _ _ | refine (va_up_ne _ _ (by assumption)).trans ?_)); done) | (simp [va_up, *] <;> rfl)) rfl ?_
  refine z_copyZ C dX2_copyFrom_22 t2_150 ar_nat ar_st ar_in (by first | assumption | ((repeat (first | assumption | exact va_up_self _ _ _ | refine (va_up_ne _ _ (by assumption)).trans ?_)); done) | (simp [va_up, *] <;> rfl)) (by first | assumption | ((repeat (first | assumption | exact va_up_self _ _ _ | refine (va_up_ne _ _ (by assumption)).trans ?_)); done) | (simp [va_up, *] <;> rfl)) (by omega) (by omega) (by omega) (by omega) (by omega) (by decide) (by decide) ⟨by decide, (by first | decide | exact Nat.le_of_ble_eq_true rfl)⟩ (by assumption) (by assumption) (fun hr22 => ?_)
  refine z_aload_n C dX2_copyFrom_25 rfl ?_
  refine z_get C dX2_copyFrom_26 fl_X2_15 (by first | assumption | ((repeat (first | assumption | exact va_up_self _ _ _ | refine (va_up_ne _ _ (by assumption)).trans ?_)); done) | (simp [va_up, *] <;> rfl)) rfl ?_
  refine z_iconst C dX2_copyFrom_29 ?_
  refine z_aload_n C dX2_copyFrom_30 rfl ?_
  refine z_get C dX2_copyFrom_31 fl_X2_15 (by first | assumption | ((repeat (first | assumption | exact va_up_self _ _ _ | refine (va_up_ne _ _ (by assumption)).trans ?_)); done) | (simp [va_up, *] <;> rfl)) rfl ?_
  refine z_iconst C dX2_copyFrom_34 ?_
  refine z_aload_n C dX2_copyFrom_35 rfl ?_
  refine z_get C dX2_copyFrom_36 fl_X2_18 (by first | assumption | ((repeat (first | assumption | exact va_up_self _ _ _ | refine (va_up_ne _ _ (by assumption)).trans ?_)); done) | (simp [va_up, *] <;> rfl)) rfl ?_
  refine z_copyZ C dX2_copyFrom_39 t2_150 ar_nat ar_st ar_in (by first | assumption | ((repeat (first | assumption | exact va_up_self _ _ _ | refine (va_up_ne _ _ (by assumption)).trans ?_)); done) | (simp [va_up, *] <;> rfl)) (by first | assumption | ((repeat (first | assumption | exact va_up_self _ _ _ | refine (va_up_ne _ _ (by assumption)).trans ?_)); done) | (simp [va_up, *] <;> rfl)) (by omega) (by omega) (by omega) (by omega) (by omega) (by decide) (by decide) ⟨by decide, (by first | decide | exact Nat.le_of_ble_eq_true rfl)⟩ (by assumption) (by assumption) (fun hr39 => ?_)
  refine z_vret C hQ dX2_copyFrom_42 (by decide) (by decide) ?_
  refine ⟨rfl, ?_, hkv, n', va_cpy ks' ks (0 : Int).toNat (0 : Int).toNat n'.toNat, va_cpy vs' vs (0 : Int).toNat (0 : Int).toNat n'.toNat, ⟨?_, ?_, ?_⟩, ?_⟩
  · exact ((zFr.up (S := [a, k, v]) (by simp)).tr (zFr.up (S := [a, k, v]) (by simp)) (fun _ h => h) (fun _ h => h)).tr (zFr.up (S := [a, k, v]) (by simp)) (fun _ h => h) (fun _ h => h)
  · simp [va_up, n1, n2]
  · simp [va_up, hkv]
  · simp [va_up]
  · have e1 : ∀ (f g : Nat → Int) (j : Nat), j < n' → va_cpy f g (0 : Int).toNat (0 : Int).toNat n'.toNat j = f j := fun f g j hj => by
      unfold va_cpy
      rw [if_pos (by omega)]
      simp
    refine ⟨⟨hn', by assumption, by assumption, fun i j hi hj => ?_⟩, fun j hj => ?_, fun x hx => ?_⟩
    · rw [e1 _ _ i (by omega), e1 _ _ j hj]
      exact hsort' i j hi hj
    · rw [e1 _ _ j hj, e1 _ _ j hj]
      exact hR'.1 j hj
    · obtain ⟨j, hj, h2⟩ := hR'.2 x hx
      exact ⟨j, hj, by rw [e1 _ _ j hj]; exact h2⟩
/-- counts added -/
def zmrg (c d : Int → Int) : Int → Int := fun x => min (c x + d x) 999
def zmgi (c : Int → Int) (ks vs : Nat → Int) : Nat → Int → Int
  | 0 => c
  | i + 1 => zadd (zmgi c ks vs i) (ks i) (vs i)
theorem zmgi_at {ks vs : Nat → Int} {n : Int} {c d : Int → Int} (hS : hSo ks vs n) (hR : hRp ks vs n d) : ∀ (i : Nat), i ≤ n → ∀ x, (∀ j : Nat, j < i → ks j ≠ x) → zmgi c ks vs i x = c x
  | 0, _, _, _ => rfl
  | i + 1, hi, x, h => by
    show zadd _ _ _ x = _
    rw [zadd, if_neg (h i (by omega)).symm]
    exact zmgi_at hS hR i (by omega) x fun j hj => h j (by omega)
theorem zmgi_in {ks vs : Nat → Int} {n : Int} {c d : Int → Int} (hS : hSo ks vs n) (hR : hRp ks vs n d) : ∀ (i : Nat), i ≤ n → ∀ j : Nat, j < i → zmgi c ks vs i (ks j) = min (c (ks j) + d (ks j)) 999
  | i + 1, hi, j, hj => by
    show zadd _ _ _ _ = _
    by_cases e : j = i
    · subst e
      rw [zadd, if_pos rfl, zmgi_at hS hR j (by omega) (ks j) fun q hq => ?_, (hR.1 j (by omega)).2.2]
      have := hS.2.2.2 q j hq (by omega)
      omega
    · rw [zadd, if_neg ?_]
      · exact zmgi_in hS hR i (by omega) j (by omega)
      · have := hS.2.2.2 j i (by omega) (by omega)
        omega
theorem zmgi_all {ks vs : Nat → Int} {n : Int} {c d : Int → Int} (hS : hSo ks vs n) (hR : hRp ks vs n d) (hc : ∀ x, c x ≤ 999) : zmgi c ks vs n.toNat = zmrg c d := by
  funext x
  have hn := hS.1
  unfold zmrg
  by_cases e : d x = 0
  · rw [e, zmgi_at hS hR n.toNat (by omega) x fun j hj q => ?_]
    · have := hc x
      omega
    · have := hR.1 j (by omega)
      rw [q] at this
      omega
  · obtain ⟨j, hj, rfl⟩ := hR.2 x e
    exact zmgi_in hS hR n.toNat (by omega) j (by omega)
set_option maxHeartbeats 4000000 in
set_option maxRecDepth 100000 in
theorem k_X2_addAll {l : Launch} {γ : zG} {M : zM} {a k v b kb vb : Nat} {c0 c1 : Int → Int} {G : List Int} (hC : hCn γ M a k v c0) (hD : hCn γ M b kb vb c1) (hne : b ∉ [a, k, v] ∧ kb ∉ [a, k, v] ∧ vb ∉ [a, k, v]) (hG : hRm G c0) (hG1 : ∀ x, c1 x ≠ 0 → x ∈ G) :
    zCon l γ yX2_addAll cX2_addAll 3 none [.ref a, .ref b] M 2 47 0 0 (fun v' M' => v' = none ∧ zFr M M' [a, k, v] ∧ hCn γ M' a k v (zmrg c0 c1)) (fun _ _ => False) := by
  have hc0 : ∀ x, c0 x ≤ 999 := fun x => by
    obtain ⟨-, n, ks, vs, -, -, hR⟩ := hC
    exact (hR.rng x).2
  obtain ⟨-, n', ks', vs', hD, hS', hR'⟩ := hD
  obtain ⟨hD, hK', hV'⟩ := hD
  obtain ⟨hn', hks', hvs', hsort'⟩ := id hS'
  refine zEnter [some (.ref a), some (.ref b), none] (by decide +kernel) rfl rfl (Nat.le_of_ble_eq_true rfl) ?_
  intro p e s m args below meth c Q C hin hQ
  have loop : ∀ (t : Nat) (M1 : zM) (i : Int), 0 ≤ i ∧ i ≤ n' ∧ n' - i = t → zFr M M1 [a, k, v] → hCn γ M1 a k v (zmgi c0 ks' vs' i.toNat) → hRm G (zmgi c0 ks' vs' i.toNat) → zAW p l e { frames := 2, cells := 0, slots := 0, locals := 47 } s m args below meth c γ 3 Q M1 0 0 2 [some (.ref a), some (.ref b), some (.int (zi i))] [] := by
    intro t
    induction t with
    | zero =>
      intro M1 i hi hf hC1 hG2
      have hD1 := hf.at hne.1 hD
      obtain rfl : i = n' := by omega
      refine z_iload_n C dX2_addAll_2 rfl ?_
      refine z_aload_n C dX2_addAll_3 rfl ?_
      refine z_get C dX2_addAll_4 fl_X2_18 (by first | assumption | ((repeat (first | assumption | exact va_up_self _ _ _ | refine (va_up_ne _ _ (by assumption)).trans ?_)); done) | (simp [va_up, *] <;> rfl)) rfl ?_
      refine z_icmp_geZ (tgt := 32) C dX2_addAll_7 (by decide) (by omega) (by omega) (fun h7 => ?_) (fun h7 => ?_)
      · refine z_vret C hQ dX2_addAll_32 (by decide) (by decide) ?_
        rw [zmgi_all hS' hR' hc0] at hC1
        exact ⟨rfl, hf, hC1⟩
      · exact absurd h7 (by omega)
    | succ t ih =>
      intro M1 i hi hf hC1 hG2
      have hD1 := hf.at hne.1 hD
      have hK1 := hf.at hne.2.1 hK'
      have hV1 := hf.at hne.2.2 hV'
      have q := hR'.1 i.toNat (by omega)
      have hg : ks' i.toNat ∈ G := hG1 _ (by omega)
      obtain ⟨A1, ha1⟩ : ∃ fs, M1 a = some (.inr (2, fs)) := by
        obtain ⟨-, n, ks, vs, h, -⟩ := hC1
        exact ⟨_, h.1⟩
      refine z_iload_n C dX2_addAll_2 rfl ?_
      refine z_aload_n C dX2_addAll_3 rfl ?_
      refine z_get C dX2_addAll_4 fl_X2_18 (by first | assumption | ((repeat (first | assumption | exact va_up_self _ _ _ | refine (va_up_ne _ _ (by assumption)).trans ?_)); done) | (simp [va_up, *] <;> rfl)) rfl ?_
      refine z_icmp_geZ (tgt := 32) C dX2_addAll_7 (by decide) (by omega) (by omega) (fun h7 => ?_) (fun h7 => ?_)
      · exact absurd h7 (by omega)
      · refine z_aload_n C dX2_addAll_10 rfl ?_
        refine z_aload_n C dX2_addAll_11 rfl ?_
        refine z_get C dX2_addAll_12 fl_X2_9 (by first | assumption | ((repeat (first | assumption | exact va_up_self _ _ _ | refine (va_up_ne _ _ (by assumption)).trans ?_)); done) | (simp [va_up, *] <;> rfl)) rfl ?_
        refine z_iload_n C dX2_addAll_15 rfl ?_
        refine z_aldN C dX2_addAll_16 (by first | assumption | ((repeat (first | assumption | exact va_up_self _ _ _ | refine (va_up_ne _ _ (by assumption)).trans ?_)); done) | (simp [va_up, *] <;> rfl)) (by omega) (by omega) (by assumption) (fun hr16 => ?_)
        refine z_aload_n C dX2_addAll_17 rfl ?_
        refine z_get C dX2_addAll_18 fl_X2_15 (by first | assumption | ((repeat (first | assumption | exact va_up_self _ _ _ | refine (va_up_ne _ _ (by assumption)).trans ?_)); done) | (simp [va_up, *] <;> rfl)) rfl ?_
        refine z_iload_n C dX2_addAll_21 rfl ?_
        refine z_aldN C dX2_addAll_22 (by first | assumption | ((repeat (first | assumption | exact va_up_self _ _ _ | refine (va_up_ne _ _ (by assumption)).trans ?_)); done) | (simp [va_up, *] <;> rfl)) (by omega) (by omega) (by assumption) (fun hr22 => ?_)
        refine z_callV C dX2_addAll_23 lk_X2_38 mw_X2_add mi_X2_add ms_X2_add rfl (by first | assumption | ((repeat (first | assumption | exact va_up_self _ _ _ | refine (va_up_ne _ _ (by assumption)).trans ?_)); done) | (simp [va_up, *] <;> rfl)) (k_X2_add hC1 (by omega) (by omega) hG2 hg) rfl (by first | decide | exact Nat.le_of_ble_eq_true rfl) ⟨by decide, by decide, by decide, by decide⟩ (fun _ _ h => False.elim h) (fun v M' hp => ?_)
        obtain ⟨rfl, hf2, hC2⟩ := hp
        refine z_iincZ C dX2_addAll_26 rfl (by decide) ?_
        refine z_goto (tgt := 2) C dX2_addAll_29 (by decide) ?_
        have e : (i + 1).toNat = i.toNat + 1 := by omega
        refine ih _ (i + 1) (by omega) (hf.tr hf2 (fun _ h => h) (fun _ h => h)) ?_ ?_
        · rw [e]; exact hC2
        · rw [e]; exact hG2.add hg
  refine z_iconst C dX2_addAll_0 ?_
  refine z_istore_n C dX2_addAll_1 (by decide) ?_
  exact loop n'.toNat M 0 (by omega) zFr.rf hC hG

