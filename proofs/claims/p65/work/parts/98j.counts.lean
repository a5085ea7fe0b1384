/-! the law's row of a document's counts -/
def zke (X : zDoc) (i o : Nat) : Int := if o = 0 then zCs 0 (-1) (-1) + dSy X i else if o = 1 then zCs 1 (-1) (dSy X (i - 1)) + dSy X i else zCs 2 (dSy X (i - 2)) (dSy X (i - 1)) + dSy X i
def zcn (c : Int → Int) (X : zDoc) (j : Nat) : Int := if j / 3 < j % 3 then 0 else c (zke X (j / 3) (j % 3))
theorem zcn_up {f g : Nat → Int} {i : Nat} {v0 v1 v2 : Int} (h : ∀ j, j < 3 * i → f j = g j) (h0 : v0 = g (3 * i)) (h1 : v1 = g (3 * i + 1)) (h2 : v2 = g (3 * i + 2)) : ∀ j, j < 3 * (i + 1) → va_up (va_up (va_up f (3 * i) v0) (3 * i + 1) v1) (3 * i + 2) v2 j = g j := fun j hj => by
  by_cases e2 : j = 3 * i + 2
  · rw [e2, va_up_self, h2]
  · rw [va_up_ne _ _ e2]
    by_cases e1 : j = 3 * i + 1
    · rw [e1, va_up_self, h1]
    · rw [va_up_ne _ _ e1]
      by_cases e0 : j = 3 * i
      · rw [e0, va_up_self, h0]
      · rw [va_up_ne _ _ e0]
        exact h j (by omega)
theorem zcn_0 (c : Int → Int) (X : zDoc) (i : Nat) : c (zCs 0 (-1) (-1) + dSy X i) = zcn c X (3 * i) := by
  unfold zcn
  rw [show 3 * i / 3 = i by omega, show 3 * i % 3 = 0 by omega, if_neg (by omega)]
  rfl
theorem zcn_1 (c : Int → Int) (X : zDoc) {i : Nat} (h : 1 ≤ i) : c (zCs 1 (-1) (dSy X (i - 1)) + dSy X i) = zcn c X (3 * i + 1) := by
  unfold zcn
  rw [show (3 * i + 1) / 3 = i by omega, show (3 * i + 1) % 3 = 1 by omega, if_neg (by omega)]
  rfl
theorem zcn_2 (c : Int → Int) (X : zDoc) {i : Nat} (h : 2 ≤ i) : c (zCs 2 (dSy X (i - 2)) (dSy X (i - 1)) + dSy X i) = zcn c X (3 * i + 2) := by
  unfold zcn
  rw [show (3 * i + 2) / 3 = i by omega, show (3 * i + 2) % 3 = 2 by omega, if_neg (by omega)]
  rfl
theorem zcn_n (c : Int → Int) (X : zDoc) {i o : Nat} (h : i < o) (ho : o < 3) : (0 : Int) = zcn c X (3 * i + o) := by
  unfold zcn
  rw [show (3 * i + o) / 3 = i by omega, show (3 * i + o) % 3 = o by omega, if_pos h]
theorem zcn_rng {c : Int → Int} (h : zcR c) (X : zDoc) (j : Nat) : 0 ≤ zcn c X j ∧ zcn c X j ≤ 999 := by
  unfold zcn
  split
  · decide
  · exact h _
set_option maxHeartbeats 4000000 in
set_option maxRecDepth 100000 in
theorem k_L_counts {l : Launch} {γ : zG} {M : zM} {U : Nat → Nat} {Y : zSys} {rr dd : Int} (hc : hFc γ M U Y) (hk : yOk Y) (hrr : 0 ≤ rr ∧ rr < sRn (yS Y)) (hdd : 0 ≤ dd ∧ dd < sDn (yS Y)) (hX : 1 ≤ dLe (sDc (yS Y) dd.toNat) ∧ dLe (sDc (yS Y) dd.toNat) ≤ 14) :
    zCon l γ yL_counts cL_counts 6 (some (.array .int)) [.ref (U 0), .int (zi rr), .int (zi dd)] M 5 185 1 42 (fun v' M' => ∃ (q : Nat) (f : Nat → Int), M q = none ∧ v' = some (.ref q) ∧ M' = va_up M q (some (zar γ (3 * dLe (sDc (yS Y) dd.toNat)).toNat f)) ∧ ∀ j : Nat, j < 3 * dLe (sDc (yS Y) dd.toNat) → f j = zcn (rC (sRd (yS Y) rr.toNat)) (sDc (yS Y) dd.toNat) j) (fun _ _ => False) := by
  obtain ⟨fs0, hM0⟩ := hc.ok0
  have hDk := hk.1.2.1 dd.toNat (by omega)
  have hcR := (hk.1.2.2 rr.toNat (by omega)).1.2.2.1
  obtain ⟨X, hXe⟩ : ∃ X, X = sDc (yS Y) dd.toNat := ⟨_, rfl⟩
  obtain ⟨cf, hcfe⟩ : ∃ cf, cf = rC (sRd (yS Y) rr.toNat) := ⟨_, rfl⟩
  rw [← hXe, ← hcfe]
  rw [← hXe] at hX hDk
  rw [← hcfe] at hcR
  have hsy : ∀ j : Nat, j < dLe X → zSy (dSy X j) := fun j hj => by
    have := hDk.2 j hj
    unfold zSy
    omega
  have kdl : ∀ {M1 : zM}, hFc γ M1 U Y → _ := fun {M1} h => k_I_documentLength (l := l) (M := M1) h hk hdd
  have kds : ∀ {M1 : zM} (j : Int), hFc γ M1 U Y → 0 ≤ j ∧ j < dLe X → _ := fun {M1} j h hj => k_I_documentSymbol (l := l) (M := M1) (ii := j) h hk hdd (hXe ▸ hj)
  simp only [← hXe] at kdl kds
  refine zEnter [some (.ref (U 0)), some (.int (zi rr)), some (.int (zi dd)), none, none, none] (by decide +kernel) rfl rfl (Nat.le_of_ble_eq_true rfl) ?_
  intro p e s m args below meth c Q C hin hQ
  have loop : ∀ (q : Nat) (hq : M q = none) (t i : Nat) (f : Nat → Int) (o5 : Option Value), (i : Int) + t = dLe X → (∀ j, zR (f j)) → (∀ j, j < 3 * i → f j = zcn cf X j) → zAW p l e { frames := 5, cells := 1, slots := 42, locals := 185 } s m args below meth c γ 6 Q (va_up M q (some (zar γ (3 * dLe X).toNat f))) 1 ((3 * dLe X).toNat) 13 [some (.ref (U 0)), some (.int (zi rr)), some (.int (zi dd)), some (.ref q), some (.int (zi (i : Int))), o5] [] := by
    intro q hq t
    have hcq : ∀ x, hFc γ (va_up M q x) U Y := fun x => hc.up (hc.no hq)
    have hMq : ∀ x, va_up M q x (U 0) = some (.inr (8, fs0)) := fun x => (va_up_ne _ _ (hc.no hq 0 (by decide))).trans hM0
    induction t with
    | zero =>
      intro i f o5 ht hz hf
      refine z_iload C dL_counts_13 rfl ?_
      refine z_aload_n C dL_counts_15 rfl ?_
      refine z_iload_n C dL_counts_16 rfl ?_
      refine z_callV C dL_counts_17 lk_L_128 mw_X8_documentLength mi_X8_documentLength ms_X8_documentLength rfl (hMq _) (kdl (hcq _)) rfl (by first | decide | exact Nat.le_of_ble_eq_true rfl) ⟨by decide, by decide, by decide, by show (3 * dLe X).toNat + 0 ≤ 42; omega⟩ (fun _ _ h => False.elim h) (fun v M' hp => ?_)
      obtain ⟨rfl, rfl⟩ := hp
      refine z_icmp_geZ (tgt := 128) C dL_counts_20 (by decide) (by omega) (by omega) (fun h20 => ?_) (fun h20 => ?_)
      · refine z_aload_n C dL_counts_128 rfl ?_
        refine z_aret C hQ dL_counts_129 (by first | exact Or.inl ⟨_, rfl⟩ | exact Or.inr ⟨_, rfl⟩) (Or.inr ⟨_, rfl⟩) (by decide) (by show (3 * dLe X).toNat ≤ 42; omega) ?_
        exact ⟨q, f, hq, rfl, rfl, fun j hj => hf j (by omega)⟩
      · exact absurd h20 (by omega)
    | succ t ih =>
      intro i f o5 ht hz hf
      have hsi := hsy i (by omega)
      have hci := hcR (zCs 0 (-1) (-1) + dSy X i)
      have hM : ∀ f', va_up M q (some (zar γ (3 * dLe X).toNat f')) q = some (zar γ (3 * dLe X).toNat f') := fun f' => va_up_self _ _ _
      refine z_iload C dL_counts_13 rfl ?_
      refine z_aload_n C dL_counts_15 rfl ?_
      refine z_iload_n C dL_counts_16 rfl ?_
      refine z_callV C dL_counts_17 lk_L_128 mw_X8_documentLength mi_X8_documentLength ms_X8_documentLength rfl (hMq _) (kdl (hcq _)) rfl (by first | decide | exact Nat.le_of_ble_eq_true rfl) ⟨by decide, by decide, by decide, by show (3 * dLe X).toNat + 0 ≤ 42; omega⟩ (fun _ _ h => False.elim h) (fun v M' hp => ?_)
      obtain ⟨rfl, rfl⟩ := hp
      refine z_icmp_geZ (tgt := 128) C dL_counts_20 (by decide) (by omega) (by omega) (fun h20 => ?_) (fun h20 => ?_)
      · exact absurd h20 (by omega)
      · refine z_aload_n C dL_counts_23 rfl ?_
        refine z_iload_n C dL_counts_24 rfl ?_
        refine z_iload C dL_counts_25 rfl ?_
        refine z_callV C dL_counts_27 lk_L_131 mw_X8_documentSymbol mi_X8_documentSymbol ms_X8_documentSymbol rfl (hMq _) (kds (i : Int) (hcq _) (by omega)) rfl (by first | decide | exact Nat.le_of_ble_eq_true rfl) ⟨by decide, by decide, by decide, by show (3 * dLe X).toNat + 0 ≤ 42; omega⟩ (fun _ _ h => False.elim h) (fun v M' hp => ?_)
        obtain ⟨rfl, rfl⟩ := hp
        rw [Int.toNat_natCast]
        refine z_istore C dL_counts_30 (by decide) ?_
        refine z_aload_n C dL_counts_32 rfl ?_
        refine z_iconst C dL_counts_33 ?_
        refine z_iload C dL_counts_34 rfl ?_
        refine z_imulZ C dL_counts_36 ?_
        refine z_aload_n C dL_counts_37 rfl ?_
        refine z_iload_n C dL_counts_38 rfl ?_
        refine z_iload C dL_counts_39 rfl ?_
        refine z_callV C dL_counts_41 lk_L_134 mw_X8_countOrder0 mi_X8_countOrder0 ms_X8_countOrder0 rfl (hMq _) (k_I_countOrder0 (hcq _) hk hrr hsi) rfl (by first | decide | exact Nat.le_of_ble_eq_true rfl) ⟨by decide, by decide, by decide, by show (3 * dLe X).toNat + 0 ≤ 42; omega⟩ (fun _ _ h => False.elim h) (fun v M' hp => ?_)
        obtain ⟨rfl, rfl⟩ := hp
        rw [← hcfe]
        refine z_astN C dL_counts_44 (hM _) (by omega) (by omega) hz (by omega) (fun hr44 => ?_)
        rw [va_up_tw, show (3 * (i : Int)).toNat = 3 * i by omega]
        rw [show (3 * (i : Int)).toNat = 3 * i by omega] at hr44
        refine z_aload_n C dL_counts_45 rfl ?_
        refine z_iconst C dL_counts_46 ?_
        refine z_iload C dL_counts_47 rfl ?_
        refine z_imulZ C dL_counts_49 ?_
        refine z_iconst C dL_counts_50 ?_
        refine z_iaddZ C dL_counts_51 ?_
        refine z_iload C dL_counts_52 rfl ?_
        refine z_iconst C dL_counts_54 ?_
        refine z_icmp_geZ (tgt := 62) C dL_counts_55 (by decide) (by omega) (by omega) (fun h55 => ?_) (fun h55 => ?_)
        · refine z_aload_n C dL_counts_62 rfl ?_
          refine z_iload_n C dL_counts_63 rfl ?_
          refine z_aload_n C dL_counts_64 rfl ?_
          refine z_iload_n C dL_counts_65 rfl ?_
          refine z_iload C dL_counts_66 rfl ?_
          refine z_iconst C dL_counts_68 ?_
          refine z_isubZ C dL_counts_69 ?_
          refine z_callV C dL_counts_70 lk_L_131 mw_X8_documentSymbol mi_X8_documentSymbol ms_X8_documentSymbol rfl (hMq _) (kds ((i : Int) - 1) (hcq _) (by omega)) rfl (by first | decide | exact Nat.le_of_ble_eq_true rfl) ⟨by decide, by decide, by decide, by show (3 * dLe X).toNat + 0 ≤ 42; omega⟩ (fun _ _ h => False.elim h) (fun v M' hp => ?_)
          obtain ⟨rfl, rfl⟩ := hp
          have hs1 := hsy (i - 1) (by omega)
          rw [show ((i : Int) - 1).toNat = i - 1 by omega]
          refine z_iload C dL_counts_73 rfl ?_
          refine z_callV C dL_counts_75 lk_L_137 mw_X8_countOrder1 mi_X8_countOrder1 ms_X8_countOrder1 rfl (hMq _) (k_I_countOrder1 (hcq _) hk hrr hs1 hsi) rfl (by first | decide | exact Nat.le_of_ble_eq_true rfl) ⟨by decide, by decide, by decide, by show (3 * dLe X).toNat + 0 ≤ 42; omega⟩ (fun _ _ h => False.elim h) (fun v M' hp => ?_)
          obtain ⟨rfl, rfl⟩ := hp
          rw [← hcfe]
          have hc1 := hcR (zCs 1 (-1) (dSy X (i - 1)) + dSy X i)
          refine z_astN C dL_counts_78 (hM _) (by omega) (by omega) hr44 (by omega) (fun hr78 => ?_)
          rw [va_up_tw, show (3 * (i : Int) + 1).toNat = 3 * i + 1 by omega]
          rw [show (3 * (i : Int) + 1).toNat = 3 * i + 1 by omega] at hr78
          refine z_aload_n C dL_counts_79 rfl ?_
          refine z_iconst C dL_counts_80 ?_
          refine z_iload C dL_counts_81 rfl ?_
          refine z_imulZ C dL_counts_83 ?_
          refine z_iconst C dL_counts_84 ?_
          refine z_iaddZ C dL_counts_85 ?_
          refine z_iload C dL_counts_86 rfl ?_
          refine z_iconst C dL_counts_88 ?_
          refine z_icmp_geZ (tgt := 96) C dL_counts_89 (by decide) (by omega) (by omega) (fun h89 => ?_) (fun h89 => ?_)
          · refine z_aload_n C dL_counts_96 rfl ?_
            refine z_iload_n C dL_counts_97 rfl ?_
            refine z_aload_n C dL_counts_98 rfl ?_
            refine z_iload_n C dL_counts_99 rfl ?_
            refine z_iload C dL_counts_100 rfl ?_
            refine z_iconst C dL_counts_102 ?_
            refine z_isubZ C dL_counts_103 ?_
            refine z_callV C dL_counts_104 lk_L_131 mw_X8_documentSymbol mi_X8_documentSymbol ms_X8_documentSymbol rfl (hMq _) (kds ((i : Int) - 2) (hcq _) (by omega)) rfl (by first | decide | exact Nat.le_of_ble_eq_true rfl) ⟨by decide, by decide, by decide, by show (3 * dLe X).toNat + 0 ≤ 42; omega⟩ (fun _ _ h => False.elim h) (fun v M' hp => ?_)
            obtain ⟨rfl, rfl⟩ := hp
            have hs2 := hsy (i - 2) (by omega)
            rw [show ((i : Int) - 2).toNat = i - 2 by omega]
            refine z_aload_n C dL_counts_107 rfl ?_
            refine z_iload_n C dL_counts_108 rfl ?_
            refine z_iload C dL_counts_109 rfl ?_
            refine z_iconst C dL_counts_111 ?_
            refine z_isubZ C dL_counts_112 ?_
            refine z_callV C dL_counts_113 lk_L_131 mw_X8_documentSymbol mi_X8_documentSymbol ms_X8_documentSymbol rfl (hMq _) (kds ((i : Int) - 1) (hcq _) (by omega)) rfl (by first | decide | exact Nat.le_of_ble_eq_true rfl) ⟨by decide, by decide, by decide, by show (3 * dLe X).toNat + 0 ≤ 42; omega⟩ (fun _ _ h => False.elim h) (fun v M' hp => ?_)
            obtain ⟨rfl, rfl⟩ := hp
            have hs1 := hsy (i - 1) (by omega)
            rw [show ((i : Int) - 1).toNat = i - 1 by omega]
            refine z_iload C dL_counts_116 rfl ?_
            refine z_callV C dL_counts_118 lk_L_141 mw_X8_countOrder2 mi_X8_countOrder2 ms_X8_countOrder2 rfl (hMq _) (k_I_countOrder2 (hcq _) hk hrr hs2 hs1 hsi) rfl (by first | decide | exact Nat.le_of_ble_eq_true rfl) ⟨by decide, by decide, by decide, by show (3 * dLe X).toNat + 0 ≤ 42; omega⟩ (fun _ _ h => False.elim h) (fun v M' hp => ?_)
            obtain ⟨rfl, rfl⟩ := hp
            rw [← hcfe]
            have hc2 := hcR (zCs 2 (dSy X (i - 2)) (dSy X (i - 1)) + dSy X i)
            refine z_astN C dL_counts_121 (hM _) (by omega) (by omega) hr78 (by omega) (fun hr121 => ?_)
            rw [va_up_tw, show (3 * (i : Int) + 2).toNat = 3 * i + 2 by omega]
            rw [show (3 * (i : Int) + 2).toNat = 3 * i + 2 by omega] at hr121
            refine z_iincZ C dL_counts_122 rfl (by decide) ?_
            refine z_goto (tgt := 13) C dL_counts_125 (by decide) ?_
            exact ih (i + 1) _ _ (by omega) hr121 (zcn_up hf (zcn_0 cf X i) (zcn_1 cf X (by omega)) (zcn_2 cf X (by omega)))
          · refine z_iconst C dL_counts_92 ?_
            refine z_goto (tgt := 121) C dL_counts_93 (by decide) ?_
            refine z_astN C dL_counts_121 (hM _) (by omega) (by omega) hr78 (by omega) (fun hr121 => ?_)
            rw [va_up_tw, show (3 * (i : Int) + 2).toNat = 3 * i + 2 by omega]
            rw [show (3 * (i : Int) + 2).toNat = 3 * i + 2 by omega] at hr121
            refine z_iincZ C dL_counts_122 rfl (by decide) ?_
            refine z_goto (tgt := 13) C dL_counts_125 (by decide) ?_
            exact ih (i + 1) _ _ (by omega) hr121 (zcn_up hf (zcn_0 cf X i) (zcn_1 cf X (by omega)) (zcn_n cf X (by omega) (by decide)))
        · refine z_iconst C dL_counts_58 ?_
          refine z_goto (tgt := 78) C dL_counts_59 (by decide) ?_
          refine z_astN C dL_counts_78 (hM _) (by omega) (by omega) hr44 (by omega) (fun hr78 => ?_)
          rw [va_up_tw, show (3 * (i : Int) + 1).toNat = 3 * i + 1 by omega]
          rw [show (3 * (i : Int) + 1).toNat = 3 * i + 1 by omega] at hr78
          refine z_aload_n C dL_counts_79 rfl ?_
          refine z_iconst C dL_counts_80 ?_
          refine z_iload C dL_counts_81 rfl ?_
          refine z_imulZ C dL_counts_83 ?_
          refine z_iconst C dL_counts_84 ?_
          refine z_iaddZ C dL_counts_85 ?_
          refine z_iload C dL_counts_86 rfl ?_
          refine z_iconst C dL_counts_88 ?_
          refine z_icmp_geZ (tgt := 96) C dL_counts_89 (by decide) (by omega) (by omega) (fun h89 => ?_) (fun h89 => ?_)
          · refine z_aload_n C dL_counts_96 rfl ?_
            refine z_iload_n C dL_counts_97 rfl ?_
            refine z_aload_n C dL_counts_98 rfl ?_
            refine z_iload_n C dL_counts_99 rfl ?_
            refine z_iload C dL_counts_100 rfl ?_
            refine z_iconst C dL_counts_102 ?_
            refine z_isubZ C dL_counts_103 ?_
            refine z_callV C dL_counts_104 lk_L_131 mw_X8_documentSymbol mi_X8_documentSymbol ms_X8_documentSymbol rfl (hMq _) (kds ((i : Int) - 2) (hcq _) (by omega)) rfl (by first | decide | exact Nat.le_of_ble_eq_true rfl) ⟨by decide, by decide, by decide, by show (3 * dLe X).toNat + 0 ≤ 42; omega⟩ (fun _ _ h => False.elim h) (fun v M' hp => ?_)
            obtain ⟨rfl, rfl⟩ := hp
            have hs2 := hsy (i - 2) (by omega)
            rw [show ((i : Int) - 2).toNat = i - 2 by omega]
            refine z_aload_n C dL_counts_107 rfl ?_
            refine z_iload_n C dL_counts_108 rfl ?_
            refine z_iload C dL_counts_109 rfl ?_
            refine z_iconst C dL_counts_111 ?_
            refine z_isubZ C dL_counts_112 ?_
            refine z_callV C dL_counts_113 lk_L_131 mw_X8_documentSymbol mi_X8_documentSymbol ms_X8_documentSymbol rfl (hMq _) (kds ((i : Int) - 1) (hcq _) (by omega)) rfl (by first | decide | exact Nat.le_of_ble_eq_true rfl) ⟨by decide, by decide, by decide, by show (3 * dLe X).toNat + 0 ≤ 42; omega⟩ (fun _ _ h => False.elim h) (fun v M' hp => ?_)
            obtain ⟨rfl, rfl⟩ := hp
            have hs1 := hsy (i - 1) (by omega)
            rw [show ((i : Int) - 1).toNat = i - 1 by omega]
            refine z_iload C dL_counts_116 rfl ?_
            refine z_callV C dL_counts_118 lk_L_141 mw_X8_countOrder2 mi_X8_countOrder2 ms_X8_countOrder2 rfl (hMq _) (k_I_countOrder2 (hcq _) hk hrr hs2 hs1 hsi) rfl (by first | decide | exact Nat.le_of_ble_eq_true rfl) ⟨by decide, by decide, by decide, by show (3 * dLe X).toNat + 0 ≤ 42; omega⟩ (fun _ _ h => False.elim h) (fun v M' hp => ?_)
            obtain ⟨rfl, rfl⟩ := hp
            rw [← hcfe]
            have hc2 := hcR (zCs 2 (dSy X (i - 2)) (dSy X (i - 1)) + dSy X i)
            refine z_astN C dL_counts_121 (hM _) (by omega) (by omega) hr78 (by omega) (fun hr121 => ?_)
            rw [va_up_tw, show (3 * (i : Int) + 2).toNat = 3 * i + 2 by omega]
            rw [show (3 * (i : Int) + 2).toNat = 3 * i + 2 by omega] at hr121
            refine z_iincZ C dL_counts_122 rfl (by decide) ?_
            refine z_goto (tgt := 13) C dL_counts_125 (by decide) ?_
            exact absurd h55 (by omega)
          · refine z_iconst C dL_counts_92 ?_
            refine z_goto (tgt := 121) C dL_counts_93 (by decide) ?_
            refine z_astN C dL_counts_121 (hM _) (by omega) (by omega) hr78 (by omega) (fun hr121 => ?_)
            rw [va_up_tw, show (3 * (i : Int) + 2).toNat = 3 * i + 2 by omega]
            rw [show (3 * (i : Int) + 2).toNat = 3 * i + 2 by omega] at hr121
            refine z_iincZ C dL_counts_122 rfl (by decide) ?_
            refine z_goto (tgt := 13) C dL_counts_125 (by decide) ?_
            exact ih (i + 1) _ _ (by omega) hr121 (zcn_up hf (zcn_0 cf X i) (zcn_n cf X (by omega) (by decide)) (zcn_n cf X (by omega) (by decide)))
  refine z_iconst C dL_counts_0 ?_
  refine z_aload_n C dL_counts_1 rfl ?_
  refine z_iload_n C dL_counts_2 rfl ?_
  refine z_callV C dL_counts_3 lk_L_128 mw_X8_documentLength mi_X8_documentLength ms_X8_documentLength rfl hM0 (kdl hc) rfl (by first | decide | exact Nat.le_of_ble_eq_true rfl) ⟨by decide, by decide, by decide, by decide⟩ (fun _ _ h => False.elim h) (fun v M' hp => ?_)
  obtain ⟨rfl, rfl⟩ := hp
  refine z_imulZ C dL_counts_6 ?_
  refine z_newI C dL_counts_7 t1_55 (by omega) ⟨by decide, by show 0 + 0 + (3 * dLe X).toNat ≤ 42; omega⟩ (fun q hq => ?_)
  refine z_astore_n C dL_counts_9 (by decide) ?_
  refine z_iconst C dL_counts_10 ?_
  refine z_istore C dL_counts_11 (by decide) ?_
  exact z_kn (by omega) (by omega) (loop q hq (dLe X).toNat 0 (fun _ => 0) none (by omega) (fun j => by unfold zR; omega) (fun j hj => absurd hj (by omega)))

