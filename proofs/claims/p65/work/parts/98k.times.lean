/-! how often the law's context stands in a document -/
def zsm (X : zDoc) (i j : Nat) : Nat → Bool
  | 0 => true
  | k + 1 => zsm X i j k && decide (dSy X (j - k) = dSy X (i - k))
def zto (X : zDoc) (i o : Nat) : Nat → Int
  | 0 => 0
  | n + 1 => zto X i o n + if o ≤ n + 1 ∧ zsm X i n o = true then 1 else 0
theorem zto_rng (X : zDoc) (i o : Nat) : ∀ n : Nat, 0 ≤ zto X i o n ∧ zto X i o n ≤ n
  | 0 => by
    show (0 : Int) ≤ 0 ∧ (0 : Int) ≤ (0 : Nat)
    omega
  | n + 1 => by
    have := zto_rng X i o n
    unfold zto
    split <;> omega
theorem zto_0 (X : zDoc) (i o : Nat) : ∀ n : Nat, n < o → zto X i o n = 0
  | 0, _ => rfl
  | n + 1, h => by
    unfold zto
    rw [zto_0 X i o n (by omega), if_neg (by omega)]
    rfl
def zbn (b : Bool) : Int := if b = true then 1 else 0
theorem zbn_rng (b : Bool) : 0 ≤ zbn b ∧ zbn b ≤ 1 := by cases b <;> decide
set_option maxHeartbeats 4000000 in
set_option maxRecDepth 100000 in
theorem k_L_times {l : Launch} {γ : zG} {M : zM} {U : Nat → Nat} {Y : zSys} {dd : Int} {i o : Nat} (hc : hFc γ M U Y) (hk : yOk Y) (hdd : 0 ≤ dd ∧ dd < sDn (yS Y)) (hX : 1 ≤ dLe (sDc (yS Y) dd.toNat) ∧ dLe (sDc (yS Y) dd.toNat) ≤ 14) (hi : (i : Int) < dLe (sDc (yS Y) dd.toNat)) (ho : 1 ≤ o ∧ o ≤ 3 ∧ o ≤ i + 1) :
    zCon l γ yL_times cL_times 8 (some .int) [.ref (U 0), .int (zi dd), .int (zi (i : Int)), .int (zi (o : Int))] M 5 185 0 0 (fun v' M' => v' = some (.int (zi (zto (sDc (yS Y) dd.toNat) i o (dLe (sDc (yS Y) dd.toNat)).toNat))) ∧ M' = M) (fun _ _ => False) := by
  obtain ⟨fs0, hM0⟩ := hc.ok0
  have hDk := hk.1.2.1 dd.toNat (by omega)
  obtain ⟨X, hXe⟩ : ∃ X, X = sDc (yS Y) dd.toNat := ⟨_, rfl⟩
  rw [← hXe]
  rw [← hXe] at hX hDk hi
  have hsy : ∀ j : Nat, j < dLe X → 0 ≤ dSy X j ∧ dSy X j < 27 := fun j hj => hDk.2 j hj
  have kdl := k_I_documentLength (l := l) (M := M) hc hk hdd
  have kds : ∀ (j : Int), 0 ≤ j ∧ j < dLe X → _ := fun j hj => k_I_documentSymbol (l := l) (M := M) (ii := j) hc hk hdd (hXe ▸ hj)
  simp only [← hXe] at kdl kds
  refine zEnter [some (.ref (U 0)), some (.int (zi dd)), some (.int (zi (i : Int))), some (.int (zi (o : Int))), none, none, none, none] (by decide +kernel) rfl rfl (Nat.le_of_ble_eq_true rfl) ?_
  intro p e s m args below meth c Q C hin hQ
  have loop : ∀ (t j : Nat) (o6 o7 : Option Value), j + t = (dLe X).toNat → o ≤ j + 1 → zAW p l e { frames := 5, cells := 0, slots := 0, locals := 185 } s m args below meth c γ 8 Q M 0 0 8 [some (.ref (U 0)), some (.int (zi dd)), some (.int (zi (i : Int))), some (.int (zi (o : Int))), some (.int (zi (zto X i o j))), some (.int (zi (j : Int))), o6, o7] [] := by
    intro t
    induction t with
    | zero =>
      intro j o6 o7 ht hj
      refine z_iload C dL_times_8 rfl ?_
      refine z_aload_n C dL_times_10 rfl ?_
      refine z_iload_n C dL_times_11 rfl ?_
      refine z_callV C dL_times_12 lk_L_128 mw_X8_documentLength mi_X8_documentLength ms_X8_documentLength rfl hM0 kdl rfl (by first | decide | exact Nat.le_of_ble_eq_true rfl) ⟨by decide, by decide, by decide, by decide⟩ (fun _ _ h => False.elim h) (fun v M' hp => ?_)
      obtain ⟨rfl, rfl⟩ := hp
      refine z_icmp_geZ (tgt := 84) C dL_times_15 (by decide) (by omega) (by omega) (fun h15 => ?_) (fun h15 => ?_)
      · refine z_iload C dL_times_84 rfl ?_
        refine z_iret C hQ dL_times_86 rfl (by decide) (by decide) ?_
        exact ⟨by rw [show j = (dLe X).toNat by omega], rfl⟩
      · exact absurd h15 (by omega)
    | succ t ih =>
      intro j o6 o7 ht hj
      have hzt := zto_rng X i o j
      have inner : ∀ (tt k : Nat), k + tt = o → zAW p l e { frames := 5, cells := 0, slots := 0, locals := 185 } s m args below meth c γ 8 Q M 0 0 24 [some (.ref (U 0)), some (.int (zi dd)), some (.int (zi (i : Int))), some (.int (zi (o : Int))), some (.int (zi (zto X i o j))), some (.int (zi (j : Int))), some (.int (zi (zbn (zsm X i j k)))), some (.int (zi (k : Int)))] [] := by
        intro tt
        induction tt with
        | zero =>
          intro k hk0
          have hbr := zbn_rng (zsm X i j k)
          have hko : k = o := by omega
          have ez : zto X i o (j + 1) = zto X i o j + zbn (zsm X i j k) := by
            show zto X i o j + _ = _
            rw [hko]
            unfold zbn
            by_cases hz : zsm X i j o = true
            · rw [if_pos ⟨by omega, hz⟩, if_pos hz]
            · rw [if_neg (fun w => hz w.2), if_neg hz]
          refine z_iload C dL_times_24 rfl ?_
          refine z_iload_n C dL_times_26 rfl ?_
          refine z_icmp_geZ (tgt := 70) C dL_times_27 (by decide) (by omega) (by omega) (fun h27 => ?_) (fun h27 => ?_)
          · refine z_iload C dL_times_70 rfl ?_
            refine z_if_eqZ (tgt := 78) C dL_times_72 (by decide) (by omega) (fun h72 => ?_) (fun h72 => ?_)
            · refine z_iincZ C dL_times_78 rfl (by decide) ?_
              refine z_goto (tgt := 8) C dL_times_81 (by decide) ?_
              have q9 := ih (j + 1) (some (.int (zi (zbn (zsm X i j k))))) (some (.int (zi (k : Int)))) (by omega) (by omega)
              rw [ez, h72, Int.add_zero] at q9
              rw [h72]
              exact q9
            · refine z_iincZ C dL_times_75 rfl (by decide) ?_
              refine z_iincZ C dL_times_78 rfl (by decide) ?_
              refine z_goto (tgt := 8) C dL_times_81 (by decide) ?_
              have q9 := ih (j + 1) (some (.int (zi (zbn (zsm X i j k))))) (some (.int (zi (k : Int)))) (by omega) (by omega)
              have h1 : zbn (zsm X i j k) = 1 := by omega
              rw [ez, h1] at q9
              rw [h1]
              exact q9
          · exact absurd h27 (by omega)
        | succ tt ih2 =>
          intro k hk0
          have hbr := zbn_rng (zsm X i j k)
          have hs1 := hsy (j - k) (by omega)
          have hs2 := hsy (i - k) (by omega)
          refine z_iload C dL_times_24 rfl ?_
          refine z_iload_n C dL_times_26 rfl ?_
          refine z_icmp_geZ (tgt := 70) C dL_times_27 (by decide) (by omega) (by omega) (fun h27 => ?_) (fun h27 => ?_)
          · exact absurd h27 (by omega)
          · refine z_iload C dL_times_30 rfl ?_
            refine z_if_eqZ (tgt := 61) C dL_times_32 (by decide) (by omega) (fun h32 => ?_) (fun h32 => ?_)
            · refine z_iconst C dL_times_61 ?_
              refine z_istore C dL_times_62 (by decide) ?_
              refine z_iincZ C dL_times_64 rfl (by decide) ?_
              refine z_goto (tgt := 24) C dL_times_67 (by decide) ?_
              have q9 := ih2 (k + 1) (by omega)
              rw [show zsm X i j (k + 1) = (zsm X i j k && decide (dSy X (j - k) = dSy X (i - k))) from rfl] at q9
              cases hz : zsm X i j k with
              | true => rw [hz] at h32; exact absurd h32 (by decide)
              | false =>
                rw [hz] at q9
                exact q9
            · refine z_aload_n C dL_times_35 rfl ?_
              refine z_iload_n C dL_times_36 rfl ?_
              refine z_iload C dL_times_37 rfl ?_
              refine z_iload C dL_times_39 rfl ?_
              refine z_isubZ C dL_times_41 ?_
              refine z_callV C dL_times_42 lk_L_131 mw_X8_documentSymbol mi_X8_documentSymbol ms_X8_documentSymbol rfl hM0 (kds ((j : Int) - (k : Int)) (by omega)) rfl (by first | decide | exact Nat.le_of_ble_eq_true rfl) ⟨by decide, by decide, by decide, by decide⟩ (fun _ _ h => False.elim h) (fun v M' hp => ?_)
              obtain ⟨rfl, rfl⟩ := hp
              rw [show ((j : Int) - (k : Int)).toNat = j - k by omega]
              refine z_aload_n C dL_times_45 rfl ?_
              refine z_iload_n C dL_times_46 rfl ?_
              refine z_iload_n C dL_times_47 rfl ?_
              refine z_iload C dL_times_48 rfl ?_
              refine z_isubZ C dL_times_50 ?_
              refine z_callV C dL_times_51 lk_L_131 mw_X8_documentSymbol mi_X8_documentSymbol ms_X8_documentSymbol rfl hM0 (kds ((i : Int) - (k : Int)) (by omega)) rfl (by first | decide | exact Nat.le_of_ble_eq_true rfl) ⟨by decide, by decide, by decide, by decide⟩ (fun _ _ h => False.elim h) (fun v M' hp => ?_)
              obtain ⟨rfl, rfl⟩ := hp
              rw [show ((i : Int) - (k : Int)).toNat = i - k by omega]
              refine z_icmp_neZ (tgt := 61) C dL_times_54 (by decide) (by omega) (by omega) (fun h54 => ?_) (fun h54 => ?_)
              · refine z_iconst C dL_times_61 ?_
                refine z_istore C dL_times_62 (by decide) ?_
                refine z_iincZ C dL_times_64 rfl (by decide) ?_
                refine z_goto (tgt := 24) C dL_times_67 (by decide) ?_
                have q9 := ih2 (k + 1) (by omega)
                rw [show zsm X i j (k + 1) = (zsm X i j k && decide (dSy X (j - k) = dSy X (i - k))) from rfl, decide_eq_false h54, Bool.and_false] at q9
                exact q9
              · refine z_iconst C dL_times_57 ?_
                refine z_goto (tgt := 62) C dL_times_58 (by decide) ?_
                refine z_istore C dL_times_62 (by decide) ?_
                refine z_iincZ C dL_times_64 rfl (by decide) ?_
                refine z_goto (tgt := 24) C dL_times_67 (by decide) ?_
                have q9 := ih2 (k + 1) (by omega)
                rw [show zsm X i j (k + 1) = (zsm X i j k && decide (dSy X (j - k) = dSy X (i - k))) from rfl, decide_eq_true h54, Bool.and_true] at q9
                cases hz : zsm X i j k with
                | true => rw [hz] at q9; exact q9
                | false => rw [hz] at h32; exact absurd rfl h32
      refine z_iload C dL_times_8 rfl ?_
      refine z_aload_n C dL_times_10 rfl ?_
      refine z_iload_n C dL_times_11 rfl ?_
      refine z_callV C dL_times_12 lk_L_128 mw_X8_documentLength mi_X8_documentLength ms_X8_documentLength rfl hM0 kdl rfl (by first | decide | exact Nat.le_of_ble_eq_true rfl) ⟨by decide, by decide, by decide, by decide⟩ (fun _ _ h => False.elim h) (fun v M' hp => ?_)
      obtain ⟨rfl, rfl⟩ := hp
      refine z_icmp_geZ (tgt := 84) C dL_times_15 (by decide) (by omega) (by omega) (fun h15 => ?_) (fun h15 => ?_)
      · exact absurd h15 (by omega)
      · refine z_iconst C dL_times_18 ?_
        refine z_istore C dL_times_19 (by decide) ?_
        refine z_iconst C dL_times_21 ?_
        refine z_istore C dL_times_22 (by decide) ?_
        exact inner o 0 (by omega)
  refine z_iconst C dL_times_0 ?_
  refine z_istore C dL_times_1 (by decide) ?_
  refine z_iload_n C dL_times_3 rfl ?_
  refine z_iconst C dL_times_4 ?_
  refine z_isubZ C dL_times_5 ?_
  refine z_istore C dL_times_6 (by decide) ?_
  have q9 := loop ((dLe X).toNat - (o - 1)) (o - 1) none none (by omega) (by omega)
  rw [zto_0 X i o (o - 1) (by omega), show ((o - 1 : Nat) : Int) = (o : Int) - 1 by omega] at q9
  exact q9

