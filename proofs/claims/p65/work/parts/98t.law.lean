/-! the law -/
theorem zFs9_ok : zOk zFs9 := by
  have hO : hBo zF0 117 := ⟨by omega, fun j => by have := zF0_rng j; unfold zR; omega, fun j _ => by have := zF0_rng j; omega⟩
  have h := zpA_ok hO 501 zS0 0 (by omega) zS0_ok (by rw [zp_first])
  rw [zp_first] at h
  exact h
theorem zY0_ok : yOk zY0 := ⟨zFs9_ok, ⟨by decide, by decide⟩, fun i (hi : (i : Int) < 0) => by omega, fun k _ => ⟨.inl rfl, fun w => absurd rfl w⟩⟩
theorem hSg.to {γ : zG} {M M' : zM} {a v : Nat} {w : List Int} (h : hSg γ M a v w) (ha : M' a = M a) (hv : M' v = M v) : hSg γ M' a v w := by
  obtain ⟨h1, h2, h3⟩ := h
  refine ⟨h1, ?_, ?_⟩
  · rcases h2 with h2 | ⟨g, g1, g2⟩
    · exact .inl h2
    · exact .inr ⟨g, hv.trans g1, g2⟩
  · rcases h3 with h3 | h3
    · exact .inl h3
    · exact .inr (ha.trans h3)
theorem ok_ySI {Y : zSys} (h : yOk Y) (f : Nat → Int) (n : Int) : yOk (ySI Y f n) := h
theorem mwZ_loaded : zMWH yL_loaded cL_loaded 2 (some .int) [(0, 4, 5, 31)] 1 := ⟨mwh_L_loaded, mw_L_cell.2.1, by decide +kernel, by decide +kernel, by decide +kernel⟩
/-- the bound of the trainings after i acts -/
def zbq : Nat → Int
  | 0 => 6
  | i + 1 => zbq i + zbq i + 1
theorem zbq_rng : ∀ i, i ≤ 10 → 0 ≤ zbq i ∧ zbq i ≤ 7167 := by decide
set_option maxHeartbeats 4000000 in
set_option maxRecDepth 100000 in
theorem law_all {p : Program} {l : Launch} {e : Env} {s : State} {m : MethodId} {args : Array Value} {below : List Frame} {meth : Method} {c : Code} {γ : zG} {Q : State → Prop} {xt : List ExceptionTableEntry} (C : zC p l s m args meth c γ cL_law 4 (some .boolean) RL xt) (fin : ∀ M' k' n' L', k' ≤ 819 → n' ≤ 178100 → zAW p l e room_1 s m args below meth c γ 4 Q M' k' n' 120 L' []) : zAW p l e room_1 s m args below meth c γ 4 Q (fun _ => none) 0 0 0 [some (.ref (γ.2.2.2.1 26)), none, none, none] [] := by
  have j94 : ∀ (U : Nat → Nat) (o3 : Option Value) (t i : Nat) (M1 : zM) (Y : zSys), i + t = 4 → hFc γ M1 U Y → yOk Y → 1 ≤ sRn (yS Y) → zAW p l e room_1 s m args below meth c γ 4 Q M1 (799 + 5 * i) (177568 + 117 * i) 94 [some (.ref (γ.2.2.2.1 26)), some (.ref (U 0)), some (.int (zi (18 + (i : Int)))), o3] [] := by
    intro U o3 t
    induction t with
    | zero =>
      intro i M1 Y hi hc1 hk1 hr1
      refine z_iload_n C dL_law_94 rfl ?_
      refine z_bipush C dL_law_95 (by decide) ?_
      refine z_icmp_geZ (tgt := 120) C dL_law_97 (by decide) (by omega) (by omega) (fun h97 => ?_) (fun h97 => ?_)
      · exact fin _ _ _ _ (by omega) (by omega)
      · exact absurd h97 (by omega)
    | succ t ih =>
      intro i M1 Y hi hc1 hk1 hr1
      have hce := zce_rng γ (18 + (i : Int))
      refine z_iload_n C dL_law_94 rfl ?_
      refine z_bipush C dL_law_95 (by decide) ?_
      refine z_icmp_geZ (tgt := 120) C dL_law_97 (by decide) (by omega) (by omega) (fun h97 => ?_) (fun h97 => ?_)
      · exact absurd h97 (by omega)
      · refine z_aload_n C dL_law_100 rfl ?_
        refine z_aload_n C dL_law_101 rfl ?_
        refine z_iload_n C dL_law_102 rfl ?_
        refine z_callS C dL_law_103 lk_L_46 mw_L_cell mst_L_cell (k_L_cell (k := 18 + (i : Int)) (by omega)) rfl (by first | decide | exact Nat.le_of_ble_eq_true rfl) ⟨by decide, by decide, by show 799 + 5 * i + 0 ≤ 600086; omega, by show 177568 + 117 * i + 0 ≤ 7301442; omega⟩ (fun _ _ h => False.elim h) (fun v M' hp => ?_)
        obtain ⟨rfl, rfl⟩ := hp
        refine z_callS C dL_law_106 lk_L_125 mw_L_isRanked mst_L_isRanked (k_L_isRanked hc1 hk1 hr1 hce) rfl (by first | decide | exact Nat.le_of_ble_eq_true rfl) ⟨by decide, by decide, by show 799 + 5 * i + 0 + 5 ≤ 600086; omega, by show 177568 + 117 * i + 0 + 117 ≤ 7301442; omega⟩ (fun _ _ h => False.elim h) (fun v M' hp => ?_)
        obtain ⟨rfl, hc2⟩ := hp
        refine z_if_neZ (tgt := 114) C dL_law_109 (by decide) (by omega) (fun h109 => ?_) (fun h109 => ?_)
        · refine z_iincZ C dL_law_114 rfl (by decide) ?_
          refine z_goto (tgt := 94) C dL_law_117 (by decide) ?_
          have q9 := ih (i + 1) _ Y (by omega) hc2 hk1 hr1
          rw [show (18 : Int) + ((i + 1 : Nat) : Int) = 18 + (i : Int) + 1 by omega] at q9
          exact z_kn (by omega) (by omega) q9
        · exact absurd h109 (by decide)
  have j39 : ∀ (U : Nat → Nat) (r d : Int), 1 ≤ r ∧ r ≤ 3 → 1 ≤ d ∧ d ≤ 3 → ∀ (t i : Nat) (M1 : zM) (Y : zSys) (o3 : Option Value), i + t = 10 → hFc γ M1 U Y → yOk Y → zIv r d (6 + (i : Int)) (zbq i) (yS Y) → zAW p l e room_1 s m args below meth c γ 4 Q M1 (739 + 6 * i) (176128 + 144 * i) 39 [some (.ref (γ.2.2.2.1 26)), some (.ref (U 0)), some (.int (zi (8 + (i : Int)))), o3] [] := by
    intro U r d hr hd t
    induction t with
    | zero =>
      intro i M1 Y o3 hi hc1 hk1 hI
      have hrn : sRn (yS Y) = r := hI.1.1
      refine z_iload_n C dL_law_39 rfl ?_
      refine z_bipush C dL_law_40 (by decide) ?_
      refine z_icmp_geZ (tgt := 91) C dL_law_42 (by decide) (by omega) (by omega) (fun h42 => ?_) (fun h42 => ?_)
      · refine z_bipush C dL_law_91 (by decide) ?_
        refine z_istore_n C dL_law_93 (by decide) ?_
        have q9 := j94 U o3 4 0 M1 Y rfl hc1 hk1 (by omega)
        exact z_kn (by omega) (by omega) q9
      · exact absurd h42 (by omega)
    | succ t ih =>
      intro i M1 Y o3 hi hc1 hk1 hI
      have hce := zce_rng γ (8 + (i : Int))
      have hbq := zbq_rng i (by omega)
      have j61 : ∀ (Y' : zSys), yOk Y' → zIv r d (6 + ((i + 1 : Nat) : Int)) (zbq (i + 1)) (yS Y') → ∀ (u v : Nat) (M2 : zM), (v : Int) + u = r → hFc γ M2 U Y' → zAW p l e room_1 s m args below meth c γ 4 Q M2 (739 + 6 * (i + 1)) (176128 + 144 * (i + 1)) 61 [some (.ref (γ.2.2.2.1 26)), some (.ref (U 0)), some (.int (zi (8 + (i : Int)))), some (.int (zi (v : Int)))] [] := by
        intro Y' hk2 hI2 u
        have hrn : sRn (yS Y') = r := hI2.1.1
        have hdn : sDn (yS Y') = d := hI2.1.2.1
        induction u with
        | zero =>
          intro v M2 hv hc2
          obtain ⟨fs1, hM1⟩ := hc2.ok0
          refine z_iload_n C dL_law_61 rfl ?_
          refine z_aload_n C dL_law_62 rfl ?_
          refine z_callV C dL_law_63 lk_L_78 mw_X8_readerCount mi_X8_readerCount ms_X8_readerCount rfl hM1 (k_I_readerCount hc2 hk2) rfl (by first | decide | exact Nat.le_of_ble_eq_true rfl) ⟨by decide, by decide, by show 739 + 6 * (i + 1) + 0 ≤ 600086; omega, by show 176128 + 144 * (i + 1) + 0 ≤ 7301442; omega⟩ (fun _ _ h => False.elim h) (fun v M' hp => ?_)
          obtain ⟨rfl, rfl⟩ := hp
          rw [hrn]
          refine z_icmp_geZ (tgt := 85) C dL_law_66 (by decide) (by omega) (by omega) (fun h66 => ?_) (fun h66 => ?_)
          · refine z_iincZ C dL_law_85 rfl (by decide) ?_
            refine z_goto (tgt := 39) C dL_law_88 (by decide) ?_
            have q9 := ih (i + 1) _ Y' (some (.int (zi (v : Int)))) (by omega) hc2 hk2 hI2
            rw [show (8 : Int) + ((i + 1 : Nat) : Int) = 8 + (i : Int) + 1 by omega] at q9
            exact q9
          · exact absurd h66 (by omega)
        | succ u ih2 =>
          intro v M2 hv hc2
          obtain ⟨fs1, hM1⟩ := hc2.ok0
          have hg0 := (hI2.2.2 v (by omega)).2
          refine z_iload_n C dL_law_61 rfl ?_
          refine z_aload_n C dL_law_62 rfl ?_
          refine z_callV C dL_law_63 lk_L_78 mw_X8_readerCount mi_X8_readerCount ms_X8_readerCount rfl hM1 (k_I_readerCount hc2 hk2) rfl (by first | decide | exact Nat.le_of_ble_eq_true rfl) ⟨by decide, by decide, by show 739 + 6 * (i + 1) + 0 ≤ 600086; omega, by show 176128 + 144 * (i + 1) + 0 ≤ 7301442; omega⟩ (fun _ _ h => False.elim h) (fun v M' hp => ?_)
          obtain ⟨rfl, rfl⟩ := hp
          rw [hrn]
          refine z_icmp_geZ (tgt := 85) C dL_law_66 (by decide) (by omega) (by omega) (fun h66 => ?_) (fun h66 => ?_)
          · exact absurd h66 (by omega)
          · refine z_aload_n C dL_law_69 rfl ?_
            refine z_iload_n C dL_law_70 rfl ?_
            refine z_callV C dL_law_71 lk_L_122 mw_X8_trainingGap mi_X8_trainingGap ms_X8_trainingGap rfl hM1 (k_I_trainingGap (rr := (v : Int)) hc2 hk2 (by omega)) rfl (by first | decide | exact Nat.le_of_ble_eq_true rfl) ⟨by decide, by decide, by show 739 + 6 * (i + 1) + 0 ≤ 600086; omega, by show 176128 + 144 * (i + 1) + 0 ≤ 7301442; omega⟩ (fun _ _ h => False.elim h) (fun v M' hp => ?_)
            obtain ⟨rfl, rfl⟩ := hp
            rw [Int.toNat_natCast, hdn, hg0]
            refine z_if_eqZ (tgt := 79) C dL_law_74 (by decide) (by omega) (fun h74 => ?_) (fun h74 => ?_)
            · refine z_iincZ C dL_law_79 rfl (by decide) ?_
              refine z_goto (tgt := 61) C dL_law_82 (by decide) ?_
              exact ih2 (v + 1) _ (by omega) hc2
            · exact absurd rfl h74
      refine z_iload_n C dL_law_39 rfl ?_
      refine z_bipush C dL_law_40 (by decide) ?_
      refine z_icmp_geZ (tgt := 91) C dL_law_42 (by decide) (by omega) (by omega) (fun h42 => ?_) (fun h42 => ?_)
      · exact absurd h42 (by omega)
      · refine z_aload_n C dL_law_45 rfl ?_
        refine z_aload_n C dL_law_46 rfl ?_
        refine z_iload_n C dL_law_47 rfl ?_
        refine z_callS C dL_law_48 lk_L_46 mw_L_cell mst_L_cell (k_L_cell (k := 8 + (i : Int)) (by omega)) rfl (by first | decide | exact Nat.le_of_ble_eq_true rfl) ⟨by decide, by decide, by show 739 + 6 * i + 0 ≤ 600086; omega, by show 176128 + 144 * i + 0 ≤ 7301442; omega⟩ (fun _ _ h => False.elim h) (fun v M' hp => ?_)
        obtain ⟨rfl, rfl⟩ := hp
        refine z_callS C dL_law_51 lk_L_118 mw_L_isTold mst_L_isTold (k_L_isTold hc1 hk1 hI hr hd (by omega) (by omega) hce) rfl (by first | decide | exact Nat.le_of_ble_eq_true rfl) ⟨by decide, by decide, by show 739 + 6 * i + 0 + 6 ≤ 600086; omega, by show 176128 + 144 * i + 0 + 144 ≤ 7301442; omega⟩ (fun _ _ h => False.elim h) (fun v M' hp => ?_)
        obtain ⟨rfl, Y', hc2, hk2, hI2⟩ := hp
        refine z_if_neZ (tgt := 59) C dL_law_54 (by decide) (by omega) (fun h54 => ?_) (fun h54 => ?_)
        · refine z_iconst C dL_law_59 ?_
          refine z_istore_n C dL_law_60 (by decide) ?_
          have hI3 : zIv r d (6 + ((i + 1 : Nat) : Int)) (zbq (i + 1)) (yS Y') := by
            rw [show (6 : Int) + ((i + 1 : Nat) : Int) = 6 + (i : Int) + 1 by omega]
            exact hI2
          exact z_kn (by omega) (by omega) (j61 Y' hk2 hI3 r.toNat 0 _ (by omega) hc2)
        · exact absurd h54 (by decide)
  refine z_new C dL_law_0 nw_L_19 ⟨by decide, by decide⟩ (fun q0 hq0 => ?_)
  refine z_dup C dL_law_3 rfl ?_
  refine z_callI C dL_law_4 lk_L_103 mw_X8_init rfl mi_X8_init (k_X8_init (va_up_self _ _ _)) rfl (by first | decide | exact Nat.le_of_ble_eq_true rfl) ⟨by decide, by decide, by decide, by decide⟩ (fun _ _ h => False.elim h) (fun v M' hp => ?_)
  obtain ⟨rfl, U, rfl, hU, fU, hc4⟩ := hp
  obtain ⟨M1, rfl⟩ : ∃ M1 : zM, M1 = M' := ⟨M', rfl⟩
  refine z_astore_n C dL_law_7 (by decide) ?_
  refine z_aload_n C dL_law_8 rfl ?_
  refine z_aload_n C dL_law_9 rfl ?_
  refine z_callS C dL_law_10 lk_L_104 mw_L_text mst_L_text (k_L_text) rfl (by first | decide | exact Nat.le_of_ble_eq_true rfl) ⟨by decide, by decide, by decide, by decide⟩ (fun _ _ h => False.elim h) (fun v M' hp => ?_)
  obtain ⟨b, u, x, r, d, y, kq, rfl, hS, hb, hu, hN, hxl, hPx, hr, hd, hy, hkq⟩ := hp
  have hc5 := (hc4.up (x := M' b) (hc4.no hb)).up (x := M' u) (hc4.no hu)
  have hS5 : hSg γ (va_up (va_up M1 b (M' b)) u (M' u)) b u x := hS.to (by
    by_cases e : b = u
    · rw [e, va_up_self]
    · rw [va_up_ne _ _ e, va_up_self]) (va_up_self _ _ _)
  refine z_mono (M0 := va_up (va_up M1 b (M' b)) u (M' u)) (fun H hH => ⟨hH.1, fun a z hz => hH.2 a z (by
    by_cases e : a = u
    · rw [e, va_up_self] at hz
      rw [e]
      exact hz
    · rw [va_up_ne _ _ e] at hz
      by_cases e2 : a = b
      · rw [e2, va_up_self] at hz
        rw [e2]
        exact hz
      · rw [va_up_ne _ _ e2] at hz
        exact hN a z hz)⟩) ?_
  refine z_callS C dL_law_13 lk_L_107 mw_L_says mst_L_says (k_L_says hc5 zY0_ok hS5 (by omega) rfl (hc4.no hb) (hc4.no hu)) rfl (by first | decide | exact Nat.le_of_ble_eq_true rfl) ⟨by decide, by decide, by decide, by decide⟩ (fun _ _ h => False.elim h) (fun v M' hp => ?_)
  obtain ⟨rfl, fw, hc6, hfw⟩ := hp
  obtain ⟨S, hIS, hzp⟩ := hPx.fin (by omega) hfw
  have hzp1 : (zpA (yIf (ySI zY0 fw x.length)) (yIn (ySI zY0 fw x.length)) 501 zS0 0) = (0, -1, S, (x.length : Int)) := hzp
  have hk6 : yOk (ySI zY0 fw x.length) := ok_ySI zY0_ok _ _
  have hq6 : (q_load (ySI zY0 fw x.length)).1 = 0 := by
    unfold q_load
    rw [hzp1, if_pos rfl]
  have hyS : yS (y_load (ySI zY0 fw x.length)) = S := by
    unfold y_load
    rw [hzp1, if_pos rfl]
    rfl
  have hyE : yEc (y_load (ySI zY0 fw x.length)) = 0 := by
    unfold y_load
    rw [hzp1, if_pos rfl]
    rfl
  have hqr : (q_load (ySI zY0 fw x.length)).2 = r := by
    unfold q_load
    rw [hzp1, if_pos rfl]
    exact hIS.1.1
  have hk7 := ok_load hc6 hk6
  refine z_aload_n C dL_law_16 rfl ?_
  refine z_callSH C dL_law_17 lk_L_111 mwZ_loaded mst_L_loaded (k_L_loaded hc6 hk6 hq6) rfl (by first | decide | exact Nat.le_of_ble_eq_true rfl) ⟨by decide, by decide, by decide, by decide⟩ (fun _ _ h => False.elim h) (fun v M' hp => ?_)
  obtain ⟨⟨-, hc7⟩, -, rfl⟩ := hp
  rw [hqr]
  obtain ⟨fs1, hM1⟩ := hc7.ok0
  refine z_aload_n C dL_law_20 rfl ?_
  refine z_callV C dL_law_21 lk_L_78 mw_X8_readerCount mi_X8_readerCount ms_X8_readerCount rfl hM1 (k_I_readerCount hc7 hk7) rfl (by first | decide | exact Nat.le_of_ble_eq_true rfl) ⟨by decide, by decide, by decide, by decide⟩ (fun _ _ h => False.elim h) (fun v M' hp => ?_)
  obtain ⟨rfl, rfl⟩ := hp
  rw [hyS, hIS.1.1]
  refine z_icmp_neZ (tgt := 34) C dL_law_24 (by decide) (by omega) (by omega) (fun h24 => ?_) (fun h24 => ?_)
  · exact absurd rfl h24
  · refine z_aload_n C dL_law_27 rfl ?_
    refine z_callV C dL_law_28 lk_L_115 mw_X8_errorCode mi_X8_errorCode ms_X8_errorCode rfl hM1 (k_X8_errorCode hc7 hk7) rfl (by first | decide | exact Nat.le_of_ble_eq_true rfl) ⟨by decide, by decide, by decide, by decide⟩ (fun _ _ h => False.elim h) (fun v M' hp => ?_)
    obtain ⟨⟨-, hc8⟩, -, hv⟩ := hp
    obtain rfl : v = some (.int (zi 0)) := by rw [← hyE]; exact hv
    refine z_if_eqZ (tgt := 36) C dL_law_31 (by decide) (by omega) (fun h31 => ?_) (fun h31 => ?_)
    · refine z_bipush C dL_law_36 (by decide) ?_
      refine z_istore_n C dL_law_38 (by decide) ?_
      have hI8 : zIv r d (6 + ((0 : Nat) : Int)) (zbq 0) (yS (y_load (ySI zY0 fw x.length))) := by
        rw [hyS]
        exact hIS.mono (by omega) (by show y ≤ 6; omega)
      exact j39 U r d hr hd 10 0 _ _ none rfl hc8 hk7 hI8
    · exact absurd rfl h31

