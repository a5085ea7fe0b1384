/-! the model parses the whole text -/
section ZM3
variable {p : Program} {l : Launch} {e : Env} {R : Room} {s : State} {m : MethodId} {args : Array Value} {below : List Frame} {meth : Method} {c : Code} {γ : zG} {cc : ByteArray} {nL : Nat} {ret : Option FieldType} {own : String} {xt : List ExceptionTableEntry} {Q : State → Prop} {M : zM} {k n pc : Nat} {L : zL} {st : List Value}
theorem z_ldcwS (C : zC p l s m args meth c γ cc nL ret own xt) {is i : Nat} {text : String} (hs : zStrs[i]? = some (own, is, text)) (hd : decode cc pc = .ok (.ldc_w is, 3)) (kk : zAW p l e R s m args below meth c γ nL Q M k n (pc + 3) L (.ref (γ.2.2.2.1 (i % 30)) :: st)) : zAW p l e R s m args below meth c γ nL Q M k n pc L st := by
  intro H locs ls hH hl hL hz T hT X
  obtain ⟨t, a1, b1⟩ := kk H locs ls hH hl hL hz T hT X
  have hZ := C.ev.2.2.2.1 i _ hs
  exact ⟨t, X.ldcStringW C.ex (own := own) (text := text) (index := is) (a := γ.2.2.2.1 (i % 30)) C.ow hZ.1 hZ.2 (g := F0 m pc ls st) rfl (by rw [C.by]; exact hd) t a1, b1⟩
end ZM3
theorem zpS_0 (f : Nat → Int) (n : Int) (S : zSt) (e : Int) : zpS f n S e = zif (zWd f n 1 (ztS f n e) (ztE f n e)) (zpR f n S e) (zif (zWd f n 5 (ztS f n e) (ztE f n e)) (zpD f n S e) (zif (zWd f n 6 (ztS f n e) (ztE f n e)) (zpT f n S e) (zif (zWd f n 7 (ztS f n e) (ztE f n e)) (zpY f n S e) (1, ztS f n e, S, e)))) := rfl
/-- what the parser leaves of the whole text -/
def mRD2 (γ : zG) (A : Nat → Nat) (M M' : zM) (F f : Nat → Int) (n : Int) (q : zPR) : Prop := mF A M M' [0, 2] ∧ ∃ F', mKp [20, 21, 22, 23, 24, 25, 26] F F' ∧ M' (A 0) = some (mOb A F') ∧ (q.1 = 0 ∧ F' 25 = 0 ∧ F' 26 = -1 ∧ (∃ g', M' (A 2) = some (zar γ 5987 g') ∧ mSt g' q.2.2.1 ∧ zOk q.2.2.1) ∨ q.1 ≠ 0 ∧ F' 25 = q.1 ∧ F' 26 = q.2.1 ∧ (1 ≤ q.1 ∧ q.1 ≤ 5) ∧ ∃ g', M' (A 2) = some (zar γ 5987 g') ∧ ∀ j, zR (g' j))
set_option maxHeartbeats 4000000 in
set_option maxRecDepth 100000 in
theorem k_X9_read {l : Launch} {γ : zG} {M : zM} {A : Nat → Nat} {F f g0 : Nat → Int} {n : Int} (hA : mIA A) (hO : M (A 0) = some (mOb A F)) (hI : M (A 11) = some (zar γ 500 f)) (hn : F 19 = n) (hB : hBo f n) (hM : M (A 2) = some (zar γ 5987 g0)) (hg0 : ∀ j, zR (g0 j)) :
    zCon l γ yX9_read cX9_read 2 none [.ref (A 0)] M 8 194 0 0 (fun v' M' => v' = none ∧ mRD2 γ A M M' F f n (zpA f n 501 zS0 0)) (fun _ _ => False) := by
  have bb := hB.1
  obtain ⟨w1, w2, w3, w4, w5, w6, w7⟩ := zWj_of
  generalize hq : zpA f n 501 zS0 0 = q
  refine zEnter [some (.ref (A 0)), none] (by decide +kernel) rfl rfl (Nat.le_of_ble_eq_true rfl) ?_
  intro p e s m args below meth c Q C hin hQ
  have bad : ∀ (M1 : zM) (F1 : Nat → Int) (x1 : Option Value), mF A M M1 [0, 2] → mKp [20, 21, 22, 23, 24, 25, 26] F F1 → M1 (A 0) = some (mOb A F1) → q.1 ≠ 0 → F1 25 = q.1 → F1 26 = q.2.1 → (1 ≤ q.1 ∧ q.1 ≤ 5) → (∃ g', M1 (A 2) = some (zar γ 5987 g') ∧ ∀ j, zR (g' j)) → zAW p l e { frames := 8, cells := 0, slots := 0, locals := 194 } s m args below meth c γ 2 Q M1 0 0 41 [some (.ref (A 0)), x1] [] := by
    intro M1 F1 x1 hf hp1 hO1 hn0 h25 h26 hr hg
    refine z_aload_n C dX9_read_41 rfl ?_
    refine z_getM C dX9_read_42 fl_X9_199 (by first | assumption | ((repeat (first | assumption | exact va_up_self _ _ _ | refine (va_up_ne _ _ (by first | assumption | exact hA.ne (by decide) | exact hA.ne (by omega))).trans ?_)); done)) rfl h25 ?_
    refine z_if_neZ (tgt := 144) C dX9_read_45 (by decide) (by omega) (fun h45 => ?_) (fun h45 => ?_)
    · refine z_vret C hQ dX9_read_144 (by decide) (by decide) ?_
      exact ⟨rfl, hf, F1, hp1, hO1, .inr ⟨hn0, h25, h26, hr, hg⟩⟩
    · exact absurd h45 hn0
  have loop : ∀ (t : Nat) (M1 : zM) (F1 g1 : Nat → Int) (e0 : Int) (S1 : zSt) (x1 : Option Value), 501 ≤ e0 + t → mF A M M1 [0, 2] → mKp [20, 21, 22, 23, 24, 25, 26] F F1 → F1 25 = 0 → F1 26 = -1 → mPs γ M1 A F1 f n e0 → M1 (A 2) = some (zar γ 5987 g1) → mSt g1 S1 → zOk S1 → zpA f n t S1 e0 = q → zAW p l e { frames := 8, cells := 0, slots := 0, locals := 194 } s m args below meth c γ 2 Q M1 0 0 41 [some (.ref (A 0)), x1] [] := by
    intro t
    induction t with
    | zero =>
      intro M1 F1 g1 e0 S1 x1 ht hf hp1 h25 h26 hP hg hS hOk hz
      have := hP.2.2.2.2.1
      omega
    | succ t ih =>
      intro M1 F1 g1 e0 S1 x1 ht hf hp1 h25 h26 hP hg hS hOk hz
      have hO1 := hP.1
      have re := hP.2.2.2.2.1
      have h22 := hP.2.2.2.2.2.2.2.1
      have rk := mtk_3 (ztK_rng f n e0)
      have is := fun j (hj : zWj j) => @k_X9_is l γ M1 A F1 f n e0 j hP.1 hP.2.1 hB re hP.2.2.2.2.2 hj
      have ok := fun w => zpS_ok (f := f) (n := n) (e := e0) hB re hOk w
      unfold zpA at hz
      have nxt : ∀ (M2 : zM), mSP γ A M1 M2 F1 f n (zpS f n S1 e0) → ztK f n e0 ≠ 0 → zAW p l e { frames := 8, cells := 0, slots := 0, locals := 194 } s m args below meth c γ 2 Q M2 0 0 41 [some (.ref (A 0)), x1] [] := by
        intro M2 h hk0
        obtain ⟨f2, F2, p2, h⟩ := h
        rw [if_neg hk0] at hz
        have f3 := hf.tr (K := [0, 2]) f2 ⟨rfl, rfl⟩
        have p3 := hp1.tr (K := [20, 21, 22, 23, 24, 25, 26]) p2 ⟨rfl, rfl⟩
        rcases h with ⟨a1, a2, a3, a4, g', a5, a6⟩ | ⟨a1, a2, a3, a4, ⟨e', a5⟩, a6⟩
        · rw [if_pos a1] at hz
          obtain ⟨b1, b2, b3⟩ := ok a1
          exact ih M2 F2 g' _ _ x1 (by omega) f3 p3 a2 a3 a4 a5 a6 b1 hz
        · rw [if_neg a1] at hz
          rw [hz] at a1 a2 a3 a4
          exact bad M2 F2 x1 f3 p3 a5.1 a1 a2 a3 a4 a6
      have yr : ¬ zWd f n 1 (ztS f n e0) (ztE f n e0) → ¬ zWd f n 5 (ztS f n e0) (ztE f n e0) → ¬ zWd f n 6 (ztS f n e0) (ztE f n e0) → ztK f n e0 ≠ 0 → zAW p l e { frames := 8, cells := 0, slots := 0, locals := 194 } s m args below meth c γ 2 Q M1 0 0 106 [some (.ref (A 0)), x1] [] := by
        intro n1 n5 n6 hk0
        have hzs := zpS_0 f n S1 e0
        rw [zif_f n1, zif_f n5, zif_f n6] at hzs
        have h0 : mGS γ A M1 M1 F1 F1 f n e0 := ⟨mF.rf, mKp.rf, h25, h26, hP⟩
        have E1 := ztE_rng hB re
        have S2 := ztS_rng (f := f) re
        have rn1 : ∀ M2, mF A M1 M2 [0] → M2 (A 2) = some (zar γ 5987 g1) := fun M2 h => h.at hA (.of rfl) hg
        have eNo : ∀ (M2 : zM) (F2 : Nat → Int), mES γ A M1 M2 F1 F2 f n (zpS f n S1 e0) → zAW p l e { frames := 8, cells := 0, slots := 0, locals := 194 } s m args below meth c γ 2 Q M2 0 0 119 [some (.ref (A 0)), x1] [] := by
          intro M2 F2 h
          obtain ⟨z1, z2, z3, z4, z5, y1, z6⟩ := id h
          have hO2 := z6.1
          refine z_aload_n C dX9_read_119 rfl ?_
          refine z_callV C dX9_read_120 lk_X9_234 mw_X9_next mi_X9_next ms_X9_next rfl (by first | assumption | ((repeat (first | assumption | exact va_up_self _ _ _ | refine (va_up_ne _ _ (by first | assumption | exact hA.ne (by decide) | exact hA.ne (by omega))).trans ?_)); done)) (k_X9_next hA z6 h.c) rfl (by first | decide | exact Nat.le_of_ble_eq_true rfl) ⟨by decide, by decide, by decide, by decide⟩ (fun _ _ h => False.elim h) (fun v M' hp => ?_)
          obtain ⟨rfl, f176, F3, p176, c176⟩ := hp
          have h2 := h.nx f176 p176 c176
          obtain ⟨a1, a2, a3, a4, a5, y2, a6⟩ := id h2
          have hO3 := a6.1
          refine z_aload_n C dX9_read_123 rfl ?_
          refine z_callV C dX9_read_124 lk_X9_253 mw_X9_finish mi_X9_finish ms_X9_finish rfl (by first | assumption | ((repeat (first | assumption | exact va_up_self _ _ _ | refine (va_up_ne _ _ (by first | assumption | exact hA.ne (by decide) | exact hA.ne (by omega))).trans ?_)); done)) (k_X9_finish hA a6 h2.c) rfl (by first | decide | exact Nat.le_of_ble_eq_true rfl) ⟨by decide, by decide, by decide, by decide⟩ (fun _ _ h => False.elim h) (fun v M' hp => ?_)
          obtain ⟨rfl, f180, F4, p180, c180⟩ := hp
          have h3 := h2.fn f180 p180 c180
          have n0 := h3.n0
          have rc := h3.c
          obtain ⟨b1, b2, b3, b4, b5, y3, b6⟩ := id h3
          refine z_aload_n C dX9_read_127 rfl ?_
          refine z_getM C dX9_read_128 fl_X9_199 b6.1 rfl rfl ?_
          refine z_if_neZ (tgt := 41) C dX9_read_131 (by decide) (by omega) (fun h131 => ?_) (fun h131 => ?_)
          · exact nxt _ (h3.sp hA hg hS.1) hk0
          · exact absurd h131 n0
        have gNo : ∀ (M2 : zM) (F2 : Nat → Int), zpY f n S1 e0 = zpS f n S1 e0 → mGS γ A M1 M2 F1 F2 f n e0 → zAW p l e { frames := 8, cells := 0, slots := 0, locals := 194 } s m args below meth c γ 2 Q M2 0 0 119 [some (.ref (A 0)), x1] [] := by
          intro M2 F2 hq2 h
          obtain ⟨z1, z2, z3, z4, z6⟩ := id h
          have hO2 := z6.1
          unfold zpY at hq2
          refine z_aload_n C dX9_read_119 rfl ?_
          refine z_callV C dX9_read_120 lk_X9_234 mw_X9_next mi_X9_next ms_X9_next rfl (by first | assumption | ((repeat (first | assumption | exact va_up_self _ _ _ | refine (va_up_ne _ _ (by first | assumption | exact hA.ne (by decide) | exact hA.ne (by omega))).trans ?_)); done)) (k_X9_next hA z6 h.c) rfl (by first | decide | exact Nat.le_of_ble_eq_true rfl) ⟨by decide, by decide, by decide, by decide⟩ (fun _ _ h => False.elim h) (fun v M' hp => ?_)
          obtain ⟨rfl, f176, F3, p176, c176⟩ := hp
          have h2 := h.nx f176 p176 c176
          obtain ⟨a1, a2, a3, a4, a6⟩ := id h2
          have hO3 := a6.1
          refine z_aload_n C dX9_read_123 rfl ?_
          refine z_callV C dX9_read_124 lk_X9_253 mw_X9_finish mi_X9_finish ms_X9_finish rfl (by first | assumption | ((repeat (first | assumption | exact va_up_self _ _ _ | refine (va_up_ne _ _ (by first | assumption | exact hA.ne (by decide) | exact hA.ne (by omega))).trans ?_)); done)) (k_X9_finish hA a6 h2.c) rfl (by first | decide | exact Nat.le_of_ble_eq_true rfl) ⟨by decide, by decide, by decide, by decide⟩ (fun _ _ h => False.elim h) (fun v M' hp => ?_)
          obtain ⟨rfl, f180, F4, p180, c180⟩ := hp
          rcases h2.fn (q := zpS f n S1 e0) (S := S1) (e := e0) f180 p180 c180 (fun w => by rw [if_neg w] at hq2; exact hq2.symm) with ⟨c1, h3⟩ | ⟨c1, h3⟩
          · rw [if_pos c1] at hq2
            obtain ⟨b1, b2, b3, b4, b6⟩ := id h3
            have hO4 := b6.1
            have hM4 := rn1 _ b1
            refine z_aload_n C dX9_read_127 rfl ?_
            refine z_getM C dX9_read_128 fl_X9_199 b6.1 rfl b3 ?_
            refine z_if_neZ (tgt := 41) C dX9_read_131 (by decide) (by omega) (fun h131 => ?_) (fun h131 => ?_)
            · exact absurd rfl h131
            · refine z_aload_n C dX9_read_134 rfl ?_
              refine z_get C dX9_read_135 fl_X9_13 hO4 rfl ?_
              refine z_callS C dX9_read_138 lk_X9_282 mw_X9_passYear mst_X9_passYear (k_X9_passYear hM4 hS hOk) rfl (by first | decide | exact Nat.le_of_ble_eq_true rfl) ⟨by decide, by decide, by decide, by decide⟩ (fun _ _ h => False.elim h) (fun v M' hp => ?_)
              obtain ⟨rfl, f138, g', a138, s138⟩ := hp
              refine z_goto (tgt := 41) C dX9_read_141 (by decide) ?_
              exact nxt _ (h3.sp hA (f138 : mF A _ _ [2]) a138 (by rw [← hq2]) (by rw [← hq2]) (by rw [← hq2]; exact s138)) hk0
          · obtain ⟨b1, b2, b3, b4, b5, y3, b6⟩ := id h3
            have n0 := h3.n0
            have rc := h3.c
            refine z_aload_n C dX9_read_127 rfl ?_
            refine z_getM C dX9_read_128 fl_X9_199 b6.1 rfl rfl ?_
            refine z_if_neZ (tgt := 41) C dX9_read_131 (by decide) (by omega) (fun h131 => ?_) (fun h131 => ?_)
            · exact nxt _ (h3.sp hA hg hS.1) hk0
            · exact absurd h131 n0
        refine z_aload_n C dX9_read_106 rfl ?_
        refine z_aload_n C dX9_read_107 rfl ?_
        refine z_ldcwS (i := 37) C rfl dX9_read_108 ?_
        refine z_callV C dX9_read_111 lk_X9_245 mw_X9_is mi_X9_is ms_X9_is rfl (by first | assumption | ((repeat (first | assumption | exact va_up_self _ _ _ | refine (va_up_ne _ _ (by first | assumption | exact hA.ne (by decide) | exact hA.ne (by omega))).trans ?_)); done)) (is 7 w7) rfl (by first | decide | exact Nat.le_of_ble_eq_true rfl) ⟨by decide, by decide, by decide, by decide⟩ (fun _ _ h => False.elim h) (fun v M' hp => ?_)
        obtain ⟨r111, rfl, rfl, q111⟩ := hp
        have s111 := q111.rng
        refine z_iconst C dX9_read_114 ?_
        refine z_callV C dX9_read_115 lk_X9_231 mw_X9_check mi_X9_check ms_X9_check rfl (by first | assumption | ((repeat (first | assumption | exact va_up_self _ _ _ | refine (va_up_ne _ _ (by first | assumption | exact hA.ne (by decide) | exact hA.ne (by omega))).trans ?_)); done)) (k_X9_check hA hO1 (r := r111) (what := 1) (by omega) (by omega) h0.c) rfl (by first | decide | exact Nat.le_of_ble_eq_true rfl) ⟨by decide, by decide, by decide, by decide⟩ (fun _ _ h => False.elim h) (fun v M' hp => ?_)
        obtain ⟨b115, rfl, f115, a115⟩ := hp
        refine z_pop C dX9_read_118 rfl ?_
        rcases q111 with ⟨rfl, w⟩ | ⟨rfl, w⟩
        · rw [zif_t w] at hzs
          exact gNo _ F1 hzs.symm (h0.ok hA f115 a115)
        · rw [zif_f w] at hzs
          exact eNo _ _ (h0.no hA f115 a115 (by omega) hzs)
      refine z_aload_n C dX9_read_41 rfl ?_
      refine z_getM C dX9_read_42 fl_X9_199 (by first | assumption | ((repeat (first | assumption | exact va_up_self _ _ _ | refine (va_up_ne _ _ (by first | assumption | exact hA.ne (by decide) | exact hA.ne (by omega))).trans ?_)); done)) rfl h25 ?_
      refine z_if_neZ (tgt := 144) C dX9_read_45 (by decide) (by omega) (fun h45 => ?_) (fun h45 => ?_)
      · exact absurd rfl h45
      · refine z_aload_n C dX9_read_48 rfl ?_
        refine z_getM C dX9_read_49 fl_X9_221 (by first | assumption | ((repeat (first | assumption | exact va_up_self _ _ _ | refine (va_up_ne _ _ (by first | assumption | exact hA.ne (by decide) | exact hA.ne (by omega))).trans ?_)); done)) rfl h22 ?_
        refine z_if_eqZ (tgt := 144) C dX9_read_52 (by decide) (by omega) (fun h52 => ?_) (fun h52 => ?_)
        · refine z_vret C hQ dX9_read_144 (by decide) (by decide) ?_
          have hk0 : ztK f n e0 = 0 := rk.2.2.2.1.mp h52
          rw [if_pos hk0] at hz
          rw [← hz]
          exact ⟨rfl, hf, F1, hp1, hO1, .inl ⟨rfl, h25, h26, g1, hg, hS, hOk⟩⟩
        · refine z_aload_n C dX9_read_55 rfl ?_
          refine z_ldcwS (i := 31) C rfl dX9_read_56 ?_
          refine z_callV C dX9_read_59 lk_X9_245 mw_X9_is mi_X9_is ms_X9_is rfl (by first | assumption | ((repeat (first | assumption | exact va_up_self _ _ _ | refine (va_up_ne _ _ (by first | assumption | exact hA.ne (by decide) | exact hA.ne (by omega))).trans ?_)); done)) (is 1 w1) rfl (by first | decide | exact Nat.le_of_ble_eq_true rfl) ⟨by decide, by decide, by decide, by decide⟩ (fun _ _ h => False.elim h) (fun v M' hp => ?_)
          obtain ⟨r59, rfl, rfl, q59⟩ := hp
          have s59 := q59.rng
          refine z_if_eqZ (tgt := 72) C dX9_read_62 (by decide) (by omega) (fun h62 => ?_) (fun h62 => ?_)
          · refine z_aload_n C dX9_read_72 rfl ?_
            refine z_ldcwS (i := 35) C rfl dX9_read_73 ?_
            refine z_callV C dX9_read_76 lk_X9_245 mw_X9_is mi_X9_is ms_X9_is rfl (by first | assumption | ((repeat (first | assumption | exact va_up_self _ _ _ | refine (va_up_ne _ _ (by first | assumption | exact hA.ne (by decide) | exact hA.ne (by omega))).trans ?_)); done)) (is 5 w5) rfl (by first | decide | exact Nat.le_of_ble_eq_true rfl) ⟨by decide, by decide, by decide, by decide⟩ (fun _ _ h => False.elim h) (fun v M' hp => ?_)
            obtain ⟨r76, rfl, rfl, q76⟩ := hp
            have s76 := q76.rng
            refine z_if_eqZ (tgt := 89) C dX9_read_79 (by decide) (by omega) (fun h79 => ?_) (fun h79 => ?_)
            · refine z_aload_n C dX9_read_89 rfl ?_
              refine z_ldcwS (i := 36) C rfl dX9_read_90 ?_
              refine z_callV C dX9_read_93 lk_X9_245 mw_X9_is mi_X9_is ms_X9_is rfl (by first | assumption | ((repeat (first | assumption | exact va_up_self _ _ _ | refine (va_up_ne _ _ (by first | assumption | exact hA.ne (by decide) | exact hA.ne (by omega))).trans ?_)); done)) (is 6 w6) rfl (by first | decide | exact Nat.le_of_ble_eq_true rfl) ⟨by decide, by decide, by decide, by decide⟩ (fun _ _ h => False.elim h) (fun v M' hp => ?_)
              obtain ⟨r93, rfl, rfl, q93⟩ := hp
              have s93 := q93.rng
              refine z_if_eqZ (tgt := 106) C dX9_read_96 (by decide) (by omega) (fun h96 => ?_) (fun h96 => ?_)
              · exact yr (q59.f h62) (q76.f h79) (q93.f h96) (fun w => h52 (rk.2.2.2.1.mpr w))
              · refine z_aload_n C dX9_read_99 rfl ?_
                refine z_callV C dX9_read_100 lk_X9_277 mw_X9_readTrain mi_X9_readTrain ms_X9_readTrain rfl (by first | assumption | ((repeat (first | assumption | exact va_up_self _ _ _ | refine (va_up_ne _ _ (by first | assumption | exact hA.ne (by decide) | exact hA.ne (by omega))).trans ?_)); done)) (k_X9_readTrain hA hP h25 h26 hg hS hOk) rfl (by first | decide | exact Nat.le_of_ble_eq_true rfl) ⟨by decide, by decide, by decide, by decide⟩ (fun _ _ h => False.elim h) (fun v M' hp => ?_)
                obtain ⟨rfl, h100⟩ := hp
                refine z_goto (tgt := 41) C dX9_read_103 (by decide) ?_
                refine nxt _ ?_ (fun w => h52 (rk.2.2.2.1.mpr w))
                rw [zpS_0, zif_f (q59.f h62), zif_f (q76.f h79), zif_t (q93.t h96)]
                exact h100
            · refine z_aload_n C dX9_read_82 rfl ?_
              refine z_callV C dX9_read_83 lk_X9_272 mw_X9_readDocument mi_X9_readDocument ms_X9_readDocument rfl (by first | assumption | ((repeat (first | assumption | exact va_up_self _ _ _ | refine (va_up_ne _ _ (by first | assumption | exact hA.ne (by decide) | exact hA.ne (by omega))).trans ?_)); done)) (k_X9_readDocument hA hP h25 h26 hg hS hOk) rfl (by first | decide | exact Nat.le_of_ble_eq_true rfl) ⟨by decide, by decide, by decide, by decide⟩ (fun _ _ h => False.elim h) (fun v M' hp => ?_)
              obtain ⟨rfl, h83⟩ := hp
              refine z_goto (tgt := 41) C dX9_read_86 (by decide) ?_
              refine nxt _ ?_ (fun w => h52 (rk.2.2.2.1.mpr w))
              rw [zpS_0, zif_f (q59.f h62), zif_t (q76.t h79)]
              exact h83
          · refine z_aload_n C dX9_read_65 rfl ?_
            refine z_callV C dX9_read_66 lk_X9_267 mw_X9_readReader mi_X9_readReader ms_X9_readReader rfl (by first | assumption | ((repeat (first | assumption | exact va_up_self _ _ _ | refine (va_up_ne _ _ (by first | assumption | exact hA.ne (by decide) | exact hA.ne (by omega))).trans ?_)); done)) (k_X9_readReader hA hP h25 h26 hg hS hOk) rfl (by first | decide | exact Nat.le_of_ble_eq_true rfl) ⟨by decide, by decide, by decide, by decide⟩ (fun _ _ h => False.elim h) (fun v M' hp => ?_)
            obtain ⟨rfl, h66⟩ := hp
            refine z_goto (tgt := 41) C dX9_read_69 (by decide) ?_
            refine nxt _ ?_ (fun w => h52 (rk.2.2.2.1.mpr w))
            rw [zpS_0, zif_t (q59.t h62)]
            exact h66
  have clr : ∀ (t : Nat) (M1 : zM) (F1 g1 : Nat → Int) (k : Int), 5987 - k = t → 0 ≤ k ∧ k ≤ 5987 → mF A M M1 [0, 2] → mKp [20, 21, 22, 23, 24, 25, 26] F F1 → F1 25 = 0 → F1 26 = -1 → F1 20 = 0 → M1 (A 0) = some (mOb A F1) → M1 (A 2) = some (zar γ 5987 g1) → (∀ j, zR (g1 j)) → (∀ i : Nat, (i : Int) < k → g1 i = 0) → zAW p l e { frames := 8, cells := 0, slots := 0, locals := 194 } s m args below meth c γ 2 Q M1 0 0 17 [some (.ref (A 0)), some (.int (zi k))] [] := by
    intro t
    induction t with
    | zero =>
      intro M1 F1 g1 k ht hk hf hp1 h25 h26 h20 hO1 hM1 hg1 hz
      obtain rfl : k = 5987 := by omega
      have hI1 := hf.at hA (.of rfl) hI
      have n1 : F1 19 = n := (hp1 19 (by decide)).trans hn
      refine z_iload_n C dX9_read_17 rfl ?_
      refine z_sipush C dX9_read_18 (by decide) ?_
      refine z_icmp_geZ (tgt := 37) C dX9_read_21 (by decide) (by omega) (by omega) (fun h21 => ?_) (fun h21 => ?_)
      · refine z_aload_n C dX9_read_37 rfl ?_
        refine z_callV C dX9_read_38 lk_X9_228 mw_X9_advance mi_X9_advance ms_X9_advance rfl (by first | assumption | ((repeat (first | assumption | exact va_up_self _ _ _ | refine (va_up_ne _ _ (by first | assumption | exact hA.ne (by decide) | exact hA.ne (by omega))).trans ?_)); done)) (k_X9_advance hA hO1 hI1 n1 hB h20 (by omega)) rfl (by first | decide | exact Nat.le_of_ble_eq_true rfl) ⟨by decide, by decide, by decide, by decide⟩ (fun _ _ h => False.elim h) (fun v M' hp => ?_)
        obtain ⟨rfl, a1, F2, a2, a3, a4⟩ := hp
        refine loop 501 _ F2 g1 0 zS0 _ (by omega) (hf.tr a1 ⟨rfl, rfl⟩) (hp1.tr a3 ⟨rfl, rfl⟩) ((a3 25 (by decide)).trans h25) ((a3 26 (by decide)).trans h26) ⟨a2, a1.at hA (.of rfl) hI1, (a3 19 (by decide)).trans n1, hB, by omega, a4⟩ (a1.at hA (.of rfl) hM1) ?_ ?_ hq
        · exact ⟨hg1, by rw [hz 0 (by omega)]; rfl, hz 1 (by omega), hz 2 (by omega), fun d hd => absurd (show (d : Int) < 0 from hd) (by omega), fun r hr => absurd (show (r : Int) < 0 from hr) (by omega)⟩
        · exact ⟨⟨⟨by decide, by decide⟩, by decide, by decide⟩, fun d hd => absurd (show (d : Int) < 0 from hd) (by omega), fun r hr => absurd (show (r : Int) < 0 from hr) (by omega)⟩
      · exact absurd h21 (by omega)
    | succ t ih =>
      intro M1 F1 g1 k ht hk hf hp1 h25 h26 h20 hO1 hM1 hg1 hz
      refine z_iload_n C dX9_read_17 rfl ?_
      refine z_sipush C dX9_read_18 (by decide) ?_
      refine z_icmp_geZ (tgt := 37) C dX9_read_21 (by decide) (by omega) (by omega) (fun h21 => ?_) (fun h21 => ?_)
      · exact absurd h21 (by omega)
      · refine z_aload_n C dX9_read_24 rfl ?_
        refine z_get C dX9_read_25 fl_X9_13 (by first | assumption | ((repeat (first | assumption | exact va_up_self _ _ _ | refine (va_up_ne _ _ (by first | assumption | exact hA.ne (by decide) | exact hA.ne (by omega))).trans ?_)); done)) rfl ?_
        refine z_iload_n C dX9_read_28 rfl ?_
        refine z_iconst C dX9_read_29 ?_
        refine z_astN C dX9_read_30 (by first | assumption | ((repeat (first | assumption | exact va_up_self _ _ _ | refine (va_up_ne _ _ (by first | assumption | exact hA.ne (by decide) | exact hA.ne (by omega))).trans ?_)); done)) (by omega) (by omega) (by assumption) (by omega) (fun hr30 => ?_)
        refine z_iincZ C dX9_read_31 rfl (by decide) ?_
        refine z_goto (tgt := 17) C dX9_read_34 (by decide) ?_
        refine ih _ F1 _ (k + 1) (by omega) (by omega) (hf.up rfl) hp1 h25 h26 h20 (by rw [va_up_ne _ _ (hA.ne (by decide))]; exact hO1) (va_up_self _ _ _) hr30 (fun i hi => ?_)
        unfold va_up
        split
        · rfl
        · exact hz i (by omega)
  refine z_aload_n C dX9_read_0 rfl ?_
  refine z_iconst C dX9_read_1 ?_
  refine z_putM C dX9_read_2 fl_X9_199 (by first | assumption | ((repeat (first | assumption | exact va_up_self _ _ _ | refine (va_up_ne _ _ (by first | assumption | exact hA.ne (by decide) | exact hA.ne (by omega))).trans ?_)); done)) rfl ?_
  refine z_aload_n C dX9_read_5 rfl ?_
  refine z_iconst C dX9_read_6 ?_
  refine z_putM C dX9_read_7 fl_X9_45 (by first | assumption | ((repeat (first | assumption | exact va_up_self _ _ _ | refine (va_up_ne _ _ (by first | assumption | exact hA.ne (by decide) | exact hA.ne (by omega))).trans ?_)); done)) rfl ?_
  refine z_aload_n C dX9_read_10 rfl ?_
  refine z_iconst C dX9_read_11 ?_
  refine z_putM C dX9_read_12 fl_X9_206 (by first | assumption | ((repeat (first | assumption | exact va_up_self _ _ _ | refine (va_up_ne _ _ (by first | assumption | exact hA.ne (by decide) | exact hA.ne (by omega))).trans ?_)); done)) rfl ?_
  refine z_iconst C dX9_read_15 ?_
  refine z_istore_n C dX9_read_16 (by decide) ?_
  refine clr 5987 _ _ g0 0 (by omega) (by omega) (((mF.rf.up rfl).up rfl).up rfl) (((mKp.rf.up rfl).up rfl).up rfl) ?_ ?_ (va_up_self _ _ _) (va_up_self _ _ _) ?_ hg0 (fun i hi => by omega)
  · rw [va_up_ne _ _ (by decide), va_up_ne _ _ (by decide)]
    exact va_up_self _ _ _
  · rw [va_up_ne _ _ (by decide)]
    exact va_up_self _ _ _
  · rw [va_up_ne _ _ (hA.ne (by decide)), va_up_ne _ _ (hA.ne (by decide)), va_up_ne _ _ (hA.ne (by decide))]
    exact hM

