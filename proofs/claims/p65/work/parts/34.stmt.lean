section ZR11
variable {p : Program} {l : Launch} {e : Env} {R : Room} {s : State} {m : MethodId} {args : Array Value} {below : List Frame} {meth : Method} {c : Code} {γ : zG} {cc : ByteArray} {nL : Nat} {ret : Option FieldType} {own : String} {xt : List ExceptionTableEntry} {Q : State → Prop} {M : zM} {k n pc mc ms : Nat} {L : zL} {st : List Value}
theorem z_aload_nN (C : zC p l s m args meth c γ cc nL ret own xt) {i : Fin 4} (hd : decode cc pc = .ok (.aload_n i, 1)) (hg : zg L (i : Nat) = some .null) (kk : zAW p l e R s m args below meth c γ nL Q M k n (pc + 1) L (.null :: st)) : zAW p l e R s m args below meth c γ nL Q M k n pc L st := by
  intro H locs ls hH hl hL hz
  exact lv_aload_nN C.ex C.by hd rfl (hL.at hg) (kk H locs ls hH hl hL hz)
theorem z_aloadN (C : zC p l s m args meth c γ cc nL ret own xt) {i : Nat} (hd : decode cc pc = .ok (.aload i, 2)) (hg : zg L i = some .null) (kk : zAW p l e R s m args below meth c γ nL Q M k n (pc + 2) L (.null :: st)) : zAW p l e R s m args below meth c γ nL Q M k n pc L st := by
  intro H locs ls hH hl hL hz
  exact lv_aloadN C.ex C.by hd (hL.at hg) (kk H locs ls hH hl hL hz)
theorem z_astore_nN (C : zC p l s m args meth c γ cc nL ret own xt) {i : Fin 4} (hd : decode cc pc = .ok (.astore_n i, 1)) (hn : (i : Nat) < nL) (kk : zAW p l e R s m args below meth c γ nL Q M k n (pc + 1) (zs1 L (i : Nat) .null) st) : zAW p l e R s m args below meth c γ nL Q M k n pc L (.null :: st) := by
  intro H locs ls hH hl hL hz
  exact lv_astore_nN C.ex C.by hd rfl hL hn rfl (fun ls1 h1 => kk H locs ls1 hH hl (zLH.of1 h1) hz)
theorem z_astoreN (C : zC p l s m args meth c γ cc nL ret own xt) {i : Nat} (hd : decode cc pc = .ok (.astore i, 2)) (hn : i < nL) (kk : zAW p l e R s m args below meth c γ nL Q M k n (pc + 2) (zs1 L i .null) st) : zAW p l e R s m args below meth c γ nL Q M k n pc L (.null :: st) := by
  intro H locs ls hH hl hL hz
  exact lv_astoreN C.ex C.by hd hL hn rfl (fun ls1 h1 => kk H locs ls1 hH hl (zLH.of1 h1) hz)
end ZR11
set_option maxHeartbeats 4000000 in
set_option maxRecDepth 100000 in
theorem k_X4_parseReader {l : Launch} {γ : zG} {M : zM} {a ta tr : Nat} {D : Nat → Nat} {S : zSt} {f : Nat → Int} {n e0 : Int} (hP : hPk γ M a ta (D 0) f n e0 0 (-1)) (hT : hBy γ M ta tr f n) (hO : hBo f n) (he : 0 ≤ e0 ∧ e0 ≤ n) (hI : zInj D) (hD : hSt γ M D S) (hk : zOk S) (ha : a ∉ zFD D) (hdt : ta ∉ zFD D ∧ tr ∉ zFD D) :
    zCon l γ yX4_parseReader cX4_parseReader 4 (some .boolean) [.ref a] M 6 128 0 0 (fun v' M' => ∃ r : Int, v' = some (.int (zi r)) ∧ zFr M M' (a :: zFD D) ∧ zPo γ M' a ta D f n (zpR f n S e0) r) (fun _ _ => False) := by
  have hDa := zD_na ha
  have hn := hO.1
  have hnt := zPt.nt hP hT
  have hP0 := hP
  unfold hPk hPt at hP0
  have hob0 := hD.ob
  have hkn := hk.1.1
  have h2 := ztE_rng hO he
  have h0 := ztS_rng (f := f) he
  have hpd : zpR f n S e0 = if 4 ≤ sRn S then (5, ztS f n e0, S, e0) else if ztK f n (ztE f n e0) ≠ 1 then (1, ztS f n (ztE f n e0), S, e0) else zif (ztE f n (ztE f n e0) - ztS f n (ztE f n e0) ≤ 4 ∧ hNm f n (ztS f n (ztE f n e0)) (ztE f n (ztE f n e0))) (if zNo S f n (ztS f n (ztE f n e0)) (ztE f n (ztE f n e0)) ≠ -1 then (3, ztS f n (ztE f n e0), S, e0) else zpR3 f n S e0 (ztE f n e0) (ztE f n (ztE f n e0)) (ztE f n (ztE f n (ztE f n e0)))) (2, ztS f n (ztE f n e0), S, e0) := rfl
  have hnx := fun M1 h1 h2 => @k_X4_next l γ M1 a ta tr (D 0) f n (ztK f n e0) (ztS f n e0) (ztE f n e0) 0 (-1) h1 h2 hO (by omega)
  have hPx : hPt γ M a ta (D 0) (ztK f n e0) (ztS f n e0) (ztE f n e0) 0 (-1) := hP
  generalize ztE f n e0 = e1 at hpd h2 hP0 hnx hPx
  have h3 := ztS_rng (f := f) (n := n) (e := e1) (by omega)
  have h4 := ztE_rng hO (e := e1) (by omega)
  have h5 := ztS_rng (f := f) (n := n) (e := ztE f n e1) (by omega)
  have h6 := ztE_rng hO (e := ztE f n e1) (by omega)
  have hmr := zMw_rng f n (ztS f n (ztE f n e1)) (ztE f n (ztE f n e1))
  have hkr : 0 ≤ ztK f n e1 ∧ ztK f n e1 ≤ 3 := zkd_rng _
  refine zEnter [some (.ref a), none, none, none] (by decide +kernel) rfl rfl (Nat.le_of_ble_eq_true rfl) ?_
  intro p e s m args below meth c Q C hin hQ
  have fin78 : ∀ (M1 : zM) (x : Nat), zFr M M1 [a] → hPk γ M1 a ta (D 0) f n e1 0 (-1) → zpR f n S e0 = (3, ztS f n e1, S, e0) → zAW p l e { frames := 6, cells := 0, slots := 0, locals := 128 } s m args below meth c γ 4 Q M1 0 0 78 [some (.ref a), none, none, none] [.ref x] := by
    intro M1 x f1 hP1 hq
    have hP2 := hP1
    unfold hPk hPt at hP2
    refine z_ifnull C dX4_parseReader_78 ?_
    refine z_aload_n C dX4_parseReader_81 rfl ?_
    refine z_iconst C dX4_parseReader_82 ?_
    refine z_callV C dX4_parseReader_83 lk_X4_63 mw_X4_fail mi_X4_fail ms_X4_fail rfl (by first | assumption | ((repeat (first | assumption | exact va_up_self _ _ _ | refine (va_up_ne _ _ (by assumption)).trans ?_)); done) | (simp [va_up, *] <;> rfl)) (k_X4_fail (code := 3) hP1) rfl (by first | decide | exact Nat.le_of_ble_eq_true rfl) ⟨by decide, by decide, by decide, by decide⟩ (fun _ _ h => False.elim h) (fun v M' hp => ?_)
    obtain ⟨rfl, f2, hP3⟩ := hp
    refine z_iret C hQ dX4_parseReader_86 rfl (by decide) (by decide) ?_
    exact ⟨0, rfl, (f1.tr f2 (fun _ h => h) (fun _ h => h)).c1, zPo.no (by decide) ((hD.fr f1 hDa).fr f2 hDa) hP3 hq⟩
  refine z_aload_n C dX4_parseReader_0 rfl ?_
  refine z_get C dX4_parseReader_1 fl_X4_31 (by first | assumption | ((repeat (first | assumption | exact va_up_self _ _ _ | refine (va_up_ne _ _ (by assumption)).trans ?_)); done) | (simp [va_up, *] <;> rfl)) rfl ?_
  refine z_get C dX4_parseReader_4 fl_X4_67 (by first | assumption | ((repeat (first | assumption | exact va_up_self _ _ _ | refine (va_up_ne _ _ (by assumption)).trans ?_)); done) | (simp [va_up, *] <;> rfl)) rfl ?_
  refine z_iconst C dX4_parseReader_7 ?_
  refine z_icmp_ltZ (tgt := 17) C dX4_parseReader_8 (by decide) (by omega) (by omega) (fun h8 => ?_) (fun h8 => ?_)
  · refine z_aload_n C dX4_parseReader_17 rfl ?_
    refine z_callV C dX4_parseReader_18 lk_X4_35 mw_X4_next mi_X4_next ms_X4_next rfl (by first | assumption | ((repeat (first | assumption | exact va_up_self _ _ _ | refine (va_up_ne _ _ (by assumption)).trans ?_)); done) | (simp [va_up, *] <;> rfl)) (hnx _ hPx hT) rfl (by first | decide | exact Nat.le_of_ble_eq_true rfl) ⟨by decide, by decide, by decide, by decide⟩ (fun _ _ h => False.elim h) (fun v M' hp => ?_)
    obtain ⟨rfl, f1, hP1⟩ := hp
    have hP2 := hP1
    unfold hPk hPt at hP2
    have hT1 := hT.fr f1 hnt.1 hnt.2
    have hD1 := hD.fr f1 hDa
    have obt1 := hT1.1
    have hob1 := hD1.ob
    refine z_aload_n C dX4_parseReader_21 rfl ?_
    refine z_get C dX4_parseReader_22 fl_X4_11 (by first | assumption | ((repeat (first | assumption | exact va_up_self _ _ _ | refine (va_up_ne _ _ (by assumption)).trans ?_)); done) | (simp [va_up, *] <;> rfl)) rfl ?_
    refine z_iconst C dX4_parseReader_25 ?_
    refine z_icmp_eqZ (tgt := 35) C dX4_parseReader_26 (by decide) (by omega) (by omega) (fun h26 => ?_) (fun h26 => ?_)
    · refine z_aload_n C dX4_parseReader_35 rfl ?_
      refine z_get C dX4_parseReader_36 fl_X4_27 (by first | assumption | ((repeat (first | assumption | exact va_up_self _ _ _ | refine (va_up_ne _ _ (by assumption)).trans ?_)); done) | (simp [va_up, *] <;> rfl)) rfl ?_
      refine z_aload_n C dX4_parseReader_39 rfl ?_
      refine z_get C dX4_parseReader_40 fl_X4_15 (by first | assumption | ((repeat (first | assumption | exact va_up_self _ _ _ | refine (va_up_ne _ _ (by assumption)).trans ?_)); done) | (simp [va_up, *] <;> rfl)) rfl ?_
      refine z_aload_n C dX4_parseReader_43 rfl ?_
      refine z_get C dX4_parseReader_44 fl_X4_18 (by first | assumption | ((repeat (first | assumption | exact va_up_self _ _ _ | refine (va_up_ne _ _ (by assumption)).trans ?_)); done) | (simp [va_up, *] <;> rfl)) rfl ?_
      refine z_callV C dX4_parseReader_47 lk_X4_72 mw_X0_isName mi_X0_isName ms_X0_isName rfl (by first | assumption | ((repeat (first | assumption | exact va_up_self _ _ _ | refine (va_up_ne _ _ (by assumption)).trans ?_)); done) | (simp [va_up, *] <;> rfl)) (k_X0_isName hT1 hO (by omega) (by omega)) rfl (by first | decide | exact Nat.le_of_ble_eq_true rfl) ⟨by decide, by decide, by decide, by decide⟩ (fun _ _ h => False.elim h) (fun v M' hp => ?_)
      obtain ⟨r47, rfl, rfl, hr47⟩ := hp
      have q47 := hr47.rng
      refine z_if_neZ (tgt := 59) C dX4_parseReader_50 (by decide) (by omega) (fun h50 => ?_) (fun h50 => ?_)
      · have w47 := hr47.t h50
        rw [if_neg (by omega), if_neg (by omega), zif_t ⟨w47.2.1, w47.2.2⟩] at hpd
        refine z_aload_n C dX4_parseReader_59 rfl ?_
        refine z_get C dX4_parseReader_60 fl_X4_31 (by first | assumption | ((repeat (first | assumption | exact va_up_self _ _ _ | refine (va_up_ne _ _ (by assumption)).trans ?_)); done) | (simp [va_up, *] <;> rfl)) rfl ?_
        refine z_aload_n C dX4_parseReader_63 rfl ?_
        refine z_get C dX4_parseReader_64 fl_X4_27 (by first | assumption | ((repeat (first | assumption | exact va_up_self _ _ _ | refine (va_up_ne _ _ (by assumption)).trans ?_)); done) | (simp [va_up, *] <;> rfl)) rfl ?_
        refine z_aload_n C dX4_parseReader_67 rfl ?_
        refine z_get C dX4_parseReader_68 fl_X4_15 (by first | assumption | ((repeat (first | assumption | exact va_up_self _ _ _ | refine (va_up_ne _ _ (by assumption)).trans ?_)); done) | (simp [va_up, *] <;> rfl)) rfl ?_
        refine z_aload_n C dX4_parseReader_71 rfl ?_
        refine z_get C dX4_parseReader_72 fl_X4_18 (by first | assumption | ((repeat (first | assumption | exact va_up_self _ _ _ | refine (va_up_ne _ _ (by assumption)).trans ?_)); done) | (simp [va_up, *] <;> rfl)) rfl ?_
        refine z_callV C dX4_parseReader_75 lk_X4_78 mw_X7_readerNamed mi_X7_readerNamed ms_X7_readerNamed rfl (by first | assumption | ((repeat (first | assumption | exact va_up_self _ _ _ | refine (va_up_ne _ _ (by assumption)).trans ?_)); done) | (simp [va_up, *] <;> rfl)) (k_X7_readerNamed hD1 hk.nk hT1 hO (b := ztS f n e1) (e0 := ztE f n e1) (by omega)) rfl (by first | decide | exact Nat.le_of_ble_eq_true rfl) ⟨by decide, by decide, by decide, by decide⟩ (fun _ _ h => False.elim h) (fun v M' hp => ?_)
        obtain ⟨rfl, hp75⟩ := hp
        rcases hp75 with ⟨i, g1, rfl, g2, g3⟩ | ⟨rfl, g1⟩
        · exact fin78 _ _ f1 hP1 (by rw [hpd, if_pos]; unfold zNo; rw [zfi_at g2 g3 _ (by omega)]; omega)
        rw [if_neg (by unfold zNo; rw [zfi_no _ fun j hj => g1 j (by omega)]; decide)] at hpd
        refine z_ifnullN (tgt := 87) C dX4_parseReader_78 (by decide) ?_
        refine z_aload_n C dX4_parseReader_87 rfl ?_
        refine z_get C dX4_parseReader_88 fl_X4_15 (by first | assumption | ((repeat (first | assumption | exact va_up_self _ _ _ | refine (va_up_ne _ _ (by assumption)).trans ?_)); done) | (simp [va_up, *] <;> rfl)) rfl ?_
        refine z_istore_n C dX4_parseReader_91 (by decide) ?_
        refine z_aload_n C dX4_parseReader_92 rfl ?_
        refine z_get C dX4_parseReader_93 fl_X4_18 (by first | assumption | ((repeat (first | assumption | exact va_up_self _ _ _ | refine (va_up_ne _ _ (by assumption)).trans ?_)); done) | (simp [va_up, *] <;> rfl)) rfl ?_
        refine z_istore_n C dX4_parseReader_96 (by decide) ?_
        refine z_aload_n C dX4_parseReader_97 rfl ?_
        refine z_callV C dX4_parseReader_98 lk_X4_35 mw_X4_next mi_X4_next ms_X4_next rfl (by first | assumption | ((repeat (first | assumption | exact va_up_self _ _ _ | refine (va_up_ne _ _ (by assumption)).trans ?_)); done) | (simp [va_up, *] <;> rfl)) (k_X4_next hP1 hT1 hO (by omega)) rfl (by first | decide | exact Nat.le_of_ble_eq_true rfl) ⟨by decide, by decide, by decide, by decide⟩ (fun _ _ h => False.elim h) (fun v M' hp => ?_)
        obtain ⟨rfl, f2, hP3⟩ := hp
        have hP4 := hP3
        unfold hPk hPt at hP4
        have hT3 := hT1.fr f2 hnt.1 hnt.2
        have hD3 := hD1.fr f2 hDa
        have f3 := f1.tr f2 (fun _ h => h) (fun _ h => h) (S := [a])
        refine z_aload_n C dX4_parseReader_101 rfl ?_
        refine z_callV C dX4_parseReader_102 lk_X4_82 mw_X4_methodWord mi_X4_methodWord ms_X4_methodWord rfl (by first | assumption | ((repeat (first | assumption | exact va_up_self _ _ _ | refine (va_up_ne _ _ (by assumption)).trans ?_)); done) | (simp [va_up, *] <;> rfl)) (k_X4_methodWord hP3 hT3 hO (by omega)) rfl (by first | decide | exact Nat.le_of_ble_eq_true rfl) ⟨by decide, by decide, by decide, by decide⟩ (fun _ _ h => False.elim h) (fun v M' hp => ?_)
        obtain ⟨r102, rfl, rfl, hr102⟩ := hp
        rw [← hr102] at hmr
        refine z_istore_n C dX4_parseReader_105 (by decide) ?_
        refine z_iload_n C dX4_parseReader_106 rfl ?_
        refine z_iconst C dX4_parseReader_107 ?_
        refine z_icmp_neZ (tgt := 117) C dX4_parseReader_108 (by decide) (by omega) (by omega) (fun h108 => ?_) (fun h108 => ?_)
        · refine z_aload_n C dX4_parseReader_117 rfl ?_
          refine z_callV C dX4_parseReader_118 lk_X4_86 mw_X4_parseSemicolon mi_X4_parseSemicolon ms_X4_parseSemicolon rfl (by first | assumption | ((repeat (first | assumption | exact va_up_self _ _ _ | refine (va_up_ne _ _ (by assumption)).trans ?_)); done) | (simp [va_up, *] <;> rfl)) (k_X4_parseSemicolon hP3 hT3 hO (by omega)) rfl (by first | decide | exact Nat.le_of_ble_eq_true rfl) ⟨by decide, by decide, by decide, by decide⟩ (fun _ _ h => False.elim h) (fun v M' hp => ?_)
          obtain ⟨r118, rfl, f4, hp118⟩ := hp
          have hD4 := hD3.fr f4 hDa
          have hT4 := hT3.fr f4 hnt.1 hnt.2
          have f5 := f3.tr f4 (fun _ h => h) (fun _ h => h) (S := [a])
          have hz118 : 0 ≤ r118 ∧ r118 ≤ 1 := by rcases hp118 with h | h <;> omega
          refine z_if_neZ (tgt := 126) C dX4_parseReader_121 (by decide) (by omega) (fun h121 => ?_) (fun h121 => ?_)
          · obtain ⟨g1, g3⟩ : hAt f n (ztS f n (ztE f n (ztE f n e1))) = 59 ∧ hPk γ _ a ta (D 0) f n (ztE f n (ztE f n (ztE f n e1))) 0 (-1) := by
              rcases hp118 with ⟨g1, g2, g3⟩ | ⟨g1, g2, g3⟩
              · exact ⟨g1, g3⟩
              · omega
            have hP6 := g3
            unfold hPk hPt at hP6
            have hob4 := hD4.ob
            refine z_aload_n C dX4_parseReader_126 rfl ?_
            refine z_get C dX4_parseReader_127 fl_X4_31 (by first | assumption | ((repeat (first | assumption | exact va_up_self _ _ _ | refine (va_up_ne _ _ (by assumption)).trans ?_)); done) | (simp [va_up, *] <;> rfl)) rfl ?_
            refine z_aload_n C dX4_parseReader_130 rfl ?_
            refine z_get C dX4_parseReader_131 fl_X4_27 (by first | assumption | ((repeat (first | assumption | exact va_up_self _ _ _ | refine (va_up_ne _ _ (by assumption)).trans ?_)); done) | (simp [va_up, *] <;> rfl)) rfl ?_
            refine z_iload_n C dX4_parseReader_134 rfl ?_
            refine z_iload_n C dX4_parseReader_135 rfl ?_
            refine z_iload_n C dX4_parseReader_136 rfl ?_
            refine z_callV C dX4_parseReader_137 lk_X4_89 mw_X7_putReader mi_X7_putReader ms_X7_putReader rfl (by first | assumption | ((repeat (first | assumption | exact va_up_self _ _ _ | refine (va_up_ne _ _ (by assumption)).trans ?_)); done) | (simp [va_up, *] <;> rfl)) (k_X7_putReader (b := ztS f n e1) (e0 := ztE f n e1) (me := r102) hI hD4 (by omega) hT4 hO hdt (by omega)) rfl (by first | decide | exact Nat.le_of_ble_eq_true rfl) ⟨by decide, by decide, by decide, by decide⟩ (fun _ _ h => False.elim h) (fun v M' hp => ?_)
            obtain ⟨rfl, f6, hD6⟩ := hp
            refine z_iconst C dX4_parseReader_140 ?_
            refine z_iret C hQ dX4_parseReader_141 rfl (by decide) (by decide) ?_
            refine ⟨1, rfl, f5.c2 f6, zPo.ok hD6 ?_ (by rw [hpd, zpR3, if_neg (by omega), if_pos g1, ← hr102])⟩
            exact (f6 a ha).trans g3
          · refine z_iconst C dX4_parseReader_124 ?_
            refine z_iret C hQ dX4_parseReader_125 rfl (by decide) (by decide) ?_
            rcases hp118 with ⟨g1, g2, g3⟩ | ⟨g1, g2, g3⟩
            · omega
            · exact ⟨0, rfl, f5.c1, zPo.no (by decide) hD4 g3 (by rw [hpd, zpR3, if_neg (by omega), if_neg g1])⟩
        · refine z_aload_n C dX4_parseReader_111 rfl ?_
          refine z_iconst C dX4_parseReader_112 ?_
          refine z_callV C dX4_parseReader_113 lk_X4_63 mw_X4_fail mi_X4_fail ms_X4_fail rfl (by first | assumption | ((repeat (first | assumption | exact va_up_self _ _ _ | refine (va_up_ne _ _ (by assumption)).trans ?_)); done) | (simp [va_up, *] <;> rfl)) (k_X4_fail (code := 1) hP3) rfl (by first | decide | exact Nat.le_of_ble_eq_true rfl) ⟨by decide, by decide, by decide, by decide⟩ (fun _ _ h => False.elim h) (fun v M' hp => ?_)
          obtain ⟨rfl, f4, hP5⟩ := hp
          refine z_iret C hQ dX4_parseReader_116 rfl (by decide) (by decide) ?_
          exact ⟨0, rfl, (f3.tr f4 (fun _ h => h) (fun _ h => h)).c1, zPo.no (by decide) (hD3.fr f4 hDa) hP5 (by rw [hpd, zpR3, if_pos (by omega)])⟩
      · refine z_aload_n C dX4_parseReader_53 rfl ?_
        refine z_iconst C dX4_parseReader_54 ?_
        refine z_callV C dX4_parseReader_55 lk_X4_63 mw_X4_fail mi_X4_fail ms_X4_fail rfl (by first | assumption | ((repeat (first | assumption | exact va_up_self _ _ _ | refine (va_up_ne _ _ (by assumption)).trans ?_)); done) | (simp [va_up, *] <;> rfl)) (k_X4_fail (code := 2) hP1) rfl (by first | decide | exact Nat.le_of_ble_eq_true rfl) ⟨by decide, by decide, by decide, by decide⟩ (fun _ _ h => False.elim h) (fun v M' hp => ?_)
        obtain ⟨rfl, f2, hP3⟩ := hp
        refine z_iret C hQ dX4_parseReader_58 rfl (by decide) (by decide) ?_
        refine ⟨0, rfl, (f1.tr f2 (fun _ h => h) (fun _ h => h)).c1, zPo.no (S := S) (e := e0) (by decide) (hD1.fr f2 hDa) hP3 ?_⟩
        rw [hpd, if_neg (by omega), if_neg (by omega), zif_f]
        exact fun q => hr47.f h50 ⟨by omega, q.1, q.2⟩
    · refine z_aload_n C dX4_parseReader_29 rfl ?_
      refine z_iconst C dX4_parseReader_30 ?_
      refine z_callV C dX4_parseReader_31 lk_X4_63 mw_X4_fail mi_X4_fail ms_X4_fail rfl (by first | assumption | ((repeat (first | assumption | exact va_up_self _ _ _ | refine (va_up_ne _ _ (by assumption)).trans ?_)); done) | (simp [va_up, *] <;> rfl)) (k_X4_fail (code := 1) hP1) rfl (by first | decide | exact Nat.le_of_ble_eq_true rfl) ⟨by decide, by decide, by decide, by decide⟩ (fun _ _ h => False.elim h) (fun v M' hp => ?_)
      obtain ⟨rfl, f2, hP3⟩ := hp
      refine z_iret C hQ dX4_parseReader_34 rfl (by decide) (by decide) ?_
      exact ⟨0, rfl, (f1.tr f2 (fun _ h => h) (fun _ h => h)).c1, zPo.no (by decide) (hD1.fr f2 hDa) hP3 (by rw [hpd, if_neg (by omega), if_pos h26])⟩
  · refine z_aload_n C dX4_parseReader_11 rfl ?_
    refine z_iconst C dX4_parseReader_12 ?_
    refine z_callV C dX4_parseReader_13 lk_X4_63 mw_X4_fail mi_X4_fail ms_X4_fail rfl (by first | assumption | ((repeat (first | assumption | exact va_up_self _ _ _ | refine (va_up_ne _ _ (by assumption)).trans ?_)); done) | (simp [va_up, *] <;> rfl)) (k_X4_fail (code := 5) hPx) rfl (by first | decide | exact Nat.le_of_ble_eq_true rfl) ⟨by decide, by decide, by decide, by decide⟩ (fun _ _ h => False.elim h) (fun v M' hp => ?_)
    obtain ⟨rfl, f1, hP1⟩ := hp
    refine z_iret C hQ dX4_parseReader_16 rfl (by decide) (by decide) ?_
    exact ⟨0, rfl, f1.c1, zPo.no (by decide) (hD.fr f1 hDa) hP1 (by rw [hpd, if_pos (by omega)])⟩
theorem hSt.dk {γ : zG} {M : zM} {D : Nat → Nat} {S : zSt} (h : hSt γ M D S) {d : Nat} (hd : d < 8) (h' : d < sDn S) : ∃ sy, hDc γ M (D (27 + 2 * d)) (D (28 + 2 * d)) sy (dLe (sDc S d)) (dYr (sDc S d)) ∧ zDk sy (dLe (sDc S d)) ∧ ∀ j : Nat, j < dLe (sDc S d) → sy j = dSy (sDc S d) j := h.dc hd h'
theorem zF3_fa (A : Nat → Nat) {M M' : zM} (h : zFr M M' [A 2, A 3, A 4]) : zFr M M' (zFA A) := h.tr zFr.rf (zF3_sub A) (fun _ h => h)
set_option maxHeartbeats 4000000 in
set_option maxRecDepth 100000 in
theorem k_X4_parseTrain {l : Launch} {γ : zG} {M : zM} {a ta tr : Nat} {D : Nat → Nat} {S : zSt} {f : Nat → Int} {n e0 : Int} (hP : hPk γ M a ta (D 0) f n e0 0 (-1)) (hT : hBy γ M ta tr f n) (hO : hBo f n) (he : 0 ≤ e0 ∧ e0 ≤ n) (hI : zInj D) (hD : hSt γ M D S) (hk : zOk S) (ha : a ∉ zFD D) :
    zCon l γ yX4_parseTrain cX4_parseTrain 4 (some .boolean) [.ref a] M 4 94 0 0 (fun v' M' => ∃ r : Int, v' = some (.int (zi r)) ∧ zFr M M' (a :: zFD D) ∧ zPo γ M' a ta D f n (zpT f n S e0) r) (fun _ _ => False) := by
  have hDa := zD_na ha
  have hn := hO.1
  have hnt := zPt.nt hP hT
  have hP0 := hP
  unfold hPk hPt at hP0
  have hkn := hk.1
  have h2 := ztE_rng hO he
  have h0 := ztS_rng (f := f) he
  have hpd : zpT f n S e0 = zpT1 f n S e0 (ztE f n e0) (ztE f n (ztE f n e0)) (zNo S f n (ztS f n (ztE f n e0)) (ztE f n (ztE f n e0))) := rfl
  have hnx := fun M1 h1 h2 => @k_X4_next l γ M1 a ta tr (D 0) f n (ztK f n e0) (ztS f n e0) (ztE f n e0) 0 (-1) h1 h2 hO (by omega)
  have hPx : hPt γ M a ta (D 0) (ztK f n e0) (ztS f n e0) (ztE f n e0) 0 (-1) := hP
  generalize ztE f n e0 = e1 at hpd h2 hP0 hnx hPx
  have h3 := ztS_rng (f := f) (n := n) (e := e1) (by omega)
  have h4 := ztE_rng hO (e := e1) (by omega)
  have h5 := ztS_rng (f := f) (n := n) (e := ztE f n e1) (by omega)
  have h6 := ztE_rng hO (e := ztE f n e1) (by omega)
  have hkr : 0 ≤ ztK f n e1 ∧ ztK f n e1 ≤ 3 := zkd_rng _
  have hkr2 : 0 ≤ ztK f n (ztE f n e1) ∧ ztK f n (ztE f n e1) ≤ 3 := zkd_rng _
  have hall : ztK f n (ztE f n e1) = 2 → ∀ j : Int, ztS f n (ztE f n e1) ≤ j → j < ztE f n (ztE f n e1) → 48 ≤ hAt f n j ∧ hAt f n j ≤ 57 := fun hk2 j j1 j2 => by
    have q := ztK_all (.inr hk2) j1 j2
    rw [hk2] at q
    exact zkd_2 q
  refine zEnter [some (.ref a), none, none, none] (by decide +kernel) rfl rfl (Nat.le_of_ble_eq_true rfl) ?_
  intro p e s m args below meth c Q C hin hQ
  have fin90 : ∀ (M1 : zM) (i d : Nat), zFr M M1 [a] → hPk γ M1 a ta (D 0) f n (ztE f n e1) 0 (-1) → i < sRn S → d < sDn S → zpT f n S e0 = zpT3 f n S e0 i d (ztE f n (ztE f n e1)) → zAW p l e { frames := 4, cells := 0, slots := 0, locals := 94 } s m args below meth c γ 4 Q M1 0 0 81 [some (.ref a), some (.ref (D (3 + 6 * i))), some (.int (zi d)), some (.ref (D (27 + 2 * d)))] [.ref (D (27 + 2 * d))] := by
    intro M1 i d f1 hP1 hi hd hq
    have hP2 := hP1
    unfold hPk hPt at hP2
    have hT1 := hT.fr f1 hnt.1 hnt.2
    have hD1 := hD.fr f1 hDa
    refine z_ifnonnull (tgt := 90) C dX4_parseTrain_81 (by decide) ?_
    refine z_aload_n C dX4_parseTrain_90 rfl ?_
    refine z_callV C dX4_parseTrain_91 lk_X4_86 mw_X4_parseSemicolon mi_X4_parseSemicolon ms_X4_parseSemicolon rfl (by first | assumption | ((repeat (first | assumption | exact va_up_self _ _ _ | refine (va_up_ne _ _ (by assumption)).trans ?_)); done) | (simp [va_up, *] <;> rfl)) (k_X4_parseSemicolon hP1 hT1 hO (by omega)) rfl (by first | decide | exact Nat.le_of_ble_eq_true rfl) ⟨by decide, by decide, by decide, by decide⟩ (fun _ _ h => False.elim h) (fun v M' hp => ?_)
    obtain ⟨r91, rfl, f4, hp91⟩ := hp
    have hD4 := hD1.fr f4 hDa
    have f5 := f1.tr f4 (fun _ h => h) (fun _ h => h) (S := [a])
    have hz91 : 0 ≤ r91 ∧ r91 ≤ 1 := by rcases hp91 with h | h <;> omega
    refine z_if_neZ (tgt := 99) C dX4_parseTrain_94 (by decide) (by omega) (fun h94 => ?_) (fun h94 => ?_)
    · obtain ⟨g1, g3⟩ : hAt f n (ztS f n (ztE f n (ztE f n e1))) = 59 ∧ hPk γ _ a ta (D 0) f n (ztE f n (ztE f n (ztE f n e1))) 0 (-1) := by
        rcases hp91 with ⟨g1, g2, g3⟩ | ⟨g1, g2, g3⟩
        · exact ⟨g1, g3⟩
        · omega
      have hR := hD4.rd (i := i) (by omega) hi
      have hR0 := hR.1
      rw [show dRa D i 0 = D (3 + 6 * i) from rfl] at hR0
      obtain ⟨fs, hc0⟩ := hR.2.2.1.ob
      obtain ⟨sy, hX, hXk, hXv⟩ := hD4.dk (d := d) (by omega) hd
      have hky := hKy_of (m := (sDn S).toNat) (by omega) (hk.2.1 d hd) hXv
      refine z_aload_n C dX4_parseTrain_99 rfl ?_
      refine z_get C dX4_parseTrain_100 fl_X4_110 (by first | assumption | ((repeat (first | assumption | exact va_up_self _ _ _ | refine (va_up_ne _ _ (by assumption)).trans ?_)); done) | (simp [va_up, *] <;> rfl)) rfl ?_
      refine z_aload_n C dX4_parseTrain_103 rfl ?_
      refine z_callV C dX4_parseTrain_104 lk_X4_116 mw_X2_countDocument mi_X2_countDocument ms_X2_countDocument rfl hc0 (k_X2_countDocument hR.2.2.1 hX hXk ⟨zI_ne hI (by omega) (by omega) (by omega), zI_ne hI (by omega) (by omega) (by omega)⟩ (hk.rm hi) hky) rfl (by first | decide | exact Nat.le_of_ble_eq_true rfl) ⟨by decide, by decide, by decide, by decide⟩ (fun _ _ h => False.elim h) (fun v M' hp => ?_)
      obtain ⟨rfl, f6, hC6⟩ := hp
      have hR6 := hR.half f6 hC6
      have hR7 := hR6.1
      rw [show dRa D i 0 = D (3 + 6 * i) from rfl] at hR7
      have f6' := zF3_fa _ f6
      have hX6 := hX.fr f6' (zA_nin hI (by omega) (by omega) (by omega)) (zA_nin hI (by omega) (by omega) (by omega))
      have obx := hX6.1
      refine z_aload_n C dX4_parseTrain_107 rfl ?_
      refine z_iload_n C dX4_parseTrain_108 rfl ?_
      refine z_aload_n C dX4_parseTrain_109 rfl ?_
      refine z_get C dX4_parseTrain_110 fl_X4_122 (by first | assumption | ((repeat (first | assumption | exact va_up_self _ _ _ | refine (va_up_ne _ _ (by assumption)).trans ?_)); done) | (simp [va_up, *] <;> rfl)) rfl ?_
      refine z_callV C dX4_parseTrain_113 lk_X4_127 mw_X6_recordTraining mi_X6_recordTraining ms_X6_recordTraining rfl hR7 (k_X6_recordTraining (i := d) (len := dLe (sDc S d)) hR6 (by omega)) rfl (by first | decide | exact Nat.le_of_ble_eq_true rfl) ⟨by decide, by decide, by decide, by decide⟩ (fun _ _ h => False.elim h) (fun v M' hp => ?_)
      obtain ⟨rfl, f7, hR8⟩ := hp
      have f8 := f6'.tr f7 (fun _ h => h) (fun _ h => h)
      rw [zldn_cg hXv] at hR8
      refine z_iconst C dX4_parseTrain_116 ?_
      refine z_iret C hQ dX4_parseTrain_117 rfl (by decide) (by decide) ?_
      have hD8 : hSt γ _ D (sTrn S i d) := hD4.setR hI (by omega) f8 hR8
      refine ⟨1, rfl, f5.c2 (f8.tr zFr.rf (zFA_sub D (by omega)) (fun _ h => h)), zPo.ok hD8 ?_ (by rw [hq, zpT3, if_pos g1])⟩
      exact (f8 a fun q => ha (zFA_sub D (by omega) _ q)).trans g3
    · refine z_iconst C dX4_parseTrain_97 ?_
      refine z_iret C hQ dX4_parseTrain_98 rfl (by decide) (by decide) ?_
      rcases hp91 with ⟨g1, g2, g3⟩ | ⟨g1, g2, g3⟩
      · omega
      · exact ⟨0, rfl, f5.c1, zPo.no (by decide) hD4 g3 (by rw [hq, zpT3, if_neg g1])⟩
  have fin48 : ∀ (M1 : zM) (i : Nat), zFr M M1 [a] → hPk γ M1 a ta (D 0) f n e1 0 (-1) → i < sRn S → zpT f n S e0 = zpT2 f n S e0 i (ztE f n e1) (ztE f n (ztE f n e1)) (znv f n (ztE f n (ztE f n e1) - ztS f n (ztE f n e1)).toNat (ztS f n (ztE f n e1)) 0) → zAW p l e { frames := 4, cells := 0, slots := 0, locals := 94 } s m args below meth c γ 4 Q M1 0 0 39 [some (.ref a), some (.ref (D (3 + 6 * i))), none, none] [.ref (D (3 + 6 * i))] := by
    intro M1 i f1 hP1 hi hq
    have hP2 := hP1
    unfold hPk hPt at hP2
    have hT1 := hT.fr f1 hnt.1 hnt.2
    have hD1 := hD.fr f1 hDa
    refine z_ifnonnull (tgt := 48) C dX4_parseTrain_39 (by decide) ?_
    refine z_aload_n C dX4_parseTrain_48 rfl ?_
    refine z_callV C dX4_parseTrain_49 lk_X4_35 mw_X4_next mi_X4_next ms_X4_next rfl (by first | assumption | ((repeat (first | assumption | exact va_up_self _ _ _ | refine (va_up_ne _ _ (by assumption)).trans ?_)); done) | (simp [va_up, *] <;> rfl)) (k_X4_next hP1 hT1 hO (by omega)) rfl (by first | decide | exact Nat.le_of_ble_eq_true rfl) ⟨by decide, by decide, by decide, by decide⟩ (fun _ _ h => False.elim h) (fun v M' hp => ?_)
    obtain ⟨rfl, f2, hP3⟩ := hp
    have hP4 := hP3
    unfold hPk hPt at hP4
    have hT3 := hT1.fr f2 hnt.1 hnt.2
    have hD3 := hD1.fr f2 hDa
    have hob3 := hD3.ob
    have f3 := f1.tr f2 (fun _ h => h) (fun _ h => h) (S := [a])
    refine z_aload_n C dX4_parseTrain_52 rfl ?_
    refine z_get C dX4_parseTrain_53 fl_X4_11 (by first | assumption | ((repeat (first | assumption | exact va_up_self _ _ _ | refine (va_up_ne _ _ (by assumption)).trans ?_)); done) | (simp [va_up, *] <;> rfl)) rfl ?_
    refine z_iconst C dX4_parseTrain_56 ?_
    refine z_icmp_eqZ (tgt := 66) C dX4_parseTrain_57 (by decide) (by omega) (by omega) (fun h57 => ?_) (fun h57 => ?_)
    · refine z_aload_n C dX4_parseTrain_66 rfl ?_
      refine z_callV C dX4_parseTrain_67 lk_X4_103 mw_X4_numberValue mi_X4_numberValue ms_X4_numberValue rfl (by first | assumption | ((repeat (first | assumption | exact va_up_self _ _ _ | refine (va_up_ne _ _ (by assumption)).trans ?_)); done) | (simp [va_up, *] <;> rfl)) (k_X4_numberValue hP3 hT3 hO (by omega) (hall h57)) rfl (by first | decide | exact Nat.le_of_ble_eq_true rfl) ⟨by decide, by decide, by decide, by decide⟩ (fun _ _ h => False.elim h) (fun v M' hp => ?_)
      obtain ⟨r67, rfl, rfl, hr67, hz67⟩ := hp
      rw [← hr67, zpT2, if_neg (by omega)] at hq
      refine z_istore_n C dX4_parseTrain_70 (by decide) ?_
      refine z_aload_n C dX4_parseTrain_71 rfl ?_
      refine z_get C dX4_parseTrain_72 fl_X4_31 (by first | assumption | ((repeat (first | assumption | exact va_up_self _ _ _ | refine (va_up_ne _ _ (by assumption)).trans ?_)); done) | (simp [va_up, *] <;> rfl)) rfl ?_
      refine z_iload_n C dX4_parseTrain_75 rfl ?_
      refine z_callV C dX4_parseTrain_76 lk_X4_106 mw_X7_documentAt mi_X7_documentAt ms_X7_documentAt rfl (by first | assumption | ((repeat (first | assumption | exact va_up_self _ _ _ | refine (va_up_ne _ _ (by assumption)).trans ?_)); done) | (simp [va_up, *] <;> rfl)) (k_X7_documentAt hD3 hk.nk (i := r67) (by unfold zR; omega)) rfl (by first | decide | exact Nat.le_of_ble_eq_true rfl) ⟨by decide, by decide, by decide, by decide⟩ (fun _ _ h => False.elim h) (fun v M' hp => ?_)
      obtain ⟨rfl, hp76⟩ := hp
      rcases hp76 with ⟨g1, rfl⟩ | ⟨g1, rfl⟩
      · rw [if_neg (by omega)] at hq
        refine z_astore_n C dX4_parseTrain_79 (by decide) ?_
        refine z_aload_n C dX4_parseTrain_80 rfl ?_
        have q := fin90 _ i r67.toNat f3 hP3 hi (by omega) (by rw [show ((r67.toNat : Nat) : Int) = r67 by omega]; exact hq)
        rw [show ((r67.toNat : Nat) : Int) = r67 by omega] at q
        exact q
      refine z_astore_nN C dX4_parseTrain_79 (by decide) ?_
      refine z_aload_nN C dX4_parseTrain_80 rfl ?_
      refine z_ifnonnullN C dX4_parseTrain_81 ?_
      refine z_aload_n C dX4_parseTrain_84 rfl ?_
      refine z_iconst C dX4_parseTrain_85 ?_
      refine z_callV C dX4_parseTrain_86 lk_X4_63 mw_X4_fail mi_X4_fail ms_X4_fail rfl (by first | assumption | ((repeat (first | assumption | exact va_up_self _ _ _ | refine (va_up_ne _ _ (by assumption)).trans ?_)); done) | (simp [va_up, *] <;> rfl)) (k_X4_fail (code := 2) hP3) rfl (by first | decide | exact Nat.le_of_ble_eq_true rfl) ⟨by decide, by decide, by decide, by decide⟩ (fun _ _ h => False.elim h) (fun v M' hp => ?_)
      obtain ⟨rfl, f4, hP5⟩ := hp
      refine z_iret C hQ dX4_parseTrain_89 rfl (by decide) (by decide) ?_
      exact ⟨0, rfl, (f3.tr f4 (fun _ h => h) (fun _ h => h)).c1, zPo.no (by decide) (hD3.fr f4 hDa) hP5 (by rw [hq, if_pos (by omega)])⟩
    · refine z_aload_n C dX4_parseTrain_60 rfl ?_
      refine z_iconst C dX4_parseTrain_61 ?_
      refine z_callV C dX4_parseTrain_62 lk_X4_63 mw_X4_fail mi_X4_fail ms_X4_fail rfl (by first | assumption | ((repeat (first | assumption | exact va_up_self _ _ _ | refine (va_up_ne _ _ (by assumption)).trans ?_)); done) | (simp [va_up, *] <;> rfl)) (k_X4_fail (code := 1) hP3) rfl (by first | decide | exact Nat.le_of_ble_eq_true rfl) ⟨by decide, by decide, by decide, by decide⟩ (fun _ _ h => False.elim h) (fun v M' hp => ?_)
      obtain ⟨rfl, f4, hP5⟩ := hp
      refine z_iret C hQ dX4_parseTrain_65 rfl (by decide) (by decide) ?_
      exact ⟨0, rfl, (f3.tr f4 (fun _ h => h) (fun _ h => h)).c1, zPo.no (by decide) (hD3.fr f4 hDa) hP5 (by rw [hq, zpT2, if_pos h57])⟩
  refine z_aload_n C dX4_parseTrain_0 rfl ?_
  refine z_callV C dX4_parseTrain_1 lk_X4_35 mw_X4_next mi_X4_next ms_X4_next rfl (by first | assumption | ((repeat (first | assumption | exact va_up_self _ _ _ | refine (va_up_ne _ _ (by assumption)).trans ?_)); done) | (simp [va_up, *] <;> rfl)) (hnx _ hPx hT) rfl (by first | decide | exact Nat.le_of_ble_eq_true rfl) ⟨by decide, by decide, by decide, by decide⟩ (fun _ _ h => False.elim h) (fun v M' hp => ?_)
  obtain ⟨rfl, f1, hP1⟩ := hp
  have hP2 := hP1
  unfold hPk hPt at hP2
  have hT1 := hT.fr f1 hnt.1 hnt.2
  have hD1 := hD.fr f1 hDa
  have hob1 := hD1.ob
  refine z_aload_n C dX4_parseTrain_4 rfl ?_
  refine z_get C dX4_parseTrain_5 fl_X4_11 (by first | assumption | ((repeat (first | assumption | exact va_up_self _ _ _ | refine (va_up_ne _ _ (by assumption)).trans ?_)); done) | (simp [va_up, *] <;> rfl)) rfl ?_
  refine z_iconst C dX4_parseTrain_8 ?_
  refine z_icmp_eqZ (tgt := 18) C dX4_parseTrain_9 (by decide) (by omega) (by omega) (fun h9 => ?_) (fun h9 => ?_)
  · refine z_aload_n C dX4_parseTrain_18 rfl ?_
    refine z_get C dX4_parseTrain_19 fl_X4_31 (by first | assumption | ((repeat (first | assumption | exact va_up_self _ _ _ | refine (va_up_ne _ _ (by assumption)).trans ?_)); done) | (simp [va_up, *] <;> rfl)) rfl ?_
    refine z_aload_n C dX4_parseTrain_22 rfl ?_
    refine z_get C dX4_parseTrain_23 fl_X4_27 (by first | assumption | ((repeat (first | assumption | exact va_up_self _ _ _ | refine (va_up_ne _ _ (by assumption)).trans ?_)); done) | (simp [va_up, *] <;> rfl)) rfl ?_
    refine z_aload_n C dX4_parseTrain_26 rfl ?_
    refine z_get C dX4_parseTrain_27 fl_X4_15 (by first | assumption | ((repeat (first | assumption | exact va_up_self _ _ _ | refine (va_up_ne _ _ (by assumption)).trans ?_)); done) | (simp [va_up, *] <;> rfl)) rfl ?_
    refine z_aload_n C dX4_parseTrain_30 rfl ?_
    refine z_get C dX4_parseTrain_31 fl_X4_18 (by first | assumption | ((repeat (first | assumption | exact va_up_self _ _ _ | refine (va_up_ne _ _ (by assumption)).trans ?_)); done) | (simp [va_up, *] <;> rfl)) rfl ?_
    rw [zpT1, if_neg (by omega)] at hpd
    refine z_callV C dX4_parseTrain_34 lk_X4_78 mw_X7_readerNamed mi_X7_readerNamed ms_X7_readerNamed rfl (by first | assumption | ((repeat (first | assumption | exact va_up_self _ _ _ | refine (va_up_ne _ _ (by assumption)).trans ?_)); done) | (simp [va_up, *] <;> rfl)) (k_X7_readerNamed hD1 hk.nk hT1 hO (b := ztS f n e1) (e0 := ztE f n e1) (by omega)) rfl (by first | decide | exact Nat.le_of_ble_eq_true rfl) ⟨by decide, by decide, by decide, by decide⟩ (fun _ _ h => False.elim h) (fun v M' hp => ?_)
    obtain ⟨rfl, hp34⟩ := hp
    rcases hp34 with ⟨i, g1, rfl, g2, g3⟩ | ⟨rfl, g1⟩
    · have hno : zNo S f n (ztS f n e1) (ztE f n e1) = i := zfi_at g2 g3 _ (by omega)
      rw [hno, if_neg (by omega)] at hpd
      refine z_astore_n C dX4_parseTrain_37 (by decide) ?_
      refine z_aload_n C dX4_parseTrain_38 rfl ?_
      exact fin48 _ i f1 hP1 g1 hpd
    rw [if_pos (by unfold zNo; rw [zfi_no _ fun j hj => g1 j (by omega)])] at hpd
    refine z_astore_nN C dX4_parseTrain_37 (by decide) ?_
    refine z_aload_nN C dX4_parseTrain_38 rfl ?_
    refine z_ifnonnullN C dX4_parseTrain_39 ?_
    refine z_aload_n C dX4_parseTrain_42 rfl ?_
    refine z_iconst C dX4_parseTrain_43 ?_
    refine z_callV C dX4_parseTrain_44 lk_X4_63 mw_X4_fail mi_X4_fail ms_X4_fail rfl (by first | assumption | ((repeat (first | assumption | exact va_up_self _ _ _ | refine (va_up_ne _ _ (by assumption)).trans ?_)); done) | (simp [va_up, *] <;> rfl)) (k_X4_fail (code := 4) hP1) rfl (by first | decide | exact Nat.le_of_ble_eq_true rfl) ⟨by decide, by decide, by decide, by decide⟩ (fun _ _ h => False.elim h) (fun v M' hp => ?_)
    obtain ⟨rfl, f2, hP3⟩ := hp
    refine z_iret C hQ dX4_parseTrain_47 rfl (by decide) (by decide) ?_
    exact ⟨0, rfl, (f1.tr f2 (fun _ h => h) (fun _ h => h)).c1, zPo.no (by decide) (hD1.fr f2 hDa) hP3 hpd⟩
  · refine z_aload_n C dX4_parseTrain_12 rfl ?_
    refine z_iconst C dX4_parseTrain_13 ?_
    refine z_callV C dX4_parseTrain_14 lk_X4_63 mw_X4_fail mi_X4_fail ms_X4_fail rfl (by first | assumption | ((repeat (first | assumption | exact va_up_self _ _ _ | refine (va_up_ne _ _ (by assumption)).trans ?_)); done) | (simp [va_up, *] <;> rfl)) (k_X4_fail (code := 1) hP1) rfl (by first | decide | exact Nat.le_of_ble_eq_true rfl) ⟨by decide, by decide, by decide, by decide⟩ (fun _ _ h => False.elim h) (fun v M' hp => ?_)
    obtain ⟨rfl, f2, hP3⟩ := hp
    refine z_iret C hQ dX4_parseTrain_17 rfl (by decide) (by decide) ?_
    exact ⟨0, rfl, (f1.tr f2 (fun _ h => h) (fun _ h => h)).c1, zPo.no (by decide) (hD1.fr f2 hDa) hP3 (by rw [hpd, zpT1, if_pos h9])⟩

