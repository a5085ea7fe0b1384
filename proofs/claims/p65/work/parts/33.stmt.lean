/-! the parser: statements; what they answer: error code, its place, the state, the token's begin -/
abbrev zPR : Type := Int × Int × zSt × Int
def zpY (f : Nat → Int) (n : Int) (S : zSt) (e : Int) : zPR := if hAt f n (ztS f n (ztE f n e)) = 59 then (0, -1, sYear S, ztE f n (ztE f n e)) else (1, ztS f n (ztE f n e), S, e)
def zpD3 (f : Nat → Int) (n : Int) (S : zSt) (e e1 e2 : Int) : zPR := if hAt f n (ztS f n e2) = 59 then (0, -1, sAddD S (dNew f n (ztS f n e1) e2 (sYr S)), ztE f n e2) else (1, ztS f n e2, S, e)
def zpD (f : Nat → Int) (n : Int) (S : zSt) (e : Int) : zPR := if 8 ≤ sDn S then (5, ztS f n e, S, e) else if ztK f n (ztE f n e) ≠ 1 then (1, ztS f n (ztE f n e), S, e) else if 40 < ztE f n (ztE f n e) - ztS f n (ztE f n e) then (2, ztS f n (ztE f n e), S, e) else zpD3 f n S e (ztE f n e) (ztE f n (ztE f n e))
/-- the first number below t with P -/
noncomputable def zfi (P : Nat → Prop) : Nat → Int
  | 0 => -1
  | t + 1 => if zfi P t = -1 then zif (P t) t (-1) else zfi P t
theorem zfi_no {P : Nat → Prop} : ∀ t : Nat, (∀ j, j < t → ¬ P j) → zfi P t = -1
  | 0, _ => rfl
  | t + 1, h => by
    unfold zfi
    rw [if_pos (zfi_no t fun j hj => h j (by omega)), zif_f (h t (by omega))]
theorem zfi_at {P : Nat → Prop} {i : Nat} (hp : P i) (hm : ∀ j, j < i → ¬ P j) : ∀ t : Nat, i < t → zfi P t = i
  | t + 1, hi => by
    unfold zfi
    by_cases e : i = t
    · subst e
      rw [if_pos (zfi_no i hm), zif_t hp]
    · rw [zfi_at hp hm t (by omega), if_neg (by omega)]
theorem zfi_cg {P P' : Nat → Prop} : ∀ t : Nat, (∀ j, j < t → (P j ↔ P' j)) → zfi P t = zfi P' t
  | 0, _ => rfl
  | t + 1, h => by
    unfold zfi
    rw [zfi_cg t fun j hj => h j (by omega)]
    have := h t (by omega)
    by_cases q : P t
    · rw [zif_t q, zif_t (this.mp q)]
    · rw [zif_f q, zif_f fun w => q (this.mpr w)]
/-- the reader whose name stands from S1 to E1 -/
noncomputable def zNo (S : zSt) (f : Nat → Int) (n b e : Int) : Int := zfi (hNa S f n b e) (sRn S).toNat
noncomputable def zpR3 (f : Nat → Int) (n : Int) (S : zSt) (e e1 e2 e3 : Int) : zPR := if zMw f n (ztS f n e2) e3 = -1 then (1, ztS f n e2, S, e) else if hAt f n (ztS f n e3) = 59 then (0, -1, sAddR S (rNew f n (ztS f n e1) e2 (zMw f n (ztS f n e2) e3)), ztE f n e3) else (1, ztS f n e3, S, e)
noncomputable def zpR (f : Nat → Int) (n : Int) (S : zSt) (e : Int) : zPR := if 4 ≤ sRn S then (5, ztS f n e, S, e) else if ztK f n (ztE f n e) ≠ 1 then (1, ztS f n (ztE f n e), S, e) else zif (ztE f n (ztE f n e) - ztS f n (ztE f n e) ≤ 4 ∧ hNm f n (ztS f n (ztE f n e)) (ztE f n (ztE f n e))) (if zNo S f n (ztS f n (ztE f n e)) (ztE f n (ztE f n e)) ≠ -1 then (3, ztS f n (ztE f n e), S, e) else zpR3 f n S e (ztE f n e) (ztE f n (ztE f n e)) (ztE f n (ztE f n (ztE f n e)))) (2, ztS f n (ztE f n e), S, e)
/-- reader i trained with document d -/
def sTrn (S : zSt) (i d : Int) : zSt := sSetR S i.toNat (rTrn (sRd S i.toNat) d (sDc S d.toNat))
def zpT3 (f : Nat → Int) (n : Int) (S : zSt) (e r v e3 : Int) : zPR := if hAt f n (ztS f n e3) = 59 then (0, -1, sTrn S r v, ztE f n e3) else (1, ztS f n e3, S, e)
def zpT2 (f : Nat → Int) (n : Int) (S : zSt) (e r e2 e3 v : Int) : zPR := if ztK f n e2 ≠ 2 then (1, ztS f n e2, S, e) else if sDn S ≤ v then (2, ztS f n e2, S, e) else zpT3 f n S e r v e3
noncomputable def zpT1 (f : Nat → Int) (n : Int) (S : zSt) (e e1 e2 r : Int) : zPR := if ztK f n e1 ≠ 1 then (1, ztS f n e1, S, e) else if r = -1 then (4, ztS f n e1, S, e) else zpT2 f n S e r e2 (ztE f n e2) (znv f n (ztE f n e2 - ztS f n e2).toNat (ztS f n e2) 0)
noncomputable def zpT (f : Nat → Int) (n : Int) (S : zSt) (e : Int) : zPR := zpT1 f n S e (ztE f n e) (ztE f n (ztE f n e)) (zNo S f n (ztS f n (ztE f n e)) (ztE f n (ztE f n e)))
noncomputable def zpS (f : Nat → Int) (n : Int) (S : zSt) (e : Int) : zPR := zif (zWd f n 1 (ztS f n e) (ztE f n e)) (zpR f n S e) (zif (zWd f n 5 (ztS f n e) (ztE f n e)) (zpD f n S e) (zif (zWd f n 6 (ztS f n e) (ztE f n e)) (zpT f n S e) (zif (zWd f n 7 (ztS f n e) (ztE f n e)) (zpY f n S e) (1, ztS f n e, S, e))))
noncomputable def zpA (f : Nat → Int) (n : Int) : Nat → zSt → Int → zPR
  | 0, S, e => (0, -1, S, e)
  | t + 1, S, e => if ztK f n e = 0 then (0, -1, S, e) else if (zpS f n S e).1 = 0 then zpA f n t (zpS f n S e).2.2.1 (zpS f n S e).2.2.2 else zpS f n S e
/-- what a statement's method leaves -/
def zPo (γ : zG) (M : zM) (a ta : Nat) (D : Nat → Nat) (f : Nat → Int) (n : Int) (q : zPR) (r : Int) : Prop := (q.1 = 0 ∧ r = 1 ∧ hSt γ M D q.2.2.1 ∧ hPk γ M a ta (D 0) f n q.2.2.2 0 (-1)) ∨ (q.1 ≠ 0 ∧ r = 0 ∧ (∃ S', hSt γ M D S') ∧ ∃ K s E, hPt γ M a ta (D 0) K s E q.1 q.2.1)
theorem zPo.no {γ : zG} {M : zM} {a ta : Nat} {D : Nat → Nat} {f : Nat → Int} {n code p e K E : Int} {S S' : zSt} {q : zPR} (hc : code ≠ 0) (h : hSt γ M D S') (hP : hPt γ M a ta (D 0) K p E code p) (hq : q = (code, p, S, e)) : zPo γ M a ta D f n q 0 := by
  subst hq
  exact .inr ⟨hc, rfl, ⟨S', h⟩, K, p, E, hP⟩
theorem zPo.ok {γ : zG} {M : zM} {a ta : Nat} {D : Nat → Nat} {f : Nat → Int} {n e : Int} {S : zSt} {q : zPR} (h : hSt γ M D S) (hP : hPk γ M a ta (D 0) f n e 0 (-1)) (hq : q = (0, -1, S, e)) : zPo γ M a ta D f n q 1 := by
  subst hq
  exact .inl ⟨rfl, rfl, h, hP⟩
theorem hSt.ob {γ : zG} {M : zM} {D : Nat → Nat} {S : zSt} (h : hSt γ M D S) : M (D 0) = some (.inr (7, [.ref (D 1), .int (zi (sRn S)), .ref (D 2), .int (zi (sDn S)), .int (zi (sYr S))])) := by
  obtain ⟨Rs, Ds, h1, -⟩ := h
  exact h1.1
theorem zD_na {D : Nat → Nat} {a : Nat} (h : a ∉ zFD D) : ∀ j, j < 43 → D j ∉ [a] := fun j hj q => h (by rw [← List.mem_singleton.mp q]; exact zFD_mem D hj)
theorem zFr.c1 {M M1 : zM} {a : Nat} {S : List Nat} (h : zFr M M1 [a]) : zFr M M1 (a :: S) := h.tr zFr.rf (fun b hb => by rw [List.mem_singleton.mp hb]; simp) (fun _ h => h)
theorem zFr.c2 {M M1 M2 : zM} {a : Nat} {S : List Nat} (h : zFr M M1 [a]) (h2 : zFr M1 M2 S) : zFr M M2 (a :: S) := h.tr h2 (fun b hb => by rw [List.mem_singleton.mp hb]; simp) (fun b hb => List.mem_cons_of_mem _ hb)
theorem zPt.nt {γ : zG} {M : zM} {a ta tr d : Nat} {f : Nat → Int} {n K S E ec ep : Int} (hP : hPt γ M a ta d K S E ec ep) (hT : hBy γ M ta tr f n) : ta ∉ [a] ∧ tr ∉ [a] := by
  have h1 := zne_kk hT.1 hP (by decide)
  have h2 := zne_ka hP hT.2
  simp [h1, h2.symm]
set_option maxHeartbeats 4000000 in
set_option maxRecDepth 100000 in
theorem k_X4_parseYear {l : Launch} {γ : zG} {M : zM} {a ta tr : Nat} {D : Nat → Nat} {S : zSt} {f : Nat → Int} {n e0 : Int} (hP : hPk γ M a ta (D 0) f n e0 0 (-1)) (hT : hBy γ M ta tr f n) (hO : hBo f n) (he : 0 ≤ e0 ∧ e0 ≤ n) (hI : zInj D) (hD : hSt γ M D S) (hk : zOk S) (ha : a ∉ zFD D) :
    zCon l γ yX4_parseYear cX4_parseYear 1 (some .boolean) [.ref a] M 4 81 0 0 (fun v' M' => ∃ r : Int, v' = some (.int (zi r)) ∧ zFr M M' (a :: zFD D) ∧ zPo γ M' a ta D f n (zpY f n S e0) r) (fun _ _ => False) := by
  have hDa := zD_na ha
  have hP0 := hP
  unfold hPk hPt at hP0
  refine zEnter [some (.ref a)] (by decide +kernel) rfl rfl (Nat.le_of_ble_eq_true rfl) ?_
  intro p e s m args below meth c Q C hin hQ
  refine z_aload_n C dX4_parseYear_0 rfl ?_
  refine z_callV C dX4_parseYear_1 lk_X4_86 mw_X4_parseSemicolon mi_X4_parseSemicolon ms_X4_parseSemicolon rfl (by first | assumption | ((repeat (first | assumption | exact va_up_self _ _ _ | refine (va_up_ne _ _ (by assumption)).trans ?_)); done) | (simp [va_up, *] <;> rfl)) (k_X4_parseSemicolon hP hT hO he) rfl (by first | decide | exact Nat.le_of_ble_eq_true rfl) ⟨by decide, by decide, by decide, by decide⟩ (fun _ _ h => False.elim h) (fun v M' hp => ?_)
  obtain ⟨r1, rfl, f1, hp1⟩ := hp
  have hD1 := hD.fr f1 hDa
  have hz1 : 0 ≤ r1 ∧ r1 ≤ 1 := by rcases hp1 with h | h <;> omega
  refine z_if_neZ (tgt := 9) C dX4_parseYear_4 (by decide) (by omega) (fun h4 => ?_) (fun h4 => ?_)
  · obtain ⟨g1, g3⟩ : hAt f n (ztS f n (ztE f n e0)) = 59 ∧ hPk γ _ a ta (D 0) f n (ztE f n (ztE f n e0)) 0 (-1) := by
      rcases hp1 with ⟨g1, g2, g3⟩ | ⟨g1, g2, g3⟩
      · exact ⟨g1, g3⟩
      · omega
    have hP2 := g3
    unfold hPk hPt at hP2
    have hob := hD1.ob
    refine z_aload_n C dX4_parseYear_9 rfl ?_
    refine z_get C dX4_parseYear_10 fl_X4_31 (by first | assumption | ((repeat (first | assumption | exact va_up_self _ _ _ | refine (va_up_ne _ _ (by assumption)).trans ?_)); done) | (simp [va_up, *] <;> rfl)) rfl ?_
    refine z_callV C dX4_parseYear_13 lk_X4_131 mw_X7_passYear mi_X7_passYear ms_X7_passYear rfl (by first | assumption | ((repeat (first | assumption | exact va_up_self _ _ _ | refine (va_up_ne _ _ (by assumption)).trans ?_)); done) | (simp [va_up, *] <;> rfl)) (k_X7_passYear hI hD1 hk.nk) rfl (by first | decide | exact Nat.le_of_ble_eq_true rfl) ⟨by decide, by decide, by decide, by decide⟩ (fun _ _ h => False.elim h) (fun v M' hp => ?_)
    obtain ⟨rfl, f2, hD2⟩ := hp
    refine z_iconst C dX4_parseYear_16 ?_
    refine z_iret C hQ dX4_parseYear_17 rfl (by decide) (by decide) ?_
    refine ⟨1, rfl, f1.c2 f2, zPo.ok hD2 ?_ (by rw [zpY, if_pos g1])⟩
    exact (f2 a ha).trans g3
  · refine z_iconst C dX4_parseYear_7 ?_
    refine z_iret C hQ dX4_parseYear_8 rfl (by decide) (by decide) ?_
    rcases hp1 with ⟨g1, g2, g3⟩ | ⟨g1, g2, g3⟩
    · omega
    · exact ⟨0, rfl, f1.c1, zPo.no (by decide) hD1 g3 (by rw [zpY, if_neg g1])⟩
set_option maxHeartbeats 4000000 in
set_option maxRecDepth 100000 in
theorem k_X4_parseDocument {l : Launch} {γ : zG} {M : zM} {a ta tr : Nat} {D : Nat → Nat} {S : zSt} {f : Nat → Int} {n e0 : Int} (hP : hPk γ M a ta (D 0) f n e0 0 (-1)) (hT : hBy γ M ta tr f n) (hO : hBo f n) (he : 0 ≤ e0 ∧ e0 ≤ n) (hI : zInj D) (hD : hSt γ M D S) (hk : zOk S) (ha : a ∉ zFD D) (hdt : ta ∉ zFD D ∧ tr ∉ zFD D) :
    zCon l γ yX4_parseDocument cX4_parseDocument 3 (some .boolean) [.ref a] M 4 81 0 0 (fun v' M' => ∃ r : Int, v' = some (.int (zi r)) ∧ zFr M M' (a :: zFD D) ∧ zPo γ M' a ta D f n (zpD f n S e0) r) (fun _ _ => False) := by
  have hDa := zD_na ha
  have hn := hO.1
  have hnt := zPt.nt hP hT
  have hP0 := hP
  unfold hPk hPt at hP0
  have hob0 := hD.ob
  have hkn := hk.1.2
  have h2 := ztE_rng hO he
  have h0 := ztS_rng (f := f) he
  have hpd : zpD f n S e0 = if 8 ≤ sDn S then (5, ztS f n e0, S, e0) else if ztK f n (ztE f n e0) ≠ 1 then (1, ztS f n (ztE f n e0), S, e0) else if 40 < ztE f n (ztE f n e0) - ztS f n (ztE f n e0) then (2, ztS f n (ztE f n e0), S, e0) else zpD3 f n S e0 (ztE f n e0) (ztE f n (ztE f n e0)) := rfl
  have hnx := fun M1 h1 h2 => @k_X4_next l γ M1 a ta tr (D 0) f n (ztK f n e0) (ztS f n e0) (ztE f n e0) 0 (-1) h1 h2 hO (by omega)
  have hPx : hPt γ M a ta (D 0) (ztK f n e0) (ztS f n e0) (ztE f n e0) 0 (-1) := hP
  generalize ztE f n e0 = e1 at hpd h2 hP0 hnx hPx
  have h3 := ztS_rng (f := f) (n := n) (e := e1) (by omega)
  have h4 := ztE_rng hO (e := e1) (by omega)
  have hall : ztK f n e1 = 1 → hDm f n (ztS f n e1) (ztE f n e1) := fun hk1 j j1 j2 => by
    have q := ztK_all (.inl hk1) j1 j2
    rw [hk1] at q
    have := zkd_1 q
    unfold zLet
    omega
  have hkr : 0 ≤ ztK f n e1 ∧ ztK f n e1 ≤ 3 := zkd_rng _
  refine zEnter [some (.ref a), none, none] (by decide +kernel) rfl rfl (Nat.le_of_ble_eq_true rfl) ?_
  intro p e s m args below meth c Q C hin hQ
  refine z_aload_n C dX4_parseDocument_0 rfl ?_
  refine z_get C dX4_parseDocument_1 fl_X4_31 (by first | assumption | ((repeat (first | assumption | exact va_up_self _ _ _ | refine (va_up_ne _ _ (by assumption)).trans ?_)); done) | (simp [va_up, *] <;> rfl)) rfl ?_
  refine z_get C dX4_parseDocument_4 fl_X4_93 (by first | assumption | ((repeat (first | assumption | exact va_up_self _ _ _ | refine (va_up_ne _ _ (by assumption)).trans ?_)); done) | (simp [va_up, *] <;> rfl)) rfl ?_
  refine z_bipush C dX4_parseDocument_7 (by decide) ?_
  refine z_icmp_ltZ (tgt := 18) C dX4_parseDocument_9 (by decide) (by omega) (by omega) (fun h9 => ?_) (fun h9 => ?_)
  · refine z_aload_n C dX4_parseDocument_18 rfl ?_
    refine z_callV C dX4_parseDocument_19 lk_X4_35 mw_X4_next mi_X4_next ms_X4_next rfl (by first | assumption | ((repeat (first | assumption | exact va_up_self _ _ _ | refine (va_up_ne _ _ (by assumption)).trans ?_)); done) | (simp [va_up, *] <;> rfl)) (hnx _ hPx hT) rfl (by first | decide | exact Nat.le_of_ble_eq_true rfl) ⟨by decide, by decide, by decide, by decide⟩ (fun _ _ h => False.elim h) (fun v M' hp => ?_)
    obtain ⟨rfl, f1, hP1⟩ := hp
    have hP2 := hP1
    unfold hPk hPt at hP2
    have hT1 := hT.fr f1 hnt.1 hnt.2
    have hD1 := hD.fr f1 hDa
    have obt1 := hT1.1
    refine z_aload_n C dX4_parseDocument_22 rfl ?_
    refine z_get C dX4_parseDocument_23 fl_X4_11 (by first | assumption | ((repeat (first | assumption | exact va_up_self _ _ _ | refine (va_up_ne _ _ (by assumption)).trans ?_)); done) | (simp [va_up, *] <;> rfl)) rfl ?_
    refine z_iconst C dX4_parseDocument_26 ?_
    refine z_icmp_eqZ (tgt := 36) C dX4_parseDocument_27 (by decide) (by omega) (by omega) (fun h27 => ?_) (fun h27 => ?_)
    · refine z_aload_n C dX4_parseDocument_36 rfl ?_
      refine z_get C dX4_parseDocument_37 fl_X4_27 (by first | assumption | ((repeat (first | assumption | exact va_up_self _ _ _ | refine (va_up_ne _ _ (by assumption)).trans ?_)); done) | (simp [va_up, *] <;> rfl)) rfl ?_
      refine z_aload_n C dX4_parseDocument_40 rfl ?_
      refine z_get C dX4_parseDocument_41 fl_X4_15 (by first | assumption | ((repeat (first | assumption | exact va_up_self _ _ _ | refine (va_up_ne _ _ (by assumption)).trans ?_)); done) | (simp [va_up, *] <;> rfl)) rfl ?_
      refine z_aload_n C dX4_parseDocument_44 rfl ?_
      refine z_get C dX4_parseDocument_45 fl_X4_18 (by first | assumption | ((repeat (first | assumption | exact va_up_self _ _ _ | refine (va_up_ne _ _ (by assumption)).trans ?_)); done) | (simp [va_up, *] <;> rfl)) rfl ?_
      refine z_callV C dX4_parseDocument_48 lk_X4_96 mw_X0_isDocument mi_X0_isDocument ms_X0_isDocument rfl (by first | assumption | ((repeat (first | assumption | exact va_up_self _ _ _ | refine (va_up_ne _ _ (by assumption)).trans ?_)); done) | (simp [va_up, *] <;> rfl)) (k_X0_isDocument hT1 hO (by omega) (by omega)) rfl (by first | decide | exact Nat.le_of_ble_eq_true rfl) ⟨by decide, by decide, by decide, by decide⟩ (fun _ _ h => False.elim h) (fun v M' hp => ?_)
      obtain ⟨r48, rfl, rfl, hr48⟩ := hp
      have q48 := hr48.rng
      refine z_if_neZ (tgt := 60) C dX4_parseDocument_51 (by decide) (by omega) (fun h51 => ?_) (fun h51 => ?_)
      · have w51 := hr48.t h51
        refine z_aload_n C dX4_parseDocument_60 rfl ?_
        refine z_get C dX4_parseDocument_61 fl_X4_15 (by first | assumption | ((repeat (first | assumption | exact va_up_self _ _ _ | refine (va_up_ne _ _ (by assumption)).trans ?_)); done) | (simp [va_up, *] <;> rfl)) rfl ?_
        refine z_istore_n C dX4_parseDocument_64 (by decide) ?_
        refine z_aload_n C dX4_parseDocument_65 rfl ?_
        refine z_get C dX4_parseDocument_66 fl_X4_18 (by first | assumption | ((repeat (first | assumption | exact va_up_self _ _ _ | refine (va_up_ne _ _ (by assumption)).trans ?_)); done) | (simp [va_up, *] <;> rfl)) rfl ?_
        refine z_istore_n C dX4_parseDocument_69 (by decide) ?_
        refine z_aload_n C dX4_parseDocument_70 rfl ?_
        refine z_callV C dX4_parseDocument_71 lk_X4_86 mw_X4_parseSemicolon mi_X4_parseSemicolon ms_X4_parseSemicolon rfl (by first | assumption | ((repeat (first | assumption | exact va_up_self _ _ _ | refine (va_up_ne _ _ (by assumption)).trans ?_)); done) | (simp [va_up, *] <;> rfl)) (k_X4_parseSemicolon hP1 hT1 hO (by omega)) rfl (by first | decide | exact Nat.le_of_ble_eq_true rfl) ⟨by decide, by decide, by decide, by decide⟩ (fun _ _ h => False.elim h) (fun v M' hp => ?_)
        obtain ⟨r71, rfl, f2, hp71⟩ := hp
        have hD2 := hD1.fr f2 hDa
        have hT2 := hT1.fr f2 hnt.1 hnt.2
        have f3 := f1.tr f2 (fun _ h => h) (fun _ h => h) (S := [a])
        have hz71 : 0 ≤ r71 ∧ r71 ≤ 1 := by rcases hp71 with h | h <;> omega
        rw [if_neg (by omega), if_neg (by omega), if_neg (by omega)] at hpd
        refine z_if_neZ (tgt := 79) C dX4_parseDocument_74 (by decide) (by omega) (fun h74 => ?_) (fun h74 => ?_)
        · obtain ⟨g1, g3⟩ : hAt f n (ztS f n (ztE f n e1)) = 59 ∧ hPk γ _ a ta (D 0) f n (ztE f n (ztE f n e1)) 0 (-1) := by
            rcases hp71 with ⟨g1, g2, g3⟩ | ⟨g1, g2, g3⟩
            · exact ⟨g1, g3⟩
            · omega
          have hP4 := g3
          unfold hPk hPt at hP4
          have hob2 := hD2.ob
          refine z_aload_n C dX4_parseDocument_79 rfl ?_
          refine z_get C dX4_parseDocument_80 fl_X4_31 (by first | assumption | ((repeat (first | assumption | exact va_up_self _ _ _ | refine (va_up_ne _ _ (by assumption)).trans ?_)); done) | (simp [va_up, *] <;> rfl)) rfl ?_
          refine z_aload_n C dX4_parseDocument_83 rfl ?_
          refine z_get C dX4_parseDocument_84 fl_X4_27 (by first | assumption | ((repeat (first | assumption | exact va_up_self _ _ _ | refine (va_up_ne _ _ (by assumption)).trans ?_)); done) | (simp [va_up, *] <;> rfl)) rfl ?_
          refine z_iload_n C dX4_parseDocument_87 rfl ?_
          refine z_iload_n C dX4_parseDocument_88 rfl ?_
          refine z_callV C dX4_parseDocument_89 lk_X4_99 mw_X7_putDocument mi_X7_putDocument ms_X7_putDocument rfl (by first | assumption | ((repeat (first | assumption | exact va_up_self _ _ _ | refine (va_up_ne _ _ (by assumption)).trans ?_)); done) | (simp [va_up, *] <;> rfl)) (k_X7_putDocument hI hD2 (by omega) hT2 hO hdt (by omega)) rfl (by first | decide | exact Nat.le_of_ble_eq_true rfl) ⟨by decide, by decide, by decide, by decide⟩ (fun _ _ h => False.elim h) (fun v M' hp => ?_)
          obtain ⟨rfl, f4, hD4⟩ := hp
          refine z_iconst C dX4_parseDocument_92 ?_
          refine z_iret C hQ dX4_parseDocument_93 rfl (by decide) (by decide) ?_
          refine ⟨1, rfl, f3.c2 f4, zPo.ok hD4 ?_ (by rw [hpd, zpD3, if_pos g1])⟩
          exact (f4 a ha).trans g3
        · refine z_iconst C dX4_parseDocument_77 ?_
          refine z_iret C hQ dX4_parseDocument_78 rfl (by decide) (by decide) ?_
          rcases hp71 with ⟨g1, g2, g3⟩ | ⟨g1, g2, g3⟩
          · omega
          · exact ⟨0, rfl, f3.c1, zPo.no (by decide) hD2 g3 (by rw [hpd, zpD3, if_neg g1])⟩
      · refine z_aload_n C dX4_parseDocument_54 rfl ?_
        refine z_iconst C dX4_parseDocument_55 ?_
        refine z_callV C dX4_parseDocument_56 lk_X4_63 mw_X4_fail mi_X4_fail ms_X4_fail rfl (by first | assumption | ((repeat (first | assumption | exact va_up_self _ _ _ | refine (va_up_ne _ _ (by assumption)).trans ?_)); done) | (simp [va_up, *] <;> rfl)) (k_X4_fail (code := 2) hP1) rfl (by first | decide | exact Nat.le_of_ble_eq_true rfl) ⟨by decide, by decide, by decide, by decide⟩ (fun _ _ h => False.elim h) (fun v M' hp => ?_)
        obtain ⟨rfl, f2, hP3⟩ := hp
        refine z_iret C hQ dX4_parseDocument_59 rfl (by decide) (by decide) ?_
        refine ⟨0, rfl, (f1.tr f2 (fun _ h => h) (fun _ h => h)).c1, zPo.no (S := S) (e := e0) (by decide) (hD1.fr f2 hDa) hP3 ?_⟩
        rw [hpd, if_neg (by omega), if_neg (by omega), if_pos]
        by_cases q : 40 < ztE f n e1 - ztS f n e1
        · exact q
        · exact absurd ⟨by omega, by omega, hall h27⟩ (hr48.f h51)
    · refine z_aload_n C dX4_parseDocument_30 rfl ?_
      refine z_iconst C dX4_parseDocument_31 ?_
      refine z_callV C dX4_parseDocument_32 lk_X4_63 mw_X4_fail mi_X4_fail ms_X4_fail rfl (by first | assumption | ((repeat (first | assumption | exact va_up_self _ _ _ | refine (va_up_ne _ _ (by assumption)).trans ?_)); done) | (simp [va_up, *] <;> rfl)) (k_X4_fail (code := 1) hP1) rfl (by first | decide | exact Nat.le_of_ble_eq_true rfl) ⟨by decide, by decide, by decide, by decide⟩ (fun _ _ h => False.elim h) (fun v M' hp => ?_)
      obtain ⟨rfl, f2, hP3⟩ := hp
      refine z_iret C hQ dX4_parseDocument_35 rfl (by decide) (by decide) ?_
      exact ⟨0, rfl, (f1.tr f2 (fun _ h => h) (fun _ h => h)).c1, zPo.no (by decide) (hD1.fr f2 hDa) hP3 (by rw [hpd, if_neg (by omega), if_pos h27])⟩
  · refine z_aload_n C dX4_parseDocument_12 rfl ?_
    refine z_iconst C dX4_parseDocument_13 ?_
    refine z_callV C dX4_parseDocument_14 lk_X4_63 mw_X4_fail mi_X4_fail ms_X4_fail rfl (by first | assumption | ((repeat (first | assumption | exact va_up_self _ _ _ | refine (va_up_ne _ _ (by assumption)).trans ?_)); done) | (simp [va_up, *] <;> rfl)) (k_X4_fail (code := 5) hPx) rfl (by first | decide | exact Nat.le_of_ble_eq_true rfl) ⟨by decide, by decide, by decide, by decide⟩ (fun _ _ h => False.elim h) (fun v M' hp => ?_)
    obtain ⟨rfl, f1, hP1⟩ := hp
    refine z_iret C hQ dX4_parseDocument_17 rfl (by decide) (by decide) ?_
    exact ⟨0, rfl, f1.c1, zPo.no (by decide) (hD.fr f1 hDa) hP1 (by rw [hpd, if_pos (by omega)])⟩

