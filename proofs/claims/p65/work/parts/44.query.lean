/-! the face's answers: rankings, probabilities -/
theorem fOk.rk {γ : zG} {M M' : zM} {U : Nat → Nat} {Y : zSys} {pn : Int} {Z : Nat → zSt} {iF oF : Nat → Int} (hI : zIU U) (hZ : zZk Y pn Z) (hF : hFo γ M U pn (yPc Y) (yEc Y) (yEp Y)) (hX : hFx γ M U (yUs Y) iF (yIn Y) oF (yOn Y) Z) (hi1 : ∀ j : Nat, j < yIn Y → iF j = yIf Y j) (ho1 : ∀ j : Nat, j < yOn Y → oF j = yOf Y j) (f : zFr M M' [U 11, U 12, U 13]) (q : hRq γ M' (U 11) (U 12) (U 13)) : fOk γ M M' U Y :=
  ⟨zFr.us (L := [11, 12, 13]) f (by decide), hI, pn, Z, iF, oF, hZ, hF.fr f (zUn hI (L := [11, 12, 13]) (by decide) (by decide) (by decide)), hX.rk hI f q, hi1, ho1⟩
theorem fOk.ch {γ : zG} {M M' : zM} {U : Nat → Nat} {Y : zSys} {pn : Int} {Z : Nat → zSt} {iF oF : Nat → Int} {T B E : Int} {mk : Int32} (hI : zIU U) (hZ : zZk Y pn Z) (hF : hFo γ M U pn (yPc Y) (yEc Y) (yEp Y)) (hX : hFx γ M U (yUs Y) iF (yIn Y) oF (yOn Y) Z) (hi1 : ∀ j : Nat, j < yIn Y → iF j = yIf Y j) (ho1 : ∀ j : Nat, j < yOn Y → oF j = yOf Y j) (f : zFr M M' [U 14]) (q : hCh γ M' (U 14) T B E mk) : fOk γ M M' U Y :=
  ⟨zFr.us (L := [14]) f (by decide), hI, pn, Z, iF, oF, hZ, hF.fr f (zUn hI (L := [14]) (by decide) (by decide) (by decide)), hX.ch hI f q, hi1, ho1⟩
/-- a good end with a long, a double, a float -/
def fL (γ : zG) (M : zM) (U : Nat → Nat) (Y : zSys) (q : Int × Int) : Option Value → zM → Prop := fun v M' => fOk γ M M' U Y ∧ q.1 = 0 ∧ v = some (.long (zl q.2))
theorem fL.of {γ : zG} {M M' : zM} {U : Nat → Nat} {Y : zSys} {q : Int × Int} {x : Int} (h : fOk γ M M' U Y) (hq : q = (0, x)) : fL γ M U Y q (some (.long (zl x))) M' := by
  subst hq
  exact ⟨h, rfl, rfl⟩
theorem zch_rng {c : Int → Int} (h : zcR c) {b p s me : Int} (hs : 0 ≤ s ∧ s < 27) : ∀ (t k : Nat) (T B E : Int), (t : Int) + k = zFo b p + 1 → 1 ≤ T ∧ T ≤ zbd k → 1 ≤ B ∧ B ≤ zbd k → zlv c b p s < t → (1 ≤ (zch c b p s me t T B E).1 ∧ (zch c b p s me t T B E).1 < 9007199254740992) ∧ 1 ≤ (zch c b p s me t T B E).2.1 ∧ (zch c b p s me t T B E).2.1 < 9007199254740992 := by
  intro t
  have hfo := zFo_rng b p
  have hlr := zlv_rng c b p s
  induction t with
  | zero =>
    intro k T B E hk hT hB hl
    have hbk := zbd_le k (by omega)
    have hno := zxn_no (c := c) (b := b) (p := p) hs (by omega)
    have q1 := Int.mul_le_mul hB.1 hno.1 (by omega) (by omega)
    have q2 := Int.mul_le_mul hB.2 hno.2 (by omega) (by omega)
    show (1 ≤ T ∧ T < _) ∧ 1 ≤ B * zxn c b p (-1) ∧ B * zxn c b p (-1) < _
    omega
  | succ t ih =>
    intro k T B E hk hT hB hl
    have hbk := zbd_le k (by omega)
    have hbk1 := zbd_le (k + 1) (by omega)
    have e : zbd (k + 1) = zbd k * 54000 := rfl
    unfold zch
    by_cases z1 : zxn c b p t = 0
    · rw [if_pos z1]
      have z4 : zlv c b p s ≠ t := fun q => by
        have := zxn_pos hs q
        omega
      exact ih (k + 1) T B E (by omega) (by omega) (by omega) (by omega)
    · rw [if_neg z1]
      have z5 := zbd_mul hB (zxd_rng h (me := me) (show (0 : Int) ≤ t by omega) z1)
      by_cases z2 : zlv c b p s = t
      · rw [if_pos z2]
        have z4 := zbd_mul (f := zxg me (c (zCs t b p + s))) hT (zxg_rng (by
          have q1 := h (zCs t b p + s)
          by_cases q2 : c (zCs t b p + s) = 0
          · exact absurd z2 (zlv_ne (by omega) q2)
          · omega))
        show (1 ≤ T * _ ∧ T * _ < _) ∧ 1 ≤ B * _ ∧ B * _ < _
        omega
      · rw [if_neg z2]
        exact ih (k + 1) _ _ _ (by omega) (zbd_mul hT (zxf_rng (me := me) z1)) z5 (by omega)
theorem zcf_rng {c : Int → Int} (h : zcR c) {b p s me : Int} (hs : 0 ≤ s ∧ s < 27) : (1 ≤ (zcf c b p s me).1 ∧ (zcf c b p s me).1 < 9007199254740992) ∧ 1 ≤ (zcf c b p s me).2.1 ∧ (zcf c b p s me).2.1 < 9007199254740992 := by
  have hfo := zFo_rng b p
  have hlr := zlv_rng c b p s
  exact zch_rng h hs (zFo b p + 1).toNat 0 1 1 0 (by omega) (by decide) (by decide) (by omega)
theorem zcT_rng {c : Int → Int} (h : zcR c) {b p s me : Int} (hs : 0 ≤ s ∧ s < 27) : (1 ≤ zcT c b p s me ∧ zcT c b p s me < 9007199254740992) ∧ 1 ≤ zcB c b p s me ∧ zcB c b p s me < 9007199254740992 := by
  obtain ⟨h1, h2⟩ := zcf_rng h (b := b) (p := p) (me := me) hs
  have hg := zgd_pos (y := (zcf c b p s me).2.1) (show 0 < (zcf c b p s me).1 by omega)
  have hd := zgd_dv (zcf c b p s me).1 (zcf c b p s me).2.1
  have q1 := zdv_le hd.1 hg h1.1
  have q2 := zdv_le hd.2 hg h2.1
  unfold zcT zcB
  omega
theorem zbt_rng : ∀ (t : Nat) (d B : Int), 0 ≤ zbt t d B ∧ zbt t d B ≤ t
  | 0, _, _ => by simp [zbt]
  | t + 1, d, B => by
    have := zbt_rng t (d * 2) B
    unfold zbt
    split <;> omega
/-- how often a number can be halved -/
def zyh : Nat → Int → Int
  | 0, _ => 0
  | t + 1, m => if 0 < m then zyh t (m / 2) + 1 else 0
def zmxf (c : Int → Int) : Nat → Int
  | 0 => 0
  | t + 1 => max (zmxf c t) (c t)
def zmx (c : Int → Int) : Int := zmxf c 20439
theorem zmxf_ge {c : Int → Int} : ∀ (t : Nat), 0 ≤ zmxf c t ∧ ∀ j : Nat, j < t → c j ≤ zmxf c t
  | 0 => ⟨Int.le_refl _, fun j hj => by omega⟩
  | t + 1 => by
    have h := zmxf_ge (c := c) t
    unfold zmxf
    refine ⟨by omega, fun j hj => ?_⟩
    by_cases e : j = t
    · subst e
      omega
    · have := h.2 j (by omega)
      omega
theorem zmxf_at {c : Int → Int} : ∀ (t : Nat), zmxf c t = 0 ∨ ∃ j : Nat, j < t ∧ c j = zmxf c t
  | 0 => .inl rfl
  | t + 1 => by
    have h := zmxf_at (c := c) t
    unfold zmxf
    by_cases e : zmxf c t ≤ c t
    · exact .inr ⟨t, by omega, by omega⟩
    · rcases h with h | ⟨j, h1, h2⟩
      · exact .inl (by omega)
      · exact .inr ⟨j, by omega, by omega⟩
def zunn (c : Int → Int) (sy : Nat → Int) (len : Int) : Nat → Int
  | 0 => 0
  | i + 1 => zunn c sy len i + (if zlv c (hAt sy len ((i : Int) - 2)) (hAt sy len ((i : Int) - 1)) (hAt sy len i) = -1 then 1 else 0)
theorem zunn_cg {c : Int → Int} {sy sy' : Nat → Int} {len : Int} (h : ∀ j : Nat, j < len → sy j = sy' j) : ∀ i : Nat, zunn c sy len i = zunn c sy' len i
  | 0 => rfl
  | i + 1 => by
    show zunn c sy len i + _ = zunn c sy' len i + _
    rw [zunn_cg h i, hAt_cg h, hAt_cg h, hAt_cg h]
/-- the hardest position so far, its rank -/
def zhpn (c : Int → Int) (sy : Nat → Int) (len : Int) : Nat → Int × Int
  | 0 => (0, 0)
  | i + 1 => if (zhpn c sy len i).2 < zrp c sy len i then (i, zrp c sy len i) else zhpn c sy len i
theorem zhpn_cg {c : Int → Int} {sy sy' : Nat → Int} {len : Int} (h : ∀ j : Nat, j < len → sy j = sy' j) : ∀ i : Nat, zhpn c sy len i = zhpn c sy' len i
  | 0 => rfl
  | i + 1 => by
    unfold zhpn
    rw [zhpn_cg h i, zrp_cg h]
def zbtn (c : Int → Int) (me : Int) (sy : Nat → Int) (len : Int) : Nat → Int
  | 0 => 0
  | i + 1 => zbtn c me sy len i + zbt 62 (zcT c (hAt sy len ((i : Int) - 2)) (hAt sy len ((i : Int) - 1)) (hAt sy len i) me) (zcB c (hAt sy len ((i : Int) - 2)) (hAt sy len ((i : Int) - 1)) (hAt sy len i) me)
theorem zbtn_cg {c : Int → Int} {me : Int} {sy sy' : Nat → Int} {len : Int} (h : ∀ j : Nat, j < len → sy j = sy' j) : ∀ i : Nat, zbtn c me sy len i = zbtn c me sy' len i
  | 0 => rfl
  | i + 1 => by
    show zbtn c me sy len i + _ = zbtn c me sy' len i + _
    rw [zbtn_cg h i, hAt_cg h, hAt_cg h, hAt_cg h]
noncomputable def q_symbolAtRank (S : zSt) (rr bb pp kk : Int) : Int × Int := zqR S rr (zq2 (zCv bb pp ∧ (1 ≤ kk ∧ kk ≤ 27)) (0, zgs (rC (sRd S rr.toNat)) bb pp kk))
set_option maxHeartbeats 4000000 in
set_option maxRecDepth 100000 in
theorem k_X8_symbolAtRank {l : Launch} {γ : zG} {M : zM} {U : Nat → Nat} {Y : zSys} {rr bb pp kk : Int} (hc : hFc γ M U Y) (hk : yOk Y) (hrr : zR rr) (hbb : zR bb) (hpp : zR pp) (hk1 : zR kk) :
    zCon l γ yX8_symbolAtRank cX8_symbolAtRank 6 (some .int) [.ref (U 0), .int (zi rr), .int (zi bb), .int (zi pp), .int (zi kk)] M 7 104 3 18 (fI γ M U Y (q_symbolAtRank (yS Y) rr bb pp kk)) (fX γ M U Y (q_symbolAtRank (yS Y) rr bb pp kk) xIOB xIAE) := by
  have hc0 := hc
  obtain ⟨hI, pn, Z, iF, oF, hZ, hF, hX, hi1, ho1⟩ := hc
  have hob := id hF
  unfold hFo at hob
  have hD : hSt γ M (zUb U 0) (yS Y) := hZ.2.1 ▸ hX.st0
  have hst := hD.ob
  have hkn := hk.1.1
  have hkk := hk.1.nk
  have hRQ := hX.2.2.2.2.2.2.1
  have hok := fun M' => @fOk.rk γ M M' U Y pn Z iF oF hI hZ hF hX hi1 ho1
  have hkk0 := hkk
  refine zEnter [some (.ref (U 0)), some (.int (zi rr)), some (.int (zi bb)), some (.int (zi pp)), some (.int (zi kk)), none] (by decide +kernel) rfl rfl (Nat.le_of_ble_eq_true rfl) ?_
  intro p e s m args below meth c Q C hin hQ
  unfold zR at hk1
  refine z_aload_n C dX8_symbolAtRank_0 rfl ?_
  refine z_iload_n C dX8_symbolAtRank_1 rfl ?_
  refine z_callV C dX8_symbolAtRank_2 lk_X8_149 mw_X8_existingReader mi_X8_existingReader ms_X8_existingReader rfl (by first | assumption | ((repeat (first | assumption | exact va_up_self _ _ _ | refine (va_up_ne _ _ (by assumption)).trans ?_)); done) | (simp [va_up, *] <;> rfl)) (k_X8_existingReader hF hD hkk0 hrr) rfl (by first | decide | exact Nat.le_of_ble_eq_true rfl) ⟨by decide, by decide, by decide, by decide⟩ (fun X M' h => by obtain ⟨rfl, rfl, h⟩ := h; exact z_out C hQ (by decide) (by decide) (fX.o1 (.rf hc0) (zqR_f h))) (fun v M' hp => ?_)
  obtain ⟨rfl, g2, rfl⟩ := hp
  have hro := hD.rdo (i := rr.toNat) (by omega) (by omega)
  have hR := hD.rd (i := rr.toNat) (by omega) (by omega)
  obtain ⟨cn, hco, hcz, hcr⟩ := hD.rdc (i := rr.toNat) (by omega) (by omega)
  have hrk := (hk.1.2.2 rr.toNat (by omega)).1
  refine z_astore C dX8_symbolAtRank_5 (by decide) ?_
  refine z_iload_n C dX8_symbolAtRank_7 rfl ?_
  refine z_iload_n C dX8_symbolAtRank_8 rfl ?_
  refine z_callS C dX8_symbolAtRank_9 lk_X8_198 mw_X8_requireContext mst_X8_requireContext (k_X8_requireContext hbb hpp) rfl (by first | decide | exact Nat.le_of_ble_eq_true rfl) ⟨by decide, by decide, by decide, by decide⟩ (fun X M' h => by obtain ⟨rfl, rfl, h⟩ := h; exact z_out C hQ (by decide) (by decide) (fX.o2 (.rf hc0) ((zqR_t g2).trans (zq2_f fun w => h w.1)))) (fun v M' hp => ?_)
  obtain ⟨rfl, rfl, g9⟩ := hp
  refine z_iload C dX8_symbolAtRank_12 rfl ?_
  refine z_iconst C dX8_symbolAtRank_14 ?_
  refine z_icmp_ltZ (tgt := 25) C dX8_symbolAtRank_15 (by decide) (by omega) (by omega) (fun h15 => ?_) (fun h15 => ?_)
  · refine z_throw C hQ xt_IAE (si := 16) rfl dX8_symbolAtRank_25 dX8_symbolAtRank_28 dX8_symbolAtRank_29 dX8_symbolAtRank_31 dX8_symbolAtRank_34 ⟨by decide, by decide, by decide, by decide⟩ (by decide) (by decide) ?_
    exact fX.o2 (.rf hc0) ((zqR_t g2).trans (zq2_f fun w => by omega))
  · refine z_iload C dX8_symbolAtRank_18 rfl ?_
    refine z_bipush C dX8_symbolAtRank_20 (by decide) ?_
    refine z_icmp_leZ (tgt := 35) C dX8_symbolAtRank_22 (by decide) (by omega) (by omega) (fun h22 => ?_) (fun h22 => ?_)
    · refine z_aload_n C dX8_symbolAtRank_35 rfl ?_
      refine z_aload C dX8_symbolAtRank_36 rfl ?_
      refine z_get C dX8_symbolAtRank_38 fl_X8_188 (by first | assumption | ((repeat (first | assumption | exact va_up_self _ _ _ | refine (va_up_ne _ _ (by assumption)).trans ?_)); done) | (simp [va_up, *] <;> rfl)) rfl ?_
      refine z_iload_n C dX8_symbolAtRank_41 rfl ?_
      refine z_iload_n C dX8_symbolAtRank_42 rfl ?_
      refine z_iload C dX8_symbolAtRank_43 rfl ?_
      refine z_callV C dX8_symbolAtRank_45 lk_X8_226 mw_X8_guessIn mi_X8_guessIn ms_X8_guessIn rfl (by first | assumption | ((repeat (first | assumption | exact va_up_self _ _ _ | refine (va_up_ne _ _ (by assumption)).trans ?_)); done) | (simp [va_up, *] <;> rfl)) (k_X8_guessIn hF hRQ hR.2.2.1 g9.cx (by omega)) rfl (by first | decide | exact Nat.le_of_ble_eq_true rfl) ⟨by decide, by decide, by decide, by decide⟩ (fun _ _ h => False.elim h) (fun v M' hp => ?_)
      obtain ⟨r45, rfl, f45, hQ45, hr45, hz45⟩ := hp
      refine z_iret C hQ dX8_symbolAtRank_48 rfl (by decide) (by decide) ?_
      rw [hr45]
      exact fI.of (hok _ f45 hQ45) ((zqR_t g2).trans (zq2_t ⟨g9, by omega⟩))
    · refine z_throw C hQ xt_IAE (si := 16) rfl dX8_symbolAtRank_25 dX8_symbolAtRank_28 dX8_symbolAtRank_29 dX8_symbolAtRank_31 dX8_symbolAtRank_34 ⟨by decide, by decide, by decide, by decide⟩ (by decide) (by decide) ?_
      exact fX.o2 (.rf hc0) ((zqR_t g2).trans (zq2_f fun w => by omega))
noncomputable def q_rank (S : zSt) (rr bb pp ss : Int) : Int × Int := zqR S rr (zq2 (zCv bb pp ∧ zSy ss) (0, zrk (rC (sRd S rr.toNat)) bb pp ss))
set_option maxHeartbeats 4000000 in
set_option maxRecDepth 100000 in
theorem k_X8_rank {l : Launch} {γ : zG} {M : zM} {U : Nat → Nat} {Y : zSys} {rr bb pp ss : Int} (hc : hFc γ M U Y) (hk : yOk Y) (hrr : zR rr) (hbb : zR bb) (hpp : zR pp) (hss : zR ss) :
    zCon l γ yX8_rank cX8_rank 6 (some .int) [.ref (U 0), .int (zi rr), .int (zi bb), .int (zi pp), .int (zi ss)] M 7 104 3 18 (fI γ M U Y (q_rank (yS Y) rr bb pp ss)) (fX γ M U Y (q_rank (yS Y) rr bb pp ss) xIOB xIAE) := by
  have hc0 := hc
  obtain ⟨hI, pn, Z, iF, oF, hZ, hF, hX, hi1, ho1⟩ := hc
  have hob := id hF
  unfold hFo at hob
  have hD : hSt γ M (zUb U 0) (yS Y) := hZ.2.1 ▸ hX.st0
  have hst := hD.ob
  have hkn := hk.1.1
  have hkk := hk.1.nk
  have hRQ := hX.2.2.2.2.2.2.1
  have hok := fun M' => @fOk.rk γ M M' U Y pn Z iF oF hI hZ hF hX hi1 ho1
  refine zEnter [some (.ref (U 0)), some (.int (zi rr)), some (.int (zi bb)), some (.int (zi pp)), some (.int (zi ss)), none] (by decide +kernel) rfl rfl (Nat.le_of_ble_eq_true rfl) ?_
  intro p e s m args below meth c Q C hin hQ
  refine z_aload_n C dX8_rank_0 rfl ?_
  refine z_iload_n C dX8_rank_1 rfl ?_
  refine z_callV C dX8_rank_2 lk_X8_149 mw_X8_existingReader mi_X8_existingReader ms_X8_existingReader rfl (by first | assumption | ((repeat (first | assumption | exact va_up_self _ _ _ | refine (va_up_ne _ _ (by assumption)).trans ?_)); done) | (simp [va_up, *] <;> rfl)) (k_X8_existingReader hF hD hkk hrr) rfl (by first | decide | exact Nat.le_of_ble_eq_true rfl) ⟨by decide, by decide, by decide, by decide⟩ (fun X M' h => by obtain ⟨rfl, rfl, h⟩ := h; exact z_out C hQ (by decide) (by decide) (fX.o1 (.rf hc0) (zqR_f h))) (fun v M' hp => ?_)
  obtain ⟨rfl, g2, rfl⟩ := hp
  have hro := hD.rdo (i := rr.toNat) (by omega) (by omega)
  have hR := hD.rd (i := rr.toNat) (by omega) (by omega)
  obtain ⟨cn, hco, hcz, hcr⟩ := hD.rdc (i := rr.toNat) (by omega) (by omega)
  have hrk := (hk.1.2.2 rr.toNat (by omega)).1
  refine z_astore C dX8_rank_5 (by decide) ?_
  refine z_iload_n C dX8_rank_7 rfl ?_
  refine z_iload_n C dX8_rank_8 rfl ?_
  refine z_callS C dX8_rank_9 lk_X8_198 mw_X8_requireContext mst_X8_requireContext (k_X8_requireContext hbb hpp) rfl (by first | decide | exact Nat.le_of_ble_eq_true rfl) ⟨by decide, by decide, by decide, by decide⟩ (fun X M' h => by obtain ⟨rfl, rfl, h⟩ := h; exact z_out C hQ (by decide) (by decide) (fX.o2 (.rf hc0) ((zqR_t g2).trans (zq2_f fun w => h w.1)))) (fun v M' hp => ?_)
  obtain ⟨rfl, rfl, g9⟩ := hp
  refine z_iload C dX8_rank_12 rfl ?_
  refine z_callS C dX8_rank_14 lk_X8_185 mw_X8_requireSymbol mst_X8_requireSymbol (k_X8_requireSymbol hss) rfl (by first | decide | exact Nat.le_of_ble_eq_true rfl) ⟨by decide, by decide, by decide, by decide⟩ (fun X M' h => by obtain ⟨rfl, rfl, h⟩ := h; exact z_out C hQ (by decide) (by decide) (fX.o2 (.rf hc0) ((zqR_t g2).trans (zq2_f fun w => h w.2)))) (fun v M' hp => ?_)
  obtain ⟨rfl, rfl, g14⟩ := hp
  refine z_aload_n C dX8_rank_17 rfl ?_
  refine z_aload C dX8_rank_18 rfl ?_
  refine z_get C dX8_rank_20 fl_X8_188 (by first | assumption | ((repeat (first | assumption | exact va_up_self _ _ _ | refine (va_up_ne _ _ (by assumption)).trans ?_)); done) | (simp [va_up, *] <;> rfl)) rfl ?_
  refine z_iload_n C dX8_rank_23 rfl ?_
  refine z_iload_n C dX8_rank_24 rfl ?_
  refine z_iload C dX8_rank_25 rfl ?_
  refine z_callV C dX8_rank_27 lk_X8_230 mw_X8_rankIn mi_X8_rankIn ms_X8_rankIn rfl (by first | assumption | ((repeat (first | assumption | exact va_up_self _ _ _ | refine (va_up_ne _ _ (by assumption)).trans ?_)); done) | (simp [va_up, *] <;> rfl)) (k_X8_rankIn hF hRQ hR.2.2.1 g9.cx (s0 := ss) g14) rfl (by first | decide | exact Nat.le_of_ble_eq_true rfl) ⟨by decide, by decide, by decide, by decide⟩ (fun _ _ h => False.elim h) (fun v M' hp => ?_)
  obtain ⟨r27, rfl, f27, hQ27, hr27, hz27⟩ := hp
  refine z_iret C hQ dX8_rank_30 rfl (by decide) (by decide) ?_
  rw [hr27]
  exact fI.of (hok _ f27 hQ27) ((zqR_t g2).trans (zq2_t ⟨g9, g14⟩))
noncomputable def q_foundOrder (S : zSt) (rr bb pp ss : Int) : Int × Int := zqR S rr (zq2 (zCv bb pp ∧ zSy ss) (0, zlv (rC (sRd S rr.toNat)) bb pp ss))
set_option maxHeartbeats 4000000 in
set_option maxRecDepth 100000 in
theorem k_X8_foundOrder {l : Launch} {γ : zG} {M : zM} {U : Nat → Nat} {Y : zSys} {rr bb pp ss : Int} (hc : hFc γ M U Y) (hk : yOk Y) (hrr : zR rr) (hbb : zR bb) (hpp : zR pp) (hss : zR ss) :
    zCon l γ yX8_foundOrder cX8_foundOrder 6 (some .int) [.ref (U 0), .int (zi rr), .int (zi bb), .int (zi pp), .int (zi ss)] M 7 104 3 18 (fI γ M U Y (q_foundOrder (yS Y) rr bb pp ss)) (fX γ M U Y (q_foundOrder (yS Y) rr bb pp ss) xIOB xIAE) := by
  have hc0 := hc
  obtain ⟨hI, pn, Z, iF, oF, hZ, hF, hX, hi1, ho1⟩ := hc
  have hob := id hF
  unfold hFo at hob
  have hD : hSt γ M (zUb U 0) (yS Y) := hZ.2.1 ▸ hX.st0
  have hst := hD.ob
  have hkn := hk.1.1
  have hkk := hk.1.nk
  have hRQ := hX.2.2.2.2.2.2.1
  have hok := fun M' => @fOk.rk γ M M' U Y pn Z iF oF hI hZ hF hX hi1 ho1
  refine zEnter [some (.ref (U 0)), some (.int (zi rr)), some (.int (zi bb)), some (.int (zi pp)), some (.int (zi ss)), none] (by decide +kernel) rfl rfl (Nat.le_of_ble_eq_true rfl) ?_
  intro p e s m args below meth c Q C hin hQ
  refine z_aload_n C dX8_foundOrder_0 rfl ?_
  refine z_iload_n C dX8_foundOrder_1 rfl ?_
  refine z_callV C dX8_foundOrder_2 lk_X8_149 mw_X8_existingReader mi_X8_existingReader ms_X8_existingReader rfl (by first | assumption | ((repeat (first | assumption | exact va_up_self _ _ _ | refine (va_up_ne _ _ (by assumption)).trans ?_)); done) | (simp [va_up, *] <;> rfl)) (k_X8_existingReader hF hD hkk hrr) rfl (by first | decide | exact Nat.le_of_ble_eq_true rfl) ⟨by decide, by decide, by decide, by decide⟩ (fun X M' h => by obtain ⟨rfl, rfl, h⟩ := h; exact z_out C hQ (by decide) (by decide) (fX.o1 (.rf hc0) (zqR_f h))) (fun v M' hp => ?_)
  obtain ⟨rfl, g2, rfl⟩ := hp
  have hro := hD.rdo (i := rr.toNat) (by omega) (by omega)
  have hR := hD.rd (i := rr.toNat) (by omega) (by omega)
  obtain ⟨cn, hco, hcz, hcr⟩ := hD.rdc (i := rr.toNat) (by omega) (by omega)
  have hrk := (hk.1.2.2 rr.toNat (by omega)).1
  refine z_astore C dX8_foundOrder_5 (by decide) ?_
  refine z_iload_n C dX8_foundOrder_7 rfl ?_
  refine z_iload_n C dX8_foundOrder_8 rfl ?_
  refine z_callS C dX8_foundOrder_9 lk_X8_198 mw_X8_requireContext mst_X8_requireContext (k_X8_requireContext hbb hpp) rfl (by first | decide | exact Nat.le_of_ble_eq_true rfl) ⟨by decide, by decide, by decide, by decide⟩ (fun X M' h => by obtain ⟨rfl, rfl, h⟩ := h; exact z_out C hQ (by decide) (by decide) (fX.o2 (.rf hc0) ((zqR_t g2).trans (zq2_f fun w => h w.1)))) (fun v M' hp => ?_)
  obtain ⟨rfl, rfl, g9⟩ := hp
  refine z_iload C dX8_foundOrder_12 rfl ?_
  refine z_callS C dX8_foundOrder_14 lk_X8_185 mw_X8_requireSymbol mst_X8_requireSymbol (k_X8_requireSymbol hss) rfl (by first | decide | exact Nat.le_of_ble_eq_true rfl) ⟨by decide, by decide, by decide, by decide⟩ (fun X M' h => by obtain ⟨rfl, rfl, h⟩ := h; exact z_out C hQ (by decide) (by decide) (fX.o2 (.rf hc0) ((zqR_t g2).trans (zq2_f fun w => h w.2)))) (fun v M' hp => ?_)
  obtain ⟨rfl, rfl, g14⟩ := hp
  refine z_aload C dX8_foundOrder_17 rfl ?_
  refine z_get C dX8_foundOrder_19 fl_X8_188 (by first | assumption | ((repeat (first | assumption | exact va_up_self _ _ _ | refine (va_up_ne _ _ (by assumption)).trans ?_)); done) | (simp [va_up, *] <;> rfl)) rfl ?_
  refine z_iload_n C dX8_foundOrder_22 rfl ?_
  refine z_iload_n C dX8_foundOrder_23 rfl ?_
  refine z_iload C dX8_foundOrder_24 rfl ?_
  refine z_callS C dX8_foundOrder_26 lk_X8_233 mw_X8_orderOf mst_X8_orderOf (k_X8_orderOf hR.2.2.1 g9.cx (s0 := ss) g14) rfl (by first | decide | exact Nat.le_of_ble_eq_true rfl) ⟨by decide, by decide, by decide, by decide⟩ (fun _ _ h => False.elim h) (fun v M' hp => ?_)
  obtain ⟨r26, rfl, rfl, hr26⟩ := hp
  refine z_iret C hQ dX8_foundOrder_29 rfl (by decide) (by decide) ?_
  rw [hr26]
  exact fI.of (.rf hc0) ((zqR_t g2).trans (zq2_t ⟨g9, g14⟩))
noncomputable def q_escapes (S : zSt) (rr bb pp ss : Int) : Int × Int := zqR S rr (zq2 (zCv bb pp ∧ zSy ss) (0, zcE (rC (sRd S rr.toNat)) bb pp ss (rMe (sRd S rr.toNat))))
set_option maxHeartbeats 4000000 in
set_option maxRecDepth 100000 in
theorem k_X8_escapes {l : Launch} {γ : zG} {M : zM} {U : Nat → Nat} {Y : zSys} {rr bb pp ss : Int} (hc : hFc γ M U Y) (hk : yOk Y) (hrr : zR rr) (hbb : zR bb) (hpp : zR pp) (hss : zR ss) :
    zCon l γ yX8_escapes cX8_escapes 5 (some .int) [.ref (U 0), .int (zi rr), .int (zi bb), .int (zi pp), .int (zi ss)] M 8 129 3 18 (fI γ M U Y (q_escapes (yS Y) rr bb pp ss)) (fX γ M U Y (q_escapes (yS Y) rr bb pp ss) xIOB xIAE) := by
  have hc0 := hc
  obtain ⟨hI, pn, Z, iF, oF, hZ, hF, hX, hi1, ho1⟩ := hc
  have hob := id hF
  unfold hFo at hob
  have hD : hSt γ M (zUb U 0) (yS Y) := hZ.2.1 ▸ hX.st0
  have hst := hD.ob
  have hkn := hk.1.1
  have hkk := hk.1.nk
  have hRQ := hX.2.2.2.2.2.2.1
  have hok := fun M' => @fOk.rk γ M M' U Y pn Z iF oF hI hZ hF hX hi1 ho1
  obtain ⟨T0, B0, E0, mk0, hch⟩ := hX.2.2.2.2.2.2.2.1
  refine zEnter [some (.ref (U 0)), some (.int (zi rr)), some (.int (zi bb)), some (.int (zi pp)), some (.int (zi ss))] (by decide +kernel) rfl rfl (Nat.le_of_ble_eq_true rfl) ?_
  intro p e s m args below meth c Q C hin hQ
  refine z_aload_n C dX8_escapes_0 rfl ?_
  refine z_iload_n C dX8_escapes_1 rfl ?_
  refine z_iload_n C dX8_escapes_2 rfl ?_
  refine z_iload_n C dX8_escapes_3 rfl ?_
  refine z_iload C dX8_escapes_4 rfl ?_
  refine z_callV C dX8_escapes_6 lk_X8_236 mw_X8_chanceOf mi_X8_chanceOf ms_X8_chanceOf rfl (by first | assumption | ((repeat (first | assumption | exact va_up_self _ _ _ | refine (va_up_ne _ _ (by assumption)).trans ?_)); done) | (simp [va_up, *] <;> rfl)) (k_X8_chanceOf hF hD hk.1 hch hrr hbb hpp hss) rfl (by first | decide | exact Nat.le_of_ble_eq_true rfl) ⟨by decide, by decide, by decide, by decide⟩ (fun X M' h => by
  obtain ⟨rfl, h⟩ := h
  rcases h with ⟨rfl, h⟩ | ⟨rfl, h, h2⟩
  · exact z_out C hQ (by decide) (by decide) (fX.o1 (.rf hc0) (zqR_f h))
  · exact z_out C hQ (by decide) (by decide) (fX.o2 (.rf hc0) ((zqR_t h).trans (zq2_f h2)))) (fun v M' hp => ?_)
  obtain ⟨rfl, f6, g2, g9, g14, mk2, hH2⟩ := hp
  have hob6 := id hH2
  unfold hCh at hob6
  have hok6 := fOk.ch hI hZ hF hX hi1 ho1 f6 hH2
  refine z_get C dX8_escapes_9 fl_X8_240 (by first | assumption | ((repeat (first | assumption | exact va_up_self _ _ _ | refine (va_up_ne _ _ (by assumption)).trans ?_)); done) | (simp [va_up, *] <;> rfl)) rfl ?_
  refine z_iret C hQ dX8_escapes_12 rfl (by decide) (by decide) ?_
  exact fI.of hok6 ((zqR_t g2).trans (zq2_t ⟨g9, g14⟩))
noncomputable def q_numerator (S : zSt) (rr bb pp ss : Int) : Int × Int := zqR S rr (zq2 (zCv bb pp ∧ zSy ss) (0, zcT (rC (sRd S rr.toNat)) bb pp ss (rMe (sRd S rr.toNat))))
set_option maxHeartbeats 4000000 in
set_option maxRecDepth 100000 in
theorem k_X8_numerator {l : Launch} {γ : zG} {M : zM} {U : Nat → Nat} {Y : zSys} {rr bb pp ss : Int} (hc : hFc γ M U Y) (hk : yOk Y) (hrr : zR rr) (hbb : zR bb) (hpp : zR pp) (hss : zR ss) :
    zCon l γ yX8_numerator cX8_numerator 5 (some .long) [.ref (U 0), .int (zi rr), .int (zi bb), .int (zi pp), .int (zi ss)] M 8 129 3 18 (fL γ M U Y (q_numerator (yS Y) rr bb pp ss)) (fX γ M U Y (q_numerator (yS Y) rr bb pp ss) xIOB xIAE) := by
  have hc0 := hc
  obtain ⟨hI, pn, Z, iF, oF, hZ, hF, hX, hi1, ho1⟩ := hc
  have hob := id hF
  unfold hFo at hob
  have hD : hSt γ M (zUb U 0) (yS Y) := hZ.2.1 ▸ hX.st0
  have hst := hD.ob
  have hkn := hk.1.1
  have hkk := hk.1.nk
  have hRQ := hX.2.2.2.2.2.2.1
  have hok := fun M' => @fOk.rk γ M M' U Y pn Z iF oF hI hZ hF hX hi1 ho1
  obtain ⟨T0, B0, E0, mk0, hch⟩ := hX.2.2.2.2.2.2.2.1
  refine zEnter [some (.ref (U 0)), some (.int (zi rr)), some (.int (zi bb)), some (.int (zi pp)), some (.int (zi ss))] (by decide +kernel) rfl rfl (Nat.le_of_ble_eq_true rfl) ?_
  intro p e s m args below meth c Q C hin hQ
  refine z_aload_n C dX8_numerator_0 rfl ?_
  refine z_iload_n C dX8_numerator_1 rfl ?_
  refine z_iload_n C dX8_numerator_2 rfl ?_
  refine z_iload_n C dX8_numerator_3 rfl ?_
  refine z_iload C dX8_numerator_4 rfl ?_
  refine z_callV C dX8_numerator_6 lk_X8_236 mw_X8_chanceOf mi_X8_chanceOf ms_X8_chanceOf rfl (by first | assumption | ((repeat (first | assumption | exact va_up_self _ _ _ | refine (va_up_ne _ _ (by assumption)).trans ?_)); done) | (simp [va_up, *] <;> rfl)) (k_X8_chanceOf hF hD hk.1 hch hrr hbb hpp hss) rfl (by first | decide | exact Nat.le_of_ble_eq_true rfl) ⟨by decide, by decide, by decide, by decide⟩ (fun X M' h => by
  obtain ⟨rfl, h⟩ := h
  rcases h with ⟨rfl, h⟩ | ⟨rfl, h, h2⟩
  · exact z_out C hQ (by decide) (by decide) (fX.o1 (.rf hc0) (zqR_f h))
  · exact z_out C hQ (by decide) (by decide) (fX.o2 (.rf hc0) ((zqR_t h).trans (zq2_f h2)))) (fun v M' hp => ?_)
  obtain ⟨rfl, f6, g2, g9, g14, mk2, hH2⟩ := hp
  have hob6 := id hH2
  unfold hCh at hob6
  have hok6 := fOk.ch hI hZ hF hX hi1 ho1 f6 hH2
  refine z_get C dX8_numerator_9 fl_X8_243 (by first | assumption | ((repeat (first | assumption | exact va_up_self _ _ _ | refine (va_up_ne _ _ (by assumption)).trans ?_)); done) | (simp [va_up, *] <;> rfl)) rfl ?_
  refine z_lret C hQ dX8_numerator_12 (by decide) (by decide) ?_
  exact fL.of hok6 ((zqR_t g2).trans (zq2_t ⟨g9, g14⟩))
noncomputable def q_denominator (S : zSt) (rr bb pp ss : Int) : Int × Int := zqR S rr (zq2 (zCv bb pp ∧ zSy ss) (0, zcB (rC (sRd S rr.toNat)) bb pp ss (rMe (sRd S rr.toNat))))
set_option maxHeartbeats 4000000 in
set_option maxRecDepth 100000 in
theorem k_X8_denominator {l : Launch} {γ : zG} {M : zM} {U : Nat → Nat} {Y : zSys} {rr bb pp ss : Int} (hc : hFc γ M U Y) (hk : yOk Y) (hrr : zR rr) (hbb : zR bb) (hpp : zR pp) (hss : zR ss) :
    zCon l γ yX8_denominator cX8_denominator 5 (some .long) [.ref (U 0), .int (zi rr), .int (zi bb), .int (zi pp), .int (zi ss)] M 8 129 3 18 (fL γ M U Y (q_denominator (yS Y) rr bb pp ss)) (fX γ M U Y (q_denominator (yS Y) rr bb pp ss) xIOB xIAE) := by
  have hc0 := hc
  obtain ⟨hI, pn, Z, iF, oF, hZ, hF, hX, hi1, ho1⟩ := hc
  have hob := id hF
  unfold hFo at hob
  have hD : hSt γ M (zUb U 0) (yS Y) := hZ.2.1 ▸ hX.st0
  have hst := hD.ob
  have hkn := hk.1.1
  have hkk := hk.1.nk
  have hRQ := hX.2.2.2.2.2.2.1
  have hok := fun M' => @fOk.rk γ M M' U Y pn Z iF oF hI hZ hF hX hi1 ho1
  obtain ⟨T0, B0, E0, mk0, hch⟩ := hX.2.2.2.2.2.2.2.1
  refine zEnter [some (.ref (U 0)), some (.int (zi rr)), some (.int (zi bb)), some (.int (zi pp)), some (.int (zi ss))] (by decide +kernel) rfl rfl (Nat.le_of_ble_eq_true rfl) ?_
  intro p e s m args below meth c Q C hin hQ
  refine z_aload_n C dX8_denominator_0 rfl ?_
  refine z_iload_n C dX8_denominator_1 rfl ?_
  refine z_iload_n C dX8_denominator_2 rfl ?_
  refine z_iload_n C dX8_denominator_3 rfl ?_
  refine z_iload C dX8_denominator_4 rfl ?_
  refine z_callV C dX8_denominator_6 lk_X8_236 mw_X8_chanceOf mi_X8_chanceOf ms_X8_chanceOf rfl (by first | assumption | ((repeat (first | assumption | exact va_up_self _ _ _ | refine (va_up_ne _ _ (by assumption)).trans ?_)); done) | (simp [va_up, *] <;> rfl)) (k_X8_chanceOf hF hD hk.1 hch hrr hbb hpp hss) rfl (by first | decide | exact Nat.le_of_ble_eq_true rfl) ⟨by decide, by decide, by decide, by decide⟩ (fun X M' h => by
  obtain ⟨rfl, h⟩ := h
  rcases h with ⟨rfl, h⟩ | ⟨rfl, h, h2⟩
  · exact z_out C hQ (by decide) (by decide) (fX.o1 (.rf hc0) (zqR_f h))
  · exact z_out C hQ (by decide) (by decide) (fX.o2 (.rf hc0) ((zqR_t h).trans (zq2_f h2)))) (fun v M' hp => ?_)
  obtain ⟨rfl, f6, g2, g9, g14, mk2, hH2⟩ := hp
  have hob6 := id hH2
  unfold hCh at hob6
  have hok6 := fOk.ch hI hZ hF hX hi1 ho1 f6 hH2
  refine z_get C dX8_denominator_9 fl_X8_247 (by first | assumption | ((repeat (first | assumption | exact va_up_self _ _ _ | refine (va_up_ne _ _ (by assumption)).trans ?_)); done) | (simp [va_up, *] <;> rfl)) rfl ?_
  refine z_lret C hQ dX8_denominator_12 (by decide) (by decide) ?_
  exact fL.of hok6 ((zqR_t g2).trans (zq2_t ⟨g9, g14⟩))
noncomputable def q_codeLength (S : zSt) (rr bb pp ss : Int) : Int × Int := zqR S rr (zq2 (zCv bb pp ∧ zSy ss) (0, zbt 62 (zcT (rC (sRd S rr.toNat)) bb pp ss (rMe (sRd S rr.toNat))) (zcB (rC (sRd S rr.toNat)) bb pp ss (rMe (sRd S rr.toNat)))))
set_option maxHeartbeats 4000000 in
set_option maxRecDepth 100000 in
theorem k_X8_codeLength {l : Launch} {γ : zG} {M : zM} {U : Nat → Nat} {Y : zSys} {rr bb pp ss : Int} (hc : hFc γ M U Y) (hk : yOk Y) (hrr : zR rr) (hbb : zR bb) (hpp : zR pp) (hss : zR ss) :
    zCon l γ yX8_codeLength cX8_codeLength 5 (some .int) [.ref (U 0), .int (zi rr), .int (zi bb), .int (zi pp), .int (zi ss)] M 8 129 3 18 (fI γ M U Y (q_codeLength (yS Y) rr bb pp ss)) (fX γ M U Y (q_codeLength (yS Y) rr bb pp ss) xIOB xIAE) := by
  have hc0 := hc
  obtain ⟨hI, pn, Z, iF, oF, hZ, hF, hX, hi1, ho1⟩ := hc
  have hob := id hF
  unfold hFo at hob
  have hD : hSt γ M (zUb U 0) (yS Y) := hZ.2.1 ▸ hX.st0
  have hst := hD.ob
  have hkn := hk.1.1
  have hkk := hk.1.nk
  have hRQ := hX.2.2.2.2.2.2.1
  have hok := fun M' => @fOk.rk γ M M' U Y pn Z iF oF hI hZ hF hX hi1 ho1
  obtain ⟨T0, B0, E0, mk0, hch⟩ := hX.2.2.2.2.2.2.2.1
  refine zEnter [some (.ref (U 0)), some (.int (zi rr)), some (.int (zi bb)), some (.int (zi pp)), some (.int (zi ss))] (by decide +kernel) rfl rfl (Nat.le_of_ble_eq_true rfl) ?_
  intro p e s m args below meth c Q C hin hQ
  refine z_aload_n C dX8_codeLength_0 rfl ?_
  refine z_iload_n C dX8_codeLength_1 rfl ?_
  refine z_iload_n C dX8_codeLength_2 rfl ?_
  refine z_iload_n C dX8_codeLength_3 rfl ?_
  refine z_iload C dX8_codeLength_4 rfl ?_
  refine z_callV C dX8_codeLength_6 lk_X8_236 mw_X8_chanceOf mi_X8_chanceOf ms_X8_chanceOf rfl (by first | assumption | ((repeat (first | assumption | exact va_up_self _ _ _ | refine (va_up_ne _ _ (by assumption)).trans ?_)); done) | (simp [va_up, *] <;> rfl)) (k_X8_chanceOf hF hD hk.1 hch hrr hbb hpp hss) rfl (by first | decide | exact Nat.le_of_ble_eq_true rfl) ⟨by decide, by decide, by decide, by decide⟩ (fun X M' h => by
  obtain ⟨rfl, h⟩ := h
  rcases h with ⟨rfl, h⟩ | ⟨rfl, h, h2⟩
  · exact z_out C hQ (by decide) (by decide) (fX.o1 (.rf hc0) (zqR_f h))
  · exact z_out C hQ (by decide) (by decide) (fX.o2 (.rf hc0) ((zqR_t h).trans (zq2_f h2)))) (fun v M' hp => ?_)
  obtain ⟨rfl, f6, g2, g9, g14, mk2, hH2⟩ := hp
  have hob6 := id hH2
  unfold hCh at hob6
  have hok6 := fOk.ch hI hZ hF hX hi1 ho1 f6 hH2
  have hrr3 := (hk.1.2.2 rr.toNat (by omega)).1.2.2.1
  have hTB := zcT_rng hrr3 (b := bb) (p := pp) (s := ss) (me := rMe (sRd (yS Y) rr.toNat)) g14
  refine z_callV C dX8_codeLength_9 lk_X8_250 mw_X1_bits mi_X1_bits ms_X1_bits rfl (by first | assumption | ((repeat (first | assumption | exact va_up_self _ _ _ | refine (va_up_ne _ _ (by assumption)).trans ?_)); done) | (simp [va_up, *] <;> rfl)) (k_X1_bits hH2 hTB.1 hTB.2) rfl (by first | decide | exact Nat.le_of_ble_eq_true rfl) ⟨by decide, by decide, by decide, by decide⟩ (fun _ _ h => False.elim h) (fun v M' hp => ?_)
  obtain ⟨r9, rfl, rfl, hr9⟩ := hp
  refine z_iret C hQ dX8_codeLength_12 rfl (by decide) (by decide) ?_
  rw [hr9]
  exact fI.of hok6 ((zqR_t g2).trans (zq2_t ⟨g9, g14⟩))
noncomputable def q_rankAt (S : zSt) (rr dd ii : Int) : Int × Int := zqR S rr (zqD S dd (zq2 (0 ≤ ii ∧ ii < dLe (sDc S dd.toNat)) (0, zrp (rC (sRd S rr.toNat)) (dSy (sDc S dd.toNat)) (dLe (sDc S dd.toNat)) ii)))
noncomputable def q_totalGuesses (S : zSt) (rr dd : Int) : Int × Int := zqR S rr (zqD S dd (0, zgf (rC (sRd S rr.toNat)) (sDc S dd.toNat)))
noncomputable def q_firstGuessHits (S : zSt) (rr dd : Int) : Int × Int := zqR S rr (zqD S dd (0, zhf (rC (sRd S rr.toNat)) (sDc S dd.toNat)))
