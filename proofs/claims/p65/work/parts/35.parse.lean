/-! the parser: a whole text -/
theorem zsemi {f : Nat → Int} {n e : Int} (hO : hBo f n) (he : 0 ≤ e ∧ e ≤ n) (h : hAt f n (ztS f n e) = 59) : e < ztE f n e ∧ ztE f n e ≤ n := by
  have h1 := ztS_rng (f := f) he
  have h2 := ztE_rng hO he
  have h3 : ztK f n e = 3 := by
    unfold ztK
    rw [h]
    decide
  omega
theorem zsb_rng (x : Int) : 0 ≤ zsb x ∧ zsb x < 27 := by
  unfold zsb
  split <;> omega
theorem dNew_ok {f : Nat → Int} {n b e yr : Int} (h : b < e ∧ e - b ≤ 40) : zDok (dNew f n b e yr) := ⟨by
  show 1 ≤ e - b ∧ e - b ≤ 40
  omega, fun j _ => zsb_rng _⟩
theorem rNew_ok {f : Nat → Int} {n b e me : Int} (h : b < e ∧ e - b ≤ 4) (hm : 0 ≤ me ∧ me ≤ 2) (hl : hNm f n b e) : zRok (rNew f n b e me) := ⟨hm, by
  show 1 ≤ e - b ∧ e - b ≤ 4
  omega, fun x => by
  show (0 : Int) ≤ 0 ∧ (0 : Int) ≤ 999
  omega, fun j hj => hl _ (by omega) (by
  have hj : (j : Int) < e - b := hj
  omega)⟩
/-- what a good statement does -/
def zGd (n e : Int) (q : zPR) : Prop := zOk q.2.2.1 ∧ e < q.2.2.2 ∧ q.2.2.2 ≤ n
theorem zpY_ok {f : Nat → Int} {n e : Int} {S : zSt} (hO : hBo f n) (he : 0 ≤ e ∧ e ≤ n) (hk : zOk S) (h : (zpY f n S e).1 = 0) : zGd n e (zpY f n S e) := by
  have h1 := ztS_rng (f := f) he
  have h2 := ztE_rng hO he
  have h3 := zsemi hO (e := ztE f n e) (by omega)
  unfold zpY at h ⊢
  by_cases c1 : hAt f n (ztS f n (ztE f n e)) = 59
  · rw [if_pos c1]
    have := h3 c1
    refine ⟨hk.year, ?_, ?_⟩
    · show e < ztE f n (ztE f n e)
      omega
    · exact this.2
  · rw [if_neg c1] at h
    simp at h
theorem zpD_ok {f : Nat → Int} {n e : Int} {S : zSt} (hO : hBo f n) (he : 0 ≤ e ∧ e ≤ n) (hk : zOk S) (h : (zpD f n S e).1 = 0) : zGd n e (zpD f n S e) := by
  have h1 := ztS_rng (f := f) he
  have h2 := ztE_rng hO he
  have h5 := ztS_rng (f := f) (n := n) (e := ztE f n e) (by omega)
  have h6 := ztE_rng hO (e := ztE f n e) (by omega)
  have h3 := zsemi hO (e := ztE f n (ztE f n e)) (by omega)
  unfold zpD at h ⊢
  by_cases c1 : 8 ≤ sDn S
  · rw [if_pos c1] at h
    simp at h
  rw [if_neg c1] at h ⊢
  by_cases c2 : ztK f n (ztE f n e) ≠ 1
  · rw [if_pos c2] at h
    simp at h
  rw [if_neg c2] at h ⊢
  by_cases c3 : 40 < ztE f n (ztE f n e) - ztS f n (ztE f n e)
  · rw [if_pos c3] at h
    simp at h
  rw [if_neg c3] at h ⊢
  unfold zpD3 at h ⊢
  by_cases c4 : hAt f n (ztS f n (ztE f n (ztE f n e))) = 59
  · rw [if_pos c4]
    have := h3 c4
    refine ⟨hk.addD (by omega) (dNew_ok (by omega)), ?_, this.2⟩
    show e < ztE f n (ztE f n (ztE f n e))
    omega
  · rw [if_neg c4] at h
    simp at h
theorem zpR_ok {f : Nat → Int} {n e : Int} {S : zSt} (hO : hBo f n) (he : 0 ≤ e ∧ e ≤ n) (hk : zOk S) (h : (zpR f n S e).1 = 0) : zGd n e (zpR f n S e) := by
  have h1 := ztS_rng (f := f) he
  have h2 := ztE_rng hO he
  have h5 := ztS_rng (f := f) (n := n) (e := ztE f n e) (by omega)
  have h6 := ztE_rng hO (e := ztE f n e) (by omega)
  have h7 := ztS_rng (f := f) (n := n) (e := ztE f n (ztE f n e)) (by omega)
  have h8 := ztE_rng hO (e := ztE f n (ztE f n e)) (by omega)
  have h3 := zsemi hO (e := ztE f n (ztE f n (ztE f n e))) (by omega)
  unfold zpR at h ⊢
  by_cases c1 : 4 ≤ sRn S
  · rw [if_pos c1] at h
    simp at h
  rw [if_neg c1] at h ⊢
  by_cases c2 : ztK f n (ztE f n e) ≠ 1
  · rw [if_pos c2] at h
    simp at h
  rw [if_neg c2] at h ⊢
  by_cases c3 : ztE f n (ztE f n e) - ztS f n (ztE f n e) ≤ 4 ∧ hNm f n (ztS f n (ztE f n e)) (ztE f n (ztE f n e))
  · rw [zif_t c3] at h ⊢
    by_cases c4 : zNo S f n (ztS f n (ztE f n e)) (ztE f n (ztE f n e)) ≠ -1
    · rw [if_pos c4] at h
      simp at h
    rw [if_neg c4] at h ⊢
    unfold zpR3 at h ⊢
    have hmr := zMw_rng f n (ztS f n (ztE f n (ztE f n e))) (ztE f n (ztE f n (ztE f n e)))
    by_cases c5 : zMw f n (ztS f n (ztE f n (ztE f n e))) (ztE f n (ztE f n (ztE f n e))) = -1
    · rw [if_pos c5] at h
      simp at h
    rw [if_neg c5] at h ⊢
    by_cases c6 : hAt f n (ztS f n (ztE f n (ztE f n (ztE f n e)))) = 59
    · rw [if_pos c6]
      have := h3 c6
      refine ⟨hk.addR (by omega) (rNew_ok (by omega) (by omega) c3.2) rfl, ?_, this.2⟩
      show e < ztE f n (ztE f n (ztE f n (ztE f n e)))
      omega
    · rw [if_neg c6] at h
      simp at h
  · rw [zif_f c3] at h
    simp at h
theorem zfi_rng {P : Nat → Prop} : ∀ t : Nat, -1 ≤ zfi P t ∧ zfi P t < t ∨ t = 0 ∧ zfi P t = -1
  | 0 => .inr ⟨rfl, rfl⟩
  | t + 1 => by
    have h := zfi_rng (P := P) t
    unfold zfi
    split
    · by_cases q : P t
      · rw [zif_t q]
        omega
      · rw [zif_f q]
        omega
    · omega
theorem zfi_P {P : Nat → Prop} : ∀ (t i : Nat), zfi P t = i → P i
  | 0, i, h => by
    have h : (-1 : Int) = i := h
    omega
  | t + 1, i, h => by
    unfold zfi at h
    split at h
    · by_cases q : P t
      · rw [zif_t q] at h
        rw [show i = t by omega]
        exact q
      · rw [zif_f q] at h
        omega
    · exact zfi_P t i h
theorem znv_rng {f : Nat → Int} {n : Int} : ∀ (t : Nat) (i v : Int), 0 ≤ v ∧ v ≤ 1000 → (∀ j : Int, i ≤ j → j < i + t → 48 ≤ hAt f n j) → 0 ≤ znv f n t i v ∧ znv f n t i v ≤ 1000
  | 0, _, v, h, _ => h
  | t + 1, i, v, h, hd => by
    have := hd i (by omega) (by omega)
    exact znv_rng t (i + 1) (min (v * 10 + hAt f n i - 48) 1000) (by omega) (fun j h1 h2 => hd j (by omega) (by omega))
theorem zpT_ok {f : Nat → Int} {n e : Int} {S : zSt} (hO : hBo f n) (he : 0 ≤ e ∧ e ≤ n) (hk : zOk S) (h : (zpT f n S e).1 = 0) : zGd n e (zpT f n S e) := by
  have h1 := ztS_rng (f := f) he
  have h2 := ztE_rng hO he
  have h5 := ztS_rng (f := f) (n := n) (e := ztE f n e) (by omega)
  have h6 := ztE_rng hO (e := ztE f n e) (by omega)
  have h7 := ztS_rng (f := f) (n := n) (e := ztE f n (ztE f n e)) (by omega)
  have h8 := ztE_rng hO (e := ztE f n (ztE f n e)) (by omega)
  have h3 := zsemi hO (e := ztE f n (ztE f n (ztE f n e))) (by omega)
  have hkn := hk.1
  unfold zpT zpT1 at h ⊢
  by_cases c1 : ztK f n (ztE f n e) ≠ 1
  · rw [if_pos c1] at h
    simp at h
  rw [if_neg c1] at h ⊢
  by_cases c2 : zNo S f n (ztS f n (ztE f n e)) (ztE f n (ztE f n e)) = -1
  · rw [if_pos c2] at h
    simp at h
  rw [if_neg c2] at h ⊢
  unfold zpT2 at h ⊢
  by_cases c3 : ztK f n (ztE f n (ztE f n e)) ≠ 2
  · rw [if_pos c3] at h
    simp at h
  rw [if_neg c3] at h ⊢
  have hv := znv_rng (f := f) (n := n) (ztE f n (ztE f n (ztE f n e)) - ztS f n (ztE f n (ztE f n e))).toNat (ztS f n (ztE f n (ztE f n e))) 0 (by omega) fun j j1 j2 => by
    have q := ztK_all (f := f) (n := n) (e := ztE f n (ztE f n e)) (.inr (by omega)) j1 (by omega)
    rw [show ztK f n (ztE f n (ztE f n e)) = 2 by omega] at q
    exact (zkd_2 q).1
  generalize znv f n (ztE f n (ztE f n (ztE f n e)) - ztS f n (ztE f n (ztE f n e))).toNat (ztS f n (ztE f n (ztE f n e))) 0 = v at *
  by_cases c4 : sDn S ≤ v
  · rw [if_pos c4] at h
    simp at h
  rw [if_neg c4] at h ⊢
  unfold zpT3 at h ⊢
  by_cases c6 : hAt f n (ztS f n (ztE f n (ztE f n (ztE f n e)))) = 59
  · rw [if_pos c6]
    have := h3 c6
    have hr : -1 ≤ zNo S f n (ztS f n (ztE f n e)) (ztE f n (ztE f n e)) ∧ zNo S f n (ztS f n (ztE f n e)) (ztE f n (ztE f n e)) < sRn S := by
      have := zfi_rng (P := hNa S f n (ztS f n (ztE f n e)) (ztE f n (ztE f n e))) (sRn S).toNat
      unfold zNo
      omega
    have ho := hk.trn (i := (zNo S f n (ztS f n (ztE f n e)) (ztE f n (ztE f n e))).toNat) (d := v.toNat) (by omega) (by omega) v
    refine ⟨hk.setR ho.1 ho.2, ?_, this.2⟩
    show e < ztE f n (ztE f n (ztE f n (ztE f n e)))
    omega
  · rw [if_neg c6] at h
    simp at h
theorem zpS_ok {f : Nat → Int} {n e : Int} {S : zSt} (hO : hBo f n) (he : 0 ≤ e ∧ e ≤ n) (hk : zOk S) (h : (zpS f n S e).1 = 0) : zGd n e (zpS f n S e) := by
  unfold zpS at h ⊢
  by_cases c1 : zWd f n 1 (ztS f n e) (ztE f n e)
  · rw [zif_t c1] at h ⊢
    exact zpR_ok hO he hk h
  rw [zif_f c1] at h ⊢
  by_cases c2 : zWd f n 5 (ztS f n e) (ztE f n e)
  · rw [zif_t c2] at h ⊢
    exact zpD_ok hO he hk h
  rw [zif_f c2] at h ⊢
  by_cases c3 : zWd f n 6 (ztS f n e) (ztE f n e)
  · rw [zif_t c3] at h ⊢
    exact zpT_ok hO he hk h
  rw [zif_f c3] at h ⊢
  by_cases c4 : zWd f n 7 (ztS f n e) (ztE f n e)
  · rw [zif_t c4] at h ⊢
    exact zpY_ok hO he hk h
  rw [zif_f c4] at h
  simp at h
set_option maxHeartbeats 4000000 in
set_option maxRecDepth 100000 in
theorem k_X4_init {l : Launch} {γ : zG} {M : zM} {a ta d : Nat} (hM : M a = some (.inr (4, [.null, .null, .int 0, .int 0, .int 0, .int 0, .int 0]))) :
    zCon l γ yX4_init cX4_init 3 none [.ref a, .ref ta, .ref d] M 1 12 0 0 (fun v' M' => v' = none ∧ zFr M M' [a] ∧ hPt γ M' a ta d 0 0 0 0 (-1)) (fun _ _ => False) := by
  refine zEnter [some (.ref a), some (.ref ta), some (.ref d)] (by decide +kernel) rfl rfl (Nat.le_of_ble_eq_true rfl) ?_
  intro p e s m args below meth c Q C hin hQ
  refine z_aload_n C dX4_init_0 rfl ?_
  refine z_objInit C dX4_init_1 t1_219 ob_in ob_co ⟨by decide, (by first | decide | exact Nat.le_of_ble_eq_true rfl)⟩ ?_
  refine z_aload_n C dX4_init_4 rfl ?_
  refine z_iconst C dX4_init_5 ?_
  refine z_put C dX4_init_6 fl_X4_11 (by first | assumption | ((repeat (first | assumption | exact va_up_self _ _ _ | refine (va_up_ne _ _ (by assumption)).trans ?_)); done) | (simp [va_up, *] <;> rfl)) rfl rfl (by simp) ?_
  refine z_aload_n C dX4_init_9 rfl ?_
  refine z_iconst C dX4_init_10 ?_
  refine z_put C dX4_init_11 fl_X4_15 (by first | assumption | ((repeat (first | assumption | exact va_up_self _ _ _ | refine (va_up_ne _ _ (by assumption)).trans ?_)); done) | (simp [va_up, *] <;> rfl)) rfl rfl (by simp) ?_
  refine z_aload_n C dX4_init_14 rfl ?_
  refine z_iconst C dX4_init_15 ?_
  refine z_put C dX4_init_16 fl_X4_18 (by first | assumption | ((repeat (first | assumption | exact va_up_self _ _ _ | refine (va_up_ne _ _ (by assumption)).trans ?_)); done) | (simp [va_up, *] <;> rfl)) rfl rfl (by simp) ?_
  refine z_aload_n C dX4_init_19 rfl ?_
  refine z_iconst C dX4_init_20 ?_
  refine z_put C dX4_init_21 fl_X4_21 (by first | assumption | ((repeat (first | assumption | exact va_up_self _ _ _ | refine (va_up_ne _ _ (by assumption)).trans ?_)); done) | (simp [va_up, *] <;> rfl)) rfl rfl (by simp) ?_
  refine z_aload_n C dX4_init_24 rfl ?_
  refine z_iconst C dX4_init_25 ?_
  refine z_put C dX4_init_26 fl_X4_24 (by first | assumption | ((repeat (first | assumption | exact va_up_self _ _ _ | refine (va_up_ne _ _ (by assumption)).trans ?_)); done) | (simp [va_up, *] <;> rfl)) rfl rfl (by simp) ?_
  refine z_aload_n C dX4_init_29 rfl ?_
  refine z_aload_n C dX4_init_30 rfl ?_
  refine z_putF C dX4_init_31 fl_X4_27 hin (by first | assumption | ((repeat (first | assumption | exact va_up_self _ _ _ | refine (va_up_ne _ _ (by assumption)).trans ?_)); done) | (simp [va_up, *] <;> rfl)) (fun _ _ _ h => by cases h; rfl) rfl rfl (by simp) ?_
  refine z_aload_n C dX4_init_34 rfl ?_
  refine z_aload_n C dX4_init_35 rfl ?_
  refine z_putF C dX4_init_36 fl_X4_31 hin (by first | assumption | ((repeat (first | assumption | exact va_up_self _ _ _ | refine (va_up_ne _ _ (by assumption)).trans ?_)); done) | (simp [va_up, *] <;> rfl)) (fun _ _ _ h => by cases h; rfl) rfl rfl (by simp) ?_
  refine z_vret C hQ dX4_init_39 (by decide) (by decide) ?_
  refine ⟨rfl, ?_, va_up_self _ _ _⟩
  exact zFr.u1 (zFr.u2 (zFr.u2 (zFr.u2 zFr.rf (by simp) (by simp)) (by simp) (by simp)) (by simp) (by simp)) (by simp)
def zPa (γ : zG) (M : zM) (a ta : Nat) (D : Nat → Nat) (q : zPR) (r : Int) : Prop := (q.1 = 0 ∧ r = 1 ∧ hSt γ M D q.2.2.1 ∧ zOk q.2.2.1 ∧ ∃ K s E, hPt γ M a ta (D 0) K s E 0 (-1)) ∨ (q.1 ≠ 0 ∧ r = 0 ∧ (∃ S', hSt γ M D S') ∧ ∃ K s E, hPt γ M a ta (D 0) K s E q.1 q.2.1)
set_option maxHeartbeats 4000000 in
set_option maxRecDepth 100000 in
theorem k_X4_parseAll {l : Launch} {γ : zG} {M : zM} {a ta tr : Nat} {D : Nat → Nat} {S : zSt} {f : Nat → Int} {n : Int} (hP : hPt γ M a ta (D 0) 0 0 0 0 (-1)) (hT : hBy γ M ta tr f n) (hO : hBo f n) (hI : zInj D) (hD : hSt γ M D S) (hk : zOk S) (ha : a ∉ zFD D) (hdt : ta ∉ zFD D ∧ tr ∉ zFD D) :
    zCon l γ yX4_parseAll cX4_parseAll 3 (some .boolean) [.ref a] M 7 151 0 0 (fun v' M' => ∃ r : Int, v' = some (.int (zi r)) ∧ zFr M M' (a :: zFD D) ∧ zPa γ M' a ta D (zpA f n 501 S 0) r) (fun _ _ => False) := by
  have hDa := zD_na ha
  have hn := hO.1
  have hnt := zPt.nt hP hT
  have hP0 := hP
  unfold hPt at hP0
  have n1 : ta ∉ a :: zFD D := fun q => by
    rcases List.mem_cons.mp q with q | q
    · exact hnt.1 (by simp [q])
    · exact hdt.1 q
  have n2 : tr ∉ a :: zFD D := fun q => by
    rcases List.mem_cons.mp q with q | q
    · exact hnt.2 (by simp [q])
    · exact hdt.2 q
  refine zEnter [some (.ref a), none, none] (by decide +kernel) rfl rfl (Nat.le_of_ble_eq_true rfl) ?_
  intro p e s m args below meth c Q C hin hQ
  have finF : ∀ (M2 : zM) (i : Int), 0 ≤ i ∧ i ≤ 501 → zFr M M2 (a :: zFD D) → zPa γ M2 a ta D (zpA f n 501 S 0) 0 → zAW p l e { frames := 7, cells := 0, slots := 0, locals := 151 } s m args below meth c γ 3 Q M2 0 0 8 [some (.ref a), some (.int (zi 0)), some (.int (zi i))] [] := by
    intro M2 i hi hf hq
    refine z_iload_n C dX4_parseAll_8 rfl ?_
    refine z_sipush C dX4_parseAll_9 (by decide) ?_
    refine z_icmp_gtZ (tgt := 106) C dX4_parseAll_12 (by decide) (by omega) (by omega) (fun h12 => ?_) (fun h12 => ?_)
    · refine z_iload_n C dX4_parseAll_106 rfl ?_
      refine z_iret C hQ dX4_parseAll_107 rfl (by decide) (by decide) ?_
      exact ⟨0, rfl, hf, hq⟩
    · refine z_iload_n C dX4_parseAll_15 rfl ?_
      refine z_if_eqZ (tgt := 106) C dX4_parseAll_16 (by decide) (by omega) (fun h16 => ?_) (fun h16 => ?_)
      · refine z_iload_n C dX4_parseAll_106 rfl ?_
        refine z_iret C hQ dX4_parseAll_107 rfl (by decide) (by decide) ?_
        exact ⟨0, rfl, hf, hq⟩
      · exact absurd rfl h16
  have loop : ∀ (t : Nat) (M1 : zM) (S1 : zSt) (i e0 : Int), 0 ≤ i ∧ i + t = 501 → i ≤ e0 ∧ e0 ≤ n → zFr M M1 (a :: zFD D) → hPk γ M1 a ta (D 0) f n e0 0 (-1) → hSt γ M1 D S1 → zOk S1 → zpA f n t S1 e0 = zpA f n 501 S 0 → zAW p l e { frames := 7, cells := 0, slots := 0, locals := 151 } s m args below meth c γ 3 Q M1 0 0 8 [some (.ref a), some (.int (zi 1)), some (.int (zi i))] [] := by
    intro t
    induction t with
    | zero =>
      intro M1 S1 i e0 hi he hf hP1 hD1 hk1 hz
      omega
    | succ t ih =>
      intro M1 S1 i e0 hi he hf hP1 hD1 hk1 hz
      have he0 : 0 ≤ e0 ∧ e0 ≤ n := by omega
      have hP2 := hP1
      unfold hPk hPt at hP2
      have hP3 : hPt γ M1 a ta (D 0) (ztK f n e0) (ztS f n e0) (ztE f n e0) 0 (-1) := hP1
      have hT1 := hT.fr hf n1 n2
      have h2 := ztE_rng hO he0
      have h0 := ztS_rng (f := f) he0
      have hkr : 0 ≤ ztK f n e0 ∧ ztK f n e0 ≤ 3 := zkd_rng _
      have hw : ∀ j, j < 26 → _ := fun j hj => @k_X4_isWord l γ M1 a ta tr (D 0) j f n (ztK f n e0) (ztS f n e0) (ztE f n e0) 0 (-1) hP3 hT1 hO (by omega) hj
      have hz : (if ztK f n e0 = 0 then (0, -1, S1, e0) else if (zpS f n S1 e0).1 = 0 then zpA f n t (zpS f n S1 e0).2.2.1 (zpS f n S1 e0).2.2.2 else zpS f n S1 e0) = zpA f n 501 S 0 := hz
      have fin100 : ∀ (M2 : zM) (r : Int), ztK f n e0 ≠ 0 → zFr M1 M2 (a :: zFD D) → zPo γ M2 a ta D f n (zpS f n S1 e0) r → zAW p l e { frames := 7, cells := 0, slots := 0, locals := 151 } s m args below meth c γ 3 Q M2 0 0 100 [some (.ref a), some (.int (zi r)), some (.int (zi i))] [] := by
        intro M2 r hk0 hf2 hq
        have hf3 := hf.tr hf2 (fun _ h => h) (fun _ h => h)
        rw [if_neg hk0] at hz
        refine z_iincZ C dX4_parseAll_100 rfl (by decide) ?_
        refine z_goto (tgt := 8) C dX4_parseAll_103 (by decide) ?_
        rcases hq with ⟨q1, q2, q3, q4⟩ | ⟨q1, q2, q3, q4⟩
        · subst q2
          rw [if_pos q1] at hz
          have g := zpS_ok hO he0 hk1 q1
          have g1 := g.2.1
          exact ih _ _ (i + 1) _ (by omega) ⟨by omega, g.2.2⟩ hf3 q4 q3 g.1 hz
        · subst q2
          rw [if_neg q1] at hz
          exact finF _ _ (by omega) hf3 (.inr (by rw [← hz]; exact ⟨q1, rfl, q3, q4⟩))
      refine z_iload_n C dX4_parseAll_8 rfl ?_
      refine z_sipush C dX4_parseAll_9 (by decide) ?_
      refine z_icmp_gtZ (tgt := 106) C dX4_parseAll_12 (by decide) (by omega) (by omega) (fun h12 => ?_) (fun h12 => ?_)
      · exact absurd h12 (by omega)
      · refine z_iload_n C dX4_parseAll_15 rfl ?_
        refine z_if_eqZ (tgt := 106) C dX4_parseAll_16 (by decide) (by omega) (fun h16 => ?_) (fun h16 => ?_)
        · exact absurd h16 (by decide)
        · refine z_aload_n C dX4_parseAll_19 rfl ?_
          refine z_get C dX4_parseAll_20 fl_X4_11 (by first | assumption | ((repeat (first | assumption | exact va_up_self _ _ _ | refine (va_up_ne _ _ (by assumption)).trans ?_)); done) | (simp [va_up, *] <;> rfl)) rfl ?_
          refine z_if_eqZ (tgt := 106) C dX4_parseAll_23 (by decide) (by omega) (fun h23 => ?_) (fun h23 => ?_)
          · refine z_iload_n C dX4_parseAll_106 rfl ?_
            refine z_iret C hQ dX4_parseAll_107 rfl (by decide) (by decide) ?_
            rw [if_pos h23] at hz
            exact ⟨1, rfl, hf, .inl (by rw [← hz]; exact ⟨rfl, rfl, hD1, hk1, _, _, _, hP3⟩)⟩
          · refine z_aload_n C dX4_parseAll_26 rfl ?_
            refine z_ldcS (i := 1) C rfl dX4_parseAll_27 ?_
            refine z_callV C dX4_parseAll_29 lk_X4_40 mw_X4_isWord mi_X4_isWord ms_X4_isWord rfl (by first | assumption | ((repeat (first | assumption | exact va_up_self _ _ _ | refine (va_up_ne _ _ (by assumption)).trans ?_)); done) | (simp [va_up, *] <;> rfl)) (hw 1 (by decide)) rfl (by first | decide | exact Nat.le_of_ble_eq_true rfl) ⟨by decide, by decide, by decide, by decide⟩ (fun _ _ h => False.elim h) (fun v M' hp => ?_)
            obtain ⟨r29, rfl, rfl, hr29⟩ := hp
            have q29 := hr29.rng
            refine z_if_eqZ (tgt := 43) C dX4_parseAll_32 (by decide) (by omega) (fun h32 => ?_) (fun h32 => ?_)
            · refine z_aload_n C dX4_parseAll_43 rfl ?_
              refine z_ldcS (i := 5) C rfl dX4_parseAll_44 ?_
              refine z_callV C dX4_parseAll_46 lk_X4_40 mw_X4_isWord mi_X4_isWord ms_X4_isWord rfl (by first | assumption | ((repeat (first | assumption | exact va_up_self _ _ _ | refine (va_up_ne _ _ (by assumption)).trans ?_)); done) | (simp [va_up, *] <;> rfl)) (hw 5 (by decide)) rfl (by first | decide | exact Nat.le_of_ble_eq_true rfl) ⟨by decide, by decide, by decide, by decide⟩ (fun _ _ h => False.elim h) (fun v M' hp => ?_)
              obtain ⟨r46, rfl, rfl, hr46⟩ := hp
              have q46 := hr46.rng
              refine z_if_eqZ (tgt := 60) C dX4_parseAll_49 (by decide) (by omega) (fun h49 => ?_) (fun h49 => ?_)
              · refine z_aload_n C dX4_parseAll_60 rfl ?_
                refine z_ldcS (i := 6) C rfl dX4_parseAll_61 ?_
                refine z_callV C dX4_parseAll_63 lk_X4_40 mw_X4_isWord mi_X4_isWord ms_X4_isWord rfl (by first | assumption | ((repeat (first | assumption | exact va_up_self _ _ _ | refine (va_up_ne _ _ (by assumption)).trans ?_)); done) | (simp [va_up, *] <;> rfl)) (hw 6 (by decide)) rfl (by first | decide | exact Nat.le_of_ble_eq_true rfl) ⟨by decide, by decide, by decide, by decide⟩ (fun _ _ h => False.elim h) (fun v M' hp => ?_)
                obtain ⟨r63, rfl, rfl, hr63⟩ := hp
                have q63 := hr63.rng
                refine z_if_eqZ (tgt := 77) C dX4_parseAll_66 (by decide) (by omega) (fun h66 => ?_) (fun h66 => ?_)
                · refine z_aload_n C dX4_parseAll_77 rfl ?_
                  refine z_ldcS (i := 7) C rfl dX4_parseAll_78 ?_
                  refine z_callV C dX4_parseAll_80 lk_X4_40 mw_X4_isWord mi_X4_isWord ms_X4_isWord rfl (by first | assumption | ((repeat (first | assumption | exact va_up_self _ _ _ | refine (va_up_ne _ _ (by assumption)).trans ?_)); done) | (simp [va_up, *] <;> rfl)) (hw 7 (by decide)) rfl (by first | decide | exact Nat.le_of_ble_eq_true rfl) ⟨by decide, by decide, by decide, by decide⟩ (fun _ _ h => False.elim h) (fun v M' hp => ?_)
                  obtain ⟨r80, rfl, rfl, hr80⟩ := hp
                  have q80 := hr80.rng
                  refine z_if_eqZ (tgt := 94) C dX4_parseAll_83 (by decide) (by omega) (fun h83 => ?_) (fun h83 => ?_)
                  · refine z_aload_n C dX4_parseAll_94 rfl ?_
                    refine z_iconst C dX4_parseAll_95 ?_
                    refine z_callV C dX4_parseAll_96 lk_X4_63 mw_X4_fail mi_X4_fail ms_X4_fail rfl (by first | assumption | ((repeat (first | assumption | exact va_up_self _ _ _ | refine (va_up_ne _ _ (by assumption)).trans ?_)); done) | (simp [va_up, *] <;> rfl)) (k_X4_fail (code := 1) hP3) rfl (by first | decide | exact Nat.le_of_ble_eq_true rfl) ⟨by decide, by decide, by decide, by decide⟩ (fun _ _ h => False.elim h) (fun v M' hp => ?_)
                    obtain ⟨rfl, f96, hP96⟩ := hp
                    refine z_istore_n C dX4_parseAll_99 (by decide) ?_
                    exact fin100 _ 0 h23 f96.c1 (zPo.no (S := S1) (e := e0) (by decide) (hD1.fr f96 hDa) hP96 (by rw [zpS, zif_f (hr29.f h32), zif_f (hr46.f h49), zif_f (hr63.f h66), zif_f (hr80.f h83)]))
                  · refine z_aload_n C dX4_parseAll_86 rfl ?_
                    refine z_callV C dX4_parseAll_87 lk_X4_60 mw_X4_parseYear mi_X4_parseYear ms_X4_parseYear rfl (by first | assumption | ((repeat (first | assumption | exact va_up_self _ _ _ | refine (va_up_ne _ _ (by assumption)).trans ?_)); done) | (simp [va_up, *] <;> rfl)) (k_X4_parseYear hP1 hT1 hO he0 hI hD1 hk1 ha) rfl (by first | decide | exact Nat.le_of_ble_eq_true rfl) ⟨by decide, by decide, by decide, by decide⟩ (fun _ _ h => False.elim h) (fun v M' hp => ?_)
                    obtain ⟨r87, rfl, f87, hq87⟩ := hp
                    refine z_istore_n C dX4_parseAll_90 (by decide) ?_
                    refine z_goto (tgt := 100) C dX4_parseAll_91 (by decide) ?_
                    exact fin100 _ _ h23 f87 (by rw [zpS, zif_f (hr29.f h32), zif_f (hr46.f h49), zif_f (hr63.f h66), zif_t (hr80.t h83)]; exact hq87)
                · refine z_aload_n C dX4_parseAll_69 rfl ?_
                  refine z_callV C dX4_parseAll_70 lk_X4_55 mw_X4_parseTrain mi_X4_parseTrain ms_X4_parseTrain rfl (by first | assumption | ((repeat (first | assumption | exact va_up_self _ _ _ | refine (va_up_ne _ _ (by assumption)).trans ?_)); done) | (simp [va_up, *] <;> rfl)) (k_X4_parseTrain hP1 hT1 hO he0 hI hD1 hk1 ha) rfl (by first | decide | exact Nat.le_of_ble_eq_true rfl) ⟨by decide, by decide, by decide, by decide⟩ (fun _ _ h => False.elim h) (fun v M' hp => ?_)
                  obtain ⟨r70, rfl, f70, hq70⟩ := hp
                  refine z_istore_n C dX4_parseAll_73 (by decide) ?_
                  refine z_goto (tgt := 100) C dX4_parseAll_74 (by decide) ?_
                  exact fin100 _ _ h23 f70 (by rw [zpS, zif_f (hr29.f h32), zif_f (hr46.f h49), zif_t (hr63.t h66)]; exact hq70)
              · refine z_aload_n C dX4_parseAll_52 rfl ?_
                refine z_callV C dX4_parseAll_53 lk_X4_50 mw_X4_parseDocument mi_X4_parseDocument ms_X4_parseDocument rfl (by first | assumption | ((repeat (first | assumption | exact va_up_self _ _ _ | refine (va_up_ne _ _ (by assumption)).trans ?_)); done) | (simp [va_up, *] <;> rfl)) (k_X4_parseDocument hP1 hT1 hO he0 hI hD1 hk1 ha hdt) rfl (by first | decide | exact Nat.le_of_ble_eq_true rfl) ⟨by decide, by decide, by decide, by decide⟩ (fun _ _ h => False.elim h) (fun v M' hp => ?_)
                obtain ⟨r53, rfl, f53, hq53⟩ := hp
                refine z_istore_n C dX4_parseAll_56 (by decide) ?_
                refine z_goto (tgt := 100) C dX4_parseAll_57 (by decide) ?_
                exact fin100 _ _ h23 f53 (by rw [zpS, zif_f (hr29.f h32), zif_t (hr46.t h49)]; exact hq53)
            · refine z_aload_n C dX4_parseAll_35 rfl ?_
              refine z_callV C dX4_parseAll_36 lk_X4_44 mw_X4_parseReader mi_X4_parseReader ms_X4_parseReader rfl (by first | assumption | ((repeat (first | assumption | exact va_up_self _ _ _ | refine (va_up_ne _ _ (by assumption)).trans ?_)); done) | (simp [va_up, *] <;> rfl)) (k_X4_parseReader hP1 hT1 hO he0 hI hD1 hk1 ha hdt) rfl (by first | decide | exact Nat.le_of_ble_eq_true rfl) ⟨by decide, by decide, by decide, by decide⟩ (fun _ _ h => False.elim h) (fun v M' hp => ?_)
              obtain ⟨r36, rfl, f36, hq36⟩ := hp
              refine z_istore_n C dX4_parseAll_39 (by decide) ?_
              refine z_goto (tgt := 100) C dX4_parseAll_40 (by decide) ?_
              exact fin100 _ _ h23 f36 (by rw [zpS, zif_t (hr29.t h32)]; exact hq36)
  refine z_iconst C dX4_parseAll_0 ?_
  refine z_istore_n C dX4_parseAll_1 (by decide) ?_
  refine z_aload_n C dX4_parseAll_2 rfl ?_
  refine z_callV C dX4_parseAll_3 lk_X4_35 mw_X4_next mi_X4_next ms_X4_next rfl (by first | assumption | ((repeat (first | assumption | exact va_up_self _ _ _ | refine (va_up_ne _ _ (by assumption)).trans ?_)); done) | (simp [va_up, *] <;> rfl)) (k_X4_next hP hT hO (by omega)) rfl (by first | decide | exact Nat.le_of_ble_eq_true rfl) ⟨by decide, by decide, by decide, by decide⟩ (fun _ _ h => False.elim h) (fun v M' hp => ?_)
  obtain ⟨rfl, f1, hP1⟩ := hp
  refine z_iconst C dX4_parseAll_6 ?_
  refine z_istore_n C dX4_parseAll_7 (by decide) ?_
  exact loop 501 _ S 0 0 (by omega) (by omega) f1.c1 hP1 (hD.fr f1 hDa) hk rfl

