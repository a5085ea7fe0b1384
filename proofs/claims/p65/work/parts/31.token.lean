/-! the parser: tokens -/
/-- 0: the end, 1: a word's byte, 2: a digit, 3: another -/
def zkd (x : Int) : Int := if x = -1 then 0 else if (97 ≤ x ∧ x ≤ 122) ∨ x = 95 then 1 else if 48 ≤ x ∧ x ≤ 57 then 2 else 3
def zsk (f : Nat → Int) (n : Int) : Nat → Int → Int
  | 0, q => q
  | t + 1, q => if q < n ∧ (hAt f n q = 32 ∨ hAt f n q = 10) then zsk f n t (q + 1) else q
def zrn (f : Nat → Int) (n k : Int) : Nat → Int → Int
  | 0, q => q
  | t + 1, q => if q < n ∧ zkd (hAt f n q) = k then zrn f n k t (q + 1) else q
/-- the token behind e: where it begins, its kind, where it ends -/
def ztS (f : Nat → Int) (n e : Int) : Int := zsk f n 500 e
def ztK (f : Nat → Int) (n e : Int) : Int := zkd (hAt f n (ztS f n e))
def ztE (f : Nat → Int) (n e : Int) : Int := if ztK f n e = 1 ∨ ztK f n e = 2 then zrn f n (ztK f n e) 500 (ztS f n e + 1) else if ztS f n e < n then ztS f n e + 1 else ztS f n e
theorem zkd_rng (x : Int) : 0 ≤ zkd x ∧ zkd x ≤ 3 := by
  unfold zkd
  split
  · decide
  · split
    · decide
    · split <;> decide
theorem zkd_2 {x : Int} (h : zkd x = 2) : 48 ≤ x ∧ x ≤ 57 := by
  unfold zkd at h
  split at h
  · omega
  · split at h
    · omega
    · split at h <;> omega
theorem zkd_1 {x : Int} (h : zkd x = 1) : (97 ≤ x ∧ x ≤ 122) ∨ x = 95 := by
  unfold zkd at h
  split at h
  · omega
  · split at h
    · assumption
    · split at h <;> omega
theorem zkd_0 {x : Int} : zkd x = 0 ↔ x = -1 := by
  unfold zkd
  split
  · simp [*]
  · split
    · simp [*]
    · split <;> simp [*]
theorem zsk_rng {f : Nat → Int} {n : Int} : ∀ (t : Nat) (q : Int), q ≤ n → q ≤ zsk f n t q ∧ zsk f n t q ≤ n
  | 0, q, h => ⟨Int.le_refl _, h⟩
  | t + 1, q, h => by
    unfold zsk
    split
    · have := zsk_rng (f := f) (n := n) t (q + 1) (by omega)
      omega
    · omega
theorem zrn_rng {f : Nat → Int} {n k : Int} : ∀ (t : Nat) (q : Int), q ≤ n → q ≤ zrn f n k t q ∧ zrn f n k t q ≤ n
  | 0, q, h => ⟨Int.le_refl _, h⟩
  | t + 1, q, h => by
    unfold zrn
    split
    · have := zrn_rng (f := f) (n := n) (k := k) t (q + 1) (by omega)
      omega
    · omega
theorem zrn_all {f : Nat → Int} {n k : Int} : ∀ (t : Nat) (q j : Int), q ≤ j → j < zrn f n k t q → zkd (hAt f n j) = k
  | 0, q, j, h1, h2 => by
    have h2 : j < q := h2
    omega
  | t + 1, q, j, h1, h2 => by
    unfold zrn at h2
    split at h2
    · by_cases e : j = q
      · rw [e]
        rename_i h
        exact h.2
      · exact zrn_all t (q + 1) j (by omega) h2
    · omega
theorem hAt_m1 {f : Nat → Int} {n : Int} (h : hBo f n) {i : Int} (hi : 0 ≤ i) : hAt f n i = -1 ↔ n ≤ i := by
  by_cases e : i < n
  · rw [hAt_in ⟨hi, e⟩]
    have := h.2.2 i.toNat (by omega)
    omega
  · rw [hAt_out (by omega)]
    omega
theorem ztS_rng {f : Nat → Int} {n e : Int} (h : 0 ≤ e ∧ e ≤ n) : e ≤ ztS f n e ∧ ztS f n e ≤ n := zsk_rng 500 e h.2
theorem ztK_0 {f : Nat → Int} {n e : Int} (hO : hBo f n) (h : 0 ≤ e ∧ e ≤ n) : ztK f n e = 0 ↔ ztS f n e = n := by
  have h1 := ztS_rng (f := f) h
  unfold ztK
  rw [zkd_0, hAt_m1 hO (by omega)]
  omega
theorem ztE_rng {f : Nat → Int} {n e : Int} (hO : hBo f n) (h : 0 ≤ e ∧ e ≤ n) : ztS f n e ≤ ztE f n e ∧ ztE f n e ≤ n ∧ (ztK f n e ≠ 0 → ztS f n e < ztE f n e) := by
  have h1 := ztS_rng (f := f) h
  have h2 := ztK_0 hO h
  unfold ztE
  split
  · rename_i q
    have h3 := zrn_rng (f := f) (n := n) (k := ztK f n e) 500 (ztS f n e + 1) (by omega)
    omega
  · split <;> omega
/-- the bytes of a token are of its kind -/
theorem ztK_all {f : Nat → Int} {n e : Int} (hk : ztK f n e = 1 ∨ ztK f n e = 2) {j : Int} (h1 : ztS f n e ≤ j) (h2 : j < ztE f n e) : zkd (hAt f n j) = ztK f n e := by
  unfold ztE at h2
  rw [if_pos hk] at h2
  by_cases e1 : j = ztS f n e
  · rw [e1]
    rfl
  · exact zrn_all 500 _ j (by omega) h2
def hPt (γ : zG) (M : zM) (a ta d : Nat) (K S E ec ep : Int) : Prop := M a = some (.inr (4, [.ref ta, .ref d, .int (zi K), .int (zi S), .int (zi E), .int (zi ec), .int (zi ep)]))
def hPk (γ : zG) (M : zM) (a ta d : Nat) (f : Nat → Int) (n e ec ep : Int) : Prop := hPt γ M a ta d (ztK f n e) (ztS f n e) (ztE f n e) ec ep
set_option maxHeartbeats 4000000 in
set_option maxRecDepth 100000 in
theorem k_X4_isBlank {l : Launch} {γ : zG} {M : zM} {x : Int} (hx : zR x) :
    zCon l γ yX4_isBlank cX4_isBlank 1 (some .boolean) [.int (zi x)] M 0 0 0 0 (fun v' M' => ∃ r : Int, v' = some (.int (zi r)) ∧ M' = M ∧ zB r (x = 32 ∨ x = 10)) (fun _ _ => False) := by
  unfold zR at hx
  refine zEnter [some (.int (zi x))] (by decide +kernel) rfl rfl (Nat.le_of_ble_eq_true rfl) ?_
  intro p e s m args below meth c Q C hin hQ
  refine z_iload_n C dX4_isBlank_0 rfl ?_
  refine z_bipush C dX4_isBlank_1 (by decide) ?_
  refine z_icmp_eqZ (tgt := 12) C dX4_isBlank_3 (by decide) (by omega) (by omega) (fun h3 => ?_) (fun h3 => ?_)
  · refine z_iconst C dX4_isBlank_12 ?_
    refine z_goto (tgt := 17) C dX4_isBlank_13 (by decide) ?_
    refine z_iret C hQ dX4_isBlank_17 rfl (by decide) (by decide) ?_
    exact ⟨1, rfl, rfl, Or.inl ⟨rfl, by omega⟩⟩
  · refine z_iload_n C dX4_isBlank_6 rfl ?_
    refine z_bipush C dX4_isBlank_7 (by decide) ?_
    refine z_icmp_neZ (tgt := 16) C dX4_isBlank_9 (by decide) (by omega) (by omega) (fun h9 => ?_) (fun h9 => ?_)
    · refine z_iconst C dX4_isBlank_16 ?_
      refine z_iret C hQ dX4_isBlank_17 rfl (by decide) (by decide) ?_
      exact ⟨0, rfl, rfl, Or.inr ⟨rfl, by omega⟩⟩
    · refine z_iconst C dX4_isBlank_12 ?_
      refine z_goto (tgt := 17) C dX4_isBlank_13 (by decide) ?_
      refine z_iret C hQ dX4_isBlank_17 rfl (by decide) (by decide) ?_
      exact ⟨1, rfl, rfl, Or.inl ⟨rfl, by omega⟩⟩
set_option maxHeartbeats 4000000 in
set_option maxRecDepth 100000 in
theorem k_X4_kindOf {l : Launch} {γ : zG} {M : zM} {x : Int} (hx : zR x) :
    zCon l γ yX4_kindOf cX4_kindOf 1 (some .int) [.int (zi x)] M 1 20 0 0 (fun v' M' => ∃ r : Int, v' = some (.int (zi r)) ∧ M' = M ∧ r = zkd x) (fun _ _ => False) := by
  have hx2 := hx
  unfold zR at hx2
  refine zEnter [some (.int (zi x))] (by decide +kernel) rfl rfl (Nat.le_of_ble_eq_true rfl) ?_
  intro p e s m args below meth c Q C hin hQ
  refine z_iload_n C dX4_kindOf_0 rfl ?_
  refine z_iconst C dX4_kindOf_1 ?_
  refine z_icmp_neZ (tgt := 7) C dX4_kindOf_2 (by decide) (by omega) (by omega) (fun h2 => ?_) (fun h2 => ?_)
  · refine z_iload_n C dX4_kindOf_7 rfl ?_
    refine z_callSN C dX4_kindOf_8 nk_X4_145 mw_X8_isLetter mst_X8_isLetter (k_X8_isLetter hx) rfl (by first | decide | exact Nat.le_of_ble_eq_true rfl) ⟨by decide, by decide, by decide, by decide⟩ (fun _ _ h => False.elim h) (fun v M' hp => ?_)
    obtain ⟨r8, rfl, rfl, hr8⟩ := hp
    have q8 := hr8.rng
    refine z_if_neZ (tgt := 20) C dX4_kindOf_11 (by decide) (by omega) (fun h11 => ?_) (fun h11 => ?_)
    · refine z_iconst C dX4_kindOf_20 ?_
      refine z_iret C hQ dX4_kindOf_21 rfl (by decide) (by decide) ?_
      have q := hr8.t h11
      unfold zLet at q
      exact ⟨1, rfl, rfl, by rw [zkd, if_neg h2, if_pos (by omega)]⟩
    · refine z_iload_n C dX4_kindOf_14 rfl ?_
      refine z_bipush C dX4_kindOf_15 (by decide) ?_
      refine z_icmp_neZ (tgt := 22) C dX4_kindOf_17 (by decide) (by omega) (by omega) (fun h17 => ?_) (fun h17 => ?_)
      · refine z_iload_n C dX4_kindOf_22 rfl ?_
        refine z_callSN C dX4_kindOf_23 nk_X4_148 mw_X8_isDigit mst_X8_isDigit (k_X8_isDigit hx) rfl (by first | decide | exact Nat.le_of_ble_eq_true rfl) ⟨by decide, by decide, by decide, by decide⟩ (fun _ _ h => False.elim h) (fun v M' hp => ?_)
        obtain ⟨r23, rfl, rfl, hr23⟩ := hp
        have q23 := hr23.rng
        refine z_if_eqZ (tgt := 33) C dX4_kindOf_26 (by decide) (by omega) (fun h26 => ?_) (fun h26 => ?_)
        · refine z_iconst C dX4_kindOf_33 ?_
          refine z_iret C hQ dX4_kindOf_34 rfl (by decide) (by decide) ?_
          have q := hr8.f h11
          have w := hr23.f h26
          unfold zLet at q
          unfold zDig at w
          exact ⟨3, rfl, rfl, by rw [zkd, if_neg h2, if_neg (by omega), if_neg w]⟩
        · refine z_iconst C dX4_kindOf_29 ?_
          refine z_goto (tgt := 34) C dX4_kindOf_30 (by decide) ?_
          refine z_iret C hQ dX4_kindOf_34 rfl (by decide) (by decide) ?_
          have q := hr8.f h11
          have w := hr23.t h26
          unfold zLet at q
          unfold zDig at w
          exact ⟨2, rfl, rfl, by rw [zkd, if_neg h2, if_neg (by omega), if_pos w]⟩
      · refine z_iconst C dX4_kindOf_20 ?_
        refine z_iret C hQ dX4_kindOf_21 rfl (by decide) (by decide) ?_
        exact ⟨1, rfl, rfl, by rw [zkd, if_neg h2, if_pos (by omega)]⟩
  · refine z_iconst C dX4_kindOf_5 ?_
    refine z_iret C hQ dX4_kindOf_6 rfl (by decide) (by decide) ?_
    exact ⟨0, rfl, rfl, by rw [zkd, if_pos h2]⟩
set_option maxHeartbeats 4000000 in
set_option maxRecDepth 100000 in
theorem k_X4_next {l : Launch} {γ : zG} {M : zM} {a ta tr d : Nat} {f : Nat → Int} {n K S E ec ep : Int} (hP : hPt γ M a ta d K S E ec ep) (hT : hBy γ M ta tr f n) (hO : hBo f n) (hE : 0 ≤ E ∧ E ≤ n) :
    zCon l γ yX4_next cX4_next 2 none [.ref a] M 2 40 0 0 (fun v' M' => v' = none ∧ zFr M M' [a] ∧ hPk γ M' a ta d f n E ec ep) (fun _ _ => False) := by
  have hn := hO.1
  have n1 : ta ∉ [a] := by
    have := zne_kk hT.1 hP (by decide)
    simp [this]
  have n2 : tr ∉ [a] := by
    have := zne_ka hP hT.2
    simp [this.symm]
  have hat := fun M1 (h : zFr M M1 [a]) i (hi : zR i) => @k_X0_at l γ M1 ta tr f n i (hT.fr h n1 n2) hO hi
  have hrg := hAt_rng hO
  have hob := fun M1 (h : zFr M M1 [a]) => (hT.fr h n1 n2).1
  have hP2 := hP
  unfold hPt at hP2
  have hsr := ztS_rng (f := f) hE
  have her := ztE_rng hO hE
  have hk0 := ztK_0 hO hE
  have hkr := zkd_rng (hAt f n (ztS f n E))
  have hee : ztE f n E = if ztK f n E = 1 ∨ ztK f n E = 2 then zrn f n (ztK f n E) 500 (ztS f n E + 1) else if ztS f n E < n then ztS f n E + 1 else ztS f n E := rfl
  have hkk : zkd (hAt f n (ztS f n E)) = ztK f n E := rfl
  rw [hkk] at hkr
  have hss : zsk f n 500 E = ztS f n E := rfl
  unfold hPk
  generalize ztE f n E = te at *
  generalize ztK f n E = tk at *
  generalize ztS f n E = ts at *
  refine zEnter [some (.ref a), none] (by decide +kernel) rfl rfl (Nat.le_of_ble_eq_true rfl) ?_
  intro p e s m args below meth c Q C hin hQ
  have loopB : ∀ (t : Nat) (M1 : zM) (q : Int), n - q ≤ t → ts < q ∧ q ≤ n → (tk = 1 ∨ tk = 2) → zrn f n tk t q = te → zFr M M1 [a] → hPt γ M1 a ta d tk ts q ec ep → zAW p l e { frames := 2, cells := 0, slots := 0, locals := 40 } s m args below meth c γ 2 Q M1 0 0 94 [some (.ref a), some (.int (zi ts))] [] := by
    intro t
    induction t with
    | zero =>
      intro M1 q ht hq hk hz hf hP1
      have hz : q = te := hz
      have hB1 := hob M1 hf
      have hP3 := hP1
      unfold hPt at hP3
      refine z_aload_n C dX4_next_94 rfl ?_
      refine z_get C dX4_next_95 fl_X4_18 (by first | assumption | ((repeat (first | assumption | exact va_up_self _ _ _ | refine (va_up_ne _ _ (by assumption)).trans ?_)); done) | (simp [va_up, *] <;> rfl)) rfl ?_
      refine z_aload_n C dX4_next_98 rfl ?_
      refine z_get C dX4_next_99 fl_X4_27 (by first | assumption | ((repeat (first | assumption | exact va_up_self _ _ _ | refine (va_up_ne _ _ (by assumption)).trans ?_)); done) | (simp [va_up, *] <;> rfl)) rfl ?_
      refine z_get C dX4_next_102 fl_X4_138 (by first | assumption | ((repeat (first | assumption | exact va_up_self _ _ _ | refine (va_up_ne _ _ (by assumption)).trans ?_)); done) | (simp [va_up, *] <;> rfl)) rfl ?_
      refine z_icmp_geZ (tgt := 142) C dX4_next_105 (by decide) (by omega) (by omega) (fun h105 => ?_) (fun h105 => ?_)
      · refine z_vret C hQ dX4_next_142 (by decide) (by decide) ?_
        subst hz
        exact ⟨rfl, hf, hP1⟩
      · exact absurd h105 (by omega)
    | succ t ih =>
      intro M1 q ht hq hk hz hf hP1
      have hz : (if q < n ∧ zkd (hAt f n q) = tk then zrn f n tk t (q + 1) else q) = te := hz
      have hB1 := hob M1 hf
      have hP3 := hP1
      unfold hPt at hP3
      have hr := hrg q
      have hkq := zkd_rng (hAt f n q)
      refine z_aload_n C dX4_next_94 rfl ?_
      refine z_get C dX4_next_95 fl_X4_18 (by first | assumption | ((repeat (first | assumption | exact va_up_self _ _ _ | refine (va_up_ne _ _ (by assumption)).trans ?_)); done) | (simp [va_up, *] <;> rfl)) rfl ?_
      refine z_aload_n C dX4_next_98 rfl ?_
      refine z_get C dX4_next_99 fl_X4_27 (by first | assumption | ((repeat (first | assumption | exact va_up_self _ _ _ | refine (va_up_ne _ _ (by assumption)).trans ?_)); done) | (simp [va_up, *] <;> rfl)) rfl ?_
      refine z_get C dX4_next_102 fl_X4_138 (by first | assumption | ((repeat (first | assumption | exact va_up_self _ _ _ | refine (va_up_ne _ _ (by assumption)).trans ?_)); done) | (simp [va_up, *] <;> rfl)) rfl ?_
      refine z_icmp_geZ (tgt := 142) C dX4_next_105 (by decide) (by omega) (by omega) (fun h105 => ?_) (fun h105 => ?_)
      · refine z_vret C hQ dX4_next_142 (by decide) (by decide) ?_
        rw [if_neg (by omega)] at hz
        subst hz
        exact ⟨rfl, hf, hP1⟩
      · refine z_aload_n C dX4_next_108 rfl ?_
        refine z_get C dX4_next_109 fl_X4_27 (by first | assumption | ((repeat (first | assumption | exact va_up_self _ _ _ | refine (va_up_ne _ _ (by assumption)).trans ?_)); done) | (simp [va_up, *] <;> rfl)) rfl ?_
        refine z_aload_n C dX4_next_112 rfl ?_
        refine z_get C dX4_next_113 fl_X4_18 (by first | assumption | ((repeat (first | assumption | exact va_up_self _ _ _ | refine (va_up_ne _ _ (by assumption)).trans ?_)); done) | (simp [va_up, *] <;> rfl)) rfl ?_
        refine z_callV C dX4_next_116 lk_X4_134 mw_X0_at mi_X0_at ms_X0_at rfl (by first | assumption | ((repeat (first | assumption | exact va_up_self _ _ _ | refine (va_up_ne _ _ (by assumption)).trans ?_)); done) | (simp [va_up, *] <;> rfl)) (hat M1 hf q (by unfold zR; omega)) rfl (by first | decide | exact Nat.le_of_ble_eq_true rfl) ⟨by decide, by decide, by decide, by decide⟩ (fun _ _ h => False.elim h) (fun v M' hp => ?_)
        obtain ⟨r116, rfl, rfl, hr116⟩ := hp
        subst hr116
        refine z_callS C dX4_next_119 lk_X4_142 mw_X4_kindOf mst_X4_kindOf (k_X4_kindOf (by unfold zR; omega)) rfl (by first | decide | exact Nat.le_of_ble_eq_true rfl) ⟨by decide, by decide, by decide, by decide⟩ (fun _ _ h => False.elim h) (fun v M' hp => ?_)
        obtain ⟨r119, rfl, rfl, hr119⟩ := hp
        subst hr119
        refine z_aload_n C dX4_next_122 rfl ?_
        refine z_get C dX4_next_123 fl_X4_11 (by first | assumption | ((repeat (first | assumption | exact va_up_self _ _ _ | refine (va_up_ne _ _ (by assumption)).trans ?_)); done) | (simp [va_up, *] <;> rfl)) rfl ?_
        refine z_icmp_neZ (tgt := 142) C dX4_next_126 (by decide) (by omega) (by omega) (fun h126 => ?_) (fun h126 => ?_)
        · refine z_vret C hQ dX4_next_142 (by decide) (by decide) ?_
          rw [if_neg (by omega)] at hz
          subst hz
          exact ⟨rfl, hf, hP1⟩
        · refine z_aload_n C dX4_next_129 rfl ?_
          refine z_dup C dX4_next_130 rfl ?_
          refine z_get C dX4_next_131 fl_X4_18 (by first | assumption | ((repeat (first | assumption | exact va_up_self _ _ _ | refine (va_up_ne _ _ (by assumption)).trans ?_)); done) | (simp [va_up, *] <;> rfl)) rfl ?_
          refine z_iconst C dX4_next_134 ?_
          refine z_iaddZ C dX4_next_135 ?_
          refine z_put C dX4_next_136 fl_X4_18 (by first | assumption | ((repeat (first | assumption | exact va_up_self _ _ _ | refine (va_up_ne _ _ (by assumption)).trans ?_)); done) | (simp [va_up, *] <;> rfl)) rfl rfl (by simp) ?_
          refine z_goto (tgt := 94) C dX4_next_139 (by decide) ?_
          rw [if_pos (by omega)] at hz
          exact ih _ (q + 1) (by omega) (by omega) hk hz (hf.u1 (by simp)) (va_up_self _ _ _)
  have fin60 : ∀ (M1 : zM) (e0 K1 E1 : Int), e0 = (if ts < n then ts + 1 else ts) → zFr M M1 [a] → hPt γ M1 a ta d K1 ts E1 ec ep → zAW p l e { frames := 2, cells := 0, slots := 0, locals := 40 } s m args below meth c γ 2 Q M1 0 0 60 [some (.ref a), some (.int (zi ts))] [.int (zi e0), .ref a] := by
    intro M1 e0 K1 E1 he hf hP1
    have hP3 := hP1
    unfold hPt at hP3
    have hB1 := hob M1 hf
    have na := zne_kk hB1 hP3 (by decide)
    have hr := hrg ts
    refine z_put C dX4_next_60 fl_X4_18 (by first | assumption | ((repeat (first | assumption | exact va_up_self _ _ _ | refine (va_up_ne _ _ (by assumption)).trans ?_)); done) | (simp [va_up, *] <;> rfl)) rfl rfl (by simp) ?_
    refine z_aload_n C dX4_next_63 rfl ?_
    refine z_aload_n C dX4_next_64 rfl ?_
    refine z_get C dX4_next_65 fl_X4_27 (by first | assumption | ((repeat (first | assumption | exact va_up_self _ _ _ | refine (va_up_ne _ _ (by assumption)).trans ?_)); done) | (simp [va_up, *] <;> rfl)) rfl ?_
    refine z_iload_n C dX4_next_68 rfl ?_
    refine z_callV C dX4_next_69 lk_X4_134 mw_X0_at mi_X0_at ms_X0_at rfl (by first | assumption | ((repeat (first | assumption | exact va_up_self _ _ _ | refine (va_up_ne _ _ (by assumption)).trans ?_)); done) | (simp [va_up, *] <;> rfl)) (hat _ (hf.u1 (by simp)) ts (by unfold zR; omega)) rfl (by first | decide | exact Nat.le_of_ble_eq_true rfl) ⟨by decide, by decide, by decide, by decide⟩ (fun _ _ h => False.elim h) (fun v M' hp => ?_)
    obtain ⟨r69, rfl, rfl, hr69⟩ := hp
    subst hr69
    refine z_callS C dX4_next_72 lk_X4_142 mw_X4_kindOf mst_X4_kindOf (k_X4_kindOf (by unfold zR; omega)) rfl (by first | decide | exact Nat.le_of_ble_eq_true rfl) ⟨by decide, by decide, by decide, by decide⟩ (fun _ _ h => False.elim h) (fun v M' hp => ?_)
    obtain ⟨r72, rfl, rfl, hr72⟩ := hp
    rw [hkk] at hr72
    subst hr72
    refine z_put C dX4_next_75 fl_X4_11 (by first | assumption | ((repeat (first | assumption | exact va_up_self _ _ _ | refine (va_up_ne _ _ (by assumption)).trans ?_)); done) | (simp [va_up, *] <;> rfl)) rfl rfl (by simp) ?_
    refine z_aload_n C dX4_next_78 rfl ?_
    refine z_get C dX4_next_79 fl_X4_11 (by first | assumption | ((repeat (first | assumption | exact va_up_self _ _ _ | refine (va_up_ne _ _ (by assumption)).trans ?_)); done) | (simp [va_up, *] <;> rfl)) rfl ?_
    refine z_iconst C dX4_next_82 ?_
    refine z_icmp_eqZ (tgt := 94) C dX4_next_83 (by decide) (by omega) (by omega) (fun h83 => ?_) (fun h83 => ?_)
    · rw [if_pos (by omega)] at he hee
      rw [he]
      exact loopB 500 _ _ (by omega) (by omega) (by omega) hee.symm (zFr.u2 hf (by simp) (by simp)) (va_up_self _ _ _)
    · refine z_aload_n C dX4_next_86 rfl ?_
      refine z_get C dX4_next_87 fl_X4_11 (by first | assumption | ((repeat (first | assumption | exact va_up_self _ _ _ | refine (va_up_ne _ _ (by assumption)).trans ?_)); done) | (simp [va_up, *] <;> rfl)) rfl ?_
      refine z_iconst C dX4_next_90 ?_
      refine z_icmp_neZ (tgt := 142) C dX4_next_91 (by decide) (by omega) (by omega) (fun h91 => ?_) (fun h91 => ?_)
      · refine z_vret C hQ dX4_next_142 (by decide) (by decide) ?_
        rw [if_neg (by omega), ← he] at hee
        subst hee
        exact ⟨rfl, zFr.u2 hf (by simp) (by simp), va_up_self _ _ _⟩
      · rw [if_pos (by omega)] at he hee
        rw [he]
        exact loopB 500 _ _ (by omega) (by omega) (by omega) hee.symm (zFr.u2 hf (by simp) (by simp)) (va_up_self _ _ _)
  have loopA : ∀ (t : Nat) (q : Int), n - q ≤ t → 0 ≤ q ∧ q ≤ n → zsk f n t q = ts → zAW p l e { frames := 2, cells := 0, slots := 0, locals := 40 } s m args below meth c γ 2 Q M 0 0 5 [some (.ref a), some (.int (zi q))] [] := by
    have fin36 : zAW p l e { frames := 2, cells := 0, slots := 0, locals := 40 } s m args below meth c γ 2 Q M 0 0 36 [some (.ref a), some (.int (zi ts))] [] := by
      have hB1 := hT.1
      have na := zne_kk hB1 hP2 (by decide)
      refine z_aload_n C dX4_next_36 rfl ?_
      refine z_iload_n C dX4_next_37 rfl ?_
      refine z_put C dX4_next_38 fl_X4_15 (by first | assumption | ((repeat (first | assumption | exact va_up_self _ _ _ | refine (va_up_ne _ _ (by assumption)).trans ?_)); done) | (simp [va_up, *] <;> rfl)) rfl rfl (by simp) ?_
      refine z_aload_n C dX4_next_41 rfl ?_
      refine z_iload_n C dX4_next_42 rfl ?_
      refine z_aload_n C dX4_next_43 rfl ?_
      refine z_get C dX4_next_44 fl_X4_27 (by first | assumption | ((repeat (first | assumption | exact va_up_self _ _ _ | refine (va_up_ne _ _ (by assumption)).trans ?_)); done) | (simp [va_up, *] <;> rfl)) rfl ?_
      refine z_get C dX4_next_47 fl_X4_138 (by first | assumption | ((repeat (first | assumption | exact va_up_self _ _ _ | refine (va_up_ne _ _ (by assumption)).trans ?_)); done) | (simp [va_up, *] <;> rfl)) rfl ?_
      refine z_icmp_geZ (tgt := 59) C dX4_next_50 (by decide) (by omega) (by omega) (fun h50 => ?_) (fun h50 => ?_)
      · refine z_iload_n C dX4_next_59 rfl ?_
        exact fin60 _ _ K E (by rw [if_neg (by omega)]) (zFr.up (by simp)) (va_up_self _ _ _)
      · refine z_iload_n C dX4_next_53 rfl ?_
        refine z_iconst C dX4_next_54 ?_
        refine z_iaddZ C dX4_next_55 ?_
        refine z_goto (tgt := 60) C dX4_next_56 (by decide) ?_
        exact fin60 _ _ K E (by rw [if_pos (by omega)]) (zFr.up (by simp)) (va_up_self _ _ _)
    intro t
    induction t with
    | zero =>
      intro q ht hq hz
      have hz : q = ts := hz
      subst hz
      have hB1 := hT.1
      refine z_iload_n C dX4_next_5 rfl ?_
      refine z_aload_n C dX4_next_6 rfl ?_
      refine z_get C dX4_next_7 fl_X4_27 (by first | assumption | ((repeat (first | assumption | exact va_up_self _ _ _ | refine (va_up_ne _ _ (by assumption)).trans ?_)); done) | (simp [va_up, *] <;> rfl)) rfl ?_
      refine z_get C dX4_next_10 fl_X4_138 (by first | assumption | ((repeat (first | assumption | exact va_up_self _ _ _ | refine (va_up_ne _ _ (by assumption)).trans ?_)); done) | (simp [va_up, *] <;> rfl)) rfl ?_
      refine z_icmp_geZ (tgt := 36) C dX4_next_13 (by decide) (by omega) (by omega) (fun h13 => ?_) (fun h13 => ?_)
      · exact fin36
      · exact absurd h13 (by omega)
    | succ t ih =>
      intro q ht hq hz
      have hz : (if q < n ∧ (hAt f n q = 32 ∨ hAt f n q = 10) then zsk f n t (q + 1) else q) = ts := hz
      have hB1 := hT.1
      have hr := hrg q
      refine z_iload_n C dX4_next_5 rfl ?_
      refine z_aload_n C dX4_next_6 rfl ?_
      refine z_get C dX4_next_7 fl_X4_27 (by first | assumption | ((repeat (first | assumption | exact va_up_self _ _ _ | refine (va_up_ne _ _ (by assumption)).trans ?_)); done) | (simp [va_up, *] <;> rfl)) rfl ?_
      refine z_get C dX4_next_10 fl_X4_138 (by first | assumption | ((repeat (first | assumption | exact va_up_self _ _ _ | refine (va_up_ne _ _ (by assumption)).trans ?_)); done) | (simp [va_up, *] <;> rfl)) rfl ?_
      refine z_icmp_geZ (tgt := 36) C dX4_next_13 (by decide) (by omega) (by omega) (fun h13 => ?_) (fun h13 => ?_)
      · rw [if_neg (by omega)] at hz
        subst hz
        exact fin36
      · refine z_aload_n C dX4_next_16 rfl ?_
        refine z_get C dX4_next_17 fl_X4_27 (by first | assumption | ((repeat (first | assumption | exact va_up_self _ _ _ | refine (va_up_ne _ _ (by assumption)).trans ?_)); done) | (simp [va_up, *] <;> rfl)) rfl ?_
        refine z_iload_n C dX4_next_20 rfl ?_
        refine z_callV C dX4_next_21 lk_X4_134 mw_X0_at mi_X0_at ms_X0_at rfl (by first | assumption | ((repeat (first | assumption | exact va_up_self _ _ _ | refine (va_up_ne _ _ (by assumption)).trans ?_)); done) | (simp [va_up, *] <;> rfl)) (hat M zFr.rf q (by unfold zR; omega)) rfl (by first | decide | exact Nat.le_of_ble_eq_true rfl) ⟨by decide, by decide, by decide, by decide⟩ (fun _ _ h => False.elim h) (fun v M' hp => ?_)
        obtain ⟨r21, rfl, rfl, hr21⟩ := hp
        subst hr21
        refine z_callS C dX4_next_24 lk_X4_139 mw_X4_isBlank mst_X4_isBlank (k_X4_isBlank (by unfold zR; omega)) rfl (by first | decide | exact Nat.le_of_ble_eq_true rfl) ⟨by decide, by decide, by decide, by decide⟩ (fun _ _ h => False.elim h) (fun v M' hp => ?_)
        obtain ⟨r24, rfl, rfl, hr24⟩ := hp
        have q24 := hr24.rng
        refine z_if_eqZ (tgt := 36) C dX4_next_27 (by decide) (by omega) (fun h27 => ?_) (fun h27 => ?_)
        · rw [if_neg (fun w => hr24.f h27 w.2)] at hz
          subst hz
          exact fin36
        · refine z_iincZ C dX4_next_30 rfl (by decide) ?_
          refine z_goto (tgt := 5) C dX4_next_33 (by decide) ?_
          rw [if_pos ⟨by omega, hr24.t h27⟩] at hz
          exact ih (q + 1) (by omega) (by omega) hz
  refine z_aload_n C dX4_next_0 rfl ?_
  refine z_get C dX4_next_1 fl_X4_18 (by first | assumption | ((repeat (first | assumption | exact va_up_self _ _ _ | refine (va_up_ne _ _ (by assumption)).trans ?_)); done) | (simp [va_up, *] <;> rfl)) rfl ?_
  refine z_istore_n C dX4_next_4 (by decide) ?_
  exact loopA 500 E (by omega) hE hss

