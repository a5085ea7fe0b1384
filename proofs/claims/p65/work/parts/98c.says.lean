/-! the law's text into the input: four signs an int, five ints a call -/
theorem hFc.frm {γ : zG} {M M' : zM} {U : Nat → Nat} {Y : zSys} {S : List Nat} (h : hFc γ M U Y) (f : zFr M M' S) (hS : ∀ i, i < 532 → U i ∉ S) : hFc γ M' U Y := by
  obtain ⟨hI, pn, Z, iF, oF, hZ, hF, hX, h1, h2⟩ := h
  exact ⟨hI, pn, Z, iF, oF, hZ, hF.fr f (hS 0 (by decide)), hX.fr f hS, h1, h2⟩
theorem hFc.dom {γ : zG} {M : zM} {U : Nat → Nat} {Y : zSys} (h : hFc γ M U Y) : ∀ i, i < 532 → ∃ x, M (U i) = some x := by
  obtain ⟨hI, pn, Z, iF, oF, hZ, hF, hX, -, -⟩ := h
  exact hFx.dom hF hX
theorem hFc.no {γ : zG} {M : zM} {U : Nat → Nat} {Y : zSys} {q : Nat} (h : hFc γ M U Y) (hq : M q = none) : ∀ i, i < 532 → U i ≠ q := fun i hi w => by
  obtain ⟨x, hx⟩ := h.dom i hi
  rw [w, hq] at hx
  cases hx
theorem hFc.up {γ : zG} {M : zM} {U : Nat → Nat} {Y : zSys} {q : Nat} {x : Option va_E} (h : hFc γ M U Y) (hq : ∀ i, i < 532 → U i ≠ q) : hFc γ (va_up M q x) U Y := h.frm (S := [q]) (fun b hb => va_up_ne _ _ (fun w => hb (by rw [w]; exact List.mem_cons_self))) (fun i hi w => hq i hi (List.mem_singleton.mp w))
theorem zFU_no {U : Nat → Nat} {q : Nat} (h : ∀ i, i < 532 → U i ≠ q) : q ∉ zFU U := fun w => by
  obtain ⟨i, hi, e⟩ := zRm.mp w
  exact h i hi e
theorem hFc.ok0 {γ : zG} {M : zM} {U : Nat → Nat} {Y : zSys} (h : hFc γ M U Y) : ∃ fs, M (U 0) = some (.inr (8, fs)) := by
  obtain ⟨hI, pn, Z, iF, oF, hZ, hF, hX, -, -⟩ := h
  exact ⟨_, hF⟩
theorem zshl8 {x : Int} (h : 0 ≤ x ∧ x < 8388608) : zi x <<< (zi 8 &&& 31) = zi (x * 256) := by
  have e1 : ∀ n : Nat, n < 8388608 → (zi (n : Int) <<< (zi 8 &&& 31)) = zi ((n : Int) * 256) := by
    intro n hn
    apply Int32.toBitVec_inj.mp
    apply BitVec.eq_of_toNat_eq
    show (BitVec.ofInt 32 (n : Int) <<< ((zi 8 &&& 31).toBitVec.smod 32)).toNat = (BitVec.ofInt 32 ((n : Int) * 256)).toNat
    rw [show ((zi 8 &&& 31).toBitVec.smod 32) = 8#32 by decide, show (n : Int) * 256 = ((n * 256 : Nat) : Int) by omega, BitVec.ofInt_natCast, BitVec.ofInt_natCast, BitVec.shiftLeft_eq', BitVec.toNat_shiftLeft, BitVec.toNat_ofNat, BitVec.toNat_ofNat, Nat.shiftLeft_eq]
    show n % 4294967296 * 256 % 4294967296 = n * 256 % 4294967296
    omega
  have := e1 x.toNat (by omega)
  rwa [show ((x.toNat : Nat) : Int) = x by omega] at this
theorem zor8 {x y : Int} (h : 0 ≤ x ∧ x < 8388608) (hy : 0 ≤ y ∧ y < 256) : zi (x * 256) ||| zi y = zi (x * 256 + y) := by
  have e1 : ∀ n k : Nat, n < 8388608 → k < 256 → zi ((n : Int) * 256) ||| zi (k : Int) = zi ((n : Int) * 256 + k) := by
    intro n k hn hk
    apply Int32.toBitVec_inj.mp
    apply BitVec.eq_of_toNat_eq
    show (BitVec.ofInt 32 ((n : Int) * 256) ||| BitVec.ofInt 32 (k : Int)).toNat = (BitVec.ofInt 32 ((n : Int) * 256 + k)).toNat
    rw [show (n : Int) * 256 + k = ((n * 256 + k : Nat) : Int) by omega, show (n : Int) * 256 = ((n * 256 : Nat) : Int) by omega, BitVec.ofInt_natCast, BitVec.ofInt_natCast, BitVec.ofInt_natCast, BitVec.toNat_or, BitVec.toNat_ofNat, BitVec.toNat_ofNat, BitVec.toNat_ofNat, Nat.mod_eq_of_lt (show n * 256 < 2 ^ 32 by omega), Nat.mod_eq_of_lt (show k < 2 ^ 32 by omega), Nat.mod_eq_of_lt (show n * 256 + k < 2 ^ 32 by omega)]
    have := Nat.two_pow_add_eq_or_of_lt (b := k) (i := 8) hk n
    rw [show 2 ^ 8 * n = n * 256 by omega] at this
    exact this.symm
  have := e1 x.toNat y.toNat (by omega) (by omega)
  rwa [show ((x.toNat : Nat) : Int) = x by omega, show ((y.toNat : Nat) : Int) = y by omega] at this
/-- r signs from place 4 j on in one int -/
def zpk (cf : Nat → Int) (j : Nat) : Nat → Int
  | 0 => 0
  | r + 1 => zpk cf j r * 256 + cf (4 * j + r)
def zfv (cf : Nat → Int) (k : Nat) : Nat → Int := fun j => zpk cf j (min (k - 4 * j) 4)
theorem zpk_rng {cf : Nat → Int} (h : ∀ j, 0 ≤ cf j ∧ cf j ≤ 127) (j : Nat) : 0 ≤ zpk cf j 3 ∧ zpk cf j 3 < 8388608 ∧ 0 ≤ zpk cf j 2 ∧ zpk cf j 2 < 32768 ∧ 0 ≤ zpk cf j 1 ∧ zpk cf j 1 < 128 ∧ zpk cf j 0 = 0 := by
  have h0 := h (4 * j + 0)
  have h1 := h (4 * j + 1)
  have h2 := h (4 * j + 2)
  simp only [zpk, and_true]
  omega
theorem zpk_lt {cf : Nat → Int} (h : ∀ j, 0 ≤ cf j ∧ cf j ≤ 127) (j : Nat) {r : Nat} (hr : r < 4) : 0 ≤ zpk cf j r ∧ zpk cf j r < 8388608 := by
  have q := zpk_rng h j
  match r, hr with
  | 0, _ => omega
  | 1, _ => omega
  | 2, _ => omega
  | 3, _ => omega
theorem zfv_0 (cf : Nat → Int) : zfv cf 0 = fun _ => 0 := by
  funext j
  unfold zfv
  rw [show min (0 - 4 * j) 4 = 0 by omega]
  rfl
theorem zfv_rng {cf : Nat → Int} (h : ∀ j, 0 ≤ cf j ∧ cf j ≤ 127) (k j : Nat) : zR (zfv cf k j) := by
  unfold zfv
  have q := zpk_rng h j
  have h3 := h (4 * j + 3)
  have hm : min (k - 4 * j) 4 ≤ 4 := by omega
  generalize min (k - 4 * j) 4 = r at hm ⊢
  unfold zR
  match r, hm with
  | 0, _ => omega
  | 1, _ => omega
  | 2, _ => omega
  | 3, _ => omega
  | 4, _ =>
    show -2147483648 ≤ zpk cf j 3 * 256 + cf (4 * j + 3) ∧ zpk cf j 3 * 256 + cf (4 * j + 3) ≤ 2147483647
    omega
theorem zfv_nx {cf : Nat → Int} {k : Nat} (hk : k < 20) : va_up (zfv cf k) (k / 4) (zfv cf k (k / 4) * 256 + cf k) = zfv cf (k + 1) := by
  funext j
  unfold zfv va_up
  by_cases e : j = k / 4
  · subst e
    rw [if_pos rfl, show min (k - 4 * (k / 4)) 4 = k % 4 by omega, show min (k + 1 - 4 * (k / 4)) 4 = k % 4 + 1 by omega]
    show _ = zpk cf (k / 4) (k % 4) * 256 + cf (4 * (k / 4) + k % 4)
    rw [show 4 * (k / 4) + k % 4 = k by omega]
  · rw [if_neg e]
    show zpk cf j (min (k - 4 * j) 4) = _
    rw [show min (k - 4 * j) 4 = min (k + 1 - 4 * j) 4 by omega]
theorem zpk_by {cf : Nat → Int} (h : ∀ j, 0 ≤ cf j ∧ cf j ≤ 127) (j : Nat) : zby (zpk cf j 4) 16777216 = cf (4 * j) ∧ zby (zpk cf j 4) 65536 = cf (4 * j + 1) ∧ zby (zpk cf j 4) 256 = cf (4 * j + 2) ∧ zby (zpk cf j 4) 1 = cf (4 * j + 3) := by
  have h0 := h (4 * j + 0)
  have h1 := h (4 * j + 1)
  have h2 := h (4 * j + 2)
  have h3 := h (4 * j + 3)
  rw [Nat.add_zero] at h0
  unfold zby
  simp only [zpk, Nat.add_zero]
  omega
theorem za4_at {f cf : Nat → Int} {n : Nat} {j0 : Nat} (h : ∀ j, 0 ≤ cf j ∧ cf j ≤ 127) (j : Nat) : za4 f n (zpk cf j0 4) j = if j < n then f j else if j < n + 4 then cf (4 * j0 + (j - n)) else f j := by
  obtain ⟨b0, b1, b2, b3⟩ := zpk_by h j0
  unfold za4 va_up
  rw [b0, b1, b2, b3]
  by_cases h3 : j = n + 3
  · rw [if_pos (by omega), if_neg (by omega), if_pos (by omega), show j - n = 3 by omega]
  · rw [if_neg (by omega)]
    by_cases h2 : j = n + 2
    · rw [if_pos (by omega), if_neg (by omega), if_pos (by omega), show j - n = 2 by omega]
    · rw [if_neg (by omega)]
      by_cases h1 : j = n + 1
      · rw [if_pos (by omega), if_neg (by omega), if_pos (by omega), show j - n = 1 by omega]
      · rw [if_neg (by omega)]
        by_cases h0 : j = n
        · rw [if_pos (by omega), if_neg (by omega), if_pos (by omega), show j - n = 0 by omega]
          rfl
        · rw [if_neg (by omega)]
          by_cases hj : j < n
          · rw [if_pos hj]
          · rw [if_neg hj, if_neg (by omega)]
theorem za5_at {f cf : Nat → Int} {n : Nat} (h : ∀ j, 0 ≤ cf j ∧ cf j ≤ 127) (j : Nat) : za5 f n (zpk cf 0 4) (zpk cf 1 4) (zpk cf 2 4) (zpk cf 3 4) (zpk cf 4 4) j = if j < n then f j else if j < n + 20 then cf (j - n) else f j := by
  unfold za5
  have e4 : (n : Int) + 4 = ((n + 4 : Nat) : Int) := by omega
  have e8 : (n : Int) + 8 = ((n + 8 : Nat) : Int) := by omega
  have e12 : (n : Int) + 12 = ((n + 12 : Nat) : Int) := by omega
  have e16 : (n : Int) + 16 = ((n + 16 : Nat) : Int) := by omega
  rw [e4, e8, e12, e16, za4_at h, za4_at h, za4_at h, za4_at h, za4_at h]
  repeat' split
  all_goals first | rfl | (congr 1; omega) | omega
/-- the signs of one call -/
def zcf' (w : List Int) (i : Nat) : Nat → Int := fun k => if i + k < w.length then w.getD (i + k) 0 else 32
theorem zcf_rng' {w : List Int} (h : zVw w) (i j : Nat) : 0 ≤ zcf' w i j ∧ zcf' w i j ≤ 127 := by
  unfold zcf'
  split
  · exact h.at _
  · omega
theorem fX.no {γ : zG} {M M' : zM} {U : Nat → Nat} {Y : zSys} {q : Int × Int} {e1 e2 X : String} (h : fX γ M U Y q e1 e2 X M') (hq : q.1 = 0) : False := by
  rcases h.2 with ⟨h, -⟩ | ⟨h, -⟩
  · rw [hq] at h; cases h
  · rw [hq] at h; cases h
theorem hSg.up {γ : zG} {M : zM} {a v q : Nat} {w : List Int} {x : Option va_E} (h : hSg γ M a v w) (hq : M q = none) : hSg γ (va_up M q x) a v w := h.fr (S := [q]) (fun b hb => va_up_ne _ _ (fun e => hb (by rw [e]; exact List.mem_cons_self))) (fun fs hf w => by
  rw [List.mem_singleton.mp w, hq] at hf
  cases hf) (fun y hy w => by
  rw [List.mem_singleton.mp w, hq] at hy
  cases hy)
theorem zcf_at {f : Nat → Int} {w : List Int} {i : Nat} (h : ∀ j : Nat, j < w.length → j < i → f j = w.getD j 0) (hw : zVw w) : ∀ j : Nat, j < w.length → j < i + 20 → za5 f i (zpk (zcf' w i) 0 4) (zpk (zcf' w i) 1 4) (zpk (zcf' w i) 2 4) (zpk (zcf' w i) 3 4) (zpk (zcf' w i) 4 4) j = w.getD j 0 := fun j h1 h2 => by
  rw [za5_at (zcf_rng' hw i)]
  by_cases e : j < i
  · rw [if_pos e]
    exact h j h1 e
  · rw [if_neg e, if_pos h2]
    unfold zcf'
    rw [if_pos (by omega), show i + (j - i) = j by omega]
set_option maxHeartbeats 4000000 in
set_option maxRecDepth 100000 in
theorem k_L_says {l : Launch} {γ : zG} {M : zM} {U : Nat → Nat} {Y : zSys} {b u : Nat} {w : List Int} (hc : hFc γ M U Y) (hk : yOk Y) (hS : hSg γ M b u w) (hw : w.length ≤ 400) (hi0 : yIn Y = 0) (hb : ∀ i, i < 532 → U i ≠ b) (hu : ∀ i, i < 532 → U i ≠ u) :
    zCon l γ yL_says cL_says 5 none [.ref (U 0), .ref b] M 7 120 60 300 (fun v' M' => v' = none ∧ ∃ f, hFc γ M' U (ySI Y f w.length) ∧ ∀ j : Nat, j < w.length → f j = w.getD j 0) (fun _ _ => False) := by
  have hvw := hS.1
  refine zEnter [some (.ref (U 0)), some (.ref b), none, none, none] (by decide +kernel) rfl rfl (Nat.le_of_ble_eq_true rfl) ?_
  intro p e s m args below meth c Q C hin hQ
  have fin : ∀ (it : Nat) (f : Nat → Int) (M1 : zM) (o3 o4 : Option Value), w.length ≤ 20 * it → 20 * it < w.length + 20 → hFc γ M1 U (ySI Y f (20 * it : Nat)) → hSg γ M1 b u w → (∀ j : Nat, j < w.length → j < 20 * it → f j = w.getD j 0) → zAW p l e { frames := 7, cells := 60, slots := 300, locals := 120 } s m args below meth c γ 5 Q M1 (2 * it) (11 * it) 2 [some (.ref (U 0)), some (.ref b), some (.int (zi (20 * it : Nat))), o3, o4] [] := by
    intro it f M1 o3 o4 hl hl2 hc1 hS1 hf
    obtain ⟨fs0, hM0⟩ := hc1.ok0
    refine z_iload_n C dL_says_2 rfl ?_
    refine z_aload_n C dL_says_3 rfl ?_
    refine z_callVT C hS1 dL_says_4 lk_L_8 mw_J0_length_8abf5 mi_J0_length_8abf5 ms_J0_length_8abf5 (k_T_length hS1) rfl (by first | decide | exact Nat.le_of_ble_eq_true rfl) ⟨by decide, by decide, by show 2 * it + 0 ≤ 60; omega, by show 11 * it + 0 ≤ 300; omega⟩ (fun _ _ h => False.elim h) (fun v M' hp => ?_)
    obtain ⟨rfl, rfl⟩ := hp
    refine z_icmp_geZ (tgt := 96) C dL_says_7 (by decide) (by omega) (by omega) (fun h7 => ?_) (fun h7 => ?_)
    · refine z_aload_n C dL_says_96 rfl ?_
      refine z_aload_n C dL_says_97 rfl ?_
      refine z_callVT C hS1 dL_says_98 lk_L_8 mw_J0_length_8abf5 mi_J0_length_8abf5 ms_J0_length_8abf5 (k_T_length hS1) rfl (by first | decide | exact Nat.le_of_ble_eq_true rfl) ⟨by decide, by decide, by show 2 * it + 0 ≤ 60; omega, by show 11 * it + 0 ≤ 300; omega⟩ (fun _ _ h => False.elim h) (fun v M' hp => ?_)
      obtain ⟨rfl, rfl⟩ := hp
      refine z_callV C dL_says_101 lk_L_24 mw_X8_truncateInput mi_X8_truncateInput ms_X8_truncateInput rfl hM0 (k_X8_truncateInput hc1 hk (ll := (w.length : Nat)) (by unfold zR; omega)) rfl (by first | decide | exact Nat.le_of_ble_eq_true rfl) ⟨by decide, by decide, by show 2 * it + 1 ≤ 60; omega, by show 11 * it + 6 ≤ 300; omega⟩ (fun X M' h => (h.no (by unfold q_truncateInput; rw [if_pos]; constructor; omega; show (w.length : Int) ≤ (20 * it : Nat); omega)).elim) (fun v M' hp => ?_)
      obtain ⟨⟨-, hc2⟩, -, rfl⟩ := hp
      refine z_pop C dL_says_104 rfl ?_
      refine z_vret C hQ dL_says_105 (by show 2 * it + 1 ≤ 60; omega) (by show 11 * it + 6 ≤ 300; omega) ?_
      exact ⟨rfl, f, hc2, fun j hj => hf j hj (by omega)⟩
    · exact absurd h7 (by omega)
  have loop : ∀ (t it : Nat) (f : Nat → Int) (M1 : zM) (o3 o4 : Option Value), w.length ≤ 20 * (it + t) → 20 * it < w.length + 20 → hFc γ M1 U (ySI Y f (20 * it : Nat)) → hSg γ M1 b u w → (∀ j : Nat, j < w.length → j < 20 * it → f j = w.getD j 0) → zAW p l e { frames := 7, cells := 60, slots := 300, locals := 120 } s m args below meth c γ 5 Q M1 (2 * it) (11 * it) 2 [some (.ref (U 0)), some (.ref b), some (.int (zi (20 * it : Nat))), o3, o4] [] := by
    intro t
    induction t with
    | zero =>
      intro it f M1 o3 o4 hl hl2 hc1 hS1 hf
      exact fin it f M1 o3 o4 hl hl2 hc1 hS1 hf
    | succ t ih =>
      intro it f M1 o3 o4 hl hl2 hc1 hS1 hf
      by_cases hlt : w.length ≤ 20 * it
      · exact fin it f M1 o3 o4 hlt hl2 hc1 hS1 hf
      have hzf := zfv_rng (zcf_rng' hvw (20 * it)) 20
      have inner : ∀ (q : Nat), M1 q = none → ∀ (tt k : Nat), k + tt = 20 → zAW p l e { frames := 7, cells := 60, slots := 300, locals := 120 } s m args below meth c γ 5 Q (va_up M1 q (some (zar γ 5 (zfv (zcf' w (20 * it)) k)))) (2 * it + 1) (11 * it + 5) 17 [some (.ref (U 0)), some (.ref b), some (.int (zi (20 * it : Nat))), some (.ref q), some (.int (zi k))] [] := by
        intro q hq tt
        induction tt with
        | zero =>
          intro k hk20
          obtain rfl : k = 20 := by omega
          have hc2 := hc1.up (x := some (zar γ 5 (zfv (zcf' w (20 * it)) 20))) (hc1.no hq)
          have hS2 := hS1.up (x := some (zar γ 5 (zfv (zcf' w (20 * it)) 20))) hq
          obtain ⟨fs0, hM0⟩ := hc2.ok0
          have hMq : va_up M1 q (some (zar γ 5 (zfv (zcf' w (20 * it)) 20))) q = some (zar γ 5 (zfv (zcf' w (20 * it)) 20)) := va_up_self _ _ _
          refine z_iload C dL_says_17 rfl ?_
          refine z_bipush C dL_says_19 (by decide) ?_
          refine z_icmp_geZ (tgt := 70) C dL_says_21 (by decide) (by omega) (by omega) (fun h21 => ?_) (fun h21 => ?_)
          · refine z_aload_n C dL_says_70 rfl ?_
            refine z_aload_n C dL_says_71 rfl ?_
            refine z_iconst C dL_says_72 ?_
            refine z_aldN C dL_says_73 (by first | assumption | ((repeat (first | assumption | exact va_up_self _ _ _ | refine (va_up_ne _ _ (by assumption)).trans ?_)); done) | (simp [va_up, *] <;> rfl)) (by omega) (by omega) (by assumption) (fun hr73 => ?_)
            refine z_aload_n C dL_says_74 rfl ?_
            refine z_iconst C dL_says_75 ?_
            refine z_aldN C dL_says_76 (by first | assumption | ((repeat (first | assumption | exact va_up_self _ _ _ | refine (va_up_ne _ _ (by assumption)).trans ?_)); done) | (simp [va_up, *] <;> rfl)) (by omega) (by omega) (by assumption) (fun hr76 => ?_)
            refine z_aload_n C dL_says_77 rfl ?_
            refine z_iconst C dL_says_78 ?_
            refine z_aldN C dL_says_79 (by first | assumption | ((repeat (first | assumption | exact va_up_self _ _ _ | refine (va_up_ne _ _ (by assumption)).trans ?_)); done) | (simp [va_up, *] <;> rfl)) (by omega) (by omega) (by assumption) (fun hr79 => ?_)
            refine z_aload_n C dL_says_80 rfl ?_
            refine z_iconst C dL_says_81 ?_
            refine z_aldN C dL_says_82 (by first | assumption | ((repeat (first | assumption | exact va_up_self _ _ _ | refine (va_up_ne _ _ (by assumption)).trans ?_)); done) | (simp [va_up, *] <;> rfl)) (by omega) (by omega) (by assumption) (fun hr82 => ?_)
            refine z_aload_n C dL_says_83 rfl ?_
            refine z_iconst C dL_says_84 ?_
            refine z_aldN C dL_says_85 (by first | assumption | ((repeat (first | assumption | exact va_up_self _ _ _ | refine (va_up_ne _ _ (by assumption)).trans ?_)); done) | (simp [va_up, *] <;> rfl)) (by omega) (by omega) (by assumption) (fun hr85 => ?_)
            refine z_callV C dL_says_86 lk_L_18 mw_X8_appendInput mi_X8_appendInput ms_X8_appendInput rfl hM0 (k_X8_appendInput hc2 hk) rfl (by first | decide | exact Nat.le_of_ble_eq_true rfl) ⟨by decide, by decide, by show 2 * it + 1 + 1 ≤ 60; omega, by show 11 * it + 5 + 6 ≤ 300; omega⟩ (fun X M' h => (h.no (by unfold q_appendInput; rw [if_pos]; show ((20 * it : Nat) : Int) + 20 ≤ 500; omega)).elim) (fun v M' hp => ?_)
            obtain ⟨⟨f86, hc3⟩, -, rfl⟩ := hp
            refine z_pop C dL_says_89 rfl ?_
            refine z_iincZ C dL_says_90 rfl (by decide) ?_
            refine z_goto (tgt := 2) C dL_says_93 (by decide) ?_
            have hS3 := hS2.fr f86 (fun _ _ => zFU_no hb) (fun _ _ => zFU_no hu)
            have hc4 : hFc γ M' U (ySI Y (za5 f (20 * it : Nat) (zpk (zcf' w (20 * it)) 0 4) (zpk (zcf' w (20 * it)) 1 4) (zpk (zcf' w (20 * it)) 2 4) (zpk (zcf' w (20 * it)) 3 4) (zpk (zcf' w (20 * it)) 4 4)) (20 * (it + 1) : Nat)) := by
              rw [show ((20 * (it + 1) : Nat) : Int) = ((20 * it : Nat) : Int) + 20 by omega]
              exact hc3
            have q := ih (it + 1) _ M' (some (.ref q)) (some (.int (zi (20 : Nat)))) (by omega) (by omega) hc4 hS3 (fun j h1 h2 => zcf_at hf hvw j h1 (by omega))
            rw [show ((20 * (it + 1) : Nat) : Int) = ((20 * it : Nat) : Int) + 20 by omega] at q
            exact z_kn (by omega) (by omega) q
          · exact absurd h21 (by omega)
        | succ tt ih2 =>
          intro k hk20
          have hS2 := hS1.up (x := some (zar γ 5 (zfv (zcf' w (20 * it)) k))) hq
          have hzf := zfv_rng (zcf_rng' hvw (20 * it)) k
          have hpr := zpk_lt (zcf_rng' hvw (20 * it)) (k / 4) (r := k % 4) (by omega)
          have hcr := zcf_rng' hvw (20 * it) k
          have hpe : zfv (zcf' w (20 * it)) k (k / 4) = zpk (zcf' w (20 * it)) (k / 4) (k % 4) := by
            unfold zfv
            rw [show min (k - 4 * (k / 4)) 4 = k % 4 by omega]
          have hMq : va_up M1 q (some (zar γ 5 (zfv (zcf' w (20 * it)) k))) q = some (zar γ 5 (zfv (zcf' w (20 * it)) k)) := va_up_self _ _ _
          refine z_iload C dL_says_17 rfl ?_
          refine z_bipush C dL_says_19 (by decide) ?_
          refine z_icmp_geZ (tgt := 70) C dL_says_21 (by decide) (by omega) (by omega) (fun h21 => ?_) (fun h21 => ?_)
          · exact absurd h21 (by omega)
          · refine z_aload_n C dL_says_24 rfl ?_
            refine z_iload C dL_says_25 rfl ?_
            refine z_iconst C dL_says_27 ?_
            refine z_idivZ C dL_says_28 (by omega) (by omega) ?_
            refine z_aload_n C dL_says_29 rfl ?_
            refine z_iload C dL_says_30 rfl ?_
            refine z_iconst C dL_says_32 ?_
            refine z_idivZ C dL_says_33 (by omega) (by omega) ?_
            refine z_aldW C dL_says_34 hMq (by omega) (by omega) ?_
            rw [show ((k : Int) / 4).toNat = k / 4 by omega, hpe]
            refine z_bipush C dL_says_35 (by decide) ?_
            refine z_ishl C dL_says_37 ?_
            rw [zshl8 hpr]
            refine z_iload_n C dL_says_38 rfl ?_
            refine z_iload C dL_says_39 rfl ?_
            refine z_iaddZ C dL_says_41 ?_
            refine z_aload_n C dL_says_42 rfl ?_
            refine z_callVT C hS2 dL_says_43 lk_L_8 mw_J0_length_8abf5 mi_J0_length_8abf5 ms_J0_length_8abf5 (k_T_length hS2) rfl (by first | decide | exact Nat.le_of_ble_eq_true rfl) ⟨by decide, by decide, by show 2 * it + 1 + 0 ≤ 60; omega, by show 11 * it + 5 + 0 ≤ 300; omega⟩ (fun _ _ h => False.elim h) (fun v M' hp => ?_)
            obtain ⟨rfl, rfl⟩ := hp
            refine z_icmp_geZ (tgt := 60) C dL_says_46 (by decide) (by omega) (by omega) (fun h46 => ?_) (fun h46 => ?_)
            · refine z_bipush C dL_says_60 (by decide) ?_
              refine z_ior C dL_says_62 ?_
              have e62 : (32 : Int) = zcf' w (20 * it) k := by unfold zcf'; rw [if_neg (by omega)]
              rw [zor8 hpr (by omega), e62]
              refine z_astN C dL_says_63 (by first | assumption | ((repeat (first | assumption | exact va_up_self _ _ _ | refine (va_up_ne _ _ (by assumption)).trans ?_)); done) | (simp [va_up, *] <;> rfl)) (by omega) (by omega) (by assumption) (by omega) (fun hr63 => ?_)
              refine z_iincZ C dL_says_64 rfl (by decide) ?_
              refine z_goto (tgt := 17) C dL_says_67 (by decide) ?_
              have q := ih2 (k + 1) (by omega)
              rw [← zfv_nx (by omega), hpe, ← va_up_tw] at q
              exact q
            · refine z_aload_n C dL_says_49 rfl ?_
              refine z_iload_n C dL_says_50 rfl ?_
              refine z_iload C dL_says_51 rfl ?_
              refine z_iaddZ C dL_says_53 ?_
              refine z_callVT C hS2 dL_says_54 lk_L_14 mw_J0_charAt_5068e mi_J0_charAt_5068e ms_J0_charAt_5068e (k_T_charAt hS2 (by omega)) rfl (by first | decide | exact Nat.le_of_ble_eq_true rfl) ⟨by decide, by decide, by show 2 * it + 1 + 0 ≤ 60; omega, by show 11 * it + 5 + 0 ≤ 300; omega⟩ (fun _ _ h => False.elim h) (fun v M' hp => ?_)
              obtain ⟨rfl, rfl⟩ := hp
              refine z_goto (tgt := 62) C dL_says_57 (by decide) ?_
              refine z_ior C dL_says_62 ?_
              have e62 : w.getD (((20 * it : Nat) : Int) + (k : Int)).toNat 0 = zcf' w (20 * it) k := by unfold zcf'; rw [if_pos (by omega), show (((20 * it : Nat) : Int) + (k : Int)).toNat = 20 * it + k by omega]
              rw [e62, zor8 hpr (by omega)]
              refine z_astN C dL_says_63 (by first | assumption | ((repeat (first | assumption | exact va_up_self _ _ _ | refine (va_up_ne _ _ (by assumption)).trans ?_)); done) | (simp [va_up, *] <;> rfl)) (by omega) (by omega) (by assumption) (by omega) (fun hr63 => ?_)
              refine z_iincZ C dL_says_64 rfl (by decide) ?_
              refine z_goto (tgt := 17) C dL_says_67 (by decide) ?_
              have q := ih2 (k + 1) (by omega)
              rw [← zfv_nx (by omega), hpe, ← va_up_tw] at q
              exact q
      refine z_iload_n C dL_says_2 rfl ?_
      refine z_aload_n C dL_says_3 rfl ?_
      refine z_callVT C hS1 dL_says_4 lk_L_8 mw_J0_length_8abf5 mi_J0_length_8abf5 ms_J0_length_8abf5 (k_T_length hS1) rfl (by first | decide | exact Nat.le_of_ble_eq_true rfl) ⟨by decide, by decide, by show 2 * it + 0 ≤ 60; omega, by show 11 * it + 0 ≤ 300; omega⟩ (fun _ _ h => False.elim h) (fun v M' hp => ?_)
      obtain ⟨rfl, rfl⟩ := hp
      refine z_icmp_geZ (tgt := 96) C dL_says_7 (by decide) (by omega) (by omega) (fun h7 => ?_) (fun h7 => ?_)
      · exact absurd h7 (by omega)
      · refine z_iconst C dL_says_10 ?_
        refine z_newI C dL_says_11 t1_55 (by omega) ⟨by show 2 * it + 1 ≤ 60; omega, by show 11 * it + 5 ≤ 300; omega⟩ (fun q hq => ?_)
        refine z_astore_n C dL_says_13 (by decide) ?_
        refine z_iconst C dL_says_14 ?_
        refine z_istore C dL_says_15 (by decide) ?_
        have q0 := inner q hq 20 0 rfl
        rw [zfv_0] at q0
        exact q0
  refine z_iconst C dL_says_0 ?_
  refine z_istore_n C dL_says_1 (by decide) ?_
  exact z_kn (by omega) (by omega) (loop 21 0 (yIf Y) M none none (by omega) (by omega) (by rw [show ((20 * 0 : Nat) : Int) = yIn Y from hi0.symm]; exact hc) hS (fun j h1 h2 => absurd h2 (by omega)))

