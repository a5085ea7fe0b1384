/-! the model reckons a fraction -/
def mRk (γ : zG) (A : Nat → Nat) (M M1 : zM) (F F1 : Nat → Int) (c : Int → Int) (b p : Int) (c7 e1 : Nat → Int) (x T0 B0 E : Int) : Prop := mF A M M1 [0, 7, 10] ∧ mKp [10, 15, 16, 17] F F1 ∧ F1 10 = zFo b p + 1 ∧ M1 (A 0) = some (mOb A F1) ∧ M1 (A 7) = some (zar γ 81 c7) ∧ M1 (A 10) = some (zaz γ 27 e1) ∧ mEx c b p (zFo b p - x) e1 ∧ F1 15 = T0 / zgd T0 B0 ∧ F1 16 = B0 / zgd T0 B0 ∧ F1 17 = E ∧ (1 ≤ T0 ∧ T0 ≤ zbd x.toNat) ∧ (1 ≤ B0 ∧ B0 ≤ zbd x.toNat)
theorem zbd_mo {i j : Nat} (h : i ≤ j) : zbd i ≤ zbd j := by
  have pos : ∀ k, 1 ≤ zbd k := by
    intro k
    induction k with
    | zero => decide
    | succ k ih =>
      show 1 ≤ zbd k * 54000
      omega
  induction j with
  | zero => rw [show i = 0 by omega]; exact Int.le_refl _
  | succ j ih =>
    by_cases e : i = j + 1
    · subst e
      exact Int.le_refl _
    · have := ih (by omega)
      have := pos j
      show _ ≤ zbd j * 54000
      omega
theorem mred_le {T B : Int} (hT : 1 ≤ T) (hB : 1 ≤ B) : (1 ≤ T / zgd T B ∧ T / zgd T B ≤ T) ∧ (1 ≤ B / zgd T B ∧ B / zgd T B ≤ B) := by
  have hg := zgd_pos (x := T) (y := B) (by omega)
  have hdv := zgd_dv T B
  exact ⟨zdv_le hdv.1 hg hT, zdv_le hdv.2 hg hB⟩
set_option maxHeartbeats 4000000 in
set_option maxRecDepth 100000 in
theorem k_X9_reckon {l : Launch} {γ : zG} {M : zM} {A : Nat → Nat} {F : Nat → Int} {g e0 : Nat → Int} {r b0 p0 s0 me : Int} {c0 : Int → Int} {G : List Int} (hA : mIA A) (hO : mSc γ M A F) (hE : M (A 10) = some (zaz γ 27 e0)) (hM : M (A 1) = some (zar γ 5987 g)) (hg : ∀ j, zR (g j)) (hr : 0 ≤ r ∧ r < 4) (hb : -1 ≤ b0 ∧ b0 < 27) (hp0 : -1 ≤ p0 ∧ p0 < 27) (hv : b0 ≠ -1 → p0 ≠ -1) (hL : mRp g r c0 G) (hG : ∀ x, x ∈ G → 0 ≤ x ∧ x < 20439) (hc : zcR c0) (hs : 0 ≤ s0 ∧ s0 < 27) (hme : g (339 + 1412 * r + 1).toNat = me) (rme : 0 ≤ me ∧ me ≤ 2) :
    zCon l γ yX9_reckon cX9_reckon 9 none [.ref (A 0), .int (zi r), .int (zi b0), .int (zi p0), .int (zi s0)] M 3 80 0 0 (fun v' M' => v' = none ∧ mF A M M' [0, 7, 10] ∧ ∃ F', mKp [10, 15, 16, 17] F F' ∧ mSc γ M' A F' ∧ M' (A 0) = some (mOb A F') ∧ (∃ e, M' (A 10) = some (zaz γ 27 e)) ∧ F' 15 = zcT c0 b0 p0 s0 me ∧ F' 16 = zcB c0 b0 p0 s0 me ∧ F' 17 = zcE c0 b0 p0 s0 me) (fun _ _ => False) := by
  have fo := zFo_cs hv
  have rz := zlv_rng c0 b0 p0 s0
  have b3 := zbd_le 3 (by decide)
  obtain ⟨hO0, ⟨h70, hH7, hh7⟩, ⟨f0, hF8, hf8⟩, ⟨h90, hH9, hh9⟩⟩ := hO
  have sc : ∀ (M1 : zM) (F1 c7 : Nat → Int), mF A M M1 [0, 7, 10] → M1 (A 0) = some (mOb A F1) → M1 (A 7) = some (zar γ 81 c7) → (∀ j, zR (c7 j)) → mSc γ M1 A F1 := fun M1 F1 c7 a1 a2 a3 a4 => ⟨a2, ⟨_, a3, a4⟩, ⟨_, a1.at hA (.of rfl) hF8, hf8⟩, ⟨_, a1.at hA (.of rfl) hH9, hh9⟩⟩
  refine zEnter [some (.ref (A 0)), some (.int (zi r)), some (.int (zi b0)), some (.int (zi p0)), some (.int (zi s0)), none, none, none, none] (by decide +kernel) rfl rfl (Nat.le_of_ble_eq_true rfl) ?_
  intro p e s m args below meth c Q C hin hQ
  have lft : ∀ (t : Nat) (M1 : zM) (F1 c7 e1 : Nat → Int) (k T0 B0 E : Int), 27 - k = t → 0 ≤ k ∧ k ≤ 27 → (∀ j, zR (c7 j)) → mRk γ A M M1 F F1 c0 b0 p0 c7 e1 (zFo b0 p0 + 1) T0 B0 E → zlv c0 b0 p0 s0 = -1 → (T0, B0 * zxn c0 b0 p0 (-1), E) = zcf c0 b0 p0 s0 me → zAW p l e { frames := 3, cells := 0, slots := 0, locals := 80 } s m args below meth c γ 9 Q M1 0 0 165 [some (.ref (A 0)), some (.int (zi r)), some (.int (zi b0)), some (.int (zi p0)), some (.int (zi s0)), some (.int (zi me)), some (.int (zi 0)), some (.int (zi (zsum (zvG c0 b0 p0 (-1)) 0 k.toNat))), some (.int (zi k))] [] := by
    intro t
    induction t with
    | zero =>
      intro M1 F1 c7 e1 k T0 B0 E ht hk hc7 hQ1 hlv hz
      obtain rfl : k = 27 := by omega
      obtain ⟨q1, q2, q3, q4, q5, q6, q7, q8, q9, q10, q11, q12⟩ := hQ1
      have xn := zxn_no (c := c0) (b := b0) (p := p0) hs hlv
      have m1 := mred_le q11.1 q12.1
      have w1 := zbd_mo (show (zFo b0 p0 + 1).toNat ≤ 3 by omega)
      have w2 : 1 ≤ B0 / zgd T0 B0 * zxn c0 b0 p0 (-1) ∧ B0 / zgd T0 B0 * zxn c0 b0 p0 (-1) ≤ 157464000000000 * 27 := by
        constructor
        · have := Int.mul_le_mul m1.2.1 xn.1 (by omega) (by omega)
          omega
        · exact Int.mul_le_mul (by omega) xn.2 (by omega) (by omega)
      have hfin := mrd_fin (T := T0) (B := B0) (t := 1) (b := zxn c0 b0 p0 (-1)) q11.1 q12.1 (by omega)
      rw [Int.mul_one T0] at hfin
      refine z_iload C dX9_reckon_165 rfl ?_
      refine z_bipush C dX9_reckon_167 (by decide) ?_
      refine z_icmp_geZ (tgt := 198) C dX9_reckon_169 (by decide) (by omega) (by omega) (fun h169 => ?_) (fun h169 => ?_)
      · refine z_aload_n C dX9_reckon_198 rfl ?_
        refine z_lconstZ (x := 1) C dX9_reckon_199 rfl ?_
        refine z_iload C dX9_reckon_200 rfl ?_
        rw [show zsum (zvG c0 b0 p0 (-1)) 0 (27 : Int).toNat = zxn c0 b0 p0 (-1) from rfl]
        refine z_i2lZ C dX9_reckon_202 (by unfold zR; omega) ?_
        refine z_callV C dX9_reckon_203 lk_X9_167 mw_X9_times mi_X9_times ms_X9_times rfl (by first | assumption | ((repeat (first | assumption | exact va_up_self _ _ _ | refine (va_up_ne _ _ (by first | assumption | exact hA.ne (by decide) | exact hA.ne (by omega))).trans ?_)); done)) (k_X9_times hA q4 q8 q9 (t0 := 1) (b0 := zxn c0 b0 p0 (-1)) (by omega) (by omega)) rfl (by first | decide | exact Nat.le_of_ble_eq_true rfl) ⟨by decide, by decide, by decide, by decide⟩ (fun _ _ h => False.elim h) (fun v M' hp => ?_)
        obtain ⟨rfl, a1, F2, a2, a3, a4, a5⟩ := hp
        refine z_vret C hQ dX9_reckon_206 (by decide) (by decide) ?_
        have f2 := q1.tr (K := [0, 7, 10]) a1 ⟨rfl, rfl⟩
        refine ⟨rfl, f2, F2, q2.tr a3 ⟨rfl, rfl⟩, sc _ F2 c7 f2 a2 (a1.at hA (.of rfl) q5) hc7, a2, ⟨e1, a1.at hA (.of rfl) q6⟩, ?_, ?_, ?_⟩
        · rw [a4, hfin.1, zcT, ← hz]
        · rw [a5, hfin.2, zcB, ← hz]
        · rw [a3 17 (by decide), q10, zcE, ← hz]
      · exact absurd h169 (by omega)
    | succ t ih =>
      intro M1 F1 c7 e1 k T0 B0 E ht hk hc7 hQ1 hlv hz
      obtain ⟨q1, q2, q3, q4, q5, q6, q7, q8, q9, q10, q11, q12⟩ := id hQ1
      have es := q7 k hk.1 (by omega)
      rw [show zFo b0 p0 - (zFo b0 p0 + 1) = -1 by omega] at es
      have rk := zlv_rng c0 b0 p0 k
      have rs : 0 ≤ e1 k.toNat ∧ e1 k.toNat ≤ 1 := by
        rw [es]
        split <;> decide
      have qq := ih M1 F1 c7 e1 (k + 1) T0 B0 E (by omega) (by omega) hc7 hQ1 hlv hz
      rw [zsum_nx hk.1, zvG] at qq
      refine z_iload C dX9_reckon_165 rfl ?_
      refine z_bipush C dX9_reckon_167 (by decide) ?_
      refine z_icmp_geZ (tgt := 198) C dX9_reckon_169 (by decide) (by omega) (by omega) (fun h169 => ?_) (fun h169 => ?_)
      · exact absurd h169 (by omega)
      · refine z_iload C dX9_reckon_172 rfl ?_
        refine z_aload_n C dX9_reckon_174 rfl ?_
        refine z_get C dX9_reckon_175 fl_X9_39 (by first | assumption | ((repeat (first | assumption | exact va_up_self _ _ _ | refine (va_up_ne _ _ (by first | assumption | exact hA.ne (by decide) | exact hA.ne (by omega))).trans ?_)); done)) rfl ?_
        refine z_iload C dX9_reckon_178 rfl ?_
        refine z_aldZi C dX9_reckon_180 q6 (by omega) (by omega) ?_
        refine z_if_eqZ (tgt := 188) C dX9_reckon_181 (by decide) (by omega) (fun h181 => ?_) (fun h181 => ?_)
        · refine z_iconst C dX9_reckon_188 ?_
          refine z_iaddZ C dX9_reckon_189 ?_
          refine z_istore C dX9_reckon_190 (by decide) ?_
          refine z_iincZ C dX9_reckon_192 rfl (by decide) ?_
          refine z_goto (tgt := 165) C dX9_reckon_195 (by decide) ?_
          rw [if_pos (by
            by_cases w : -1 < zlv c0 b0 p0 k
            · rw [if_pos w] at es
              omega
            · omega)] at qq
          exact qq
        · refine z_iconst C dX9_reckon_184 ?_
          refine z_goto (tgt := 189) C dX9_reckon_185 (by decide) ?_
          refine z_iaddZ C dX9_reckon_189 ?_
          refine z_istore C dX9_reckon_190 (by decide) ?_
          refine z_iincZ C dX9_reckon_192 rfl (by decide) ?_
          refine z_goto (tgt := 165) C dX9_reckon_195 (by decide) ?_
          rw [if_neg (by
            intro w
            rw [if_neg (by omega)] at es
            omega)] at qq
          exact qq
  have t154 : ∀ (M1 : zM) (F1 c7 e1 : Nat → Int) (x T0 B0 E : Int) (x7 x8 : Option Value), (∀ j, zR (c7 j)) → mRk γ A M M1 F F1 c0 b0 p0 c7 e1 x T0 B0 E → (T0, B0, E) = zcf c0 b0 p0 s0 me → zAW p l e { frames := 3, cells := 0, slots := 0, locals := 80 } s m args below meth c γ 9 Q M1 0 0 154 [some (.ref (A 0)), some (.int (zi r)), some (.int (zi b0)), some (.int (zi p0)), some (.int (zi s0)), some (.int (zi me)), some (.int (zi 1)), x7, x8] [] := by
    intro M1 F1 c7 e1 x T0 B0 E x7 x8 hc7 hQ1 hz
    obtain ⟨q1, q2, q3, q4, q5, q6, q7, q8, q9, q10, q11, q12⟩ := hQ1
    refine z_iload C dX9_reckon_154 rfl ?_
    refine z_if_neZ (tgt := 206) C dX9_reckon_156 (by decide) (by omega) (fun h156 => ?_) (fun h156 => ?_)
    · refine z_vret C hQ dX9_reckon_206 (by decide) (by decide) ?_
      refine ⟨rfl, q1, F1, q2, sc _ F1 c7 q1 q4 q5 hc7, q4, ⟨e1, q6⟩, ?_, ?_, ?_⟩
      · rw [q8, zcT, ← hz]
      · rw [q9, zcB, ← hz]
      · rw [q10, zcE, ← hz]
    · exact absurd h156 (by decide)
  have loop : ∀ (t : Nat) (M1 : zM) (F1 c7 e1 : Nat → Int) (x T0 B0 E : Int) (x8 : Option Value), zFo b0 p0 + 1 - x = t → 0 ≤ x ∧ x ≤ zFo b0 p0 + 1 → (∀ j, zR (c7 j)) → mLk c0 b0 p0 c7 → mRk γ A M M1 F F1 c0 b0 p0 c7 e1 x T0 B0 E → zlv c0 b0 p0 s0 ≤ zFo b0 p0 - x → zch c0 b0 p0 s0 me t T0 B0 E = zcf c0 b0 p0 s0 me → zAW p l e { frames := 3, cells := 0, slots := 0, locals := 80 } s m args below meth c γ 9 Q M1 0 0 69 [some (.ref (A 0)), some (.int (zi r)), some (.int (zi b0)), some (.int (zi p0)), some (.int (zi s0)), some (.int (zi me)), some (.int (zi 0)), some (.int (zi x)), x8] [] := by
    intro t
    induction t with
    | zero =>
      intro M1 F1 c7 e1 x T0 B0 E x8 ht hx hc7 hK hQ1 hlv hz
      obtain rfl : x = zFo b0 p0 + 1 := by omega
      obtain ⟨q1, q2, q3, q4, q5, q6, q7, q8, q9, q10, q11, q12⟩ := id hQ1
      refine z_iload C dX9_reckon_69 rfl ?_
      refine z_aload_n C dX9_reckon_71 rfl ?_
      refine z_getM C dX9_reckon_72 fl_X9_125 (by first | assumption | ((repeat (first | assumption | exact va_up_self _ _ _ | refine (va_up_ne _ _ (by first | assumption | exact hA.ne (by decide) | exact hA.ne (by omega))).trans ?_)); done)) rfl (by first | assumption | ((repeat (first | assumption | exact va_up_self _ _ _ | rewrite [va_up_ne _ _ (by decide)])); (first | done | exact rfl))) ?_
      refine z_icmp_geZ (tgt := 154) C dX9_reckon_75 (by decide) (by omega) (by omega) (fun h75 => ?_) (fun h75 => ?_)
      · refine z_iload C dX9_reckon_154 rfl ?_
        refine z_if_neZ (tgt := 206) C dX9_reckon_156 (by decide) (by omega) (fun h156 => ?_) (fun h156 => ?_)
        · exact absurd rfl h156
        · refine z_iconst C dX9_reckon_159 ?_
          refine z_istore C dX9_reckon_160 (by decide) ?_
          refine z_iconst C dX9_reckon_162 ?_
          refine z_istore C dX9_reckon_163 (by decide) ?_
          exact lft 27 M1 F1 c7 e1 0 T0 B0 E (by omega) (by omega) hc7 hQ1 (by omega) hz
      · exact absurd h75 (by omega)
    | succ t ih =>
      intro M1 F1 c7 e1 x T0 B0 E x8 ht hx hc7 hK hQ1 hlv hz
      obtain ⟨q1, q2, q3, q4, q5, q6, q7, q8, q9, q10, q11, q12⟩ := id hQ1
      have xr := zxn_rng c0 b0 p0 (zFo b0 p0 - x)
      have sr := zxs_rng hc b0 p0 (o := zFo b0 p0 - x) (by omega)
      have kx := hK (zFo b0 p0 - x) s0 (by omega) (by omega) hs.1 hs.2
      rw [show zFo b0 p0 - (zFo b0 p0 - x) = x by omega] at kx
      have cn := hc (zCs (zFo b0 p0 - x) b0 p0 + s0)
      have et : ((t : Nat) : Int) = zFo b0 p0 - x := by omega
      have w1 := zbd_mo (show x.toNat + 1 ≤ 3 by omega)
      have e1x : x.toNat + 1 = (x + 1).toNat := by omega
      have m1 := mred_le q11.1 q12.1
      unfold zch at hz
      rw [et] at hz
      have fac : ∀ {nn t0 : Int}, (zxn c0 b0 p0 (zFo b0 p0 - x) ≠ 0) → (1 ≤ t0 ∧ t0 ≤ 54000) → (1 ≤ T0 / zgd T0 B0 * t0 ∧ T0 / zgd T0 B0 * t0 < 9007199254740992) ∧ (1 ≤ B0 / zgd T0 B0 * zxd me (zxs c0 b0 p0 (zFo b0 p0 - x)) (zxn c0 b0 p0 (zFo b0 p0 - x)) ∧ B0 / zgd T0 B0 * zxd me (zxs c0 b0 p0 (zFo b0 p0 - x)) (zxn c0 b0 p0 (zFo b0 p0 - x)) < 9007199254740992) ∧ (1 ≤ T0 * t0 ∧ T0 * t0 ≤ zbd (x + 1).toNat) ∧ (1 ≤ B0 * zxd me (zxs c0 b0 p0 (zFo b0 p0 - x)) (zxn c0 b0 p0 (zFo b0 p0 - x)) ∧ B0 * zxd me (zxs c0 b0 p0 (zFo b0 p0 - x)) (zxn c0 b0 p0 (zFo b0 p0 - x)) ≤ zbd (x + 1).toNat) := fun hn ht => by
        have dr := zxd_rng hc (b := b0) (p := p0) (o := zFo b0 p0 - x) (me := me) (by omega) hn
        have a1 := zbd_mul (k := x.toNat) (T := T0 / zgd T0 B0) ⟨m1.1.1, by omega⟩ ht
        have a2 := zbd_mul (k := x.toNat) (T := B0 / zgd T0 B0) ⟨m1.2.1, by omega⟩ dr
        have a3 := zbd_mul (k := x.toNat) q11 ht
        have a4 := zbd_mul (k := x.toNat) q12 dr
        rw [e1x] at a3 a4
        exact ⟨by omega, by omega, a3, a4⟩
      have aft : ∀ (M2 : zM) (F2 : Nat → Int) (T1 B1 E1 dn : Int) (x8 : Option Value), mF A M1 M2 [0] → mKp [15, 16, 17] F1 F2 → M2 (A 0) = some (mOb A F2) → F2 15 = T1 / zgd T1 B1 → F2 16 = B1 / zgd T1 B1 → F2 17 = E1 → (1 ≤ T1 ∧ T1 ≤ zbd (x + 1).toNat) → (1 ≤ B1 ∧ B1 ≤ zbd (x + 1).toNat) → (dn = 0 ∧ zlv c0 b0 p0 s0 ≤ zFo b0 p0 - (x + 1) ∧ zch c0 b0 p0 s0 me t T1 B1 E1 = zcf c0 b0 p0 s0 me ∨ dn = 1 ∧ (T1, B1, E1) = zcf c0 b0 p0 s0 me) → zAW p l e { frames := 3, cells := 0, slots := 0, locals := 80 } s m args below meth c γ 9 Q M2 0 0 142 [some (.ref (A 0)), some (.int (zi r)), some (.int (zi b0)), some (.int (zi p0)), some (.int (zi s0)), some (.int (zi me)), some (.int (zi dn)), some (.int (zi x)), x8] [] := by
        intro M2 F2 T1 B1 E1 dn x8 f2 p2 a2 a15 a16 a17 hT1 hB1 hdn
        have b5 := f2.at hA (.of rfl) q5
        have b6 := f2.at hA (.of rfl) q6
        refine z_aload_n C dX9_reckon_142 rfl ?_
        refine z_iload C dX9_reckon_143 rfl ?_
        refine z_callV C dX9_reckon_145 lk_X9_186 mw_X9_exclude mi_X9_exclude ms_X9_exclude rfl (by first | assumption | ((repeat (first | assumption | exact va_up_self _ _ _ | refine (va_up_ne _ _ (by first | assumption | exact hA.ne (by decide) | exact hA.ne (by omega))).trans ?_)); done)) (k_X9_exclude hA a2 b5 hc7 b6 hK q7 hc (by omega)) rfl (by first | decide | exact Nat.le_of_ble_eq_true rfl) ⟨by decide, by decide, by decide, by decide⟩ (fun _ _ h => False.elim h) (fun v M' hp => ?_)
        obtain ⟨rfl, g1, e2, g2, g3⟩ := hp
        have c2 := g1.at hA (.of rfl) a2
        refine z_iincZ C dX9_reckon_148 rfl (by decide) ?_
        refine z_goto (tgt := 69) C dX9_reckon_151 (by decide) ?_
        have hQ2 : mRk γ A M _ F F2 c0 b0 p0 c7 e2 (x + 1) T1 B1 E1 := ⟨(q1.tr (K := [0, 7, 10]) f2 ⟨rfl, rfl⟩).tr g1 ⟨rfl, rfl⟩, q2.tr p2 ⟨rfl, rfl⟩, (p2 10 (by decide)).trans q3, c2, g1.at hA (.of rfl) b5, g2, g3, a15, a16, a17, hT1, hB1⟩
        rcases hdn with ⟨rfl, d1, d2⟩ | ⟨rfl, d1⟩
        · exact ih _ F2 c7 e2 (x + 1) T1 B1 E1 x8 (by omega) (by omega) hc7 hK hQ2 d1 d2
        · have h10 := hQ2.2.2.1
          refine z_iload C dX9_reckon_69 rfl ?_
          refine z_aload_n C dX9_reckon_71 rfl ?_
          refine z_getM C dX9_reckon_72 fl_X9_125 c2 rfl h10 ?_
          refine z_icmp_geZ (tgt := 154) C dX9_reckon_75 (by decide) (by omega) (by omega) (fun h75 => ?_) (fun h75 => ?_)
          · exact t154 _ F2 c7 e2 (x + 1) T1 B1 E1 _ _ hc7 hQ2 d1
          · refine z_iload C dX9_reckon_78 rfl ?_
            refine z_if_neZ (tgt := 154) C dX9_reckon_80 (by decide) (by omega) (fun h80 => ?_) (fun h80 => ?_)
            · exact t154 _ F2 c7 e2 (x + 1) T1 B1 E1 _ _ hc7 hQ2 d1
            · exact absurd h80 (by decide)
      refine z_iload C dX9_reckon_69 rfl ?_
      refine z_aload_n C dX9_reckon_71 rfl ?_
      refine z_getM C dX9_reckon_72 fl_X9_125 (by first | assumption | ((repeat (first | assumption | exact va_up_self _ _ _ | refine (va_up_ne _ _ (by first | assumption | exact hA.ne (by decide) | exact hA.ne (by omega))).trans ?_)); done)) rfl (by first | assumption | ((repeat (first | assumption | exact va_up_self _ _ _ | rewrite [va_up_ne _ _ (by decide)])); (first | done | exact rfl))) ?_
      refine z_icmp_geZ (tgt := 154) C dX9_reckon_75 (by decide) (by omega) (by omega) (fun h75 => ?_) (fun h75 => ?_)
      · exact absurd h75 (by omega)
      · refine z_iload C dX9_reckon_78 rfl ?_
        refine z_if_neZ (tgt := 154) C dX9_reckon_80 (by decide) (by omega) (fun h80 => ?_) (fun h80 => ?_)
        · exact absurd rfl h80
        · refine z_aload_n C dX9_reckon_83 rfl ?_
          refine z_iload C dX9_reckon_84 rfl ?_
          refine z_callV C dX9_reckon_86 lk_X9_176 mw_X9_manyAt mi_X9_manyAt ms_X9_manyAt rfl (by first | assumption | ((repeat (first | assumption | exact va_up_self _ _ _ | refine (va_up_ne _ _ (by first | assumption | exact hA.ne (by decide) | exact hA.ne (by omega))).trans ?_)); done)) (k_X9_manyAt q4 q5 hc7 q6 hK q7 hc (x := x) (by omega)) rfl (by first | decide | exact Nat.le_of_ble_eq_true rfl) ⟨by decide, by decide, by decide, by decide⟩ (fun _ _ h => False.elim h) (fun v M' hp => ?_)
          obtain ⟨rfl, rfl⟩ := hp
          refine z_istore C dX9_reckon_89 (by decide) ?_
          refine z_aload_n C dX9_reckon_91 rfl ?_
          refine z_iload C dX9_reckon_92 rfl ?_
          refine z_iload C dX9_reckon_94 rfl ?_
          refine z_callV C dX9_reckon_96 lk_X9_163 mw_X9_isThere mi_X9_isThere ms_X9_isThere rfl (by first | assumption | ((repeat (first | assumption | exact va_up_self _ _ _ | refine (va_up_ne _ _ (by first | assumption | exact hA.ne (by decide) | exact hA.ne (by omega))).trans ?_)); done)) (k_X9_isThere q4 q5 hc7 q6 hK q7 hc (x := x) (by omega) hs) rfl (by first | decide | exact Nat.le_of_ble_eq_true rfl) ⟨by decide, by decide, by decide, by decide⟩ (fun _ _ h => False.elim h) (fun v M' hp => ?_)
          obtain ⟨rd, rfl, rfl, qd⟩ := hp
          have sd := qd.rng
          refine z_istore C dX9_reckon_99 (by decide) ?_
          refine z_iload C dX9_reckon_101 rfl ?_
          refine z_if_leZ (tgt := 142) C dX9_reckon_103 (by decide) (by omega) (fun h103 => ?_) (fun h103 => ?_)
          · have hn0 : zxn c0 b0 p0 (zFo b0 p0 - x) = 0 := by omega
            rw [if_pos hn0] at hz
            have hnl : zlv c0 b0 p0 s0 ≠ zFo b0 p0 - x := fun w => by
              have := zxn_pos (c := c0) (b := b0) (p := p0) hs w
              omega
            have w2 := zbd_mo (show x.toNat ≤ (x + 1).toNat by omega)
            refine aft _ F1 T0 B0 E rd _ mF.rf mKp.rf q4 q8 q9 q10 (by omega) (by omega) (.inl ⟨?_, by omega, hz⟩)
            rcases qd with ⟨-, w⟩ | ⟨w, -⟩
            · exact absurd w hnl
            · exact w
          · refine z_aload_n C dX9_reckon_106 rfl ?_
            refine z_iload C dX9_reckon_107 rfl ?_
            refine z_iload C dX9_reckon_109 rfl ?_
            refine z_if_eqZ (tgt := 130) C dX9_reckon_111 (by decide) (by omega) (fun h111 => ?_) (fun h111 => ?_)
            · refine z_iconst C dX9_reckon_130 ?_
              refine z_aload_n C dX9_reckon_131 rfl ?_
              refine z_iload C dX9_reckon_132 rfl ?_
              refine z_callV C dX9_reckon_134 lk_X9_179 mw_X9_sumAt mi_X9_sumAt ms_X9_sumAt rfl (by first | assumption | ((repeat (first | assumption | exact va_up_self _ _ _ | refine (va_up_ne _ _ (by first | assumption | exact hA.ne (by decide) | exact hA.ne (by omega))).trans ?_)); done)) (k_X9_sumAt q4 q5 hc7 q6 hK q7 hc (x := x) (by omega)) rfl (by first | decide | exact Nat.le_of_ble_eq_true rfl) ⟨by decide, by decide, by decide, by decide⟩ (fun _ _ h => False.elim h) (fun v M' hp => ?_)
              obtain ⟨rfl, rfl⟩ := hp
              refine z_iload C dX9_reckon_137 rfl ?_
              have hn0 : zxn c0 b0 p0 (zFo b0 p0 - x) ≠ 0 := by omega
              rw [if_neg hn0] at hz
              refine z_callV C dX9_reckon_139 lk_X9_182 mw_X9_factor mi_X9_factor ms_X9_factor rfl (by first | assumption | ((repeat (first | assumption | exact va_up_self _ _ _ | refine (va_up_ne _ _ (by first | assumption | exact hA.ne (by decide) | exact hA.ne (by omega))).trans ?_)); done)) (k_X9_factor hA q4 q8 q9 q10 (t0 := zxf me (zxn c0 b0 p0 (zFo b0 p0 - x))) rme (nn := 0) (by omega) (by omega) (by omega) (by rw [if_pos rfl]) rfl (fac (nn := 0) hn0 (zxf_rng (me := me) hn0)).1 (fac (nn := 0) hn0 (zxf_rng (me := me) hn0)).2.1) rfl (by first | decide | exact Nat.le_of_ble_eq_true rfl) ⟨by decide, by decide, by decide, by decide⟩ (fun _ _ h => False.elim h) (fun v M' hp => ?_)
              obtain ⟨rfl, a1, F2, a2, a3, a4, a5, a6⟩ := hp
              rw [if_pos rfl] at a6
              have hnl := qd.f h111
              rw [if_neg hnl] at hz
              have fc := fac (nn := 0) hn0 (zxf_rng (me := me) hn0)
              have hf := mrd_fin (T := T0) (B := B0) q11.1 q12.1 fc.2.2.1.1 (b := zxd me (zxs c0 b0 p0 (zFo b0 p0 - x)) (zxn c0 b0 p0 (zFo b0 p0 - x)))
              rw [hf.1] at a4
              rw [hf.2] at a5
              exact aft _ F2 _ _ _ rd _ a1 a3 a2 a4 a5 a6 fc.2.2.1 fc.2.2.2 (.inl ⟨h111, by omega, hz⟩)
            · have hcp : c0 (zCs (zFo b0 p0 - x) b0 p0 + s0) ≠ 0 := fun w => zlv_ne (by omega) w (qd.t h111)
              refine z_aload_n C dX9_reckon_114 rfl ?_
              refine z_get C dX9_reckon_115 fl_X9_30 (by first | assumption | ((repeat (first | assumption | exact va_up_self _ _ _ | refine (va_up_ne _ _ (by first | assumption | exact hA.ne (by decide) | exact hA.ne (by omega))).trans ?_)); done)) rfl ?_
              refine z_bipush C dX9_reckon_118 (by decide) ?_
              refine z_iload C dX9_reckon_120 rfl ?_
              refine z_imulZ C dX9_reckon_122 ?_
              refine z_iload C dX9_reckon_123 rfl ?_
              refine z_iaddZ C dX9_reckon_125 ?_
              refine z_aldN C dX9_reckon_126 (by first | assumption | ((repeat (first | assumption | exact va_up_self _ _ _ | refine (va_up_ne _ _ (by first | assumption | exact hA.ne (by decide) | exact hA.ne (by omega))).trans ?_)); done)) (by omega) (by omega) (by assumption) (fun hr126 => ?_)
              rw [kx]
              refine z_goto (tgt := 131) C dX9_reckon_127 (by decide) ?_
              refine z_aload_n C dX9_reckon_131 rfl ?_
              refine z_iload C dX9_reckon_132 rfl ?_
              refine z_callV C dX9_reckon_134 lk_X9_179 mw_X9_sumAt mi_X9_sumAt ms_X9_sumAt rfl (by first | assumption | ((repeat (first | assumption | exact va_up_self _ _ _ | refine (va_up_ne _ _ (by first | assumption | exact hA.ne (by decide) | exact hA.ne (by omega))).trans ?_)); done)) (k_X9_sumAt q4 q5 hc7 q6 hK q7 hc (x := x) (by omega)) rfl (by first | decide | exact Nat.le_of_ble_eq_true rfl) ⟨by decide, by decide, by decide, by decide⟩ (fun _ _ h => False.elim h) (fun v M' hp => ?_)
              obtain ⟨rfl, rfl⟩ := hp
              refine z_iload C dX9_reckon_137 rfl ?_
              have hn0 : zxn c0 b0 p0 (zFo b0 p0 - x) ≠ 0 := by omega
              rw [if_neg hn0] at hz
              refine z_callV C dX9_reckon_139 lk_X9_182 mw_X9_factor mi_X9_factor ms_X9_factor rfl (by first | assumption | ((repeat (first | assumption | exact va_up_self _ _ _ | refine (va_up_ne _ _ (by first | assumption | exact hA.ne (by decide) | exact hA.ne (by omega))).trans ?_)); done)) (k_X9_factor hA q4 q8 q9 q10 (t0 := zxg me (c0 (zCs (zFo b0 p0 - x) b0 p0 + s0))) rme (nn := c0 (zCs (zFo b0 p0 - x) b0 p0 + s0)) (by omega) (by omega) (by omega) (by rw [if_neg hcp]) rfl (fac (nn := 0) hn0 (zxg_rng (me := me) (n := c0 (zCs (zFo b0 p0 - x) b0 p0 + s0)) (by omega))).1 (fac (nn := 0) hn0 (zxg_rng (me := me) (n := c0 (zCs (zFo b0 p0 - x) b0 p0 + s0)) (by omega))).2.1) rfl (by first | decide | exact Nat.le_of_ble_eq_true rfl) ⟨by decide, by decide, by decide, by decide⟩ (fun _ _ h => False.elim h) (fun v M' hp => ?_)
              obtain ⟨rfl, a1, F2, a2, a3, a4, a5, a6⟩ := hp
              rw [if_neg hcp, Int.add_zero] at a6
              have hnl := qd.t h111
              rw [if_pos hnl] at hz
              have fc := fac (nn := 0) hn0 (zxg_rng (me := me) (n := c0 (zCs (zFo b0 p0 - x) b0 p0 + s0)) (by omega))
              have hf := mrd_fin (T := T0) (B := B0) q11.1 q12.1 fc.2.2.1.1 (b := zxd me (zxs c0 b0 p0 (zFo b0 p0 - x)) (zxn c0 b0 p0 (zFo b0 p0 - x)))
              rw [hf.1] at a4
              rw [hf.2] at a5
              exact aft _ F2 _ _ _ rd _ a1 a3 a2 a4 a5 a6 fc.2.2.1 fc.2.2.2 (.inr ⟨by omega, hz⟩)
  have clr : ∀ (t : Nat) (M1 : zM) (F1 c7 e1 : Nat → Int) (i : Int), 27 - i = t → 0 ≤ i ∧ i ≤ 27 → (∀ j, zR (c7 j)) → mLk c0 b0 p0 c7 → mF A M M1 [0, 7, 10] → mKp [10, 15, 16, 17] F F1 → F1 10 = zFo b0 p0 + 1 → M1 (A 0) = some (mOb A F1) → M1 (A 7) = some (zar γ 81 c7) → M1 (A 10) = some (zaz γ 27 e1) → F1 15 = 1 → F1 16 = 1 → F1 17 = 0 → (∀ s : Int, 0 ≤ s → s < i → e1 s.toNat = 0) → zAW p l e { frames := 3, cells := 0, slots := 0, locals := 80 } s m args below meth c γ 9 Q M1 0 0 29 [some (.ref (A 0)), some (.int (zi r)), some (.int (zi b0)), some (.int (zi p0)), some (.int (zi s0)), some (.int (zi i)), none, none, none] [] := by
    intro t
    induction t with
    | zero =>
      intro M1 F1 c7 e1 i ht hi hc7 hK q1 q2 q3 q4 q5 q6 q8 q9 q10 he
      obtain rfl : i = 27 := by omega
      have hM1 := q1.at hA (.of rfl) hM
      refine z_iload C dX9_reckon_29 rfl ?_
      refine z_bipush C dX9_reckon_31 (by decide) ?_
      refine z_icmp_geZ (tgt := 50) C dX9_reckon_33 (by decide) (by omega) (by omega) (fun h33 => ?_) (fun h33 => ?_)
      · refine z_aload_n C dX9_reckon_50 rfl ?_
        refine z_get C dX9_reckon_51 fl_X9_7 (by first | assumption | ((repeat (first | assumption | exact va_up_self _ _ _ | refine (va_up_ne _ _ (by first | assumption | exact hA.ne (by decide) | exact hA.ne (by omega))).trans ?_)); done)) rfl ?_
        refine z_iload_n C dX9_reckon_54 rfl ?_
        refine z_callS C dX9_reckon_55 lk_X9_92 mw_X9_atReader mst_X9_atReader k_X9_atReader rfl (by first | decide | exact Nat.le_of_ble_eq_true rfl) ⟨by decide, by decide, by decide, by decide⟩ (fun _ _ h => False.elim h) (fun v M' hp => ?_)
        obtain ⟨rfl, rfl⟩ := hp
        refine z_iconst C dX9_reckon_58 ?_
        refine z_iaddZ C dX9_reckon_59 ?_
        refine z_aldN C dX9_reckon_60 (by first | assumption | ((repeat (first | assumption | exact va_up_self _ _ _ | refine (va_up_ne _ _ (by first | assumption | exact hA.ne (by decide) | exact hA.ne (by omega))).trans ?_)); done)) (by omega) (by omega) (by assumption) (fun hr60 => ?_)
        rw [hme]
        refine z_istore C dX9_reckon_61 (by decide) ?_
        refine z_iconst C dX9_reckon_63 ?_
        refine z_istore C dX9_reckon_64 (by decide) ?_
        refine z_iconst C dX9_reckon_66 ?_
        refine z_istore C dX9_reckon_67 (by decide) ?_
        refine loop (zFo b0 p0 + 1).toNat _ F1 c7 e1 0 1 1 0 none (by omega) (by omega) hc7 hK ⟨q1, q2, q3, q4, q5, q6, fun s s1 s2 => ?_, ?_, ?_, q10, ?_, ?_⟩ (by omega) rfl
        · have := zlv_rng c0 b0 p0 s
          rw [he s s1 s2, if_neg (by omega)]
        · rw [q8]
          rfl
        · rw [q9]
          rfl
        · exact ⟨by decide, by decide⟩
        · exact ⟨by decide, by decide⟩
      · exact absurd h33 (by omega)
    | succ t ih =>
      intro M1 F1 c7 e1 i ht hi hc7 hK q1 q2 q3 q4 q5 q6 q8 q9 q10 he
      refine z_iload C dX9_reckon_29 rfl ?_
      refine z_bipush C dX9_reckon_31 (by decide) ?_
      refine z_icmp_geZ (tgt := 50) C dX9_reckon_33 (by decide) (by omega) (by omega) (fun h33 => ?_) (fun h33 => ?_)
      · exact absurd h33 (by omega)
      · refine z_aload_n C dX9_reckon_36 rfl ?_
        refine z_get C dX9_reckon_37 fl_X9_39 (by first | assumption | ((repeat (first | assumption | exact va_up_self _ _ _ | refine (va_up_ne _ _ (by first | assumption | exact hA.ne (by decide) | exact hA.ne (by omega))).trans ?_)); done)) rfl ?_
        refine z_iload C dX9_reckon_40 rfl ?_
        refine z_iconst C dX9_reckon_42 ?_
        refine z_astZi C dX9_reckon_43 q6 (by omega) (by omega) (by decide) ?_
        refine z_iincZ C dX9_reckon_44 rfl (by decide) ?_
        refine z_goto (tgt := 29) C dX9_reckon_47 (by decide) ?_
        refine ih _ F1 c7 _ (i + 1) (by omega) (by omega) hc7 hK (q1.up rfl) q2 q3 (by rw [va_up_ne _ _ (hA.ne (by decide))]; exact q4) (by rw [va_up_ne _ _ (hA.ne (by decide))]; exact q5) (va_up_self _ _ _) q8 q9 q10 (fun s s1 s2 => ?_)
        unfold va_up
        split
        · rfl
        · exact he s s1 (by omega)
  refine z_aload_n C dX9_reckon_0 rfl ?_
  refine z_aload_n C dX9_reckon_1 rfl ?_
  refine z_get C dX9_reckon_2 fl_X9_7 (by first | assumption | ((repeat (first | assumption | exact va_up_self _ _ _ | refine (va_up_ne _ _ (by first | assumption | exact hA.ne (by decide) | exact hA.ne (by omega))).trans ?_)); done)) rfl ?_
  refine z_iload_n C dX9_reckon_5 rfl ?_
  refine z_iload_n C dX9_reckon_6 rfl ?_
  refine z_iload_n C dX9_reckon_7 rfl ?_
  refine z_callV C dX9_reckon_8 lk_X9_135 mw_X9_look mi_X9_look ms_X9_look rfl (by first | assumption | ((repeat (first | assumption | exact va_up_self _ _ _ | refine (va_up_ne _ _ (by first | assumption | exact hA.ne (by decide) | exact hA.ne (by omega))).trans ?_)); done)) (k_X9_look hA hO0 (kq := 1) (.inl rfl) hM hg hH7 hh7 hr hb hp0 hv hL hG) rfl (by first | decide | exact Nat.le_of_ble_eq_true rfl) ⟨by decide, by decide, by decide, by decide⟩ (fun _ _ h => False.elim h) (fun v M' hp => ?_)
  obtain ⟨rfl, a1, a2, c7, a3, a4, a5⟩ := hp
  have a6 := a1.at hA (.of rfl) hE
  refine z_aload_n C dX9_reckon_11 rfl ?_
  refine z_lconstZ (x := 1) C dX9_reckon_12 rfl ?_
  refine z_putMJ C dX9_reckon_13 fl_X9_152 (by first | assumption | ((repeat (first | assumption | exact va_up_self _ _ _ | refine (va_up_ne _ _ (by first | assumption | exact hA.ne (by decide) | exact hA.ne (by omega))).trans ?_)); done)) rfl ?_
  refine z_aload_n C dX9_reckon_16 rfl ?_
  refine z_lconstZ (x := 1) C dX9_reckon_17 rfl ?_
  refine z_putMJ C dX9_reckon_18 fl_X9_156 (by first | assumption | ((repeat (first | assumption | exact va_up_self _ _ _ | refine (va_up_ne _ _ (by first | assumption | exact hA.ne (by decide) | exact hA.ne (by omega))).trans ?_)); done)) rfl ?_
  refine z_aload_n C dX9_reckon_21 rfl ?_
  refine z_iconst C dX9_reckon_22 ?_
  refine z_putM C dX9_reckon_23 fl_X9_173 (by first | assumption | ((repeat (first | assumption | exact va_up_self _ _ _ | refine (va_up_ne _ _ (by first | assumption | exact hA.ne (by decide) | exact hA.ne (by omega))).trans ?_)); done)) rfl ?_
  refine z_iconst C dX9_reckon_26 ?_
  refine z_istore C dX9_reckon_27 (by decide) ?_
  refine clr 27 _ _ c7 e0 0 (by omega) (by omega) a4 a5 (((a1.mo (K := [0, 7, 10]) rfl).up rfl).up rfl |>.up rfl) ((((mKp.rf.up rfl).up rfl).up rfl).up rfl) ?_ (va_up_self _ _ _) ?_ ?_ ?_ ?_ (va_up_self _ _ _) (fun s s1 s2 => by omega)
  · rw [va_up_ne _ _ (by decide), va_up_ne _ _ (by decide), va_up_ne _ _ (by decide)]
    exact va_up_self _ _ _
  · rw [va_up_ne _ _ (hA.ne (by decide)), va_up_ne _ _ (hA.ne (by decide)), va_up_ne _ _ (hA.ne (by decide))]
    exact a3
  · rw [va_up_ne _ _ (hA.ne (by decide)), va_up_ne _ _ (hA.ne (by decide)), va_up_ne _ _ (hA.ne (by decide))]
    exact a6
  · rw [va_up_ne _ _ (by decide), va_up_ne _ _ (by decide)]
    exact va_up_self _ _ _
  · rw [va_up_ne _ _ (by decide)]
    exact va_up_self _ _ _

