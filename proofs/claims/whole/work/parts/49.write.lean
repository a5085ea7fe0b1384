/-! the face's writing calls -/
/-- the comma before all ranks but the first -/
def zem (p : (Nat → Int) × Int) (i : Nat) : (Nat → Int) × Int := if i = 0 then p else (va_up p.1 p.2.toNat 44, p.2 + 1)
/-- the ranks of the first symbols of a document, as text -/
def zen (c : Int → Int) (X : zDoc) : Nat → (Nat → Int) × Int
  | 0 => (fun _ => 0, 0)
  | i + 1 => (zdg (zem (zen c X i) i).1 (zem (zen c X i) i).2 (zrp c (dSy X) (dLe X) i), (zem (zen c X i) i).2 + zdl (zrp c (dSy X) (dLe X) i))
def zenx (c : Int → Int) (X : zDoc) : (Nat → Int) × Int := zen c X (dLe X).toNat
theorem zdl_rng (x : Int) : 1 ≤ zdl x ∧ zdl x ≤ 2 := by
  unfold zdl
  split <;> omega
theorem va_up_cg {f g : Nat → Int} {n x : Int} (hn : 0 ≤ n) (h : ∀ j : Nat, j < n → f j = g j) : ∀ j : Nat, j < n + 1 → va_up f n.toNat x j = va_up g n.toNat x j := fun j hj => by
  unfold va_up
  split
  · rfl
  · exact h j (by omega)
theorem zdg_cg {f g : Nat → Int} {n x : Int} (hn : 0 ≤ n) (h : ∀ j : Nat, j < n → f j = g j) : ∀ j : Nat, j < n + zdl x → zdg f n x j = zdg g n x j := by
  unfold zdl zdg
  split
  · have h1 := va_up_cg (x := 48 + x / 10) hn h
    have h2 := va_up_cg (x := 48 + x % 10) (by omega) h1
    rw [show n + 1 + 1 = n + 2 by omega] at h2
    exact h2
  · exact va_up_cg hn h
theorem zrrt_cg {f g : Nat → Int} {n : Int} (h : hAt f n = hAt g n) : ∀ (t : Nat) (i z v : Int) (u : Nat → Int), zrrt f n t i z v u = zrrt g n t i z v u
  | 0, _, _, _, _ => rfl
  | t + 1, i, z, v, u => by
    unfold zrrt
    rw [h, zrrt_cg h t, zrrt_cg h t]
theorem zrr_cg {f g : Nat → Int} {n : Int} (h : hAt f n = hAt g n) : zrr f n = zrr g n := zrrt_cg h _ _ _ _ _
theorem zwb_cg {c : Int → Int} {f g : Nat → Int} : ∀ (i : Nat), (∀ j : Nat, j < i → f j = g j) → zwb c f i = zwb c g i
  | 0, _ => rfl
  | i + 1, h => by
    unfold zwb
    rw [zwb_cg i (fun j hj => h j (by omega)), h i (by omega)]
theorem zwo_cg {c : Int → Int} {f g : Nat → Int} {n : Int} (h : ∀ j : Nat, j < n → f j = g j) (j : Nat) (hj : j < n) : zwo c f j = zwo c g j := by
  unfold zwo
  rw [zwb_cg (j + 1) (fun k hk => h k (by omega))]
noncomputable def q_encode (Y : zSys) (rr dd : Int) : Int × Int := zqR (yS Y) rr (zqD (yS Y) dd (0, (zenx (rC (sRd (yS Y) rr.toNat)) (sDc (yS Y) dd.toNat)).2))
noncomputable def y_encode (Y : zSys) (rr dd : Int) : zSys := ySO Y (zenx (rC (sRd (yS Y) rr.toNat)) (sDc (yS Y) dd.toNat)).1 (zenx (rC (sRd (yS Y) rr.toNat)) (sDc (yS Y) dd.toNat)).2
set_option maxHeartbeats 4000000 in
set_option maxRecDepth 100000 in
theorem k_X8_encode {l : Launch} {γ : zG} {M : zM} {U : Nat → Nat} {Y : zSys} {rr dd : Int} (hc : hFc γ M U Y) (hk : yOk Y) (hrr : zR rr) (hdd : zR dd) :
    zCon l γ yX8_encode cX8_encode 6 (some .int) [.ref (U 0), .int (zi rr), .int (zi dd)] M 7 145 2 12 (fI' γ M U (y_encode Y rr dd) (q_encode Y rr dd)) (fX γ M U Y (q_encode Y rr dd) xIOB xIOB) := by
  have hc0 := hc
  obtain ⟨hI, pn, Z, iF, oF, hZ, hF, hX, hi1, ho1⟩ := hc
  have hob := id hF
  unfold hFo at hob
  have hD : hSt γ M (zUb U 0) (yS Y) := hZ.2.1 ▸ hX.st0
  have hst := hD.ob
  have hkn := hk.1.1
  have hkk := hk.1.nk
  have hRQ := hX.2.2.2.2.2.2.1
  have hok := fun M' => @fOk.rk γ M M' U Y pn Z iF oF hI hZ hF hX hi1 ho1
  have hop := hX.2.2.2.2.1
  have hop1 := hop.1.1
  have hopr := hop.2.1
  have un := fun (a : Nat) (L : List Nat) (h1 : a < 532) (h2 : ∀ i ∈ L, i < 532) (h3 : a ∉ L) => zUn hI (a := a) (L := L) h1 h2 h3
  have k0 : U 0 ∉ [U 6, U 7, U 11, U 12, U 13] := un 0 [6, 7, 11, 12, 13] (by decide) (by decide) (by decide)
  refine zEnter [some (.ref (U 0)), some (.int (zi rr)), some (.int (zi dd)), none, none, none] (by decide +kernel) rfl rfl (Nat.le_of_ble_eq_true rfl) ?_
  intro p e s m args below meth c Q C hin hQ
  have loop : ∀ (g1 : 0 ≤ rr ∧ rr < sRn (yS Y)) (g8 : 0 ≤ dd ∧ dd < sDn (yS Y)) (t : Nat) (M1 : zM) (i n1 : Int) (f1 : Nat → Int), dLe (sDc (yS Y) dd.toNat) - i = t → 0 ≤ i ∧ i ≤ dLe (sDc (yS Y) dd.toNat) → zFr M M1 [U 6, U 7, U 11, U 12, U 13] → hRq γ M1 (U 11) (U 12) (U 13) → hBy γ M1 (U 6) (U 7) f1 n1 → hBo f1 n1 → n1 ≤ 3 * i → n1 = (zen (rC (sRd (yS Y) rr.toNat)) (sDc (yS Y) dd.toNat) i.toNat).2 → (∀ j : Nat, j < n1 → f1 j = (zen (rC (sRd (yS Y) rr.toNat)) (sDc (yS Y) dd.toNat) i.toNat).1 j) → zAW p l e { frames := 7, cells := 2, slots := 12, locals := 145 } s m args below meth c γ 6 Q M1 2 12 23 [some (.ref (U 0)), some (.int (zi rr)), some (.int (zi dd)), some (.ref (zUb U 0 (3 + 6 * rr.toNat))), some (.ref (zUb U 0 (27 + 2 * dd.toNat))), some (.int (zi i))] [] := by
    intro g1 g8
    have hro := hD.rdo (i := rr.toNat) (by omega) (by omega)
    have hR := hD.rd (i := rr.toNat) (by omega) (by omega)
    have hrk := (hk.1.2.2 rr.toNat (by omega)).1
    obtain ⟨sy, hX8, hXk8, hXv8⟩ := hD.dk (d := dd.toNat) (by omega) (by omega)
    have hdl := hXk8.1
    have obd8 := hX8.1
    have nro : zUb U 0 (3 + 6 * rr.toNat) ∉ [U 6, U 7, U 11, U 12, U 13] := un (16 + 43 * 0 + (3 + 6 * rr.toNat)) [6, 7, 11, 12, 13] (by omega) (by decide) (by simp; omega)
    have nr2 : dRa (zUb U 0) rr.toNat 2 ∉ [U 6, U 7, U 11, U 12, U 13] := un (16 + 43 * 0 + (3 + 6 * rr.toNat + 2)) [6, 7, 11, 12, 13] (by omega) (by decide) (by simp; omega)
    have nr3 : dRa (zUb U 0) rr.toNat 3 ∉ [U 6, U 7, U 11, U 12, U 13] := un (16 + 43 * 0 + (3 + 6 * rr.toNat + 3)) [6, 7, 11, 12, 13] (by omega) (by decide) (by simp; omega)
    have nr4 : dRa (zUb U 0) rr.toNat 4 ∉ [U 6, U 7, U 11, U 12, U 13] := un (16 + 43 * 0 + (3 + 6 * rr.toNat + 4)) [6, 7, 11, 12, 13] (by omega) (by decide) (by simp; omega)
    have nd1 : zUb U 0 (27 + 2 * dd.toNat) ∉ [U 6, U 7, U 11, U 12, U 13] := un (16 + 43 * 0 + (27 + 2 * dd.toNat)) [6, 7, 11, 12, 13] (by omega) (by decide) (by simp; omega)
    have nd2 : zUb U 0 (28 + 2 * dd.toNat) ∉ [U 6, U 7, U 11, U 12, U 13] := un (16 + 43 * 0 + (28 + 2 * dd.toNat)) [6, 7, 11, 12, 13] (by omega) (by decide) (by simp; omega)
    have s1 : ∀ b, b ∈ [U 11, U 12, U 13] → b ∈ [U 6, U 7, U 11, U 12, U 13] := fun b hb => List.mem_cons_of_mem _ (List.mem_cons_of_mem _ hb)
    have s2 : ∀ b, b ∈ [U 6, U 7] → b ∈ [U 6, U 7, U 11, U 12, U 13] := fun b hb => by
      simp only [List.mem_cons, List.not_mem_nil, or_false] at hb ⊢
      rcases hb with h | h <;> simp [h]
    have e6 : U 6 ∉ [U 11, U 12, U 13] := un 6 [11, 12, 13] (by decide) (by decide) (by decide)
    have e7 : U 7 ∉ [U 11, U 12, U 13] := un 7 [11, 12, 13] (by decide) (by decide) (by decide)
    have d11 : U 11 ∉ [U 6, U 7] := un 11 [6, 7] (by decide) (by decide) (by decide)
    have d12 : U 12 ∉ [U 6, U 7] := un 12 [6, 7] (by decide) (by decide) (by decide)
    have d13 : U 13 ∉ [U 6, U 7] := un 13 [6, 7] (by decide) (by decide) (by decide)
    have eX : hAt sy (dLe (sDc (yS Y) dd.toNat)) = hAt (dSy (sDc (yS Y) dd.toNat)) (dLe (sDc (yS Y) dd.toNat)) := hAt_cgf hXv8
    intro t
    induction t with
    | zero =>
      intro M1 i n1 f1 ht hi hf hQ1 hB1 hO1 h3 hn he
      obtain rfl : i = dLe (sDc (yS Y) dd.toNat) := by omega
      have hF1 := hF.fr hf k0
      have ob1 := id hF1
      unfold hFo at ob1
      have hY8 := hX8.fr hf nd1 nd2
      have oy8 := hY8.1
      have obb := hB1.1
      refine z_iload C dX8_encode_23 rfl ?_
      refine z_aload C dX8_encode_25 rfl ?_
      refine z_get C dX8_encode_27 fl_X8_174 (by first | assumption | ((repeat (first | assumption | exact va_up_self _ _ _ | refine (va_up_ne _ _ (by assumption)).trans ?_)); done) | (simp [va_up, *] <;> rfl)) rfl ?_
      refine z_icmp_geZ (tgt := 72) C dX8_encode_30 (by decide) (by omega) (by omega) (fun h30 => ?_) (fun h30 => ?_)
      · refine z_aload_n C dX8_encode_72 rfl ?_
        refine z_get C dX8_encode_73 fl_X8_48 (by first | assumption | ((repeat (first | assumption | exact va_up_self _ _ _ | refine (va_up_ne _ _ (by assumption)).trans ?_)); done) | (simp [va_up, *] <;> rfl)) rfl ?_
        refine z_get C dX8_encode_76 fl_X8_107 (by first | assumption | ((repeat (first | assumption | exact va_up_self _ _ _ | refine (va_up_ne _ _ (by assumption)).trans ?_)); done) | (simp [va_up, *] <;> rfl)) rfl ?_
        refine z_iret C hQ dX8_encode_79 rfl (by decide) (by decide) ?_
        subst hn
        exact fI'.of (.ou hI hZ hF hX hi1 hf hQ1 hB1 hO1 he) ((zqR_t g1).trans (zqD_t g8))
      · exact absurd h30 (by omega)
    | succ t ih =>
      intro M1 i n1 f1 ht hi hf hQ1 hB1 hO1 h3 hn he
      have hF1 := hF.fr hf k0
      have ob1 := id hF1
      unfold hFo at ob1
      have hY8 := hX8.fr hf nd1 nd2
      have oy8 := hY8.1
      have obb := hB1.1
      have hn1 := hO1.1
      have e1 : zen (rC (sRd (yS Y) rr.toNat)) (sDc (yS Y) dd.toNat) (i + 1).toNat = (zdg (zem (zen (rC (sRd (yS Y) rr.toNat)) (sDc (yS Y) dd.toNat) i.toNat) i.toNat).1 (zem (zen (rC (sRd (yS Y) rr.toNat)) (sDc (yS Y) dd.toNat) i.toNat) i.toNat).2 (zrp (rC (sRd (yS Y) rr.toNat)) (dSy (sDc (yS Y) dd.toNat)) (dLe (sDc (yS Y) dd.toNat)) i), (zem (zen (rC (sRd (yS Y) rr.toNat)) (sDc (yS Y) dd.toNat) i.toNat) i.toNat).2 + zdl (zrp (rC (sRd (yS Y) rr.toNat)) (dSy (sDc (yS Y) dd.toNat)) (dLe (sDc (yS Y) dd.toNat)) i)) := by
        rw [show (i + 1).toNat = i.toNat + 1 by omega, zen, show ((i.toNat : Nat) : Int) = i by omega]
      have mid : ∀ (M2 : zM) (f2 : Nat → Int) (n2 : Int), zFr M M2 [U 6, U 7, U 11, U 12, U 13] → hRq γ M2 (U 11) (U 12) (U 13) → hBy γ M2 (U 6) (U 7) f2 n2 → hBo f2 n2 → n2 ≤ 3 * i + 1 → n2 = (zem (zen (rC (sRd (yS Y) rr.toNat)) (sDc (yS Y) dd.toNat) i.toNat) i.toNat).2 → (∀ j : Nat, j < n2 → f2 j = (zem (zen (rC (sRd (yS Y) rr.toNat)) (sDc (yS Y) dd.toNat) i.toNat) i.toNat).1 j) → zAW p l e { frames := 7, cells := 2, slots := 12, locals := 145 } s m args below meth c γ 6 Q M2 2 12 47 [some (.ref (U 0)), some (.int (zi rr)), some (.int (zi dd)), some (.ref (zUb U 0 (3 + 6 * rr.toNat))), some (.ref (zUb U 0 (27 + 2 * dd.toNat))), some (.int (zi i))] [] := by
        intro M2 f2 n2 hf2 hQ2 hB2 hO2 h32 hn2 he2
        have hF2 := hF.fr hf2 k0
        have ob2 := id hF2
        unfold hFo at ob2
        have hro2 := hf2.at nro hro
        have hC2 := hR.2.2.1.fr hf2 nr2 nr3 nr4
        have hn2' := hO2.1
        refine z_aload_n C dX8_encode_47 rfl ?_
        refine z_get C dX8_encode_48 fl_X8_48 (by first | assumption | ((repeat (first | assumption | exact va_up_self _ _ _ | refine (va_up_ne _ _ (by assumption)).trans ?_)); done) | (simp [va_up, *] <;> rfl)) rfl ?_
        refine z_aload_n C dX8_encode_51 rfl ?_
        refine z_aload_n C dX8_encode_52 rfl ?_
        refine z_get C dX8_encode_53 fl_X8_188 (by first | assumption | ((repeat (first | assumption | exact va_up_self _ _ _ | refine (va_up_ne _ _ (by assumption)).trans ?_)); done) | (simp [va_up, *] <;> rfl)) rfl ?_
        refine z_aload C dX8_encode_56 rfl ?_
        refine z_iload C dX8_encode_58 rfl ?_
        refine z_callV C dX8_encode_60 lk_X8_253 mw_X8_rankOfPosition mi_X8_rankOfPosition ms_X8_rankOfPosition rfl (by first | assumption | ((repeat (first | assumption | exact va_up_self _ _ _ | refine (va_up_ne _ _ (by assumption)).trans ?_)); done) | (simp [va_up, *] <;> rfl)) (k_X8_rankOfPosition hF2 hQ2 hC2 (hX8.fr hf2 nd1 nd2) hXk8 (pos := i) (by omega)) rfl (by first | decide | exact Nat.le_of_ble_eq_true rfl) ⟨by decide, by decide, by decide, by decide⟩ (fun _ _ h => False.elim h) (fun v M' hp => ?_)
        obtain ⟨r60, rfl, f60, hQ60, hr60, hz60⟩ := hp
        have hB60 := hB2.fr f60 e6 e7
        have ob60 := hB60.1
        rw [zrp_cg hXv8] at hr60
        refine z_callV C dX8_encode_63 lk_X8_332 mw_X0_appendNumber mi_X0_appendNumber ms_X0_appendNumber rfl (by first | assumption | ((repeat (first | assumption | exact va_up_self _ _ _ | refine (va_up_ne _ _ (by assumption)).trans ?_)); done) | (simp [va_up, *] <;> rfl)) (k_X0_appendNumber hB60 hO2 (by omega) (x := r60) (by omega)) rfl (by first | decide | exact Nat.le_of_ble_eq_true rfl) ⟨by decide, by decide, by decide, by decide⟩ (fun _ _ h => False.elim h) (fun v M' hp => ?_)
        obtain ⟨rfl, f63, hB63⟩ := hp
        refine z_iincZ C dX8_encode_66 rfl (by decide) ?_
        refine z_goto (tgt := 23) C dX8_encode_69 (by decide) ?_
        have hO63 := zdg_ok (x := r60) hO2 (by omega) (by omega)
        have z63 := zdl_rng r60
        refine ih _ (i + 1) _ _ (by omega) (by omega) ((hf2.tr f60 (fun _ h => h) s1).tr f63 (fun _ h => h) s2) (hQ60.fr f63 d11 d12 d13) hB63 hO63 (by omega) ?_ ?_
        · rw [e1, ← hr60, hn2]
        · rw [e1, ← hr60, ← hn2]
          exact zdg_cg hn2'.1 he2
      refine z_iload C dX8_encode_23 rfl ?_
      refine z_aload C dX8_encode_25 rfl ?_
      refine z_get C dX8_encode_27 fl_X8_174 (by first | assumption | ((repeat (first | assumption | exact va_up_self _ _ _ | refine (va_up_ne _ _ (by assumption)).trans ?_)); done) | (simp [va_up, *] <;> rfl)) rfl ?_
      refine z_icmp_geZ (tgt := 72) C dX8_encode_30 (by decide) (by omega) (by omega) (fun h30 => ?_) (fun h30 => ?_)
      · exact absurd h30 (by omega)
      · refine z_iload C dX8_encode_33 rfl ?_
        refine z_if_leZ (tgt := 47) C dX8_encode_35 (by decide) (by omega) (fun h35 => ?_) (fun h35 => ?_)
        · exact mid _ _ _ hf hQ1 hB1 hO1 (by omega) (by rw [zem, if_pos (by omega)]; exact hn) (fun j hj => by rw [zem, if_pos (by omega)]; exact he j hj)
        · refine z_aload_n C dX8_encode_38 rfl ?_
          refine z_get C dX8_encode_39 fl_X8_48 (by first | assumption | ((repeat (first | assumption | exact va_up_self _ _ _ | refine (va_up_ne _ _ (by assumption)).trans ?_)); done) | (simp [va_up, *] <;> rfl)) rfl ?_
          refine z_bipush C dX8_encode_42 (by decide) ?_
          refine z_callV C dX8_encode_44 lk_X8_94 mw_X0_append mi_X0_append ms_X0_append rfl (by first | assumption | ((repeat (first | assumption | exact va_up_self _ _ _ | refine (va_up_ne _ _ (by assumption)).trans ?_)); done) | (simp [va_up, *] <;> rfl)) (k_X0_append hB1 hO1 (x := 44) (by omega)) rfl (by first | decide | exact Nat.le_of_ble_eq_true rfl) ⟨by decide, by decide, by decide, by decide⟩ (fun _ _ h => False.elim h) (fun v M' hp => ?_)
          obtain ⟨rfl, f44, hq44⟩ := hp
          obtain ⟨-, hB44, hO44⟩ := hq44.resolve_right (fun w => by omega)
          refine mid _ _ _ (hf.tr f44 (fun _ h => h) s2) (hQ1.fr f44 d11 d12 d13) hB44 hO44 (by omega) ?_ ?_
          · rw [zem, if_neg (by omega), hn]
          · rw [zem, if_neg (by omega), ← hn]
            exact va_up_cg hn1.1 he
  refine z_aload_n C dX8_encode_0 rfl ?_
  refine z_iload_n C dX8_encode_1 rfl ?_
  refine z_callV C dX8_encode_2 lk_X8_149 mw_X8_existingReader mi_X8_existingReader ms_X8_existingReader rfl (by first | assumption | ((repeat (first | assumption | exact va_up_self _ _ _ | refine (va_up_ne _ _ (by assumption)).trans ?_)); done) | (simp [va_up, *] <;> rfl)) (k_X8_existingReader hF hD hkk hrr) rfl (by first | decide | exact Nat.le_of_ble_eq_true rfl) ⟨by decide, by decide, by decide, by decide⟩ (fun X M' h => by obtain ⟨rfl, rfl, h⟩ := h; exact z_out C hQ (by decide) (by decide) (fX.o1 (.rf hc0) (zqR_f h))) (fun v M' hp => ?_)
  obtain ⟨rfl, g2, rfl⟩ := hp
  have hro := hD.rdo (i := rr.toNat) (by omega) (by omega)
  have hR := hD.rd (i := rr.toNat) (by omega) (by omega)
  obtain ⟨cn, hco, hcz, hcr⟩ := hD.rdc (i := rr.toNat) (by omega) (by omega)
  have hrk := (hk.1.2.2 rr.toNat (by omega)).1
  refine z_astore_n C dX8_encode_5 (by decide) ?_
  refine z_aload_n C dX8_encode_6 rfl ?_
  refine z_iload_n C dX8_encode_7 rfl ?_
  refine z_callV C dX8_encode_8 lk_X8_170 mw_X8_existingDocument mi_X8_existingDocument ms_X8_existingDocument rfl (by first | assumption | ((repeat (first | assumption | exact va_up_self _ _ _ | refine (va_up_ne _ _ (by assumption)).trans ?_)); done) | (simp [va_up, *] <;> rfl)) (k_X8_existingDocument hF hD hkk hdd) rfl (by first | decide | exact Nat.le_of_ble_eq_true rfl) ⟨by decide, by decide, by decide, by decide⟩ (fun X M' h => by obtain ⟨rfl, rfl, h⟩ := h; exact z_out C hQ (by decide) (by decide) (fX.o1 (.rf hc0) ((zqR_t g2).trans (zqD_f h)))) (fun v M' hp => ?_)
  obtain ⟨rfl, g8, rfl⟩ := hp
  obtain ⟨sy, hX8, hXk8, hXv8⟩ := hD.dk (d := dd.toNat) (by omega) (by omega)
  have obd8 := hX8.1
  refine z_astore C dX8_encode_11 (by decide) ?_
  refine z_aload_n C dX8_encode_13 rfl ?_
  refine z_get C dX8_encode_14 fl_X8_48 (by first | assumption | ((repeat (first | assumption | exact va_up_self _ _ _ | refine (va_up_ne _ _ (by assumption)).trans ?_)); done) | (simp [va_up, *] <;> rfl)) rfl ?_
  refine z_callV C dX8_encode_17 lk_X8_127 mw_X0_clear mi_X0_clear ms_X0_clear rfl (by first | assumption | ((repeat (first | assumption | exact va_up_self _ _ _ | refine (va_up_ne _ _ (by assumption)).trans ?_)); done) | (simp [va_up, *] <;> rfl)) (k_X0_clear hop.1) rfl (by first | decide | exact Nat.le_of_ble_eq_true rfl) ⟨by decide, by decide, by decide, by decide⟩ (fun _ _ h => False.elim h) (fun v M' hp => ?_)
  obtain ⟨rfl, hB17, f17⟩ := hp
  refine z_iconst C dX8_encode_20 ?_
  refine z_istore C dX8_encode_21 (by decide) ?_
  have d4 : ∀ a, a < 532 → a ≠ 6 → U a ∉ [U 6] := fun a h1 h2 => un a [6] h1 (by decide) (by simp [h2])
  exact loop g2 g8 (dLe (sDc (yS Y) dd.toNat)).toNat _ 0 0 oF (by have := hXk8.1; omega) (by have := hXk8.1; omega) (f17.tr zFr.rf (fun b hb => by rw [List.mem_singleton.mp hb]; simp) (fun _ h => h)) (hRQ.fr f17 (d4 11 (by decide) (by decide)) (d4 12 (by decide) (by decide)) (d4 13 (by decide) (by decide))) hB17 ⟨by omega, hop.2.2.1, fun j hj => by omega⟩ (by omega) rfl (fun j hj => by omega)
noncomputable def q_decode (Y : zSys) (rr : Int) : Int × Int := zqR (yS Y) rr (zq2 ((zrr (yIf Y) (yIn Y)).1 ≠ 0) (0, (zrr (yIf Y) (yIn Y)).1))
noncomputable def y_decode (Y : zSys) (rr : Int) : zSys := ySO (ySI Y (yIf Y) 0) (zwo (rC (sRd (yS Y) rr.toNat)) (zrr (yIf Y) (yIn Y)).2) (zrr (yIf Y) (yIn Y)).1
set_option maxHeartbeats 4000000 in
set_option maxRecDepth 100000 in
theorem k_X8_decode {l : Launch} {γ : zG} {M : zM} {U : Nat → Nat} {Y : zSys} {rr : Int} (hc : hFc γ M U Y) (hk : yOk Y) (hrr : zR rr) :
    zCon l γ yX8_decode cX8_decode 4 (some .int) [.ref (U 0), .int (zi rr)] M 7 145 2 12 (fI' γ M U (y_decode Y rr) (q_decode Y rr)) (fX γ M U Y (q_decode Y rr) xIOB xIAE) := by
  have hc0 := hc
  obtain ⟨hI, pn, Z, iF, oF, hZ, hF, hX, hi1, ho1⟩ := hc
  have hob := id hF
  unfold hFo at hob
  have hD : hSt γ M (zUb U 0) (yS Y) := hZ.2.1 ▸ hX.st0
  have hst := hD.ob
  have hkn := hk.1.1
  have hkk := hk.1.nk
  have hRQ := hX.2.2.2.2.2.2.1
  have hok := fun M' => @fOk.rk γ M M' U Y pn Z iF oF hI hZ hF hX hi1 ho1
  have hip := hX.2.2.2.1
  have hip1 := hip.1.1
  have hipr := hip.2.1
  have n45 : U 0 ∉ [U 4, U 5] := zUn hI (L := [4, 5]) (by decide) (by decide) (by decide)
  have eAt := hAt_cgf hi1
  have n515 : U 5 ≠ U 15 := fun w => by
    have := hI 5 15 (by decide) (by decide) w
    omega
  obtain ⟨dg, hdG, hdg⟩ := hX.2.2.2.2.2.2.2.2.1
  have hop := hX.2.2.2.2.1
  have hop1 := hop.1.1
  have hopr := hop.2.1
  have un := fun (a : Nat) (L : List Nat) (h1 : a < 532) (h2 : ∀ i ∈ L, i < 532) (h3 : a ∉ L) => zUn hI (a := a) (L := L) h1 h2 h3
  have k0 : U 0 ∉ [U 6, U 7, U 11, U 12, U 13] := un 0 [6, 7, 11, 12, 13] (by decide) (by decide) (by decide)
  refine zEnter [some (.ref (U 0)), some (.int (zi rr)), none, none] (by decide +kernel) rfl rfl (Nat.le_of_ble_eq_true rfl) ?_
  intro p e s m args below meth c Q C hin hQ
  refine z_aload_n C dX8_decode_0 rfl ?_
  refine z_iload_n C dX8_decode_1 rfl ?_
  refine z_callV C dX8_decode_2 lk_X8_149 mw_X8_existingReader mi_X8_existingReader ms_X8_existingReader rfl (by first | assumption | ((repeat (first | assumption | exact va_up_self _ _ _ | refine (va_up_ne _ _ (by assumption)).trans ?_)); done) | (simp [va_up, *] <;> rfl)) (k_X8_existingReader hF hD hkk hrr) rfl (by first | decide | exact Nat.le_of_ble_eq_true rfl) ⟨by decide, by decide, by decide, by decide⟩ (fun X M' h => by obtain ⟨rfl, rfl, h⟩ := h; exact z_out C hQ (by decide) (by decide) (fX.o1 (.rf hc0) (zqR_f h))) (fun v M' hp => ?_)
  obtain ⟨rfl, g2, rfl⟩ := hp
  have hro := hD.rdo (i := rr.toNat) (by omega) (by omega)
  have hR := hD.rd (i := rr.toNat) (by omega) (by omega)
  obtain ⟨cn, hco, hcz, hcr⟩ := hD.rdc (i := rr.toNat) (by omega) (by omega)
  have hrk := (hk.1.2.2 rr.toNat (by omega)).1
  refine z_astore_n C dX8_decode_5 (by decide) ?_
  refine z_aload_n C dX8_decode_6 rfl ?_
  refine z_callV C dX8_decode_7 lk_X8_335 mw_X8_readRanks mi_X8_readRanks ms_X8_readRanks rfl (by first | assumption | ((repeat (first | assumption | exact va_up_self _ _ _ | refine (va_up_ne _ _ (by assumption)).trans ?_)); done) | (simp [va_up, *] <;> rfl)) (k_X8_readRanks hF hip.1 hip.2 hdG hdg n515) rfl (by first | decide | exact Nat.le_of_ble_eq_true rfl) ⟨by decide, by decide, by decide, by decide⟩ (fun _ _ h => False.elim h) (fun v M' hp => ?_)
  obtain ⟨r7, rfl, f7, hr7, hz7, u7, hG7, hg7, hh7⟩ := hp
  rw [zrr_cg eAt] at hr7 hh7
  have hok7 := fOk.dr hI hZ hF hX hi1 ho1 f7 hG7 hg7
  obtain ⟨-, -, pn7, Z7, iF7, oF7, hZ7, hF7, hX7, hi7, ho7⟩ := id hok7
  have ob7 := id hF7
  unfold hFo at ob7
  have hip7 := hX7.2.2.2.1
  have oi7 := hip7.1.1
  have hop7 := hX7.2.2.2.2.1
  have hQ7 := hX7.2.2.2.2.2.2.1
  have hD7 : hSt γ _ (zUb U 0) (yS Y) := hZ7.2.1 ▸ hX7.st0
  have hRo7 := hD7.rdo (i := rr.toNat) (by omega) (by omega)
  have hR7 := hD7.rd (i := rr.toNat) (by omega) (by omega)
  refine z_istore_n C dX8_decode_10 (by decide) ?_
  refine z_iload_n C dX8_decode_11 rfl ?_
  refine z_if_neZ (tgt := 26) C dX8_decode_12 (by decide) (by omega) (fun h12 => ?_) (fun h12 => ?_)
  · refine z_aload_n C dX8_decode_26 rfl ?_
    refine z_get C dX8_decode_27 fl_X8_44 (by first | assumption | ((repeat (first | assumption | exact va_up_self _ _ _ | refine (va_up_ne _ _ (by assumption)).trans ?_)); done) | (simp [va_up, *] <;> rfl)) rfl ?_
    refine z_callV C dX8_decode_30 lk_X8_127 mw_X0_clear mi_X0_clear ms_X0_clear rfl oi7 (k_X0_clear hip7.1) rfl (by first | decide | exact Nat.le_of_ble_eq_true rfl) ⟨by decide, by decide, by decide, by decide⟩ (fun _ _ h => False.elim h) (fun v M' hp => ?_)
    obtain ⟨rfl, hB30, f30⟩ := hp
    have hok30 := fOk.inp (g := yIf Y) hI hZ7 hF7 hX7 ho7 (f30.tr zFr.rf (fun b hb => by rw [List.mem_singleton.mp hb]; simp) (fun _ h => h)) hB30 ⟨by omega, hip7.2.2.1, fun j hj => by omega⟩ (fun j hj => by omega)
    obtain ⟨-, -, pn30, Z30, iF30, oF30, hZ30, hF30, hX30, hi30, ho30⟩ := id hok30
    have ob30 := id hF30
    unfold hFo at ob30
    have hip30 := hX30.2.2.2.1
    have oi30 := hip30.1.1
    have hop30 := hX30.2.2.2.2.1
    have hQ30 := hX30.2.2.2.2.2.2.1
    have hD30 : hSt γ _ (zUb U 0) (yS Y) := hZ30.2.1 ▸ hX30.st0
    have hRo30 := hD30.rdo (i := rr.toNat) (by omega) (by omega)
    have hR30 := hD30.rd (i := rr.toNat) (by omega) (by omega)
    have hG30 := f30.at (un 15 [4] (by decide) (by decide) (by decide)) hG7
    refine z_aload_n C dX8_decode_33 rfl ?_
    refine z_aload_n C dX8_decode_34 rfl ?_
    refine z_get C dX8_decode_35 fl_X8_188 (by first | assumption | ((repeat (first | assumption | exact va_up_self _ _ _ | refine (va_up_ne _ _ (by assumption)).trans ?_)); done) | (simp [va_up, *] <;> rfl)) rfl ?_
    refine z_aload_n C dX8_decode_38 rfl ?_
    refine z_get C dX8_decode_39 fl_X8_78 (by first | assumption | ((repeat (first | assumption | exact va_up_self _ _ _ | refine (va_up_ne _ _ (by assumption)).trans ?_)); done) | (simp [va_up, *] <;> rfl)) rfl ?_
    refine z_iload_n C dX8_decode_42 rfl ?_
    refine z_callV C dX8_decode_43 lk_X8_340 mw_X8_writeSymbols mi_X8_writeSymbols ms_X8_writeSymbols rfl (by first | assumption | ((repeat (first | assumption | exact va_up_self _ _ _ | refine (va_up_ne _ _ (by assumption)).trans ?_)); done) | (simp [va_up, *] <;> rfl)) (k_X8_writeSymbols hI hF30 hop30.1 hop30.2 hQ30 hR30.2.2.1 hG30 hg7 hz7 (fun j hj => ⟨(hh7 j hj).2.1, (hh7 j hj).2.2⟩) ⟨un (16 + 43 * 0 + (3 + 6 * rr.toNat + 2)) [6, 7] (by omega) (by decide) (by simp; omega), un (16 + 43 * 0 + (3 + 6 * rr.toNat + 3)) [6, 7] (by omega) (by decide) (by simp; omega), un (16 + 43 * 0 + (3 + 6 * rr.toNat + 4)) [6, 7] (by omega) (by decide) (by simp; omega)⟩) rfl (by first | decide | exact Nat.le_of_ble_eq_true rfl) ⟨by decide, by decide, by decide, by decide⟩ (fun _ _ h => False.elim h) (fun v M' hp => ?_)
    obtain ⟨rfl, f43, hQ43, of43, hB43, hO43, hv43⟩ := hp
    have ob43 := hF30.fr f43 k0
    unfold hFo at ob43
    have oo43 := hB43.1
    refine z_aload_n C dX8_decode_46 rfl ?_
    refine z_get C dX8_decode_47 fl_X8_48 (by first | assumption | ((repeat (first | assumption | exact va_up_self _ _ _ | refine (va_up_ne _ _ (by assumption)).trans ?_)); done) | (simp [va_up, *] <;> rfl)) rfl ?_
    refine z_get C dX8_decode_50 fl_X8_107 (by first | assumption | ((repeat (first | assumption | exact va_up_self _ _ _ | refine (va_up_ne _ _ (by assumption)).trans ?_)); done) | (simp [va_up, *] <;> rfl)) rfl ?_
    refine z_iret C hQ dX8_decode_53 rfl (by decide) (by decide) ?_
    subst hr7
    exact fI'.of ((hok7.tr hok30).tr (.ou hI hZ30 hF30 hX30 hi30 f43 hQ43 hB43 hO43 (fun j hj => (hv43 j hj).trans (zwo_cg (fun k hk => (hh7 k hk).1) j hj)))) ((zqR_t g2).trans (zq2_t h12))
  · refine z_throwW C hQ xt_IAE (si := 25) rfl dX8_decode_15 dX8_decode_18 dX8_decode_19 dX8_decode_22 dX8_decode_25 ⟨by decide, by decide, by decide, by decide⟩ (by decide) (by decide) ?_
    exact fX.o2 hok7 ((zqR_t g2).trans (zq2_f fun w => w (by omega)))
noncomputable def q_writeExpected (Y : zSys) (rr ll : Int) : Int × Int := zqR (yS Y) rr (zq2 (1 ≤ ll ∧ ll ≤ 40) (0, ll))
noncomputable def y_writeExpected (Y : zSys) (rr ll : Int) : zSys := ySO Y (zwo (rC (sRd (yS Y) rr.toNat)) (fun _ => 1)) ll
set_option maxHeartbeats 4000000 in
set_option maxRecDepth 100000 in
theorem k_X8_writeExpected {l : Launch} {γ : zG} {M : zM} {U : Nat → Nat} {Y : zSys} {rr ll : Int} (hc : hFc γ M U Y) (hk : yOk Y) (hrr : zR rr) (hll : zR ll) :
    zCon l γ yX8_writeExpected cX8_writeExpected 5 (some .int) [.ref (U 0), .int (zi rr), .int (zi ll)] M 7 145 2 12 (fI' γ M U (y_writeExpected Y rr ll) (q_writeExpected Y rr ll)) (fX γ M U Y (q_writeExpected Y rr ll) xIOB xIAE) := by
  have hc0 := hc
  obtain ⟨hI, pn, Z, iF, oF, hZ, hF, hX, hi1, ho1⟩ := hc
  have hob := id hF
  unfold hFo at hob
  have hD : hSt γ M (zUb U 0) (yS Y) := hZ.2.1 ▸ hX.st0
  have hst := hD.ob
  have hkn := hk.1.1
  have hkk := hk.1.nk
  have hRQ := hX.2.2.2.2.2.2.1
  have hok := fun M' => @fOk.rk γ M M' U Y pn Z iF oF hI hZ hF hX hi1 ho1
  unfold zR at hll
  obtain ⟨dg, hdG, hdg⟩ := hX.2.2.2.2.2.2.2.2.1
  have hop := hX.2.2.2.2.1
  have hop1 := hop.1.1
  have hopr := hop.2.1
  have un := fun (a : Nat) (L : List Nat) (h1 : a < 532) (h2 : ∀ i ∈ L, i < 532) (h3 : a ∉ L) => zUn hI (a := a) (L := L) h1 h2 h3
  have k0 : U 0 ∉ [U 6, U 7, U 11, U 12, U 13] := un 0 [6, 7, 11, 12, 13] (by decide) (by decide) (by decide)
  refine zEnter [some (.ref (U 0)), some (.int (zi rr)), some (.int (zi ll)), none, none] (by decide +kernel) rfl rfl (Nat.le_of_ble_eq_true rfl) ?_
  intro p e s m args below meth c Q C hin hQ
  have loop : ∀ (g1 : 0 ≤ rr ∧ rr < sRn (yS Y)) (gl : 1 ≤ ll ∧ ll ≤ 40) (t : Nat) (M1 : zM) (i : Int) (u1 : Nat → Int), 40 - i = t → 0 ≤ i ∧ i ≤ 40 → zFr M M1 [U 15] → M1 (U 15) = some (zar γ 40 u1) → (∀ j, zR (u1 j)) → (∀ j : Nat, j < i → u1 j = 1) → zAW p l e { frames := 7, cells := 2, slots := 12, locals := 145 } s m args below meth c γ 5 Q M1 1 6 30 [some (.ref (U 0)), some (.int (zi rr)), some (.int (zi ll)), some (.ref (zUb U 0 (3 + 6 * rr.toNat))), some (.int (zi i))] [] := by
    intro g2 gl t
    induction t with
    | zero =>
      intro M1 i u1 ht hi f7 hG7 hg7 hh7
      obtain rfl : i = 40 := by omega
      have hok7 := fOk.dr hI hZ hF hX hi1 ho1 f7 hG7 hg7
      obtain ⟨-, -, pn7, Z7, iF7, oF7, hZ7, hF7, hX7, hi7, ho7⟩ := id hok7
      have ob7 := id hF7
      unfold hFo at ob7
      have hip7 := hX7.2.2.2.1
      have oi7 := hip7.1.1
      have hop7 := hX7.2.2.2.2.1
      have hQ7 := hX7.2.2.2.2.2.2.1
      have hD7 : hSt γ _ (zUb U 0) (yS Y) := hZ7.2.1 ▸ hX7.st0
      have hRo7 := hD7.rdo (i := rr.toNat) (by omega) (by omega)
      have hR7 := hD7.rd (i := rr.toNat) (by omega) (by omega)
      refine z_iload C dX8_writeExpected_30 rfl ?_
      refine z_bipush C dX8_writeExpected_32 (by decide) ?_
      refine z_icmp_geZ (tgt := 51) C dX8_writeExpected_34 (by decide) (by omega) (by omega) (fun h34 => ?_) (fun h34 => ?_)
      · refine z_aload_n C dX8_writeExpected_51 rfl ?_
        refine z_aload_n C dX8_writeExpected_52 rfl ?_
        refine z_get C dX8_writeExpected_53 fl_X8_188 (by first | assumption | ((repeat (first | assumption | exact va_up_self _ _ _ | refine (va_up_ne _ _ (by assumption)).trans ?_)); done) | (simp [va_up, *] <;> rfl)) rfl ?_
        refine z_aload_n C dX8_writeExpected_56 rfl ?_
        refine z_get C dX8_writeExpected_57 fl_X8_78 (by first | assumption | ((repeat (first | assumption | exact va_up_self _ _ _ | refine (va_up_ne _ _ (by assumption)).trans ?_)); done) | (simp [va_up, *] <;> rfl)) rfl ?_
        refine z_iload_n C dX8_writeExpected_60 rfl ?_
        refine z_callV C dX8_writeExpected_61 lk_X8_340 mw_X8_writeSymbols mi_X8_writeSymbols ms_X8_writeSymbols rfl (by first | assumption | ((repeat (first | assumption | exact va_up_self _ _ _ | refine (va_up_ne _ _ (by assumption)).trans ?_)); done) | (simp [va_up, *] <;> rfl)) (k_X8_writeSymbols hI hF7 hop7.1 hop7.2 hQ7 hR7.2.2.1 hG7 hg7 (by omega) (fun j hj => by rw [hh7 j (by omega)]; omega) ⟨un (16 + 43 * 0 + (3 + 6 * rr.toNat + 2)) [6, 7] (by omega) (by decide) (by simp; omega), un (16 + 43 * 0 + (3 + 6 * rr.toNat + 3)) [6, 7] (by omega) (by decide) (by simp; omega), un (16 + 43 * 0 + (3 + 6 * rr.toNat + 4)) [6, 7] (by omega) (by decide) (by simp; omega)⟩) rfl (by first | decide | exact Nat.le_of_ble_eq_true rfl) ⟨by decide, by decide, by decide, by decide⟩ (fun _ _ h => False.elim h) (fun v M' hp => ?_)
        obtain ⟨rfl, f61, hQ61, of61, hB61, hO61, hv61⟩ := hp
        have ob61 := hF7.fr f61 k0
        unfold hFo at ob61
        have oo61 := hB61.1
        refine z_aload_n C dX8_writeExpected_64 rfl ?_
        refine z_get C dX8_writeExpected_65 fl_X8_48 (by first | assumption | ((repeat (first | assumption | exact va_up_self _ _ _ | refine (va_up_ne _ _ (by assumption)).trans ?_)); done) | (simp [va_up, *] <;> rfl)) rfl ?_
        refine z_get C dX8_writeExpected_68 fl_X8_107 (by first | assumption | ((repeat (first | assumption | exact va_up_self _ _ _ | refine (va_up_ne _ _ (by assumption)).trans ?_)); done) | (simp [va_up, *] <;> rfl)) rfl ?_
        refine z_iret C hQ dX8_writeExpected_71 rfl (by decide) (by decide) ?_
        exact fI'.of (hok7.tr (.ou hI hZ7 hF7 hX7 hi7 f61 hQ61 hB61 hO61 (fun j hj => (hv61 j hj).trans (zwo_cg (fun k hk => hh7 k (by omega)) j hj)))) ((zqR_t g2).trans (zq2_t gl))
      · exact absurd h34 (by omega)
    | succ t ih =>
      intro M1 i u1 ht hi f7 hG7 hg7 hh7
      have ob7 := hF.fr f7 (un 0 [15] (by decide) (by decide) (by decide))
      unfold hFo at ob7
      refine z_iload C dX8_writeExpected_30 rfl ?_
      refine z_bipush C dX8_writeExpected_32 (by decide) ?_
      refine z_icmp_geZ (tgt := 51) C dX8_writeExpected_34 (by decide) (by omega) (by omega) (fun h34 => ?_) (fun h34 => ?_)
      · exact absurd h34 (by omega)
      · refine z_aload_n C dX8_writeExpected_37 rfl ?_
        refine z_get C dX8_writeExpected_38 fl_X8_78 (by first | assumption | ((repeat (first | assumption | exact va_up_self _ _ _ | refine (va_up_ne _ _ (by assumption)).trans ?_)); done) | (simp [va_up, *] <;> rfl)) rfl ?_
        refine z_iload C dX8_writeExpected_41 rfl ?_
        refine z_iconst C dX8_writeExpected_43 ?_
        refine z_astN C dX8_writeExpected_44 (by first | assumption | ((repeat (first | assumption | exact va_up_self _ _ _ | refine (va_up_ne _ _ (by assumption)).trans ?_)); done) | (simp [va_up, *] <;> rfl)) (by omega) (by omega) (by assumption) (by omega) (fun hr44 => ?_)
        refine z_iincZ C dX8_writeExpected_45 rfl (by decide) ?_
        refine z_goto (tgt := 30) C dX8_writeExpected_48 (by decide) ?_
        refine ih _ (i + 1) _ (by omega) (by omega) (f7.u1 (by simp)) (va_up_self _ _ _) hr44 (fun j hj => ?_)
        unfold va_up
        split
        · rfl
        · exact hh7 j (by omega)
  refine z_aload_n C dX8_writeExpected_0 rfl ?_
  refine z_iload_n C dX8_writeExpected_1 rfl ?_
  refine z_callV C dX8_writeExpected_2 lk_X8_149 mw_X8_existingReader mi_X8_existingReader ms_X8_existingReader rfl (by first | assumption | ((repeat (first | assumption | exact va_up_self _ _ _ | refine (va_up_ne _ _ (by assumption)).trans ?_)); done) | (simp [va_up, *] <;> rfl)) (k_X8_existingReader hF hD hkk hrr) rfl (by first | decide | exact Nat.le_of_ble_eq_true rfl) ⟨by decide, by decide, by decide, by decide⟩ (fun X M' h => by obtain ⟨rfl, rfl, h⟩ := h; exact z_out C hQ (by decide) (by decide) (fX.o1 (.rf hc0) (zqR_f h))) (fun v M' hp => ?_)
  obtain ⟨rfl, g2, rfl⟩ := hp
  have hro := hD.rdo (i := rr.toNat) (by omega) (by omega)
  have hR := hD.rd (i := rr.toNat) (by omega) (by omega)
  obtain ⟨cn, hco, hcz, hcr⟩ := hD.rdc (i := rr.toNat) (by omega) (by omega)
  have hrk := (hk.1.2.2 rr.toNat (by omega)).1
  refine z_astore_n C dX8_writeExpected_5 (by decide) ?_
  refine z_iload_n C dX8_writeExpected_6 rfl ?_
  refine z_iconst C dX8_writeExpected_7 ?_
  refine z_icmp_ltZ (tgt := 17) C dX8_writeExpected_8 (by decide) (by omega) (by omega) (fun h8 => ?_) (fun h8 => ?_)
  · refine z_throw C hQ xt_IAE (si := 9) rfl dX8_writeExpected_17 dX8_writeExpected_20 dX8_writeExpected_21 dX8_writeExpected_23 dX8_writeExpected_26 ⟨by decide, by decide, by decide, by decide⟩ (by decide) (by decide) ?_
    exact fX.o2 (.rf hc0) ((zqR_t g2).trans (zq2_f fun w => by omega))
  · refine z_iload_n C dX8_writeExpected_11 rfl ?_
    refine z_bipush C dX8_writeExpected_12 (by decide) ?_
    refine z_icmp_leZ (tgt := 27) C dX8_writeExpected_14 (by decide) (by omega) (by omega) (fun h14 => ?_) (fun h14 => ?_)
    · refine z_iconst C dX8_writeExpected_27 ?_
      refine z_istore C dX8_writeExpected_28 (by decide) ?_
      exact loop g2 (by omega) 40 _ 0 dg (by omega) (by omega) zFr.rf hdG hdg (fun j hj => by omega)
    · refine z_throw C hQ xt_IAE (si := 9) rfl dX8_writeExpected_17 dX8_writeExpected_20 dX8_writeExpected_21 dX8_writeExpected_23 dX8_writeExpected_26 ⟨by decide, by decide, by decide, by decide⟩ (by decide) (by decide) ?_
      exact fX.o2 (.rf hc0) ((zqR_t g2).trans (zq2_f fun w => by omega))

