/-! the model's tests of a call's arguments -/
theorem mqR_t {S : zSt} {r : Int} {q : Int × Int} (h : 0 ≤ r ∧ r < sRn S) : zqR S r q = q := if_pos h
theorem mqR_f {S : zSt} {r : Int} {q : Int × Int} (h : ¬ (0 ≤ r ∧ r < sRn S)) : zqR S r q = (1, 0) := if_neg h
theorem mqD_t {S : zSt} {r : Int} {q : Int × Int} (h : 0 ≤ r ∧ r < sDn S) : zqD S r q = q := if_pos h
theorem mqD_f {S : zSt} {r : Int} {q : Int × Int} (h : ¬ (0 ≤ r ∧ r < sDn S)) : zqD S r q = (1, 0) := if_neg h
theorem mq2_t {P : Prop} {q : Int × Int} (h : P) : zq2 P q = q := zif_t h
theorem mq2_f {P : Prop} {q : Int × Int} (h : ¬ P) : zq2 P q = (2, 0) := zif_f h
theorem mqR_0 {S : zSt} {r : Int} {q : Int × Int} (h : (zqR S r q).1 = 0) : (0 ≤ r ∧ r < sRn S) ∧ q.1 = 0 := by
  by_cases e : 0 ≤ r ∧ r < sRn S
  · rw [mqR_t e] at h
    exact ⟨e, h⟩
  · rw [mqR_f e] at h
    cases h
theorem mqD_0 {S : zSt} {r : Int} {q : Int × Int} (h : (zqD S r q).1 = 0) : (0 ≤ r ∧ r < sDn S) ∧ q.1 = 0 := by
  by_cases e : 0 ≤ r ∧ r < sDn S
  · rw [mqD_t e] at h
    exact ⟨e, h⟩
  · rw [mqD_f e] at h
    cases h
theorem mq2_0 {P : Prop} {q : Int × Int} (h : (zq2 P q).1 = 0) : P ∧ q.1 = 0 := by
  by_cases e : P
  · rw [mq2_t e] at h
    exact ⟨e, h⟩
  · rw [mq2_f e] at h
    cases h
theorem mqR_1 {S : zSt} {r : Int} {q q' : Int × Int} (h : q.1 = q'.1) : (zqR S r q).1 = (zqR S r q').1 := by
  by_cases e : 0 ≤ r ∧ r < sRn S
  · rw [mqR_t e, mqR_t e, h]
  · rw [mqR_f e, mqR_f e]
theorem mqD_1 {S : zSt} {r : Int} {q q' : Int × Int} (h : q.1 = q'.1) : (zqD S r q).1 = (zqD S r q').1 := by
  by_cases e : 0 ≤ r ∧ r < sDn S
  · rw [mqD_t e, mqD_t e, h]
  · rw [mqD_f e, mqD_f e]
theorem mq2_1 {P : Prop} {q q' : Int × Int} (h : q.1 = q'.1) : (zq2 P q).1 = (zq2 P q').1 := by
  by_cases e : P
  · rw [mq2_t e, mq2_t e, h]
  · rw [mq2_f e, mq2_f e]
theorem mGd.th {γ : zG} {A : Nat → Nat} {M : zM} {F : Nat → Int} {th th' : Int} (e : th = th') {v' : Option Value} {M' : zM} (h : mGd γ A M F th v' M') : mGd γ A M F th' v' M' := by
  rw [← e]
  exact h
set_option maxHeartbeats 4000000 in
set_option maxRecDepth 100000 in
theorem k_X9_noReader {l : Launch} {γ : zG} {M : zM} {A : Nat → Nat} {F g : Nat → Int} {S0 : zSt} {rr : Int} (hA : mIA A) (hO : M (A 0) = some (mOb A F)) (hM : M (A 1) = some (zar γ 5987 g)) (hS : mSt g S0) (hOk : zOk S0) (hr : zR rr) :
    zCon l γ yX9_noReader cX9_noReader 2 (some .boolean) [.ref (A 0), .int (zi rr)] M 2 45 0 0 (mGd γ A M F (zqR S0 rr (0, 0)).1) (fun _ _ => False) := by
  have o1 := hOk.1
  have hg := hS.1
  have g2 : g (2 : Int).toNat = sRn S0 := hS.2.2.2.1
  refine zEnter [some (.ref (A 0)), some (.int (zi rr))] (by decide +kernel) rfl rfl (Nat.le_of_ble_eq_true rfl) ?_
  intro p e s m args below meth c Q C hin hQ
  refine z_aload_n C dX9_noReader_0 rfl ?_
  refine z_iload_n C dX9_noReader_1 rfl ?_
  refine z_iconst C dX9_noReader_2 ?_
  refine z_aload_n C dX9_noReader_3 rfl ?_
  refine z_get C dX9_noReader_4 fl_X9_7 (by first | assumption | ((repeat (first | assumption | exact va_up_self _ _ _ | refine (va_up_ne _ _ (by first | assumption | exact hA.ne (by decide) | exact hA.ne (by omega))).trans ?_)); done)) rfl ?_
  refine z_iconst C dX9_noReader_7 ?_
  refine z_aldN C dX9_noReader_8 (by first | assumption | ((repeat (first | assumption | exact va_up_self _ _ _ | refine (va_up_ne _ _ (by first | assumption | exact hA.ne (by decide) | exact hA.ne (by omega))).trans ?_)); done)) (by omega) (by omega) (by assumption) (fun hr8 => ?_)
  rw [g2]
  refine z_iconst C dX9_noReader_9 ?_
  refine z_isubZ C dX9_noReader_10 ?_
  refine z_callV C dX9_noReader_11 lk_X9_196 mw_X9_noNumber mi_X9_noNumber ms_X9_noNumber rfl (by first | assumption | ((repeat (first | assumption | exact va_up_self _ _ _ | refine (va_up_ne _ _ (by first | assumption | exact hA.ne (by decide) | exact hA.ne (by omega))).trans ?_)); done)) (k_X9_noNumber hA hO (x := rr) (a := 0) (b := sRn S0 - 1) hr (by unfold zR; omega) (by unfold zR; omega)) rfl (by first | decide | exact Nat.le_of_ble_eq_true rfl) ⟨by decide, by decide, by decide, by decide⟩ (fun _ _ h => False.elim h) (fun v M' hp => ?_)
  obtain ⟨r11, F2, rfl, f11, o11, p11, e11, z11⟩ := hp
  have et : (if 0 ≤ rr ∧ rr ≤ sRn S0 - 1 then (0 : Int) else 1) = (zqR S0 rr (0, 0)).1 := by
    by_cases q : 0 ≤ rr ∧ rr < sRn S0
    · rw [mqR_t q, if_pos (by omega)]
    · rw [mqR_f q, if_neg (by omega)]
  rw [et] at e11 z11
  refine z_iret C hQ dX9_noReader_14 (by rcases z11 with ⟨w, -⟩ | ⟨w, -⟩ <;> subst w <;> rfl) (by decide) (by decide) ?_
  exact ⟨r11, F2, rfl, f11, o11, p11, e11, z11⟩
set_option maxHeartbeats 4000000 in
set_option maxRecDepth 100000 in
theorem k_X9_noDocument {l : Launch} {γ : zG} {M : zM} {A : Nat → Nat} {F g : Nat → Int} {S0 : zSt} {dd : Int} (hA : mIA A) (hO : M (A 0) = some (mOb A F)) (hM : M (A 1) = some (zar γ 5987 g)) (hS : mSt g S0) (hOk : zOk S0) (hr : zR dd) :
    zCon l γ yX9_noDocument cX9_noDocument 2 (some .boolean) [.ref (A 0), .int (zi dd)] M 2 45 0 0 (mGd γ A M F (zqD S0 dd (0, 0)).1) (fun _ _ => False) := by
  have o1 := hOk.1
  have hg := hS.1
  have g2 : g (1 : Int).toNat = sDn S0 := hS.2.2.1
  refine zEnter [some (.ref (A 0)), some (.int (zi dd))] (by decide +kernel) rfl rfl (Nat.le_of_ble_eq_true rfl) ?_
  intro p e s m args below meth c Q C hin hQ
  refine z_aload_n C dX9_noDocument_0 rfl ?_
  refine z_iload_n C dX9_noDocument_1 rfl ?_
  refine z_iconst C dX9_noDocument_2 ?_
  refine z_aload_n C dX9_noDocument_3 rfl ?_
  refine z_get C dX9_noDocument_4 fl_X9_7 (by first | assumption | ((repeat (first | assumption | exact va_up_self _ _ _ | refine (va_up_ne _ _ (by first | assumption | exact hA.ne (by decide) | exact hA.ne (by omega))).trans ?_)); done)) rfl ?_
  refine z_iconst C dX9_noDocument_7 ?_
  refine z_aldN C dX9_noDocument_8 (by first | assumption | ((repeat (first | assumption | exact va_up_self _ _ _ | refine (va_up_ne _ _ (by first | assumption | exact hA.ne (by decide) | exact hA.ne (by omega))).trans ?_)); done)) (by omega) (by omega) (by assumption) (fun hr8 => ?_)
  rw [g2]
  refine z_iconst C dX9_noDocument_9 ?_
  refine z_isubZ C dX9_noDocument_10 ?_
  refine z_callV C dX9_noDocument_11 lk_X9_196 mw_X9_noNumber mi_X9_noNumber ms_X9_noNumber rfl (by first | assumption | ((repeat (first | assumption | exact va_up_self _ _ _ | refine (va_up_ne _ _ (by first | assumption | exact hA.ne (by decide) | exact hA.ne (by omega))).trans ?_)); done)) (k_X9_noNumber hA hO (x := dd) (a := 0) (b := sDn S0 - 1) hr (by unfold zR; omega) (by unfold zR; omega)) rfl (by first | decide | exact Nat.le_of_ble_eq_true rfl) ⟨by decide, by decide, by decide, by decide⟩ (fun _ _ h => False.elim h) (fun v M' hp => ?_)
  obtain ⟨r11, F2, rfl, f11, o11, p11, e11, z11⟩ := hp
  have et : (if 0 ≤ dd ∧ dd ≤ sDn S0 - 1 then (0 : Int) else 1) = (zqD S0 dd (0, 0)).1 := by
    by_cases q : 0 ≤ dd ∧ dd < sDn S0
    · rw [mqD_t q, if_pos (by omega)]
    · rw [mqD_f q, if_neg (by omega)]
  rw [et] at e11 z11
  refine z_iret C hQ dX9_noDocument_14 (by rcases z11 with ⟨w, -⟩ | ⟨w, -⟩ <;> subst w <;> rfl) (by decide) (by decide) ?_
  exact ⟨r11, F2, rfl, f11, o11, p11, e11, z11⟩
set_option maxHeartbeats 4000000 in
set_option maxRecDepth 100000 in
theorem k_X9_noBoth {l : Launch} {γ : zG} {M : zM} {A : Nat → Nat} {F g : Nat → Int} {S0 : zSt} {rr dd : Int} (hA : mIA A) (hO : M (A 0) = some (mOb A F)) (hM : M (A 1) = some (zar γ 5987 g)) (hS : mSt g S0) (hOk : zOk S0) (hr : zR rr) (hd : zR dd) :
    zCon l γ yX9_noBoth cX9_noBoth 3 (some .boolean) [.ref (A 0), .int (zi rr), .int (zi dd)] M 3 66 0 0 (mGd γ A M F (zqR S0 rr (zqD S0 dd (0, 0))).1) (fun _ _ => False) := by
  refine zEnter [some (.ref (A 0)), some (.int (zi rr)), some (.int (zi dd))] (by decide +kernel) rfl rfl (Nat.le_of_ble_eq_true rfl) ?_
  intro p e s m args below meth c Q C hin hQ
  refine z_aload_n C dX9_noBoth_0 rfl ?_
  refine z_iload_n C dX9_noBoth_1 rfl ?_
  refine z_callV C dX9_noBoth_2 lk_X9_295 mw_X9_noReader mi_X9_noReader ms_X9_noReader rfl (by first | assumption | ((repeat (first | assumption | exact va_up_self _ _ _ | refine (va_up_ne _ _ (by first | assumption | exact hA.ne (by decide) | exact hA.ne (by omega))).trans ?_)); done)) (k_X9_noReader hA hO hM hS hOk hr) rfl (by first | decide | exact Nat.le_of_ble_eq_true rfl) ⟨by decide, by decide, by decide, by decide⟩ (fun _ _ h => False.elim h) (fun v M' hp => ?_)
  obtain ⟨r2, F2, rfl, f2, o2, p2, e2, z2⟩ := hp
  have s2 := z2.rng
  have hM2 := f2.at hA (.of rfl) hM
  refine z_if_neZ (tgt := 16) C dX9_noBoth_5 (by decide) (by omega) (fun h5 => ?_) (fun h5 => ?_)
  · refine z_iconst C dX9_noBoth_16 ?_
    refine z_goto (tgt := 21) C dX9_noBoth_17 (by decide) ?_
    refine z_iret C hQ dX9_noBoth_21 rfl (by decide) (by decide) ?_
    have t2 := z2.t h5
    have nr : ¬ (0 ≤ rr ∧ rr < sRn S0) := fun w => t2 (by rw [mqR_t w])
    rw [mqR_f nr] at e2 ⊢
    exact ⟨1, F2, rfl, f2, o2, p2, e2, .inl ⟨rfl, by decide⟩⟩
  · refine z_aload_n C dX9_noBoth_8 rfl ?_
    refine z_iload_n C dX9_noBoth_9 rfl ?_
    have t2 := (mqR_0 (Decidable.not_not.mp (z2.f h5))).1
    refine z_callV C dX9_noBoth_10 lk_X9_298 mw_X9_noDocument mi_X9_noDocument ms_X9_noDocument rfl (by first | assumption | ((repeat (first | assumption | exact va_up_self _ _ _ | refine (va_up_ne _ _ (by first | assumption | exact hA.ne (by decide) | exact hA.ne (by omega))).trans ?_)); done)) (k_X9_noDocument hA o2 hM2 hS hOk hd) rfl (by first | decide | exact Nat.le_of_ble_eq_true rfl) ⟨by decide, by decide, by decide, by decide⟩ (fun _ _ h => False.elim h) (fun v M' hp => ?_)
    obtain ⟨r10, F3, rfl, f10, o10, p10, e10, z10⟩ := hp
    have s10 := z10.rng
    refine z_if_eqZ (tgt := 20) C dX9_noBoth_13 (by decide) (by omega) (fun h13 => ?_) (fun h13 => ?_)
    · refine z_iconst C dX9_noBoth_20 ?_
      refine z_iret C hQ dX9_noBoth_21 rfl (by decide) (by decide) ?_
      rw [mqR_t t2]
      exact ⟨0, F3, rfl, f2.tr f10 ⟨rfl, rfl⟩, o10, p2.tr p10 ⟨rfl, rfl⟩, e10, .inr ⟨rfl, z10.f h13⟩⟩
    · refine z_iconst C dX9_noBoth_16 ?_
      refine z_goto (tgt := 21) C dX9_noBoth_17 (by decide) ?_
      refine z_iret C hQ dX9_noBoth_21 rfl (by decide) (by decide) ?_
      rw [mqR_t t2]
      exact ⟨1, F3, rfl, f2.tr f10 ⟨rfl, rfl⟩, o10, p2.tr p10 ⟨rfl, rfl⟩, e10, .inl ⟨rfl, z10.t h13⟩⟩
set_option maxHeartbeats 4000000 in
set_option maxRecDepth 100000 in
theorem k_X9_noSymbol {l : Launch} {γ : zG} {M : zM} {A : Nat → Nat} {F : Nat → Int} {ss : Int} (hA : mIA A) (hO : M (A 0) = some (mOb A F)) (h8 : F 8 = 0) (hs : zR ss) :
    zCon l γ yX9_noSymbol cX9_noSymbol 2 (some .boolean) [.ref (A 0), .int (zi ss)] M 2 45 0 0 (mGd γ A M F (zq2 (zSy ss) (0, 0)).1) (fun _ _ => False) := by
  refine zEnter [some (.ref (A 0)), some (.int (zi ss))] (by decide +kernel) rfl rfl (Nat.le_of_ble_eq_true rfl) ?_
  intro p e s m args below meth c Q C hin hQ
  refine z_aload_n C dX9_noSymbol_0 rfl ?_
  refine z_iload_n C dX9_noSymbol_1 rfl ?_
  refine z_iconst C dX9_noSymbol_2 ?_
  refine z_bipush C dX9_noSymbol_3 (by decide) ?_
  refine z_callV C dX9_noSymbol_5 lk_X9_301 mw_X9_out mi_X9_out ms_X9_out rfl (by first | assumption | ((repeat (first | assumption | exact va_up_self _ _ _ | refine (va_up_ne _ _ (by first | assumption | exact hA.ne (by decide) | exact hA.ne (by omega))).trans ?_)); done)) (k_X9_out hA hO h8 (x := ss) (a := 0) (b := 26) hs (by unfold zR; omega) (by unfold zR; omega)) rfl (by first | decide | exact Nat.le_of_ble_eq_true rfl) ⟨by decide, by decide, by decide, by decide⟩ (fun _ _ h => False.elim h) (fun v M' hp => ?_)
  obtain ⟨r11, F2, rfl, f11, o11, p11, e11, z11⟩ := hp
  have et : (if 0 ≤ ss ∧ ss ≤ 26 then (0 : Int) else 2) = (zq2 (zSy ss) (0, 0)).1 := by
    by_cases q : zSy ss
    · have q2 := q
      unfold zSy at q2
      rw [mq2_t q, if_pos (by omega)]
    · have q2 := q
      unfold zSy at q2
      rw [mq2_f q, if_neg (by omega)]
  rw [et] at e11 z11
  refine z_iret C hQ dX9_noSymbol_8 (by rcases z11 with ⟨w, -⟩ | ⟨w, -⟩ <;> subst w <;> rfl) (by decide) (by decide) ?_
  exact ⟨r11, F2, rfl, f11, o11, p11, e11, z11⟩
set_option maxHeartbeats 4000000 in
set_option maxRecDepth 100000 in
theorem k_X9_noContext {l : Launch} {γ : zG} {M : zM} {A : Nat → Nat} {F g : Nat → Int} {S0 : zSt} {rr bb pp : Int} (hA : mIA A) (hO : M (A 0) = some (mOb A F)) (hM : M (A 1) = some (zar γ 5987 g)) (hS : mSt g S0) (hOk : zOk S0) (hr : zR rr) (hb : zR bb) (hp0 : zR pp) :
    zCon l γ yX9_noContext cX9_noContext 4 (some .boolean) [.ref (A 0), .int (zi rr), .int (zi bb), .int (zi pp)] M 3 66 0 0 (mGd γ A M F (zqR S0 rr (zq2 (zCv bb pp) (0, 0))).1) (fun _ _ => False) := by
  have hb0 := hb
  have hp1 := hp0
  unfold zR at hb0 hp1
  have cv : zCv bb pp ↔ (-1 ≤ bb ∧ bb ≤ 26) ∧ (-1 ≤ pp ∧ pp ≤ 26) ∧ ¬ (pp = -1 ∧ bb ≠ -1) := by
    unfold zCv zSy
    omega
  refine zEnter [some (.ref (A 0)), some (.int (zi rr)), some (.int (zi bb)), some (.int (zi pp))] (by decide +kernel) rfl rfl (Nat.le_of_ble_eq_true rfl) ?_
  intro p e s m args below meth c Q C hin hQ
  refine z_aload_n C dX9_noContext_0 rfl ?_
  refine z_iload_n C dX9_noContext_1 rfl ?_
  refine z_callV C dX9_noContext_2 lk_X9_295 mw_X9_noReader mi_X9_noReader ms_X9_noReader rfl (by first | assumption | ((repeat (first | assumption | exact va_up_self _ _ _ | refine (va_up_ne _ _ (by first | assumption | exact hA.ne (by decide) | exact hA.ne (by omega))).trans ?_)); done)) (k_X9_noReader hA hO hM hS hOk hr) rfl (by first | decide | exact Nat.le_of_ble_eq_true rfl) ⟨by decide, by decide, by decide, by decide⟩ (fun _ _ h => False.elim h) (fun v M' hp => ?_)
  obtain ⟨r2, F2, rfl, f2, o2, p2, e2, z2⟩ := hp
  have s2 := z2.rng
  refine z_if_neZ (tgt := 53) C dX9_noContext_5 (by decide) (by omega) (fun h5 => ?_) (fun h5 => ?_)
  · refine z_iconst C dX9_noContext_53 ?_
    refine z_goto (tgt := 58) C dX9_noContext_54 (by decide) ?_
    refine z_iret C hQ dX9_noContext_58 rfl (by decide) (by decide) ?_
    have t2 := z2.t h5
    have nr : ¬ (0 ≤ rr ∧ rr < sRn S0) := fun w => t2 (by rw [mqR_t w])
    rw [mqR_f nr] at e2 ⊢
    exact ⟨1, F2, rfl, f2, o2, p2, e2, .inl ⟨rfl, by decide⟩⟩
  · refine z_aload_n C dX9_noContext_8 rfl ?_
    refine z_iload_n C dX9_noContext_9 rfl ?_
    refine z_iconst C dX9_noContext_10 ?_
    refine z_bipush C dX9_noContext_11 (by decide) ?_
    have t2 := (mqR_0 (Decidable.not_not.mp (z2.f h5))).1
    rw [mqR_t t2] at e2
    refine z_callV C dX9_noContext_13 lk_X9_301 mw_X9_out mi_X9_out ms_X9_out rfl (by first | assumption | ((repeat (first | assumption | exact va_up_self _ _ _ | refine (va_up_ne _ _ (by first | assumption | exact hA.ne (by decide) | exact hA.ne (by omega))).trans ?_)); done)) (k_X9_out hA o2 e2 (x := bb) (a := -1) (b := 26) hb (by unfold zR; omega) (by unfold zR; omega)) rfl (by first | decide | exact Nat.le_of_ble_eq_true rfl) ⟨by decide, by decide, by decide, by decide⟩ (fun _ _ h => False.elim h) (fun v M' hp => ?_)
    obtain ⟨r13, F3, rfl, f13, o13, p13, e13, z13⟩ := hp
    have s13 := z13.rng
    refine z_if_neZ (tgt := 53) C dX9_noContext_16 (by decide) (by omega) (fun h16 => ?_) (fun h16 => ?_)
    · refine z_iconst C dX9_noContext_53 ?_
      refine z_goto (tgt := 58) C dX9_noContext_54 (by decide) ?_
      refine z_iret C hQ dX9_noContext_58 rfl (by decide) (by decide) ?_
      have t3 := z13.t h16
      have nr : ¬ (-1 ≤ bb ∧ bb ≤ 26) := fun w => t3 (by rw [if_pos w])
      rw [mqR_t t2, mq2_f (fun w => nr (cv.mp w).1)]
      rw [if_neg nr] at e13
      exact ⟨1, F3, rfl, f2.tr f13 ⟨rfl, rfl⟩, o13, p2.tr p13 ⟨rfl, rfl⟩, e13, .inl ⟨rfl, (by decide : (2 : Int) ≠ 0)⟩⟩
    · refine z_aload_n C dX9_noContext_19 rfl ?_
      refine z_iload_n C dX9_noContext_20 rfl ?_
      refine z_iconst C dX9_noContext_21 ?_
      refine z_bipush C dX9_noContext_22 (by decide) ?_
      have t13 : -1 ≤ bb ∧ bb ≤ 26 := by
        have := z13.f h16
        by_cases q : -1 ≤ bb ∧ bb ≤ 26
        · exact q
        · exact absurd (by rw [if_neg q]; decide) this
      rw [if_pos t13] at e13
      refine z_callV C dX9_noContext_24 lk_X9_301 mw_X9_out mi_X9_out ms_X9_out rfl (by first | assumption | ((repeat (first | assumption | exact va_up_self _ _ _ | refine (va_up_ne _ _ (by first | assumption | exact hA.ne (by decide) | exact hA.ne (by omega))).trans ?_)); done)) (k_X9_out hA o13 e13 (x := pp) (a := -1) (b := 26) hp0 (by unfold zR; omega) (by unfold zR; omega)) rfl (by first | decide | exact Nat.le_of_ble_eq_true rfl) ⟨by decide, by decide, by decide, by decide⟩ (fun _ _ h => False.elim h) (fun v M' hp => ?_)
      obtain ⟨r24, F4, rfl, f24, o24, p24, e24, z24⟩ := hp
      have s24 := z24.rng
      refine z_if_neZ (tgt := 53) C dX9_noContext_27 (by decide) (by omega) (fun h27 => ?_) (fun h27 => ?_)
      · refine z_iconst C dX9_noContext_53 ?_
        refine z_goto (tgt := 58) C dX9_noContext_54 (by decide) ?_
        refine z_iret C hQ dX9_noContext_58 rfl (by decide) (by decide) ?_
        have t3 := z24.t h27
        have nr : ¬ (-1 ≤ pp ∧ pp ≤ 26) := fun w => t3 (by rw [if_pos w])
        rw [mqR_t t2, mq2_f (fun w => nr (cv.mp w).2.1)]
        rw [if_neg nr] at e24
        exact ⟨1, F4, rfl, (f2.tr (K := [0]) f13 ⟨rfl, rfl⟩).tr f24 ⟨rfl, rfl⟩, o24, (p2.tr (K := [8]) p13 ⟨rfl, rfl⟩).tr p24 ⟨rfl, rfl⟩, e24, .inl ⟨rfl, (by decide : (2 : Int) ≠ 0)⟩⟩
      · have t24 : -1 ≤ pp ∧ pp ≤ 26 := by
          have := z24.f h27
          by_cases q : -1 ≤ pp ∧ pp ≤ 26
          · exact q
          · exact absurd (by rw [if_neg q]; decide) this
        rw [if_pos t24] at e24
        refine z_aload_n C dX9_noContext_30 rfl ?_
        refine z_iload_n C dX9_noContext_31 rfl ?_
        refine z_iconst C dX9_noContext_32 ?_
        refine z_icmp_neZ (tgt := 45) C dX9_noContext_33 (by decide) (by omega) (by omega) (fun h33 => ?_) (fun h33 => ?_)
        · refine z_iconst C dX9_noContext_45 ?_
          refine z_iconst C dX9_noContext_46 ?_
          refine z_callV C dX9_noContext_47 lk_X9_189 mw_X9_refuses mi_X9_refuses ms_X9_refuses rfl (by first | assumption | ((repeat (first | assumption | exact va_up_self _ _ _ | refine (va_up_ne _ _ (by first | assumption | exact hA.ne (by decide) | exact hA.ne (by omega))).trans ?_)); done)) (k_X9_refuses hA o24 (r := 0) (w := 2) (by omega) (by omega) (by omega)) rfl (by first | decide | exact Nat.le_of_ble_eq_true rfl) ⟨by decide, by decide, by decide, by decide⟩ (fun _ _ h => False.elim h) (fun v M' hp => ?_)
          obtain ⟨r47, F5, rfl, f47, o47, p47, e47, z47⟩ := hp
          have s47 := z47.rng
          refine z_if_eqZ (tgt := 57) C dX9_noContext_50 (by decide) (by omega) (fun h50 => ?_) (fun h50 => ?_)
          · refine z_iconst C dX9_noContext_57 ?_
            refine z_iret C hQ dX9_noContext_58 rfl (by decide) (by decide) ?_
            rw [mqR_t t2, mq2_t (cv.mpr ⟨t13, t24, by omega⟩)]
            rw [if_neg (by omega), e24] at e47
            exact ⟨0, F5, rfl, (((f2.tr (K := [0]) f13 ⟨rfl, rfl⟩).tr (K := [0]) f24 ⟨rfl, rfl⟩).tr f47 ⟨rfl, rfl⟩), o47, (((p2.tr (K := [8]) p13 ⟨rfl, rfl⟩).tr (K := [8]) p24 ⟨rfl, rfl⟩).tr p47 ⟨rfl, rfl⟩), e47, .inr ⟨rfl, (by decide : ¬ (0 : Int) ≠ 0)⟩⟩
          · refine z_iconst C dX9_noContext_53 ?_
            refine z_goto (tgt := 58) C dX9_noContext_54 (by decide) ?_
            refine z_iret C hQ dX9_noContext_58 rfl (by decide) (by decide) ?_
            exact absurd (by rw [if_neg (by omega), e24]) (z47.t h50)
        · refine z_iload_n C dX9_noContext_36 rfl ?_
          refine z_iconst C dX9_noContext_37 ?_
          refine z_icmp_eqZ (tgt := 45) C dX9_noContext_38 (by decide) (by omega) (by omega) (fun h38 => ?_) (fun h38 => ?_)
          · refine z_iconst C dX9_noContext_45 ?_
            refine z_iconst C dX9_noContext_46 ?_
            refine z_callV C dX9_noContext_47 lk_X9_189 mw_X9_refuses mi_X9_refuses ms_X9_refuses rfl (by first | assumption | ((repeat (first | assumption | exact va_up_self _ _ _ | refine (va_up_ne _ _ (by first | assumption | exact hA.ne (by decide) | exact hA.ne (by omega))).trans ?_)); done)) (k_X9_refuses hA o24 (r := 0) (w := 2) (by omega) (by omega) (by omega)) rfl (by first | decide | exact Nat.le_of_ble_eq_true rfl) ⟨by decide, by decide, by decide, by decide⟩ (fun _ _ h => False.elim h) (fun v M' hp => ?_)
            obtain ⟨r47, F5, rfl, f47, o47, p47, e47, z47⟩ := hp
            have s47 := z47.rng
            refine z_if_eqZ (tgt := 57) C dX9_noContext_50 (by decide) (by omega) (fun h50 => ?_) (fun h50 => ?_)
            · refine z_iconst C dX9_noContext_57 ?_
              refine z_iret C hQ dX9_noContext_58 rfl (by decide) (by decide) ?_
              rw [mqR_t t2, mq2_t (cv.mpr ⟨t13, t24, by omega⟩)]
              rw [if_neg (by omega), e24] at e47
              exact ⟨0, F5, rfl, (((f2.tr (K := [0]) f13 ⟨rfl, rfl⟩).tr (K := [0]) f24 ⟨rfl, rfl⟩).tr f47 ⟨rfl, rfl⟩), o47, (((p2.tr (K := [8]) p13 ⟨rfl, rfl⟩).tr (K := [8]) p24 ⟨rfl, rfl⟩).tr p47 ⟨rfl, rfl⟩), e47, .inr ⟨rfl, (by decide : ¬ (0 : Int) ≠ 0)⟩⟩
            · refine z_iconst C dX9_noContext_53 ?_
              refine z_goto (tgt := 58) C dX9_noContext_54 (by decide) ?_
              refine z_iret C hQ dX9_noContext_58 rfl (by decide) (by decide) ?_
              exact absurd (by rw [if_neg (by omega), e24]) (z47.t h50)
          · refine z_iconst C dX9_noContext_41 ?_
            refine z_goto (tgt := 46) C dX9_noContext_42 (by decide) ?_
            refine z_iconst C dX9_noContext_46 ?_
            refine z_callV C dX9_noContext_47 lk_X9_189 mw_X9_refuses mi_X9_refuses ms_X9_refuses rfl (by first | assumption | ((repeat (first | assumption | exact va_up_self _ _ _ | refine (va_up_ne _ _ (by first | assumption | exact hA.ne (by decide) | exact hA.ne (by omega))).trans ?_)); done)) (k_X9_refuses hA o24 (r := 1) (w := 2) (by omega) (by omega) (by omega)) rfl (by first | decide | exact Nat.le_of_ble_eq_true rfl) ⟨by decide, by decide, by decide, by decide⟩ (fun _ _ h => False.elim h) (fun v M' hp => ?_)
            obtain ⟨r47, F5, rfl, f47, o47, p47, e47, z47⟩ := hp
            have s47 := z47.rng
            refine z_if_eqZ (tgt := 57) C dX9_noContext_50 (by decide) (by omega) (fun h50 => ?_) (fun h50 => ?_)
            · refine z_iconst C dX9_noContext_57 ?_
              refine z_iret C hQ dX9_noContext_58 rfl (by decide) (by decide) ?_
              exact absurd (by rw [if_pos ⟨e24, by decide⟩]; decide) (z47.f h50)
            · refine z_iconst C dX9_noContext_53 ?_
              refine z_goto (tgt := 58) C dX9_noContext_54 (by decide) ?_
              refine z_iret C hQ dX9_noContext_58 rfl (by decide) (by decide) ?_
              rw [mqR_t t2, mq2_f (fun w => (cv.mp w).2.2 (by omega))]
              rw [if_pos ⟨e24, by decide⟩] at e47
              exact ⟨1, F5, rfl, (((f2.tr (K := [0]) f13 ⟨rfl, rfl⟩).tr (K := [0]) f24 ⟨rfl, rfl⟩).tr f47 ⟨rfl, rfl⟩), o47, (((p2.tr (K := [8]) p13 ⟨rfl, rfl⟩).tr (K := [8]) p24 ⟨rfl, rfl⟩).tr p47 ⟨rfl, rfl⟩), e47, .inl ⟨rfl, (by decide : (2 : Int) ≠ 0)⟩⟩
set_option maxHeartbeats 4000000 in
set_option maxRecDepth 100000 in
theorem k_X9_noQuestion {l : Launch} {γ : zG} {M : zM} {A : Nat → Nat} {F g : Nat → Int} {S0 : zSt} {rr bb pp ss : Int} (hA : mIA A) (hO : M (A 0) = some (mOb A F)) (hM : M (A 1) = some (zar γ 5987 g)) (hS : mSt g S0) (hOk : zOk S0) (hr : zR rr) (hb : zR bb) (hp0 : zR pp) (hs : zR ss) :
    zCon l γ yX9_noQuestion cX9_noQuestion 5 (some .boolean) [.ref (A 0), .int (zi rr), .int (zi bb), .int (zi pp), .int (zi ss)] M 4 89 0 0 (mGd γ A M F (zqR S0 rr (zq2 (zCv bb pp ∧ zSy ss) (0, 0))).1) (fun _ _ => False) := by
  refine zEnter [some (.ref (A 0)), some (.int (zi rr)), some (.int (zi bb)), some (.int (zi pp)), some (.int (zi ss))] (by decide +kernel) rfl rfl (Nat.le_of_ble_eq_true rfl) ?_
  intro p e s m args below meth c Q C hin hQ
  refine z_aload_n C dX9_noQuestion_0 rfl ?_
  refine z_iload_n C dX9_noQuestion_1 rfl ?_
  refine z_iload_n C dX9_noQuestion_2 rfl ?_
  refine z_iload_n C dX9_noQuestion_3 rfl ?_
  refine z_callV C dX9_noQuestion_4 lk_X9_304 mw_X9_noContext mi_X9_noContext ms_X9_noContext rfl (by first | assumption | ((repeat (first | assumption | exact va_up_self _ _ _ | refine (va_up_ne _ _ (by first | assumption | exact hA.ne (by decide) | exact hA.ne (by omega))).trans ?_)); done)) (k_X9_noContext hA hO hM hS hOk hr hb hp0) rfl (by first | decide | exact Nat.le_of_ble_eq_true rfl) ⟨by decide, by decide, by decide, by decide⟩ (fun _ _ h => False.elim h) (fun v M' hp => ?_)
  obtain ⟨r2, F2, rfl, f2, o2, p2, e2, z2⟩ := hp
  have s2 := z2.rng
  refine z_if_neZ (tgt := 19) C dX9_noQuestion_7 (by decide) (by omega) (fun h7 => ?_) (fun h7 => ?_)
  · refine z_iconst C dX9_noQuestion_19 ?_
    refine z_goto (tgt := 24) C dX9_noQuestion_20 (by decide) ?_
    refine z_iret C hQ dX9_noQuestion_24 rfl (by decide) (by decide) ?_
    have t2 := z2.t h7
    have et : (zqR S0 rr (zq2 (zCv bb pp ∧ zSy ss) (0, 0))).1 = (zqR S0 rr (zq2 (zCv bb pp) (0, 0))).1 := by
      by_cases q : 0 ≤ rr ∧ rr < sRn S0
      · rw [mqR_t q, mqR_t q]
        by_cases q2 : zCv bb pp
        · exact absurd (by rw [mqR_t q, mq2_t q2]) t2
        · rw [mq2_f q2, mq2_f (fun w => q2 w.1)]
      · rw [mqR_f q, mqR_f q]
    rw [et]
    exact ⟨1, F2, rfl, f2, o2, p2, e2, .inl ⟨rfl, t2⟩⟩
  · refine z_aload_n C dX9_noQuestion_10 rfl ?_
    refine z_iload C dX9_noQuestion_11 rfl ?_
    have t2 := Decidable.not_not.mp (z2.f h7)
    rw [t2] at e2
    obtain ⟨t3, t4⟩ := mqR_0 t2
    have t5 := (mq2_0 t4).1
    refine z_callV C dX9_noQuestion_13 lk_X9_307 mw_X9_noSymbol mi_X9_noSymbol ms_X9_noSymbol rfl (by first | assumption | ((repeat (first | assumption | exact va_up_self _ _ _ | refine (va_up_ne _ _ (by first | assumption | exact hA.ne (by decide) | exact hA.ne (by omega))).trans ?_)); done)) (k_X9_noSymbol hA o2 e2 hs) rfl (by first | decide | exact Nat.le_of_ble_eq_true rfl) ⟨by decide, by decide, by decide, by decide⟩ (fun _ _ h => False.elim h) (fun v M' hp => ?_)
    obtain ⟨r10, F3, rfl, f10, o10, p10, e10, z10⟩ := hp
    have s10 := z10.rng
    have et : (zqR S0 rr (zq2 (zCv bb pp ∧ zSy ss) (0, 0))).1 = (zq2 (zSy ss) (0, 0)).1 := by
      rw [mqR_t t3]
      by_cases q : zSy ss
      · rw [mq2_t q, mq2_t ⟨t5, q⟩]
      · rw [mq2_f q, mq2_f (fun w => q w.2)]
    refine z_if_eqZ (tgt := 23) C dX9_noQuestion_16 (by decide) (by omega) (fun h16 => ?_) (fun h16 => ?_)
    · refine z_iconst C dX9_noQuestion_23 ?_
      refine z_iret C hQ dX9_noQuestion_24 rfl (by decide) (by decide) ?_
      rw [et]
      exact ⟨0, F3, rfl, f2.tr f10 ⟨rfl, rfl⟩, o10, p2.tr p10 ⟨rfl, rfl⟩, e10, .inr ⟨rfl, z10.f h16⟩⟩
    · refine z_iconst C dX9_noQuestion_19 ?_
      refine z_goto (tgt := 24) C dX9_noQuestion_20 (by decide) ?_
      refine z_iret C hQ dX9_noQuestion_24 rfl (by decide) (by decide) ?_
      rw [et]
      exact ⟨1, F3, rfl, f2.tr f10 ⟨rfl, rfl⟩, o10, p2.tr p10 ⟨rfl, rfl⟩, e10, .inl ⟨rfl, z10.t h16⟩⟩

