def hCh (γ : zG) (M : zM) (a : Nat) (T B E : Int) (mk : Int32) : Prop := M a = some (.inr (1, [.long (zl T), .long (zl B), .int (zi E), .int mk]))
set_option maxHeartbeats 4000000 in
set_option maxRecDepth 100000 in
theorem k_X1_divisorFor {l : Launch} {γ : zG} {M : zM} {me S0 D0 : Int} (hm : zR me) :
    zCon l γ yX1_divisorFor cX1_divisorFor 3 (some .int) [.int (zi me), .int (zi S0), .int (zi D0)] M 0 0 0 0 (fun v' M' => ∃ r : Int, v' = some (.int (zi r)) ∧ M' = M ∧ r = zxd me S0 D0) (fun _ _ => False) := by
  unfold zR at hm
  refine zEnter [some (.int (zi me)), some (.int (zi S0)), some (.int (zi D0))] (by decide +kernel) rfl rfl (Nat.le_of_ble_eq_true rfl) ?_
  intro p e s m args below meth c Q C hin hQ
  refine z_iload_n C dX1_divisorFor_0 rfl ?_
  refine z_if_neZ (tgt := 8) C dX1_divisorFor_1 (by decide) (by omega) (fun h1 => ?_) (fun h1 => ?_)
  · refine z_iload_n C dX1_divisorFor_8 rfl ?_
    refine z_iconst C dX1_divisorFor_9 ?_
    refine z_icmp_neZ (tgt := 19) C dX1_divisorFor_10 (by decide) (by omega) (by omega) (fun h10 => ?_) (fun h10 => ?_)
    · refine z_iconst C dX1_divisorFor_19 ?_
      refine z_iload_n C dX1_divisorFor_20 rfl ?_
      refine z_imulZ C dX1_divisorFor_21 ?_
      refine z_iret C hQ dX1_divisorFor_22 rfl (by decide) (by decide) ?_
      exact ⟨_, rfl, rfl, by rw [zxd, if_neg h1, if_neg h10]⟩
    · refine z_iload_n C dX1_divisorFor_13 rfl ?_
      refine z_iload_n C dX1_divisorFor_14 rfl ?_
      refine z_iaddZ C dX1_divisorFor_15 ?_
      refine z_goto (tgt := 22) C dX1_divisorFor_16 (by decide) ?_
      refine z_iret C hQ dX1_divisorFor_22 rfl (by decide) (by decide) ?_
      exact ⟨_, rfl, rfl, by rw [zxd, if_neg h1, if_pos (by omega)]⟩
  · refine z_iload_n C dX1_divisorFor_4 rfl ?_
    refine z_iconst C dX1_divisorFor_5 ?_
    refine z_iaddZ C dX1_divisorFor_6 ?_
    refine z_iret C hQ dX1_divisorFor_7 rfl (by decide) (by decide) ?_
    exact ⟨_, rfl, rfl, by rw [zxd, if_pos h1]⟩
/-- what a visit of order o does -/
def zVp (c : Int → Int) (b p o s me : Int) (T B E : Int) (mk : Int32) (r T' B' E' : Int) (mk' : Int32) : Prop := (zxn c b p o = 0 ∧ r = 0 ∧ T' = T ∧ B' = B ∧ E' = E ∧ mk' = mk) ∨ (zxn c b p o ≠ 0 ∧ zlv c b p s = o ∧ r = 1 ∧ T' = T * zxg me (c (zCs o b p + s)) ∧ B' = B * zxd me (zxs c b p o) (zxn c b p o) ∧ E' = E) ∨ (zxn c b p o ≠ 0 ∧ zlv c b p s ≠ o ∧ r = 0 ∧ T' = T * zxf me (zxn c b p o) ∧ B' = B * zxd me (zxs c b p o) (zxn c b p o) ∧ E' = E + 1 ∧ zXm c b p (o - 1) mk')
set_option maxHeartbeats 4000000 in
set_option maxRecDepth 100000 in
theorem k_X1_visit {l : Launch} {γ : zG} {M : zM} {a ca k v : Nat} {T B E : Int} {mk : Int32} {c0 : Int → Int} {pb pp o s0 me : Int} (hH : hCh γ M a T B E mk) (hX : zXm c0 pb pp o mk) (hC : hCn γ M ca k v c0) (ho : 0 ≤ o ∧ o ≤ zFo pb pp) (hst : 0 ≤ zCs o pb pp ∧ zCs o pb pp ≤ 30000) (hs : 0 ≤ s0 ∧ s0 < 27) (hm : 0 ≤ me ∧ me ≤ 2) :
    zCon l γ yX1_visit cX1_visit 11 (some .boolean) [.ref a, .ref ca, .int (zi me), .int (zi (zCs o pb pp)), .int (zi s0)] M 1 24 0 0 (fun v' M' => ∃ r T' B' E' mk', v' = some (.int (zi r)) ∧ zFr M M' [a] ∧ hCh γ M' a T' B' E' mk' ∧ zVp c0 pb pp o s0 me T B E mk r T' B' E' mk') (fun _ _ => False) := by
  have hcR : zcR c0 := fun x => hC.rng x
  obtain ⟨-, n, ks, vs, hC, hS, hR⟩ := hC
  have hcp := fun key h => @k_X2_placeOf l γ M ca k v ks vs n key hC hS h
  obtain ⟨hC, hCk, hCv⟩ := hC
  obtain ⟨hn, hks, hvs, hsort⟩ := id hS
  have n1 := zne_kk hC hH (by decide)
  have hlev : ∀ y : Int, 0 ≤ y → y < 27 → (∀ j : Nat, j < n → ks j ≠ zCs o pb pp + y) → zlv c0 pb pp y ≠ o := fun y y1 y2 h => zlv_ne ho.1 (by
    by_cases e : c0 (zCs o pb pp + y) = 0
    · exact e
    · obtain ⟨j, hj, q⟩ := hR.2 _ e
      exact absurd q (h j hj))
  have hge := fun y h => @zlv_ge c0 pb pp y o ho h
  have hnr := zxn_rng c0 pb pp o
  have hsr := zxs_rng hcR pb pp ho.1
  have hdr := fun h => @zxd_rng c0 hcR pb pp o me ho.1 h
  have hF := @zvF_rng c0 hcR pb pp o s0
  have hFe : zvF c0 pb pp o s0 = if zlv c0 pb pp s0 = o then c0 (zCs o pb pp + s0) else 0 := rfl
  have hput := fun x S D m mk1 => @zVi.put c0 pb pp o s0 x S D m mk1
  have hHa := hH
  unfold hCh at hHa
  generalize hx0 : zCs o pb pp = x0 at *
  refine zEnter [some (.ref a), some (.ref ca), some (.int (zi me)), some (.int (zi x0)), some (.int (zi s0)), none, none, none, none, none, none] (by decide +kernel) rfl rfl (Nat.le_of_ble_eq_true rfl) ?_
  intro p e s m args below meth c Q C hin hQ
  have fin : ∀ (S D nn i : Int) (mk1 : Int32) (x10 : Option Value), zVi c0 pb pp o s0 27 S D nn mk1 → zAW p l e { frames := 1, cells := 0, slots := 0, locals := 24 } s m args below meth c γ 11 Q M 0 0 124 [some (.ref a), some (.ref ca), some (.int (zi me)), some (.int (zi x0)), some (.int (zi s0)), some (.int (zi S)), some (.int (zi D)), some (.int (zi nn)), some (.int mk1), some (.int (zi i)), x10] [] := by
    intro S D nn i mk1 x10 hV
    obtain ⟨e1, e2, e3, e4⟩ := hV.fin hs
    subst e1 e2 e3
    refine z_iload C dX1_visit_124 rfl ?_
    refine z_if_neZ (tgt := 131) C dX1_visit_126 (by decide) (by omega) (fun h126 => ?_) (fun h126 => ?_)
    · have q126 := hdr h126
      refine z_aload_n C dX1_visit_131 rfl ?_
      refine z_dup C dX1_visit_132 rfl ?_
      refine z_get C dX1_visit_133 fl_X1_15 (by first | assumption | ((repeat (first | assumption | exact va_up_self _ _ _ | refine (va_up_ne _ _ (by assumption)).trans ?_)); done) | (simp [va_up, *] <;> rfl)) rfl ?_
      refine z_iload_n C dX1_visit_136 rfl ?_
      refine z_iload C dX1_visit_137 rfl ?_
      refine z_iload C dX1_visit_139 rfl ?_
      refine z_callS C dX1_visit_141 lk_X1_70 mw_X1_divisorFor mst_X1_divisorFor (k_X1_divisorFor (by unfold zR; omega)) rfl (by first | decide | exact Nat.le_of_ble_eq_true rfl) ⟨by decide, by decide, by decide, by decide⟩ (fun _ _ h => False.elim h) (fun v M' hp => ?_)
      obtain ⟨r141, rfl, rfl, hr141⟩ := hp
      subst hr141
      refine z_i2lZ C dX1_visit_144 (by unfold zR; omega) ?_
      refine z_lmulZ C dX1_visit_145 ?_
      refine z_put C dX1_visit_146 fl_X1_15 (by first | assumption | ((repeat (first | assumption | exact va_up_self _ _ _ | refine (va_up_ne _ _ (by assumption)).trans ?_)); done) | (simp [va_up, *] <;> rfl)) rfl rfl (by simp) ?_
      refine z_iload C dX1_visit_149 rfl ?_
      refine z_if_leZ (tgt := 183) C dX1_visit_151 (by decide) (by omega) (fun h151 => ?_) (fun h151 => ?_)
      · refine z_aload_n C dX1_visit_183 rfl ?_
        refine z_dup C dX1_visit_184 rfl ?_
        refine z_get C dX1_visit_185 fl_X1_9 (by first | assumption | ((repeat (first | assumption | exact va_up_self _ _ _ | refine (va_up_ne _ _ (by assumption)).trans ?_)); done) | (simp [va_up, *] <;> rfl)) rfl ?_
        refine z_iload_n C dX1_visit_188 rfl ?_
        refine z_if_neZ (tgt := 196) C dX1_visit_189 (by decide) (by omega) (fun h189 => ?_) (fun h189 => ?_)
        · refine z_iload C dX1_visit_196 rfl ?_
          refine z_i2lZ C dX1_visit_198 (by unfold zR; omega) ?_
          refine z_lmulZ C dX1_visit_199 ?_
          refine z_put C dX1_visit_200 fl_X1_9 (by first | assumption | ((repeat (first | assumption | exact va_up_self _ _ _ | refine (va_up_ne _ _ (by assumption)).trans ?_)); done) | (simp [va_up, *] <;> rfl)) rfl rfl (by simp) ?_
          refine z_aload_n C dX1_visit_203 rfl ?_
          refine z_iload C dX1_visit_204 rfl ?_
          refine z_put C dX1_visit_206 fl_X1_22 (by first | assumption | ((repeat (first | assumption | exact va_up_self _ _ _ | refine (va_up_ne _ _ (by assumption)).trans ?_)); done) | (simp [va_up, *] <;> rfl)) rfl rfl (by simp) ?_
          refine z_aload_n C dX1_visit_209 rfl ?_
          refine z_dup C dX1_visit_210 rfl ?_
          refine z_get C dX1_visit_211 fl_X1_18 (by first | assumption | ((repeat (first | assumption | exact va_up_self _ _ _ | refine (va_up_ne _ _ (by assumption)).trans ?_)); done) | (simp [va_up, *] <;> rfl)) rfl ?_
          refine z_iconst C dX1_visit_214 ?_
          refine z_iaddZ C dX1_visit_215 ?_
          refine z_put C dX1_visit_216 fl_X1_18 (by first | assumption | ((repeat (first | assumption | exact va_up_self _ _ _ | refine (va_up_ne _ _ (by assumption)).trans ?_)); done) | (simp [va_up, *] <;> rfl)) rfl rfl (by simp) ?_
          refine z_iconst C dX1_visit_219 ?_
          refine z_iret C hQ dX1_visit_220 rfl (by decide) (by decide) ?_
          have q2 : zlv c0 pb pp s0 ≠ o := fun q => by
            rw [if_pos q] at hFe
            have := zlv_ne ho.1 (c := c0) (b := pb) (p := pp) (s := s0) (o := o) (by rw [hx0]; omega)
            exact this q
          refine ⟨0, _, _, _, mk1, rfl, zFr.u2 (zFr.u2 zFr.rf (by simp) (by simp)) (by simp) (by simp), va_up_self _ _ _, .inr (.inr ⟨h126, q2, rfl, ?_, rfl, rfl, e4⟩)⟩
          rw [zxf, if_neg (by omega)]
        · refine z_lconstZ (x := 1) C dX1_visit_192 rfl ?_
          refine z_goto (tgt := 199) C dX1_visit_193 (by decide) ?_
          refine z_lmulZ C dX1_visit_199 ?_
          refine z_put C dX1_visit_200 fl_X1_9 (by first | assumption | ((repeat (first | assumption | exact va_up_self _ _ _ | refine (va_up_ne _ _ (by assumption)).trans ?_)); done) | (simp [va_up, *] <;> rfl)) rfl rfl (by simp) ?_
          refine z_aload_n C dX1_visit_203 rfl ?_
          refine z_iload C dX1_visit_204 rfl ?_
          refine z_put C dX1_visit_206 fl_X1_22 (by first | assumption | ((repeat (first | assumption | exact va_up_self _ _ _ | refine (va_up_ne _ _ (by assumption)).trans ?_)); done) | (simp [va_up, *] <;> rfl)) rfl rfl (by simp) ?_
          refine z_aload_n C dX1_visit_209 rfl ?_
          refine z_dup C dX1_visit_210 rfl ?_
          refine z_get C dX1_visit_211 fl_X1_18 (by first | assumption | ((repeat (first | assumption | exact va_up_self _ _ _ | refine (va_up_ne _ _ (by assumption)).trans ?_)); done) | (simp [va_up, *] <;> rfl)) rfl ?_
          refine z_iconst C dX1_visit_214 ?_
          refine z_iaddZ C dX1_visit_215 ?_
          refine z_put C dX1_visit_216 fl_X1_18 (by first | assumption | ((repeat (first | assumption | exact va_up_self _ _ _ | refine (va_up_ne _ _ (by assumption)).trans ?_)); done) | (simp [va_up, *] <;> rfl)) rfl rfl (by simp) ?_
          refine z_iconst C dX1_visit_219 ?_
          refine z_iret C hQ dX1_visit_220 rfl (by decide) (by decide) ?_
          have q2 : zlv c0 pb pp s0 ≠ o := fun q => by
            rw [if_pos q] at hFe
            have := zlv_ne ho.1 (c := c0) (b := pb) (p := pp) (s := s0) (o := o) (by rw [hx0]; omega)
            exact this q
          refine ⟨0, _, _, _, mk1, rfl, zFr.u2 (zFr.u2 zFr.rf (by simp) (by simp)) (by simp) (by simp), va_up_self _ _ _, .inr (.inr ⟨h126, q2, rfl, ?_, rfl, rfl, e4⟩)⟩
          rw [zxf, if_pos (by omega)]
      · refine z_aload_n C dX1_visit_154 rfl ?_
        refine z_dup C dX1_visit_155 rfl ?_
        refine z_get C dX1_visit_156 fl_X1_9 (by first | assumption | ((repeat (first | assumption | exact va_up_self _ _ _ | refine (va_up_ne _ _ (by assumption)).trans ?_)); done) | (simp [va_up, *] <;> rfl)) rfl ?_
        refine z_iload_n C dX1_visit_159 rfl ?_
        refine z_iconst C dX1_visit_160 ?_
        refine z_icmp_neZ (tgt := 174) C dX1_visit_161 (by decide) (by omega) (by omega) (fun h161 => ?_) (fun h161 => ?_)
        · refine z_iload C dX1_visit_174 rfl ?_
          refine z_i2lZ C dX1_visit_176 (by unfold zR; omega) ?_
          refine z_lmulZ C dX1_visit_177 ?_
          refine z_put C dX1_visit_178 fl_X1_9 (by first | assumption | ((repeat (first | assumption | exact va_up_self _ _ _ | refine (va_up_ne _ _ (by assumption)).trans ?_)); done) | (simp [va_up, *] <;> rfl)) rfl rfl (by simp) ?_
          refine z_iconst C dX1_visit_181 ?_
          refine z_iret C hQ dX1_visit_182 rfl (by decide) (by decide) ?_
          have q2 : zlv c0 pb pp s0 = o := by
            by_cases q : zlv c0 pb pp s0 = o
            · exact q
            · rw [if_neg q] at hFe
              omega
          rw [if_pos q2] at hFe
          refine ⟨1, _, _, E, mk, rfl, zFr.u2 zFr.rf (by simp) (by simp), va_up_self _ _ _, .inr (.inl ⟨h126, q2, rfl, ?_, rfl, rfl⟩)⟩
          rw [hx0, ← hFe, zxg, if_neg (by omega)]
        · refine z_iconst C dX1_visit_164 ?_
          refine z_iload C dX1_visit_165 rfl ?_
          refine z_imulZ C dX1_visit_167 ?_
          refine z_iconst C dX1_visit_168 ?_
          refine z_isubZ C dX1_visit_169 ?_
          refine z_i2lZ C dX1_visit_170 (by unfold zR; omega) ?_
          refine z_goto (tgt := 177) C dX1_visit_171 (by decide) ?_
          refine z_lmulZ C dX1_visit_177 ?_
          refine z_put C dX1_visit_178 fl_X1_9 (by first | assumption | ((repeat (first | assumption | exact va_up_self _ _ _ | refine (va_up_ne _ _ (by assumption)).trans ?_)); done) | (simp [va_up, *] <;> rfl)) rfl rfl (by simp) ?_
          refine z_iconst C dX1_visit_181 ?_
          refine z_iret C hQ dX1_visit_182 rfl (by decide) (by decide) ?_
          have q2 : zlv c0 pb pp s0 = o := by
            by_cases q : zlv c0 pb pp s0 = o
            · exact q
            · rw [if_neg q] at hFe
              omega
          rw [if_pos q2] at hFe
          refine ⟨1, _, _, E, mk, rfl, zFr.u2 zFr.rf (by simp) (by simp), va_up_self _ _ _, .inr (.inl ⟨h126, q2, rfl, ?_, rfl, rfl⟩)⟩
          rw [hx0, ← hFe, zxg, if_pos (by omega)]
    · refine z_iconst C dX1_visit_129 ?_
      refine z_iret C hQ dX1_visit_130 rfl (by decide) (by decide) ?_
      exact ⟨0, T, B, E, mk, rfl, zFr.rf, hH, .inl ⟨h126, rfl, rfl, rfl, rfl, rfl⟩⟩
  have loop : ∀ (t : Nat) (i x S D nn : Int) (mk1 : Int32) (x10 : Option Value), 0 ≤ i ∧ i ≤ n ∧ n - i = t → (∀ j : Nat, j < i → ks j < x0 + x) → (∀ j : Nat, i ≤ j → j < n → x0 + x ≤ ks j) → zVi c0 pb pp o s0 x S D nn mk1 → zAW p l e { frames := 1, cells := 0, slots := 0, locals := 24 } s m args below meth c γ 11 Q M 0 0 22 [some (.ref a), some (.ref ca), some (.int (zi me)), some (.int (zi x0)), some (.int (zi s0)), some (.int (zi S)), some (.int (zi D)), some (.int (zi nn)), some (.int mk1), some (.int (zi i)), x10] [] := by
    intro t
    induction t with
    | zero =>
      intro i x S D nn mk1 x10 hi h1 h2 hV
      have hx := hV.1
      refine z_iload C dX1_visit_22 rfl ?_
      refine z_aload_n C dX1_visit_24 rfl ?_
      refine z_get C dX1_visit_25 fl_X1_60 (by first | assumption | ((repeat (first | assumption | exact va_up_self _ _ _ | refine (va_up_ne _ _ (by assumption)).trans ?_)); done) | (simp [va_up, *] <;> rfl)) rfl ?_
      refine z_icmp_geZ (tgt := 124) C dX1_visit_28 (by decide) (by omega) (by omega) (fun h28 => ?_) (fun h28 => ?_)
      · refine fin S D nn i mk1 x10 (hV.adv ⟨hx.2, by omega⟩ fun y y1 y2 => hlev y (by omega) y2 fun j hj q => ?_)
        have := h1 j (by omega)
        omega
      · exact absurd h28 (by omega)
    | succ t ih =>
      intro i x S D nn mk1 x10 hi h1 h2 hV
      have hx := hV.1
      have e1 := h2 i.toNat (by omega) (by omega)
      have e2 := hR.1 i.toNat (by omega)
      have e3 := fun (j : Nat) (h1 : i.toNat < j) (h2 : j < n) => hsort i.toNat j h1 h2
      have e4 := fun (j : Nat) (h1 : j < i.toNat) => hsort j i.toNat h1 (by omega)
      have nx : ks i.toNat < x0 + 27 → ∀ (S1 D1 m1 : Int) (mk2 : Int32) (y10 : Option Value), zVi c0 pb pp o s0 (ks i.toNat - x0 + 1) S1 D1 m1 mk2 → zAW p l e { frames := 1, cells := 0, slots := 0, locals := 24 } s m args below meth c γ 11 Q M 0 0 22 [some (.ref a), some (.ref ca), some (.int (zi me)), some (.int (zi x0)), some (.int (zi s0)), some (.int (zi S1)), some (.int (zi D1)), some (.int (zi m1)), some (.int mk2), some (.int (zi (i + 1))), y10] [] := fun hk S1 D1 m1 mk2 y10 hV1 => ih (i + 1) (ks i.toNat - x0 + 1) S1 D1 m1 mk2 y10 (by omega) (fun j hj => by
        by_cases e : j = i.toNat
        · subst e
          omega
        · have := e4 j (by omega)
          omega) (fun j hj hj2 => by
        have := e3 j (by omega) hj2
        omega) hV1
      have hadv : ks i.toNat < x0 + 27 → zVi c0 pb pp o s0 (ks i.toNat - x0) S D nn mk1 := fun hk => hV.adv (by omega) fun y y1 y2 => hlev y (by omega) (by omega) fun j hj q => by
        by_cases e : (j : Int) < i
        · have := h1 j e
          omega
        · by_cases e' : j = i.toNat
          · subst e'
            omega
          · have := e3 j (by omega) hj
            omega
      have hlk : ks i.toNat < x0 + 27 → o ≤ zlv c0 pb pp (ks i.toNat - x0) := fun hk => hge _ (by rw [show x0 + (ks i.toNat - x0) = ks i.toNat by omega]; omega)
      have hbx : ks i.toNat < x0 + 27 → (zbit mk (ks i.toNat - x0).toNat = true ↔ o < zlv c0 pb pp (ks i.toNat - x0)) := fun hk => by
        have := hX (ks i.toNat - x0).toNat
        rw [show (((ks i.toNat - x0).toNat : Nat) : Int) = ks i.toNat - x0 by omega] at this
        rw [this]
        omega
      have hba := fun hk : ks i.toNat < x0 + 27 => zbit_and mk (s := ks i.toNat - x0) (by omega)
      refine z_iload C dX1_visit_22 rfl ?_
      refine z_aload_n C dX1_visit_24 rfl ?_
      refine z_get C dX1_visit_25 fl_X1_60 (by first | assumption | ((repeat (first | assumption | exact va_up_self _ _ _ | refine (va_up_ne _ _ (by assumption)).trans ?_)); done) | (simp [va_up, *] <;> rfl)) rfl ?_
      refine z_icmp_geZ (tgt := 124) C dX1_visit_28 (by decide) (by omega) (by omega) (fun h28 => ?_) (fun h28 => ?_)
      · exact absurd h28 (by omega)
      · refine z_aload_n C dX1_visit_31 rfl ?_
        refine z_get C dX1_visit_32 fl_X1_63 (by first | assumption | ((repeat (first | assumption | exact va_up_self _ _ _ | refine (va_up_ne _ _ (by assumption)).trans ?_)); done) | (simp [va_up, *] <;> rfl)) rfl ?_
        refine z_iload C dX1_visit_35 rfl ?_
        refine z_aldN C dX1_visit_37 (by first | assumption | ((repeat (first | assumption | exact va_up_self _ _ _ | refine (va_up_ne _ _ (by assumption)).trans ?_)); done) | (simp [va_up, *] <;> rfl)) (by omega) (by omega) (by assumption) (fun hr37 => ?_)
        refine z_iload_n C dX1_visit_38 rfl ?_
        refine z_bipush C dX1_visit_39 (by decide) ?_
        refine z_iaddZ C dX1_visit_41 ?_
        refine z_icmp_geZ (tgt := 124) C dX1_visit_42 (by decide) (by omega) (by omega) (fun h42 => ?_) (fun h42 => ?_)
        · refine fin S D nn i mk1 x10 (hV.adv ⟨hx.2, by omega⟩ fun y y1 y2 => hlev y (by omega) y2 fun j hj q => ?_)
          by_cases e : (j : Int) < i
          · have := h1 j e
            omega
          · by_cases e' : j = i.toNat
            · subst e'
              omega
            · have := e3 j (by omega) hj
              omega
        · have h42 : ks i.toNat < x0 + 27 := by omega
          refine z_iconst C dX1_visit_45 ?_
          refine z_aload_n C dX1_visit_46 rfl ?_
          refine z_get C dX1_visit_47 fl_X1_63 (by first | assumption | ((repeat (first | assumption | exact va_up_self _ _ _ | refine (va_up_ne _ _ (by assumption)).trans ?_)); done) | (simp [va_up, *] <;> rfl)) rfl ?_
          refine z_iload C dX1_visit_50 rfl ?_
          refine z_aldN C dX1_visit_52 (by first | assumption | ((repeat (first | assumption | exact va_up_self _ _ _ | refine (va_up_ne _ _ (by assumption)).trans ?_)); done) | (simp [va_up, *] <;> rfl)) (by omega) (by omega) (by assumption) (fun hr52 => ?_)
          refine z_iload_n C dX1_visit_53 rfl ?_
          refine z_isubZ C dX1_visit_54 ?_
          refine z_ishl C dX1_visit_55 ?_
          refine z_istore C dX1_visit_56 (by decide) ?_
          refine z_aload_n C dX1_visit_58 rfl ?_
          refine z_get C dX1_visit_59 fl_X1_22 (by first | assumption | ((repeat (first | assumption | exact va_up_self _ _ _ | refine (va_up_ne _ _ (by assumption)).trans ?_)); done) | (simp [va_up, *] <;> rfl)) rfl ?_
          refine z_iload C dX1_visit_62 rfl ?_
          refine z_iand C dX1_visit_64 ?_
          refine z_if_ne (tgt := 118) C dX1_visit_65 (by decide) (fun h65 => ?_) (fun h65 => ?_)
          · refine z_iincZ C dX1_visit_118 rfl (by decide) ?_
            refine z_goto (tgt := 22) C dX1_visit_121 (by decide) ?_
            refine nx h42 _ _ _ _ _ ((hadv h42).adv (by omega) fun y y1 y2 => ?_)
            rw [show y = ks i.toNat - x0 by omega]
            have hz : zbit mk (ks i.toNat - x0).toNat = true := by
              by_cases e : zbit mk (ks i.toNat - x0).toNat = true
              · exact e
              · exact absurd ((hba h42).mpr (by simpa using e)) h65
            have := (hbx h42).mp hz
            omega
          · have q65 : zlv c0 pb pp (ks i.toNat - x0) = o := by
              have z1 := (hba h42).mp h65
              have z2 := hlk h42
              by_cases e : o < zlv c0 pb pp (ks i.toNat - x0)
              · rw [(hbx h42).mpr e] at z1
                cases z1
              · omega
            have q66 := hput _ _ _ _ _ (hadv h42) (by omega) q65
            rw [show x0 + (ks i.toNat - x0) = ks i.toNat by omega, e2.2.2] at q66
            refine z_iload C dX1_visit_68 rfl ?_
            refine z_aload_n C dX1_visit_70 rfl ?_
            refine z_get C dX1_visit_71 fl_X1_67 (by first | assumption | ((repeat (first | assumption | exact va_up_self _ _ _ | refine (va_up_ne _ _ (by assumption)).trans ?_)); done) | (simp [va_up, *] <;> rfl)) rfl ?_
            refine z_iload C dX1_visit_74 rfl ?_
            refine z_aldN C dX1_visit_76 (by first | assumption | ((repeat (first | assumption | exact va_up_self _ _ _ | refine (va_up_ne _ _ (by assumption)).trans ?_)); done) | (simp [va_up, *] <;> rfl)) (by omega) (by omega) (by assumption) (fun hr76 => ?_)
            refine z_iaddZ C dX1_visit_77 ?_
            refine z_istore C dX1_visit_78 (by decide) ?_
            refine z_iincZ C dX1_visit_80 rfl (by decide) ?_
            refine z_iload C dX1_visit_83 rfl ?_
            refine z_iload C dX1_visit_85 rfl ?_
            refine z_ior C dX1_visit_87 ?_
            refine z_istore C dX1_visit_88 (by decide) ?_
            refine z_aload_n C dX1_visit_90 rfl ?_
            refine z_get C dX1_visit_91 fl_X1_63 (by first | assumption | ((repeat (first | assumption | exact va_up_self _ _ _ | refine (va_up_ne _ _ (by assumption)).trans ?_)); done) | (simp [va_up, *] <;> rfl)) rfl ?_
            refine z_iload C dX1_visit_94 rfl ?_
            refine z_aldN C dX1_visit_96 (by first | assumption | ((repeat (first | assumption | exact va_up_self _ _ _ | refine (va_up_ne _ _ (by assumption)).trans ?_)); done) | (simp [va_up, *] <;> rfl)) (by omega) (by omega) (by assumption) (fun hr96 => ?_)
            refine z_iload_n C dX1_visit_97 rfl ?_
            refine z_isubZ C dX1_visit_98 ?_
            refine z_iload C dX1_visit_99 rfl ?_
            refine z_icmp_neZ (tgt := 114) C dX1_visit_101 (by decide) (by omega) (by omega) (fun h101 => ?_) (fun h101 => ?_)
            · refine z_iload C dX1_visit_114 rfl ?_
              refine z_istore C dX1_visit_116 (by decide) ?_
              refine z_iincZ C dX1_visit_118 rfl (by decide) ?_
              refine z_goto (tgt := 22) C dX1_visit_121 (by decide) ?_
              rw [if_neg h101] at q66
              exact nx h42 _ _ _ _ _ q66
            · refine z_aload_n C dX1_visit_104 rfl ?_
              refine z_get C dX1_visit_105 fl_X1_67 (by first | assumption | ((repeat (first | assumption | exact va_up_self _ _ _ | refine (va_up_ne _ _ (by assumption)).trans ?_)); done) | (simp [va_up, *] <;> rfl)) rfl ?_
              refine z_iload C dX1_visit_108 rfl ?_
              refine z_aldN C dX1_visit_110 (by first | assumption | ((repeat (first | assumption | exact va_up_self _ _ _ | refine (va_up_ne _ _ (by assumption)).trans ?_)); done) | (simp [va_up, *] <;> rfl)) (by omega) (by omega) (by assumption) (fun hr110 => ?_)
              refine z_goto (tgt := 116) C dX1_visit_111 (by decide) ?_
              refine z_istore C dX1_visit_116 (by decide) ?_
              refine z_iincZ C dX1_visit_118 rfl (by decide) ?_
              refine z_goto (tgt := 22) C dX1_visit_121 (by decide) ?_
              rw [if_pos (by omega)] at q66
              exact nx h42 _ _ _ _ _ q66
  refine z_iconst C dX1_visit_0 ?_
  refine z_istore C dX1_visit_1 (by decide) ?_
  refine z_iconst C dX1_visit_3 ?_
  refine z_istore C dX1_visit_4 (by decide) ?_
  refine z_iconst C dX1_visit_6 ?_
  refine z_istore C dX1_visit_7 (by decide) ?_
  refine z_aload_n C dX1_visit_9 rfl ?_
  refine z_get C dX1_visit_10 fl_X1_22 (by first | assumption | ((repeat (first | assumption | exact va_up_self _ _ _ | refine (va_up_ne _ _ (by assumption)).trans ?_)); done) | (simp [va_up, *] <;> rfl)) rfl ?_
  refine z_istore C dX1_visit_13 (by decide) ?_
  refine z_aload_n C dX1_visit_15 rfl ?_
  refine z_iload_n C dX1_visit_16 rfl ?_
  refine z_callV C dX1_visit_17 lk_X1_55 mw_X2_placeOf mi_X2_placeOf ms_X2_placeOf rfl (by first | assumption | ((repeat (first | assumption | exact va_up_self _ _ _ | refine (va_up_ne _ _ (by assumption)).trans ?_)); done) | (simp [va_up, *] <;> rfl)) (hcp x0 (by unfold zR; omega)) rfl (by first | decide | exact Nat.le_of_ble_eq_true rfl) ⟨by decide, by decide, by decide, by decide⟩ (fun _ _ h => False.elim h) (fun v M' hp => ?_)
  obtain ⟨r, rfl, rfl, hp2⟩ := hp
  have hp3 := hp2.1
  have hp4 := hp2.2.1
  refine z_istore C dX1_visit_20 (by decide) ?_
  exact loop (n - r).toNat r 0 0 0 0 mk none (by omega) (fun j hj => by have := hp2.2.2.1 j hj; omega) (fun j hj hj2 => by have := hp2.2.2.2 j hj hj2; omega) (zVi.ini hX hs.1)

