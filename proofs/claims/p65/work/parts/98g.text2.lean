section ZR66
variable {p : Program} {l : Launch} {e : Env} {R : Room} {s : State} {m : MethodId} {args : Array Value} {below : List Frame} {meth : Method} {c : Code} {γ : zG} {cc : ByteArray} {nL : Nat} {ret : Option FieldType} {own : String} {xt : List ExceptionTableEntry} {Q : State → Prop} {M : zM} {k n pc : Nat} {L : zL} {st : List Value}
theorem zC.lo (C : zC p l s m args meth c γ cc nL ret own xt) {i : Nat} (hi : i < 26) : γ.2.2.2.2 i < γ.2.1.size := by
  obtain ⟨cell, h, -⟩ := (C.ev.2.2.2.2.1.1 i hi).2.2.2
  exact (Array.getElem?_eq_some_iff.mp h).1
theorem z_dom (kk : (∀ b x, M b = some x → γ.2.1.size ≤ b) → zAW p l e R s m args below meth c γ nL Q M k n pc L st) : zAW p l e R s m args below meth c γ nL Q M k n pc L st := fun H locs ls hH hl hL hz => kk (fun b x h => (hH.2 b x h).1) H locs ls hH hl hL hz
end ZR66
theorem hSb.nw {γ : zG} {M M' : zM} {a v m : Nat} {w : List Int} (h : hSb γ M a v w m) (q : zNw M M') : hSb γ M' a v w m := by
  obtain ⟨h1, h2, h3, g, h4, h5⟩ := h
  exact ⟨h1, h2, q _ _ h3, g, q _ _ h4, h5⟩
theorem hSb.une {γ : zG} {M : zM} {a v m u : Nat} {w : List Int} {X : zM} (h : hSb γ M a v w m) (hu : M u = none) : ∀ y, X u = some (.inl y) → u ≠ v := fun _ _ e => by
  obtain ⟨-, -, -, g, h4, -⟩ := h
  rw [e, h4] at hu
  cases hu
theorem zup_no {M : zM} {q v : Nat} {x : Option va_E} (hq : M q = none) (hv : va_up M q x v = none) : M v = none := by
  by_cases e : v = q
  · rw [e]
    exact hq
  · rwa [va_up_ne _ _ e] at hv
theorem zSw_xyz : ∀ j, j < 3 → (zSw 20).getD j 0 = 120 + (j : Int) := by decide +kernel
theorem zSw_acd : ∀ j, j < 3 → (zSw 21).getD j 0 = 97 ∨ (zSw 21).getD j 0 = 99 ∨ (zSw 21).getD j 0 = 100 := by decide +kernel
theorem zSw_19 : zSw 19 = [114, 101, 97, 100, 101, 114, 32, 114] := by decide +kernel
theorem zSw_22 : zSw 22 = [100, 111, 99, 117, 109, 101, 110, 116, 32] := by decide +kernel
theorem zSw_24 : zSw 24 = [121, 101, 97, 114, 59] := by decide +kernel
theorem zSw_25 : zSw 25 = [116, 114, 97, 105, 110, 32, 114] := by decide +kernel
set_option maxHeartbeats 4000000 in
set_option maxRecDepth 100000 in
theorem k_L_text {l : Launch} {γ : zG} {M : zM} :
    zCon l γ yL_text cL_text 7 (some (.object "java/lang/String")) [.ref (γ.2.2.2.1 26)] M 7 260 116 100800 (fun v' M' => ∃ (b u : Nat) (w : List Int) (r d y : Int) (k : Nat), v' = some (.ref b) ∧ hSg γ M' b u w ∧ M b = none ∧ M u = none ∧ zNw M M' ∧ w.length ≤ 200 ∧ zPx w r d y y k ∧ (1 ≤ r ∧ r ≤ 3) ∧ (1 ≤ d ∧ d ≤ 3) ∧ (0 ≤ y ∧ y ≤ 6) ∧ k ≤ 20) (fun _ _ => False) := by
  refine zEnter [some (.ref (γ.2.2.2.1 26)), none, none, none, none, none, none] (by decide +kernel) rfl rfl (Nat.le_of_ble_eq_true rfl) ?_
  intro p e s m args below meth c Q C hin hQ
  have loopC : ∀ (N r d y : Int) (a : Nat), 0 ≤ N ∧ N ≤ 2147483647 → 1 ≤ r ∧ r ≤ 3 → 1 ≤ d ∧ d ≤ 3 → 0 ≤ y ∧ y ≤ 6 → ∀ (q t : Nat) (M1 : zM) (w : List Int) (k : Nat) (o6 : Option Value), (t : Int) + q = y → zBd γ M M1 a w → w.length ≤ 108 + 11 * t → k ≤ 6 + t → zPx w r d t t k → zAW p l e { frames := 7, cells := 116, slots := 100800, locals := 260 } s m args below meth c γ 7 Q M1 (83 + 5 * t) (69710 + 5010 * t) 158 [some (.ref (γ.2.2.2.1 26)), some (.int (zi N)), some (.int (zi r)), some (.int (zi d)), some (.ref a), some (.int (zi (q : Int))), o6] [] := by
    intro N r d y a hN hr hd hy q
    induction q with
    | zero =>
      intro t M1 w k o6 ht hB hl hk hP
      obtain ⟨hNw, ha, v, mm, hv, hB⟩ := hB
      have hob := hB.2.2.1
      refine z_iload C dL_text_158 rfl ?_
      refine z_if_leZ (tgt := 247) C dL_text_160 (by decide) (by omega) (fun h160 => ?_) (fun h160 => ?_)
      · refine z_aload C dL_text_247 rfl ?_
        refine z_callV C dL_text_249 lk_L_42 mw_J4_toString_0e30d mi_J4_toString_0e30d ms_J4_toString_0e30d rfl hob (k_B_toString hB) rfl (by first | decide | exact Nat.le_of_ble_eq_true rfl) ⟨by decide, by decide, by show 83 + 5 * t + 2 ≤ 116; omega, by show 69710 + 5010 * t + 1010 ≤ 100800; omega⟩ (fun _ _ h => False.elim h) (fun v M' hp => ?_)
        obtain ⟨b, u, hb, hu, rfl, hS, f249⟩ := hp
        refine z_aret C hQ dL_text_252 (by first | exact Or.inl ⟨_, rfl⟩ | exact Or.inr ⟨_, rfl⟩) (Or.inr ⟨_, rfl⟩) (by show 83 + 5 * t + 2 ≤ 116; omega) (by show 69710 + 5010 * t + 1010 ≤ 100800; omega) ?_
        exact ⟨b, u, w, r, d, t, k, rfl, hS, hNw.no hb, hNw.no hu, hNw.fr f249 (fun x hx => by
          simp only [List.mem_cons, List.not_mem_nil, or_false] at hx
          rcases hx with rfl | rfl
          · exact hNw.no hb
          · exact hNw.no hu), by omega, hP, hr, hd, by omega, by omega⟩
      · exact absurd h160 (by omega)
    | succ q ih =>
      intro t M1 w k o6 ht hB hl hk hP
      refine z_dom fun hdm => ?_
      obtain ⟨hNw, ha, v, mm, hv, hB⟩ := hB
      have hob := hB.2.2.1
      have hcu : ∀ i, i < 26 → ∀ y, M1 (γ.2.2.2.2 i) = some (.inl y) → γ.2.2.2.2 i ≠ v := fun i hi y hy => absurd (hdm _ _ hy) (by have := C.lo hi; omega)
      have hce := zce_rng γ 7
      refine z_iload C dL_text_158 rfl ?_
      refine z_if_leZ (tgt := 247) C dL_text_160 (by decide) (by omega) (fun h160 => ?_) (fun h160 => ?_)
      · exact absurd h160 (by omega)
      · refine z_aload_n C dL_text_163 rfl ?_
        refine z_bipush C dL_text_164 (by decide) ?_
        refine z_callS C dL_text_166 lk_L_46 mw_L_cell mst_L_cell (k_L_cell (k := 7) (by decide)) rfl (by first | decide | exact Nat.le_of_ble_eq_true rfl) ⟨by decide, by decide, by show 83 + 5 * t + 0 ≤ 116; omega, by show 69710 + 5010 * t + 0 ≤ 100800; omega⟩ (fun _ _ h => False.elim h) (fun v M' hp => ?_)
        obtain ⟨rfl, rfl⟩ := hp
        refine z_iconst C dL_text_169 ?_
        refine z_bipush C dL_text_170 (by decide) ?_
        refine z_iload C dL_text_172 rfl ?_
        refine z_imulZ C dL_text_174 ?_
        refine z_iaddZ C dL_text_175 ?_
        refine z_idivZ C dL_text_176 (by omega) (by omega) ?_
        have h176 := zdvr (x := zce γ 7) (d := 1 + 11 * ((q + 1 : Nat) : Int)) hce (by omega)
        generalize zce γ 7 / (1 + 11 * ((q + 1 : Nat) : Int)) = z at h176 ⊢
        refine z_istore C dL_text_177 (by decide) ?_
        refine z_iload C dL_text_179 rfl ?_
        refine z_bipush C dL_text_181 (by decide) ?_
        refine z_iremZ C dL_text_183 (by omega) (by omega) ?_
        refine z_if_neZ (tgt := 198) C dL_text_184 (by decide) (by omega) (fun h184 => ?_) (fun h184 => ?_)
        · refine z_aload C dL_text_198 rfl ?_
          refine z_ldcS (i := 25) C rfl dL_text_200 ?_
          refine z_callV C dL_text_202 lk_L_54 mw_J4_append_15ec4 mi_J4_append_15ec4 ms_J4_append_15ec4 rfl hob (k_B_appS hB (hSg.con γ _ (i := 25) (by decide)) (hcu 25 (by decide)) (by rw [zSw_25]; show w.length + 7 ≤ 500; omega)) rfl (by first | decide | exact Nat.le_of_ble_eq_true rfl) ⟨by decide, by decide, by show 83 + 5 * t + 1 ≤ 116; omega, by show 69710 + 5010 * t + 1002 ≤ 100800; omega⟩ (fun _ _ h => False.elim h) (fun v M' hp => ?_)
          obtain ⟨rfl, hx⟩ := hp
          obtain ⟨hNw, ha, v, mm, hv, hB⟩ := zBd.of hNw ha hv hx
          have hob := hB.2.2.1
          have hl1 : (w ++ zSw 25).length ≤ 108 + 11 * t + 7 := by
            rw [List.length_append, zSw_25]
            show w.length + 7 ≤ _
            omega
          refine z_ldcS (i := 20) C rfl dL_text_205 ?_
          refine z_iload C dL_text_207 rfl ?_
          refine z_bipush C dL_text_209 (by decide) ?_
          refine z_idivZ C dL_text_211 (by omega) (by omega) ?_
          refine z_iload_n C dL_text_212 rfl ?_
          refine z_iremZ C dL_text_213 (by omega) (by omega) ?_
          have hx0 : 0 ≤ z / 8 % r ∧ z / 8 % r < r := ⟨Int.emod_nonneg _ (by omega), Int.emod_lt_of_pos _ (by omega)⟩
          obtain ⟨x, hxe⟩ : ∃ x, x = z / 8 % r := ⟨_, rfl⟩
          rw [← hxe] at hx0 ⊢
          refine z_callVT C (hSg.con γ _ (i := 20) (by decide)) dL_text_214 lk_L_14 mw_J0_charAt_5068e mi_J0_charAt_5068e ms_J0_charAt_5068e (k_T_charAt (hSg.con γ _ (i := 20) (by decide)) (by rw [zSw_len (by decide)]; show 0 ≤ x ∧ x < ((3 : Nat) : Int); omega)) rfl (by first | decide | exact Nat.le_of_ble_eq_true rfl) ⟨by decide, by decide, by show 83 + 5 * t + 1 + 0 ≤ 116; omega, by show 69710 + 5010 * t + 1002 + 0 ≤ 100800; omega⟩ (fun _ _ h => False.elim h) (fun v M' hp => ?_)
          obtain ⟨rfl, rfl⟩ := hp
          rw [zSw_xyz x.toNat (by omega), show (120 : Int) + (x.toNat : Int) = 120 + x by omega]
          refine z_callV C dL_text_217 lk_L_38 mw_J4_append_cf468 mi_J4_append_cf468 ms_J4_append_cf468 rfl hob (k_B_appC hB (x := 120 + x) (by omega) (by omega)) rfl (by first | decide | exact Nat.le_of_ble_eq_true rfl) ⟨by decide, by decide, by show 83 + 5 * t + 1 + 1 ≤ 116; omega, by show 69710 + 5010 * t + 1002 + 1002 ≤ 100800; omega⟩ (fun _ _ h => False.elim h) (fun v M' hp => ?_)
          obtain ⟨rfl, hx⟩ := hp
          obtain ⟨hNw, ha, v, mm, hv, hB⟩ := zBd.of hNw ha hv hx
          have hob := hB.2.2.1
          have hl2 : (w ++ zSw 25 ++ [120 + x]).length ≤ 108 + 11 * t + 8 := by
            rw [List.length_append]
            show _ + 1 ≤ _
            omega
          refine z_bipush C dL_text_220 (by decide) ?_
          refine z_callV C dL_text_222 lk_L_38 mw_J4_append_cf468 mi_J4_append_cf468 ms_J4_append_cf468 rfl hob (k_B_appC hB (x := 32) (by omega) (by omega)) rfl (by first | decide | exact Nat.le_of_ble_eq_true rfl) ⟨by decide, by decide, by show 83 + 5 * t + 1 + 1 + 1 ≤ 116; omega, by show 69710 + 5010 * t + 1002 + 1002 + 1002 ≤ 100800; omega⟩ (fun _ _ h => False.elim h) (fun v M' hp => ?_)
          obtain ⟨rfl, hx⟩ := hp
          obtain ⟨hNw, ha, v, mm, hv, hB⟩ := zBd.of hNw ha hv hx
          have hob := hB.2.2.1
          have hl3 : (w ++ zSw 25 ++ [120 + x] ++ [32]).length ≤ 108 + 11 * t + 9 := by
            rw [List.length_append]
            show _ + 1 ≤ _
            omega
          refine z_iload C dL_text_225 rfl ?_
          refine z_bipush C dL_text_227 (by decide) ?_
          refine z_idivZ C dL_text_229 (by omega) (by omega) ?_
          refine z_iload_n C dL_text_230 rfl ?_
          refine z_iremZ C dL_text_231 (by omega) (by omega) ?_
          have hq0 : 0 ≤ z / 64 % d ∧ z / 64 % d < d := ⟨Int.emod_nonneg _ (by omega), Int.emod_lt_of_pos _ (by omega)⟩
          obtain ⟨qq, hqe⟩ : ∃ x, x = z / 64 % d := ⟨_, rfl⟩
          rw [← hqe] at hq0 ⊢
          refine z_callV C dL_text_232 lk_L_75 mw_J4_append_bf812 mi_J4_append_bf812 ms_J4_append_bf812 rfl hob (k_B_appI hB (x := qq) (by omega) (by omega)) rfl (by first | decide | exact Nat.le_of_ble_eq_true rfl) ⟨by decide, by decide, by show 83 + 5 * t + 1 + 1 + 1 + 1 ≤ 116; omega, by show 69710 + 5010 * t + 1002 + 1002 + 1002 + 1002 ≤ 100800; omega⟩ (fun _ _ h => False.elim h) (fun v M' hp => ?_)
          obtain ⟨rfl, hx⟩ := hp
          obtain ⟨hNw, ha, v, mm, hv, hB⟩ := zBd.of hNw ha hv hx
          have hob := hB.2.2.1
          have hl4 : (w ++ zSw 25 ++ [120 + x] ++ [32] ++ [48 + qq]).length ≤ 108 + 11 * t + 10 := by
            rw [List.length_append]
            show _ + 1 ≤ _
            omega
          refine z_bipush C dL_text_235 (by decide) ?_
          refine z_callV C dL_text_237 lk_L_38 mw_J4_append_cf468 mi_J4_append_cf468 ms_J4_append_cf468 rfl hob (k_B_appC hB (x := 59) (by omega) (by omega)) rfl (by first | decide | exact Nat.le_of_ble_eq_true rfl) ⟨by decide, by decide, by show 83 + 5 * t + 1 + 1 + 1 + 1 + 1 ≤ 116; omega, by show 69710 + 5010 * t + 1002 + 1002 + 1002 + 1002 + 1002 ≤ 100800; omega⟩ (fun _ _ h => False.elim h) (fun v M' hp => ?_)
          obtain ⟨rfl, hx⟩ := hp
          have hB2 := zBd.of hNw ha hv hx
          refine z_pop C dL_text_240 rfl ?_
          refine z_iincZ C dL_text_241 rfl (by decide) ?_
          refine z_goto (tgt := 158) C dL_text_244 (by decide) ?_
          have e9 : w ++ zSw 25 ++ [120 + x] ++ [32] ++ [48 + qq] ++ [59] = w ++ [116, 114, 97, 105, 110, 32, 114, 120 + x, 32, 48 + qq, 59] := by
            rw [zSw_25]
            simp only [List.append_assoc, List.cons_append, List.nil_append]
          rw [e9] at hB2
          have hl5 : (w ++ [116, 114, 97, 105, 110, 32, 114, 120 + x, 32, 48 + qq, 59]).length ≤ 108 + 11 * (t + 1) := by
            rw [List.length_append]
            show w.length + 11 ≤ _
            omega
          obtain ⟨-, -, v2, mm2, -, hB3⟩ := id hB2
          have hP2 : zPx (w ++ [116, 114, 97, 105, 110, 32, 114, 120 + x, 32, 48 + qq, 59]) r d ((t + 1 : Nat) : Int) ((t + 1 : Nat) : Int) (k + 1) := by
            have := hP.tr hr.2 hd.2 hx0 hq0 hB3.1
            rw [show ((t + 1 : Nat) : Int) = (t : Int) + 1 by omega]
            exact this
          have q9 := ih (t + 1) _ _ (k + 1) (some (.int (zi z))) (by omega) hB2 hl5 (by omega) hP2
          rw [show ((q + 1 : Nat) : Int) + -1 = (q : Int) by omega]
          exact z_kn (by omega) (by omega) q9
        · refine z_aload C dL_text_187 rfl ?_
          refine z_ldcS (i := 24) C rfl dL_text_189 ?_
          refine z_callV C dL_text_191 lk_L_54 mw_J4_append_15ec4 mi_J4_append_15ec4 ms_J4_append_15ec4 rfl hob (k_B_appS hB (hSg.con γ _ (i := 24) (by decide)) (hcu 24 (by decide)) (by rw [zSw_24]; show w.length + 5 ≤ 500; omega)) rfl (by first | decide | exact Nat.le_of_ble_eq_true rfl) ⟨by decide, by decide, by show 83 + 5 * t + 1 ≤ 116; omega, by show 69710 + 5010 * t + 1002 ≤ 100800; omega⟩ (fun _ _ h => False.elim h) (fun v M' hp => ?_)
          obtain ⟨rfl, hx⟩ := hp
          have hB2 := zBd.of hNw ha hv hx
          refine z_pop C dL_text_194 rfl ?_
          refine z_goto (tgt := 241) C dL_text_195 (by decide) ?_
          refine z_iincZ C dL_text_241 rfl (by decide) ?_
          refine z_goto (tgt := 158) C dL_text_244 (by decide) ?_
          have hl5 : (w ++ zSw 24).length ≤ 108 + 11 * (t + 1) := by
            rw [List.length_append, zSw_24]
            show w.length + 5 ≤ _
            omega
          obtain ⟨-, -, v2, mm2, -, hB3⟩ := id hB2
          have hP2 : zPx (w ++ zSw 24) r d ((t + 1 : Nat) : Int) ((t + 1 : Nat) : Int) (k + 1) := by
            have hz := hB3.1
            rw [zSw_24] at hz ⊢
            have := hP.yr hz
            rw [show ((t + 1 : Nat) : Int) = (t : Int) + 1 by omega]
            exact this
          have q9 := ih (t + 1) _ _ (k + 1) (some (.int (zi z))) (by omega) hB2 hl5 (by omega) hP2
          rw [show ((q + 1 : Nat) : Int) + -1 = (q : Int) by omega]
          exact z_km (by omega) (by omega) q9
  have loopB : ∀ (N r d : Int) (a : Nat), 0 ≤ N ∧ N ≤ 2147483647 → 1 ≤ r ∧ r ≤ 3 → 1 ≤ d ∧ d ≤ 3 → ∀ (q i : Nat) (M1 : zM) (w : List Int) (k : Nat), (i : Int) + q = d → zBd γ M M1 a w → w.length ≤ 36 + 24 * i → k ≤ 3 + i → zPx w r i 0 0 k → zAW p l e { frames := 7, cells := 116, slots := 100800, locals := 260 } s m args below meth c γ 7 Q M1 (17 + 22 * i) (15050 + 18220 * i) 94 [some (.ref (γ.2.2.2.1 26)), some (.int (zi N)), some (.int (zi r)), some (.int (zi d)), some (.ref a), some (.int (zi (i : Int))), none] [] := by
    intro N r d a hN hr hd q
    induction q with
    | zero =>
      intro i M1 w k ht hB hl hk hP
      refine z_iload C dL_text_94 rfl ?_
      refine z_iload_n C dL_text_96 rfl ?_
      refine z_icmp_geZ (tgt := 148) C dL_text_97 (by decide) (by omega) (by omega) (fun h97 => ?_) (fun h97 => ?_)
      · refine z_iload_n C dL_text_148 rfl ?_
        refine z_sipush C dL_text_149 (by decide) ?_
        refine z_idivZ C dL_text_152 (by omega) (by omega) ?_
        refine z_bipush C dL_text_153 (by decide) ?_
        refine z_iremZ C dL_text_155 (by omega) (by omega) ?_
        refine z_istore C dL_text_156 (by decide) ?_
        obtain ⟨y, hy⟩ : ∃ y : Nat, (y : Int) = N / 512 % 7 := ⟨(N / 512 % 7).toNat, by omega⟩
        rw [← hy]
        have q9 := loopC N r d y a hN hr hd (by omega) y 0 M1 w k none (by omega) hB (by omega) (by omega) (by rw [show d = (i : Int) by omega]; exact hP)
        exact z_km (by omega) (by omega) q9
      · exact absurd h97 (by omega)
    | succ q ih =>
      intro i M1 w k ht hB hl hk hP
      refine z_dom fun hdm => ?_
      obtain ⟨hNw, ha, v, mm, hv, hB⟩ := hB
      have hob := hB.2.2.1
      have hcu : ∀ i, i < 26 → ∀ y, M1 (γ.2.2.2.2 i) = some (.inl y) → γ.2.2.2.2 i ≠ v := fun i hi y hy => absurd (hdm _ _ hy) (by have := C.lo hi; omega)
      refine z_iload C dL_text_94 rfl ?_
      refine z_iload_n C dL_text_96 rfl ?_
      refine z_icmp_geZ (tgt := 148) C dL_text_97 (by decide) (by omega) (by omega) (fun h97 => ?_) (fun h97 => ?_)
      · exact absurd h97 (by omega)
      · refine z_aload C dL_text_100 rfl ?_
        refine z_ldcS (i := 22) C rfl dL_text_102 ?_
        refine z_callV C dL_text_104 lk_L_54 mw_J4_append_15ec4 mi_J4_append_15ec4 ms_J4_append_15ec4 rfl hob (k_B_appS hB (hSg.con γ _ (i := 22) (by decide)) (hcu 22 (by decide)) (by rw [zSw_22]; show w.length + 9 ≤ 500; omega)) rfl (by first | decide | exact Nat.le_of_ble_eq_true rfl) ⟨by decide, by decide, by show 17 + 22 * i + 1 ≤ 116; omega, by show 15050 + 18220 * i + 1002 ≤ 100800; omega⟩ (fun _ _ h => False.elim h) (fun v M' hp => ?_)
        obtain ⟨rfl, hx⟩ := hp
        obtain ⟨hNw, ha, v, mm, hv, hB⟩ := zBd.of hNw ha hv hx
        have hl1 : (w ++ zSw 22).length = w.length + 9 := by
          rw [List.length_append, zSw_22]
          rfl
        refine z_aload_n C dL_text_107 rfl ?_
        refine z_iconst C dL_text_108 ?_
        refine z_iconst C dL_text_109 ?_
        refine z_iload C dL_text_110 rfl ?_
        refine z_imulZ C dL_text_112 ?_
        refine z_iaddZ C dL_text_113 ?_
        refine z_callS C dL_text_114 lk_L_46 mw_L_cell mst_L_cell (k_L_cell (by omega)) rfl (by first | decide | exact Nat.le_of_ble_eq_true rfl) ⟨by decide, by decide, by show 17 + 22 * i + 1 + 0 ≤ 116; omega, by show 15050 + 18220 * i + 1002 + 0 ≤ 100800; omega⟩ (fun _ _ h => False.elim h) (fun v M' hp => ?_)
        obtain ⟨rfl, rfl⟩ := hp
        refine z_aload_n C dL_text_117 rfl ?_
        refine z_iconst C dL_text_118 ?_
        refine z_iconst C dL_text_119 ?_
        refine z_iload C dL_text_120 rfl ?_
        refine z_imulZ C dL_text_122 ?_
        refine z_iaddZ C dL_text_123 ?_
        refine z_callS C dL_text_124 lk_L_46 mw_L_cell mst_L_cell (k_L_cell (by omega)) rfl (by first | decide | exact Nat.le_of_ble_eq_true rfl) ⟨by decide, by decide, by show 17 + 22 * i + 1 + 0 ≤ 116; omega, by show 15050 + 18220 * i + 1002 + 0 ≤ 100800; omega⟩ (fun _ _ h => False.elim h) (fun v M' hp => ?_)
        obtain ⟨rfl, rfl⟩ := hp
        refine z_callS C dL_text_127 lk_L_63 mw_L_document mst_L_document (k_L_document (zce_rng γ _) (zce_rng γ _)) rfl (by first | decide | exact Nat.le_of_ble_eq_true rfl) ⟨by decide, by decide, by show 17 + 22 * i + 1 + 1 ≤ 116; omega, by show 15050 + 18220 * i + 1002 + 14 ≤ 100800; omega⟩ (fun _ _ h => False.elim h) (fun v M' hp => ?_)
        obtain ⟨qd, fd, hqd, rfl, rfl, hfd⟩ := hp
        have hnd : 1 ≤ (1 + zce γ (1 + 2 * (i : Int)) % 14).toNat ∧ (1 + zce γ (1 + 2 * (i : Int)) % 14).toNat ≤ 14 := by omega
        refine z_callS C dL_text_130 lk_L_67 mw_L_word mst_L_word (k_L_word (va_up_self _ _ _) hnd hfd) rfl (by first | decide | exact Nat.le_of_ble_eq_true rfl) ⟨by decide, by decide, by show 17 + 22 * i + 1 + 1 + 18 ≤ 116; omega, by show 15050 + 18220 * i + 1002 + 14 + 15200 ≤ 100800; omega⟩ (fun _ _ h => False.elim h) (fun v M' hp => ?_)
        obtain ⟨b, u, x, rfl, hS, hb, hu, hN2, hxl, hxw⟩ := hp
        have hNw2 := (hNw.up (hNw.no hqd)).tr hN2
        have hN3 := (zNw.rf.up hqd (y := some (zar γ (1 + zce γ (1 + 2 * (i : Int)) % 14).toNat fd))).tr hN2
        have hB2 := hB.nw hN3
        have hN0 := zup_no hqd hu
        have hob := hB2.2.2.1
        refine z_callV C dL_text_133 lk_L_54 mw_J4_append_15ec4 mi_J4_append_15ec4 ms_J4_append_15ec4 rfl hob (k_B_appS hB2 hS (hB.une hN0) (by omega)) rfl (by first | decide | exact Nat.le_of_ble_eq_true rfl) ⟨by decide, by decide, by show 17 + 22 * i + 1 + 1 + 18 + 1 ≤ 116; omega, by show 15050 + 18220 * i + 1002 + 14 + 15200 + 1002 ≤ 100800; omega⟩ (fun _ _ h => False.elim h) (fun v M' hp => ?_)
        obtain ⟨rfl, hx⟩ := hp
        obtain ⟨hNw, ha, v, mm, hv, hB⟩ := zBd.of hNw2 ha hv hx
        have hob := hB.2.2.1
        have hl2 : (w ++ zSw 22 ++ x).length = w.length + 9 + x.length := by
          rw [List.length_append, hl1]
        refine z_bipush C dL_text_136 (by decide) ?_
        refine z_callV C dL_text_138 lk_L_38 mw_J4_append_cf468 mi_J4_append_cf468 ms_J4_append_cf468 rfl hob (k_B_appC hB (x := 59) (by omega) (by omega)) rfl (by first | decide | exact Nat.le_of_ble_eq_true rfl) ⟨by decide, by decide, by show 17 + 22 * i + 1 + 1 + 18 + 1 + 1 ≤ 116; omega, by show 15050 + 18220 * i + 1002 + 14 + 15200 + 1002 + 1002 ≤ 100800; omega⟩ (fun _ _ h => False.elim h) (fun v M' hp => ?_)
        obtain ⟨rfl, hx⟩ := hp
        have hB3 := zBd.of hNw ha hv hx
        refine z_pop C dL_text_141 rfl ?_
        refine z_iincZ C dL_text_142 rfl (by decide) ?_
        refine z_goto (tgt := 94) C dL_text_145 (by decide) ?_
        have e9 : w ++ zSw 22 ++ x ++ [59] = w ++ ([100, 111, 99, 117, 109, 101, 110, 116, 32] ++ x ++ [59]) := by
          rw [zSw_22]
          simp only [List.append_assoc]
        rw [e9] at hB3
        obtain ⟨-, -, v2, mm2, -, hB4⟩ := id hB3
        have hP2 : zPx (w ++ ([100, 111, 99, 117, 109, 101, 110, 116, 32] ++ x ++ [59])) r ((i + 1 : Nat) : Int) 0 0 (k + 1) := by
          have := hP.dc (by omega) hxw (by omega) hB4.1
          rw [show ((i + 1 : Nat) : Int) = (i : Int) + 1 by omega]
          exact this
        have hl5 : (w ++ ([100, 111, 99, 117, 109, 101, 110, 116, 32] ++ x ++ [59])).length ≤ 36 + 24 * (i + 1) := by
          rw [← e9, List.length_append, hl2]
          show w.length + 9 + x.length + 1 ≤ _
          omega
        have q9 := ih (i + 1) _ _ (k + 1) (by omega) hB3 hl5 (by omega) hP2
        exact z_kn (by omega) (by omega) q9
  have loopA : ∀ (N r d : Int) (a : Nat), 0 ≤ N ∧ N ≤ 2147483647 → 1 ≤ r ∧ r ≤ 3 → 1 ≤ d ∧ d ≤ 3 → ∀ (q i : Nat) (M1 : zM) (w : List Int), (i : Int) + q = r → zBd γ M M1 a w → w.length = 12 * i → zPx w i 0 0 0 i → zAW p l e { frames := 7, cells := 116, slots := 100800, locals := 260 } s m args below meth c γ 7 Q M1 (2 + 5 * i) (20 + 5010 * i) 32 [some (.ref (γ.2.2.2.1 26)), some (.int (zi N)), some (.int (zi r)), some (.int (zi d)), some (.ref a), some (.int (zi (i : Int))), none] [] := by
    intro N r d a hN hr hd q
    induction q with
    | zero =>
      intro i M1 w ht hB hl hP
      refine z_iload C dL_text_32 rfl ?_
      refine z_iload_n C dL_text_34 rfl ?_
      refine z_icmp_geZ (tgt := 91) C dL_text_35 (by decide) (by omega) (by omega) (fun h35 => ?_) (fun h35 => ?_)
      · refine z_iconst C dL_text_91 ?_
        refine z_istore C dL_text_92 (by decide) ?_
        exact z_km (by omega) (by omega) (loopB N r d a hN hr hd d.toNat 0 M1 w i (by omega) hB (by omega) (by omega) (by rw [show r = (i : Int) by omega]; exact hP))
      · exact absurd h35 (by omega)
    | succ q ih =>
      intro i M1 w ht hB hl hP
      refine z_dom fun hdm => ?_
      obtain ⟨hNw, ha, v, mm, hv, hB⟩ := hB
      have hob := hB.2.2.1
      have hcu : ∀ i, i < 26 → ∀ y, M1 (γ.2.2.2.2 i) = some (.inl y) → γ.2.2.2.2 i ≠ v := fun i hi y hy => absurd (hdm _ _ hy) (by have := C.lo hi; omega)
      refine z_iload C dL_text_32 rfl ?_
      refine z_iload_n C dL_text_34 rfl ?_
      refine z_icmp_geZ (tgt := 91) C dL_text_35 (by decide) (by omega) (by omega) (fun h35 => ?_) (fun h35 => ?_)
      · exact absurd h35 (by omega)
      · refine z_aload C dL_text_38 rfl ?_
        refine z_ldcS (i := 19) C rfl dL_text_40 ?_
        refine z_callV C dL_text_42 lk_L_54 mw_J4_append_15ec4 mi_J4_append_15ec4 ms_J4_append_15ec4 rfl hob (k_B_appS hB (hSg.con γ _ (i := 19) (by decide)) (hcu 19 (by decide)) (by rw [zSw_19]; show w.length + 8 ≤ 500; omega)) rfl (by first | decide | exact Nat.le_of_ble_eq_true rfl) ⟨by decide, by decide, by show 2 + 5 * i + 1 ≤ 116; omega, by show 20 + 5010 * i + 1002 ≤ 100800; omega⟩ (fun _ _ h => False.elim h) (fun v M' hp => ?_)
        obtain ⟨rfl, hx⟩ := hp
        obtain ⟨hNw, ha, v, mm, hv, hB⟩ := zBd.of hNw ha hv hx
        have hob := hB.2.2.1
        have hl1 : (w ++ zSw 19).length = 12 * i + 8 := by
          rw [List.length_append, zSw_19, hl]
          rfl
        refine z_ldcS (i := 20) C rfl dL_text_45 ?_
        refine z_iload C dL_text_47 rfl ?_
        refine z_callVT C (hSg.con γ _ (i := 20) (by decide)) dL_text_49 lk_L_14 mw_J0_charAt_5068e mi_J0_charAt_5068e ms_J0_charAt_5068e (k_T_charAt (hSg.con γ _ (i := 20) (by decide)) (by rw [zSw_len (by decide)]; show 0 ≤ (i : Int) ∧ (i : Int) < ((3 : Nat) : Int); omega)) rfl (by first | decide | exact Nat.le_of_ble_eq_true rfl) ⟨by decide, by decide, by show 2 + 5 * i + 1 + 0 ≤ 116; omega, by show 20 + 5010 * i + 1002 + 0 ≤ 100800; omega⟩ (fun _ _ h => False.elim h) (fun v M' hp => ?_)
        obtain ⟨rfl, rfl⟩ := hp
        rw [zSw_xyz (i : Int).toNat (by omega), show (120 : Int) + ((i : Int).toNat : Int) = 120 + (i : Int) by omega]
        refine z_callV C dL_text_52 lk_L_38 mw_J4_append_cf468 mi_J4_append_cf468 ms_J4_append_cf468 rfl hob (k_B_appC hB (x := 120 + (i : Int)) (by omega) (by omega)) rfl (by first | decide | exact Nat.le_of_ble_eq_true rfl) ⟨by decide, by decide, by show 2 + 5 * i + 1 + 1 ≤ 116; omega, by show 20 + 5010 * i + 1002 + 1002 ≤ 100800; omega⟩ (fun _ _ h => False.elim h) (fun v M' hp => ?_)
        obtain ⟨rfl, hx⟩ := hp
        obtain ⟨hNw, ha, v, mm, hv, hB⟩ := zBd.of hNw ha hv hx
        have hob := hB.2.2.1
        have hl2 : (w ++ zSw 19 ++ [120 + (i : Int)]).length = 12 * i + 9 := by
          rw [List.length_append, hl1]
          rfl
        refine z_bipush C dL_text_55 (by decide) ?_
        refine z_callV C dL_text_57 lk_L_38 mw_J4_append_cf468 mi_J4_append_cf468 ms_J4_append_cf468 rfl hob (k_B_appC hB (x := 32) (by omega) (by omega)) rfl (by first | decide | exact Nat.le_of_ble_eq_true rfl) ⟨by decide, by decide, by show 2 + 5 * i + 1 + 1 + 1 ≤ 116; omega, by show 20 + 5010 * i + 1002 + 1002 + 1002 ≤ 100800; omega⟩ (fun _ _ h => False.elim h) (fun v M' hp => ?_)
        obtain ⟨rfl, hx⟩ := hp
        obtain ⟨hNw, ha, v, mm, hv, hB⟩ := zBd.of hNw ha hv hx
        have hob := hB.2.2.1
        have hl3 : (w ++ zSw 19 ++ [120 + (i : Int)] ++ [32]).length = 12 * i + 10 := by
          rw [List.length_append, hl2]
          rfl
        refine z_ldcS (i := 21) C rfl dL_text_60 ?_
        refine z_iload_n C dL_text_62 rfl ?_
        refine z_bipush C dL_text_63 (by decide) ?_
        refine z_iconst C dL_text_65 ?_
        refine z_iload C dL_text_66 rfl ?_
        refine z_imulZ C dL_text_68 ?_
        refine z_iaddZ C dL_text_69 ?_
        refine z_idivZ C dL_text_70 (by omega) (by omega) ?_
        have h70 := zdvr (x := N) (d := 16 + 5 * (i : Int)) hN (by omega)
        generalize N / (16 + 5 * (i : Int)) = z at h70 ⊢
        refine z_iconst C dL_text_71 ?_
        refine z_iremZ C dL_text_72 (by omega) (by omega) ?_
        refine z_callVT C (hSg.con γ _ (i := 21) (by decide)) dL_text_73 lk_L_14 mw_J0_charAt_5068e mi_J0_charAt_5068e ms_J0_charAt_5068e (k_T_charAt (hSg.con γ _ (i := 21) (by decide)) (by rw [zSw_len (by decide)]; show 0 ≤ z % 3 ∧ z % 3 < ((3 : Nat) : Int); omega)) rfl (by first | decide | exact Nat.le_of_ble_eq_true rfl) ⟨by decide, by decide, by show 2 + 5 * i + 1 + 1 + 1 + 0 ≤ 116; omega, by show 20 + 5010 * i + 1002 + 1002 + 1002 + 0 ≤ 100800; omega⟩ (fun _ _ h => False.elim h) (fun v M' hp => ?_)
        obtain ⟨rfl, rfl⟩ := hp
        have hch := zSw_acd (z % 3).toNat (by omega)
        generalize (zSw 21).getD (z % 3).toNat 0 = mch at hch ⊢
        refine z_callV C dL_text_76 lk_L_38 mw_J4_append_cf468 mi_J4_append_cf468 ms_J4_append_cf468 rfl hob (k_B_appC hB (x := mch) (by omega) (by omega)) rfl (by first | decide | exact Nat.le_of_ble_eq_true rfl) ⟨by decide, by decide, by show 2 + 5 * i + 1 + 1 + 1 + 1 ≤ 116; omega, by show 20 + 5010 * i + 1002 + 1002 + 1002 + 1002 ≤ 100800; omega⟩ (fun _ _ h => False.elim h) (fun v M' hp => ?_)
        obtain ⟨rfl, hx⟩ := hp
        obtain ⟨hNw, ha, v, mm, hv, hB⟩ := zBd.of hNw ha hv hx
        have hob := hB.2.2.1
        have hl4 : (w ++ zSw 19 ++ [120 + (i : Int)] ++ [32] ++ [mch]).length = 12 * i + 11 := by
          rw [List.length_append, hl3]
          rfl
        refine z_bipush C dL_text_79 (by decide) ?_
        refine z_callV C dL_text_81 lk_L_38 mw_J4_append_cf468 mi_J4_append_cf468 ms_J4_append_cf468 rfl hob (k_B_appC hB (x := 59) (by omega) (by omega)) rfl (by first | decide | exact Nat.le_of_ble_eq_true rfl) ⟨by decide, by decide, by show 2 + 5 * i + 1 + 1 + 1 + 1 + 1 ≤ 116; omega, by show 20 + 5010 * i + 1002 + 1002 + 1002 + 1002 + 1002 ≤ 100800; omega⟩ (fun _ _ h => False.elim h) (fun v M' hp => ?_)
        obtain ⟨rfl, hx⟩ := hp
        have hB3 := zBd.of hNw ha hv hx
        refine z_pop C dL_text_84 rfl ?_
        refine z_iincZ C dL_text_85 rfl (by decide) ?_
        refine z_goto (tgt := 32) C dL_text_88 (by decide) ?_
        have e9 : w ++ zSw 19 ++ [120 + (i : Int)] ++ [32] ++ [mch] ++ [59] = w ++ [114, 101, 97, 100, 101, 114, 32, 114, 120 + (i : Int), 32, mch, 59] := by
          rw [zSw_19]
          simp only [List.append_assoc, List.cons_append, List.nil_append]
        rw [e9] at hB3
        obtain ⟨-, -, v2, mm2, -, hB4⟩ := id hB3
        have hP2 : zPx (w ++ [114, 101, 97, 100, 101, 114, 32, 114, 120 + (i : Int), 32, mch, 59]) ((i + 1 : Nat) : Int) 0 0 0 (i + 1) := by
          have := hP.rd (by omega) hch hB4.1
          rw [show ((i + 1 : Nat) : Int) = (i : Int) + 1 by omega]
          exact this
        have hl5 : (w ++ [114, 101, 97, 100, 101, 114, 32, 114, 120 + (i : Int), 32, mch, 59]).length = 12 * (i + 1) := by
          rw [← e9, List.length_append, hl4]
          show 12 * i + 11 + 1 = _
          omega
        have q9 := ih (i + 1) _ _ (by omega) hB3 hl5 hP2
        exact z_kn (by omega) (by omega) q9
  have hce := zce_rng γ 0
  refine z_aload_n C dL_text_0 rfl ?_
  refine z_iconst C dL_text_1 ?_
  refine z_callS C dL_text_2 lk_L_46 mw_L_cell mst_L_cell (k_L_cell (k := 0) (by decide)) rfl (by first | decide | exact Nat.le_of_ble_eq_true rfl) ⟨by decide, by decide, by decide, by decide⟩ (fun _ _ h => False.elim h) (fun v M' hp => ?_)
  obtain ⟨rfl, rfl⟩ := hp
  refine z_istore_n C dL_text_5 (by decide) ?_
  refine z_iconst C dL_text_6 ?_
  refine z_iload_n C dL_text_7 rfl ?_
  refine z_iconst C dL_text_8 ?_
  refine z_iremZ C dL_text_9 (by omega) (by omega) ?_
  refine z_iaddZ C dL_text_10 ?_
  refine z_istore_n C dL_text_11 (by decide) ?_
  refine z_iconst C dL_text_12 ?_
  refine z_iload_n C dL_text_13 rfl ?_
  refine z_iconst C dL_text_14 ?_
  refine z_idivZ C dL_text_15 (by omega) (by omega) ?_
  refine z_iconst C dL_text_16 ?_
  refine z_iremZ C dL_text_17 (by omega) (by omega) ?_
  refine z_iaddZ C dL_text_18 ?_
  refine z_istore_n C dL_text_19 (by decide) ?_
  refine z_new C dL_text_20 nw_L_33 ⟨by decide, by decide⟩ (fun q20 hq20 => ?_)
  refine z_dup C dL_text_23 rfl ?_
  refine z_callI C dL_text_24 lk_L_35 mw_J4_init_da8c8 rfl mi_J4_init_da8c8 (k_B_init (va_up_self _ _ _)) rfl (by first | decide | exact Nat.le_of_ble_eq_true rfl) ⟨by decide, by decide, by decide, by decide⟩ (fun _ _ h => False.elim h) (fun v M' hp => ?_)
  obtain ⟨rfl, v, hv, hB, f4⟩ := hp
  refine z_astore C dL_text_27 (by decide) ?_
  refine z_iconst C dL_text_29 ?_
  refine z_istore C dL_text_30 (by decide) ?_
  have hv0 := zup_no hq20 hv
  refine z_kn (by omega) (by omega) (loopA (zce γ 0) _ _ q20 hce (by omega) (by omega) (1 + zce γ 0 % 3).toNat 0 _ [] (by omega) ⟨(zNw.rf.up hq20).fr f4 (fun x hx => by
    simp only [List.mem_cons, List.not_mem_nil, or_false] at hx
    rcases hx with rfl | rfl
    · exact hq20
    · exact hv0), hq20, v, 16, hv0, hB⟩ rfl zPx.nil)

