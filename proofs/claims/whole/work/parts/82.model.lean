/-! the model's parser: readers and documents laid -/
set_option maxHeartbeats 4000000 in
set_option maxRecDepth 100000 in
theorem k_X9_layReader {l : Launch} {γ : zG} {M : zM} {q : Nat} {g : Nat → Int} {S0 : zSt} {R0 : zRdr} {v me : Int} (hM : M q = some (zar γ 5987 g)) (hS : mSt g S0) (hO : zOk S0) (hn : sRn S0 < 4) (hv : 0 ≤ v ∧ v ≤ 531440) (hm : 0 ≤ me ∧ me ≤ 2) (r1 : mNm R0 = v) (r2 : rMe R0 = me) (r3 : rTr R0 = 0) (r4 : rTm R0 = fun _ => 0) (r5 : rC R0 = fun _ => 0) :
    zCon l γ yX9_layReader cX9_layReader 5 (some .int) [.ref q, .int (zi v), .int (zi me)] M 1 22 0 0 (fun v' M' => v' = some (.int (zi (sRn S0))) ∧ zFr M M' [q] ∧ ∃ g', M' q = some (zar γ 5987 g') ∧ mSt g' (sAddR S0 R0)) (fun _ _ => False) := by
  have o1 := hO.1
  have hg := hS.1
  have e2 : g 2 = sRn S0 := hS.2.2.2.1
  refine zEnter [some (.ref q), some (.int (zi v)), some (.int (zi me)), none, none] (by decide +kernel) rfl rfl (Nat.le_of_ble_eq_true rfl) ?_
  intro p e s m args below meth c Q C hin hQ
  have loop : ∀ (t : Nat) (M1 : zM) (k : Int) (g1 : Nat → Int), 1412 - k = t → 0 ≤ k ∧ k ≤ 1412 → zFr M M1 [q] → M1 q = some (zar γ 5987 g1) → (∀ j, zR (g1 j)) → (∀ i : Nat, 339 + 1412 * sRn S0 ≤ i → (i : Int) < 339 + 1412 * sRn S0 + k → g1 i = 0) → (∀ i : Nat, ((i : Int) < 339 + 1412 * sRn S0 ∨ 339 + 1412 * sRn S0 + k ≤ i) → g1 i = g i) → zAW p l e { frames := 1, cells := 0, slots := 0, locals := 22 } s m args below meth c γ 5 Q M1 0 0 10 [some (.ref q), some (.int (zi v)), some (.int (zi me)), some (.int (zi (339 + 1412 * sRn S0))), some (.int (zi k))] [] := by
    intro t
    induction t with
    | zero =>
      intro M1 k g1 ht hk hf hM1 hg1 ha hb
      obtain rfl : k = 1412 := by omega
      have e3 : g1 2 = sRn S0 := (hb 2 (by omega)).trans e2
      have e4 : va_up (va_up g1 (339 + 1412 * sRn S0 + 0).toNat v) (339 + 1412 * sRn S0 + 1).toNat me (2 : Int).toNat = sRn S0 := by
        rw [va_up_ne _ _ (by omega), va_up_ne _ _ (by omega)]
        exact e3
      refine z_iload C dX9_layReader_10 rfl ?_
      refine z_sipush C dX9_layReader_12 (by decide) ?_
      refine z_icmp_geZ (tgt := 31) C dX9_layReader_15 (by decide) (by omega) (by omega) (fun h15 => ?_) (fun h15 => ?_)
      · refine z_aload_n C dX9_layReader_31 rfl ?_
        refine z_iload_n C dX9_layReader_32 rfl ?_
        refine z_iconst C dX9_layReader_33 ?_
        refine z_iaddZ C dX9_layReader_34 ?_
        refine z_iload_n C dX9_layReader_35 rfl ?_
        refine z_astN C dX9_layReader_36 (by first | assumption | ((repeat (first | assumption | exact va_up_self _ _ _ | refine (va_up_ne _ _ (by first | assumption | exact hA.ne (by decide) | exact hA.ne (by omega))).trans ?_)); done)) (by omega) (by omega) (by assumption) (by omega) (fun hr36 => ?_)
        refine z_aload_n C dX9_layReader_37 rfl ?_
        refine z_iload_n C dX9_layReader_38 rfl ?_
        refine z_iconst C dX9_layReader_39 ?_
        refine z_iaddZ C dX9_layReader_40 ?_
        refine z_iload_n C dX9_layReader_41 rfl ?_
        refine z_astN C dX9_layReader_42 (by first | assumption | ((repeat (first | assumption | exact va_up_self _ _ _ | refine (va_up_ne _ _ (by first | assumption | exact hA.ne (by decide) | exact hA.ne (by omega))).trans ?_)); done)) (by omega) (by omega) (by assumption) (by omega) (fun hr42 => ?_)
        refine z_aload_n C dX9_layReader_43 rfl ?_
        refine z_iconst C dX9_layReader_44 ?_
        refine z_dup2 C dX9_layReader_45 rfl rfl ?_
        refine z_aldN C dX9_layReader_46 (by first | assumption | ((repeat (first | assumption | exact va_up_self _ _ _ | refine (va_up_ne _ _ (by first | assumption | exact hA.ne (by decide) | exact hA.ne (by omega))).trans ?_)); done)) (by omega) (by omega) (by assumption) (fun hr46 => ?_)
        rw [e4]
        refine z_iconst C dX9_layReader_47 ?_
        refine z_iaddZ C dX9_layReader_48 ?_
        refine z_astN C dX9_layReader_49 (by first | assumption | ((repeat (first | assumption | exact va_up_self _ _ _ | refine (va_up_ne _ _ (by first | assumption | exact hA.ne (by decide) | exact hA.ne (by omega))).trans ?_)); done)) (by omega) (by omega) (by assumption) (by omega) (fun hr49 => ?_)
        refine z_aload_n C dX9_layReader_50 rfl ?_
        refine z_iconst C dX9_layReader_51 ?_
        refine z_aldN C dX9_layReader_52 (by first | assumption | ((repeat (first | assumption | exact va_up_self _ _ _ | refine (va_up_ne _ _ (by first | assumption | exact hA.ne (by decide) | exact hA.ne (by omega))).trans ?_)); done)) (by omega) (by omega) (by assumption) (fun hr52 => ?_)
        rw [va_up_self]
        refine z_iconst C dX9_layReader_53 ?_
        refine z_isubZ C dX9_layReader_54 ?_
        refine z_iret C hQ dX9_layReader_55 rfl (by decide) (by decide) ?_
        rw [show sRn S0 + 1 - 1 = sRn S0 by omega]
        refine ⟨rfl, ((hf.u1 (by simp)).u1 (by simp)).u1 (by simp), _, va_up_self _ _ _, ?_⟩
        obtain ⟨-, s1, s2, s3, s4, s5⟩ := hS
        generalize hgg : va_up (va_up (va_up g1 (339 + 1412 * sRn S0 + 0).toNat v) (339 + 1412 * sRn S0 + 1).toNat me) (2 : Int).toNat (sRn S0 + 1) = g2 at *
        have out : ∀ i : Nat, i ≠ 2 → ((i : Int) < 339 + 1412 * sRn S0 ∨ 339 + 1412 * sRn S0 + 1412 ≤ i) → g2 i = g i := fun i i1 i2 => by
          rw [← hgg, va_up_ne _ _ (show i ≠ (2 : Int).toNat from i1), va_up_ne _ _ (by omega), va_up_ne _ _ (by omega)]
          exact hb i i2
        have ins : ∀ i : Nat, 339 + 1412 * sRn S0 + 2 ≤ i → (i : Int) < 339 + 1412 * sRn S0 + 1412 → g2 i = 0 := fun i i1 i2 => by
          rw [← hgg, va_up_ne _ _ (show i ≠ (2 : Int).toNat by show i ≠ 2; omega), va_up_ne _ _ (by omega), va_up_ne _ _ (by omega)]
          exact ha i (by omega) i2
        have g22 : g2 2 = sRn S0 + 1 := by rw [← hgg]; exact va_up_self _ _ _
        refine ⟨hr49, by rw [out 0 (by decide) (by omega)]; exact s1, by rw [out 1 (by decide) (by omega)]; exact s2, g22, fun d hd => (s4 d hd).cg (by omega) (hO.2.1 d hd).1.2 fun i i1 i2 => out i (by have : (d : Int) < sDn S0 := hd; omega) (by have : (d : Int) < sDn S0 := hd; omega), fun r hr => ?_⟩
        have hr : (r : Int) < sRn S0 + 1 := hr
        by_cases e1 : r = (sRn S0).toNat
        · have e5 : sRd (sAddR S0 R0) r = R0 := by
            rw [e1]
            exact va_up_self _ _ _
          rw [e5, show ((r : Nat) : Int) = sRn S0 by omega]
          refine ⟨?_, ?_, ?_, fun d d1 d2 => ?_, ?_⟩
          · rw [r1, ← hgg, va_up_ne _ _ (by omega), va_up_ne _ _ (by omega), show (339 + 1412 * sRn S0).toNat = (339 + 1412 * sRn S0 + 0).toNat by omega, va_up_self]
          · rw [r2, ← hgg, va_up_ne _ _ (by omega), va_up_self]
          · rw [ins _ (by omega) (by omega), r3]
          · rw [ins _ (by omega) (by omega), r4]
          · have em : mMa g2 (sRn S0) = 0 := ins _ (by omega) (by omega)
            rw [r5]
            refine ⟨by omega, fun j j1 j2 => by omega, fun i j i1 i2 i3 => by omega, fun key hk => absurd rfl hk⟩
        · have e5 : sRd (sAddR S0 R0) r = sRd S0 r := va_up_ne _ _ e1
          rw [e5]
          exact (s5 r (by omega)).cg (by omega) fun i i1 i2 => out i (by omega) (by omega)
      · exact absurd h15 (by omega)
    | succ t ih =>
      intro M1 k g1 ht hk hf hM1 hg1 ha hb
      refine z_iload C dX9_layReader_10 rfl ?_
      refine z_sipush C dX9_layReader_12 (by decide) ?_
      refine z_icmp_geZ (tgt := 31) C dX9_layReader_15 (by decide) (by omega) (by omega) (fun h15 => ?_) (fun h15 => ?_)
      · exact absurd h15 (by omega)
      · refine z_aload_n C dX9_layReader_18 rfl ?_
        refine z_iload_n C dX9_layReader_19 rfl ?_
        refine z_iload C dX9_layReader_20 rfl ?_
        refine z_iaddZ C dX9_layReader_22 ?_
        refine z_iconst C dX9_layReader_23 ?_
        refine z_astN C dX9_layReader_24 (by first | assumption | ((repeat (first | assumption | exact va_up_self _ _ _ | refine (va_up_ne _ _ (by first | assumption | exact hA.ne (by decide) | exact hA.ne (by omega))).trans ?_)); done)) (by omega) (by omega) (by assumption) (by omega) (fun hr24 => ?_)
        refine z_iincZ C dX9_layReader_25 rfl (by decide) ?_
        refine z_goto (tgt := 10) C dX9_layReader_28 (by decide) ?_
        refine ih _ (k + 1) _ (by omega) (by omega) (hf.u1 (by simp)) (va_up_self _ _ _) hr24 (fun i i1 i2 => ?_) (fun i hi => ?_)
        · unfold va_up
          split
          · rfl
          · exact ha i i1 (by omega)
        · rw [va_up_ne _ _ (by omega)]
          exact hb i (by omega)
  refine z_aload_n C dX9_layReader_0 rfl ?_
  refine z_iconst C dX9_layReader_1 ?_
  refine z_aldN C dX9_layReader_2 (by first | assumption | ((repeat (first | assumption | exact va_up_self _ _ _ | refine (va_up_ne _ _ (by first | assumption | exact hA.ne (by decide) | exact hA.ne (by omega))).trans ?_)); done)) (by omega) (by omega) (by assumption) (fun hr2 => ?_)
  rw [show (2 : Int).toNat = 2 from rfl, e2] at hr2 ⊢
  refine z_callS C dX9_layReader_3 lk_X9_92 mw_X9_atReader mst_X9_atReader k_X9_atReader rfl (by first | decide | exact Nat.le_of_ble_eq_true rfl) ⟨by decide, by decide, by decide, by decide⟩ (fun _ _ h => False.elim h) (fun v M' hp => ?_)
  obtain ⟨rfl, rfl⟩ := hp
  refine z_istore_n C dX9_layReader_6 (by decide) ?_
  refine z_iconst C dX9_layReader_7 ?_
  refine z_istore C dX9_layReader_8 (by decide) ?_
  exact loop 1412 _ 0 g (by omega) (by omega) zFr.rf hM hg (fun i i1 i2 => by omega) (fun i _ => rfl)
theorem sG_add {S : zSt} {X : zDoc} (h : zOk S) (k : Int) (hk : k ∈ sG S) : k ∈ sG (sAddD S X) := by
  have o1 := h.1
  obtain ⟨h1, h2⟩ := List.mem_filter.mp hk
  refine List.mem_filter.mpr ⟨?_, h2⟩
  show k ∈ zGk (va_up (sDc S) (sDn S).toNat X) (sDn S + 1).toNat
  rw [show (sDn S + 1).toNat = (sDn S).toNat + 1 by omega]
  refine List.mem_append_right _ ?_
  rw [zGk_cg (Es := sDc S) _ fun i hi => va_up_ne _ _ (by omega)]
  exact h1
set_option maxHeartbeats 4000000 in
set_option maxRecDepth 100000 in
theorem k_X9_layDocument {l : Launch} {γ : zG} {M : zM} {A : Nat → Nat} {F f : Nat → Int} {kq : Nat} {g : Nat → Int} {n b m0 : Int} {S0 : zSt} (hA : mIA A) (hO : M (A 0) = some (mOb A F)) (hI : M (A 11) = some (zar γ 500 f)) (hB : hBo f n) (hk : mRw kq) (hM : M (A kq) = some (zar γ 5987 g)) (hS : mSt g S0) (hOk : zOk S0) (hn : sDn S0 < 8) (hb : 0 ≤ b ∧ b + m0 ≤ n) (hm : 1 ≤ m0 ∧ m0 ≤ 40) :
    zCon l γ yX9_layDocument cX9_layDocument 6 (some .int) [.ref (A 0), .ref (A kq), .int (zi b), .int (zi m0)] M 2 44 0 0 (fun v' M' => v' = some (.int (zi (sDn S0))) ∧ mF A M M' [kq] ∧ ∃ g', M' (A kq) = some (zar γ 5987 g') ∧ mSt g' (sAddD S0 (dNew f n b (b + m0) (sYr S0)))) (fun _ _ => False) := by
  have o1 := hOk.1
  have hg := hS.1
  have hbo := hB.1
  have hra := hAt_r hB
  have e1 : g 1 = sDn S0 := hS.2.2.1
  have hk1 := hk
  unfold mRw at hk1
  have nq0 : A 0 ≠ A kq := hA.ne (by omega)
  have nq11 : A 11 ≠ A kq := hA.ne (by omega)
  have kin : [kq].contains kq = true := by simp
  refine zEnter [some (.ref (A 0)), some (.ref (A kq)), some (.int (zi b)), some (.int (zi m0)), none, none] (by decide +kernel) rfl rfl (Nat.le_of_ble_eq_true rfl) ?_
  intro p e s m args below meth c Q C hin hQ
  have loop : ∀ (t : Nat) (M1 : zM) (k : Int) (g1 : Nat → Int), m0 - k = t → 0 ≤ k ∧ k ≤ m0 → mF A M M1 [kq] → M1 (A 0) = some (mOb A F) → M1 (A 11) = some (zar γ 500 f) → M1 (A kq) = some (zar γ 5987 g1) → (∀ j, zR (g1 j)) → (g1 (3 + 42 * sDn S0).toNat = m0 ∧ g1 (3 + 42 * sDn S0 + 1).toNat = g 0) → (∀ i : Int, 0 ≤ i → i < k → g1 (3 + 42 * sDn S0 + 2 + i).toNat = zsb (hAt f n (b + i))) → (∀ i : Nat, ((i : Int) < 3 + 42 * sDn S0 ∨ 3 + 42 * sDn S0 + 42 ≤ i) → g1 i = g i) → zAW p l e { frames := 2, cells := 0, slots := 0, locals := 44 } s m args below meth c γ 6 Q M1 0 0 27 [some (.ref (A 0)), some (.ref (A kq)), some (.int (zi b)), some (.int (zi m0)), some (.int (zi (3 + 42 * sDn S0))), some (.int (zi k))] [] := by
    intro t
    induction t with
    | zero =>
      intro M1 k g1 ht hkk hf hO1 hI1 hM1 hg1 hh ha hout
      obtain rfl : k = m0 := by omega
      have e3 : g1 1 = sDn S0 := (hout 1 (by omega)).trans e1
      refine z_iload C dX9_layDocument_27 rfl ?_
      refine z_iload_n C dX9_layDocument_29 rfl ?_
      refine z_icmp_geZ (tgt := 80) C dX9_layDocument_30 (by decide) (by omega) (by omega) (fun h30 => ?_) (fun h30 => ?_)
      · refine z_aload_n C dX9_layDocument_80 rfl ?_
        refine z_iconst C dX9_layDocument_81 ?_
        refine z_dup2 C dX9_layDocument_82 rfl rfl ?_
        refine z_aldN C dX9_layDocument_83 (by first | assumption | ((repeat (first | assumption | exact va_up_self _ _ _ | refine (va_up_ne _ _ (by first | assumption | exact hA.ne (by decide) | exact hA.ne (by omega))).trans ?_)); done)) (by omega) (by omega) (by assumption) (fun hr83 => ?_)
        rw [show (1 : Int).toNat = 1 from rfl, e3]
        refine z_iconst C dX9_layDocument_84 ?_
        refine z_iaddZ C dX9_layDocument_85 ?_
        refine z_astN C dX9_layDocument_86 (by first | assumption | ((repeat (first | assumption | exact va_up_self _ _ _ | refine (va_up_ne _ _ (by first | assumption | exact hA.ne (by decide) | exact hA.ne (by omega))).trans ?_)); done)) (by omega) (by omega) (by assumption) (by omega) (fun hr86 => ?_)
        refine z_aload_n C dX9_layDocument_87 rfl ?_
        refine z_iconst C dX9_layDocument_88 ?_
        refine z_aldN C dX9_layDocument_89 (by first | assumption | ((repeat (first | assumption | exact va_up_self _ _ _ | refine (va_up_ne _ _ (by first | assumption | exact hA.ne (by decide) | exact hA.ne (by omega))).trans ?_)); done)) (by omega) (by omega) (by assumption) (fun hr89 => ?_)
        rw [show (1 : Int).toNat = 1 from rfl, va_up_self]
        refine z_iconst C dX9_layDocument_90 ?_
        refine z_isubZ C dX9_layDocument_91 ?_
        refine z_iret C hQ dX9_layDocument_92 rfl (by decide) (by decide) ?_
        rw [show sDn S0 + 1 - 1 = sDn S0 by omega]
        refine ⟨rfl, hf.up kin, _, va_up_self _ _ _, ?_⟩
        obtain ⟨-, s1, s2, s3, s4, s5⟩ := hS
        have out : ∀ i : Nat, i ≠ 1 → ((i : Int) < 3 + 42 * sDn S0 ∨ 3 + 42 * sDn S0 + 42 ≤ i) → va_up g1 1 (sDn S0 + 1) i = g i := fun i i1 i2 => by
          rw [va_up_ne _ _ i1]
          exact hout i i2
        refine ⟨hr86, by rw [out 0 (by decide) (by omega)]; exact s1, va_up_self _ _ _, by rw [out 2 (by decide) (by omega)]; exact s3, fun d hd => ?_, fun r hr => ?_⟩
        · have hd : (d : Int) < sDn S0 + 1 := hd
          by_cases w : d = (sDn S0).toNat
          · have e5 : sDc (sAddD S0 (dNew f n b (b + k) (sYr S0))) d = dNew f n b (b + k) (sYr S0) := by
              rw [w]
              exact va_up_self _ _ _
            rw [e5, show ((d : Nat) : Int) = sDn S0 by omega]
            refine ⟨⟨?_, fun i hi => ?_⟩, ?_⟩
            · rw [va_up_ne _ _ (by omega), hh.1]
              show k = b + k - b
              omega
            · have hi : (i : Int) < b + k - b := hi
              rw [va_up_ne _ _ (by omega), ha i (by omega) (by omega)]
              rfl
            · rw [va_up_ne _ _ (by omega), hh.2]
              exact s1
          · have e5 : sDc (sAddD S0 (dNew f n b (b + k) (sYr S0))) d = sDc S0 d := va_up_ne _ _ w
            rw [e5]
            exact (s4 d (by omega)).cg (by omega) (hOk.2.1 d (by omega)).1.2 fun i i1 i2 => out i (by omega) (by omega)
        · have hr : (r : Int) < sRn S0 := hr
          exact ((s5 r hr).cg (by omega) fun i i1 i2 => out i (by omega) (by omega)).gr (sG_add hOk)
      · exact absurd h30 (by omega)
    | succ t ih =>
      intro M1 k g1 ht hkk hf hO1 hI1 hM1 hg1 hh ha hout
      have hrk := hra (b + k)
      have hin : hAt f n (b + k) = f (b + k).toNat := hAt_in (by omega)
      have nxt : ∀ v : Int, v = zsb (hAt f n (b + k)) → (∀ j, zR (va_up g1 (3 + 42 * sDn S0 + 2 + k).toNat v j)) → zAW p l e { frames := 2, cells := 0, slots := 0, locals := 44 } s m args below meth c γ 6 Q (va_up M1 (A kq) (some (zar γ 5987 (va_up g1 (3 + 42 * sDn S0 + 2 + k).toNat v)))) 0 0 27 [some (.ref (A 0)), some (.ref (A kq)), some (.int (zi b)), some (.int (zi m0)), some (.int (zi (3 + 42 * sDn S0))), some (.int (zi (k + 1)))] [] := by
        intro v hv hrr
        refine ih _ (k + 1) _ (by omega) (by omega) (hf.up kin) (by rw [va_up_ne _ _ nq0]; exact hO1) (by rw [va_up_ne _ _ nq11]; exact hI1) (va_up_self _ _ _) hrr ⟨by rw [va_up_ne _ _ (by omega)]; exact hh.1, by rw [va_up_ne _ _ (by omega)]; exact hh.2⟩ (fun i i1 i2 => ?_) (fun i hi => ?_)
        · by_cases w : i = k
          · rw [w, va_up_self, hv]
          · rw [va_up_ne _ _ (by omega)]
            exact ha i i1 (by omega)
        · rw [va_up_ne _ _ (by omega)]
          exact hout i hi
      refine z_iload C dX9_layDocument_27 rfl ?_
      refine z_iload_n C dX9_layDocument_29 rfl ?_
      refine z_icmp_geZ (tgt := 80) C dX9_layDocument_30 (by decide) (by omega) (by omega) (fun h30 => ?_) (fun h30 => ?_)
      · exact absurd h30 (by omega)
      · refine z_aload_n C dX9_layDocument_33 rfl ?_
        refine z_iload C dX9_layDocument_34 rfl ?_
        refine z_iconst C dX9_layDocument_36 ?_
        refine z_iaddZ C dX9_layDocument_37 ?_
        refine z_iload C dX9_layDocument_38 rfl ?_
        refine z_iaddZ C dX9_layDocument_40 ?_
        refine z_aload_n C dX9_layDocument_41 rfl ?_
        refine z_get C dX9_layDocument_42 fl_X9_42 (by first | assumption | ((repeat (first | assumption | exact va_up_self _ _ _ | refine (va_up_ne _ _ (by first | assumption | exact hA.ne (by decide) | exact hA.ne (by omega))).trans ?_)); done)) rfl ?_
        refine z_iload_n C dX9_layDocument_45 rfl ?_
        refine z_iload C dX9_layDocument_46 rfl ?_
        refine z_iaddZ C dX9_layDocument_48 ?_
        refine z_aldN C dX9_layDocument_49 (by first | assumption | ((repeat (first | assumption | exact va_up_self _ _ _ | refine (va_up_ne _ _ (by first | assumption | exact hA.ne (by decide) | exact hA.ne (by omega))).trans ?_)); done)) (by omega) (by omega) hB.2.1 (fun hr49 => ?_)
        rw [← hin]
        refine z_callS C dX9_layDocument_50 lk_X9_202 mw_X9_isLetter mst_X9_isLetter (k_X9_isLetter (x := hAt f n (b + k)) (by unfold zR; omega)) rfl (by first | decide | exact Nat.le_of_ble_eq_true rfl) ⟨by decide, by decide, by decide, by decide⟩ (fun _ _ h => False.elim h) (fun v M' hp => ?_)
        obtain ⟨r50, rfl, rfl, q50⟩ := hp
        have s50 := q50.rng
        refine z_if_eqZ (tgt := 71) C dX9_layDocument_53 (by decide) (by omega) (fun h53 => ?_) (fun h53 => ?_)
        · refine z_bipush C dX9_layDocument_71 (by decide) ?_
          refine z_astN C dX9_layDocument_73 (by first | assumption | ((repeat (first | assumption | exact va_up_self _ _ _ | refine (va_up_ne _ _ (by first | assumption | exact hA.ne (by decide) | exact hA.ne (by omega))).trans ?_)); done)) (by omega) (by omega) (by assumption) (by omega) (fun hr73 => ?_)
          refine z_iincZ C dX9_layDocument_74 rfl (by decide) ?_
          refine z_goto (tgt := 27) C dX9_layDocument_77 (by decide) ?_
          exact nxt _ (by have := q50.f h53; unfold zsb; rw [if_neg this]) hr73
        · refine z_aload_n C dX9_layDocument_56 rfl ?_
          refine z_get C dX9_layDocument_57 fl_X9_42 (by first | assumption | ((repeat (first | assumption | exact va_up_self _ _ _ | refine (va_up_ne _ _ (by first | assumption | exact hA.ne (by decide) | exact hA.ne (by omega))).trans ?_)); done)) rfl ?_
          refine z_iload_n C dX9_layDocument_60 rfl ?_
          refine z_iload C dX9_layDocument_61 rfl ?_
          refine z_iaddZ C dX9_layDocument_63 ?_
          refine z_aldN C dX9_layDocument_64 (by first | assumption | ((repeat (first | assumption | exact va_up_self _ _ _ | refine (va_up_ne _ _ (by first | assumption | exact hA.ne (by decide) | exact hA.ne (by omega))).trans ?_)); done)) (by omega) (by omega) hB.2.1 (fun hr64 => ?_)
          rw [← hin]
          refine z_bipush C dX9_layDocument_65 (by decide) ?_
          refine z_isubZ C dX9_layDocument_67 ?_
          refine z_goto (tgt := 73) C dX9_layDocument_68 (by decide) ?_
          refine z_astN C dX9_layDocument_73 (by first | assumption | ((repeat (first | assumption | exact va_up_self _ _ _ | refine (va_up_ne _ _ (by first | assumption | exact hA.ne (by decide) | exact hA.ne (by omega))).trans ?_)); done)) (by omega) (by omega) (by assumption) (by omega) (fun hr73 => ?_)
          refine z_iincZ C dX9_layDocument_74 rfl (by decide) ?_
          refine z_goto (tgt := 27) C dX9_layDocument_77 (by decide) ?_
          exact nxt _ (by have := q50.t h53; unfold zsb; rw [if_pos this]) hr73
  refine z_aload_n C dX9_layDocument_0 rfl ?_
  refine z_iconst C dX9_layDocument_1 ?_
  refine z_aldN C dX9_layDocument_2 (by first | assumption | ((repeat (first | assumption | exact va_up_self _ _ _ | refine (va_up_ne _ _ (by first | assumption | exact hA.ne (by decide) | exact hA.ne (by omega))).trans ?_)); done)) (by omega) (by omega) (by assumption) (fun hr2 => ?_)
  rw [show (1 : Int).toNat = 1 from rfl, e1] at hr2 ⊢
  refine z_callS C dX9_layDocument_3 lk_X9_88 mw_X9_atDocument mst_X9_atDocument k_X9_atDocument rfl (by first | decide | exact Nat.le_of_ble_eq_true rfl) ⟨by decide, by decide, by decide, by decide⟩ (fun _ _ h => False.elim h) (fun v M' hp => ?_)
  obtain ⟨rfl, rfl⟩ := hp
  refine z_istore C dX9_layDocument_6 (by decide) ?_
  refine z_aload_n C dX9_layDocument_8 rfl ?_
  refine z_iload C dX9_layDocument_9 rfl ?_
  refine z_iconst C dX9_layDocument_11 ?_
  refine z_iaddZ C dX9_layDocument_12 ?_
  refine z_iload_n C dX9_layDocument_13 rfl ?_
  refine z_astN C dX9_layDocument_14 (by first | assumption | ((repeat (first | assumption | exact va_up_self _ _ _ | refine (va_up_ne _ _ (by first | assumption | exact hA.ne (by decide) | exact hA.ne (by omega))).trans ?_)); done)) (by omega) (by omega) (by assumption) (by omega) (fun hr14 => ?_)
  refine z_aload_n C dX9_layDocument_15 rfl ?_
  refine z_iload C dX9_layDocument_16 rfl ?_
  refine z_iconst C dX9_layDocument_18 ?_
  refine z_iaddZ C dX9_layDocument_19 ?_
  refine z_aload_n C dX9_layDocument_20 rfl ?_
  refine z_iconst C dX9_layDocument_21 ?_
  refine z_aldN C dX9_layDocument_22 (by first | assumption | ((repeat (first | assumption | exact va_up_self _ _ _ | refine (va_up_ne _ _ (by first | assumption | exact hA.ne (by decide) | exact hA.ne (by omega))).trans ?_)); done)) (by omega) (by omega) (by assumption) (fun hr22 => ?_)
  refine z_astN C dX9_layDocument_23 (by first | assumption | ((repeat (first | assumption | exact va_up_self _ _ _ | refine (va_up_ne _ _ (by first | assumption | exact hA.ne (by decide) | exact hA.ne (by omega))).trans ?_)); done)) (by omega) (by omega) (by assumption) (by omega) (fun hr23 => ?_)
  refine z_iconst C dX9_layDocument_24 ?_
  refine z_istore C dX9_layDocument_25 (by decide) ?_
  refine loop m0.toNat _ 0 _ (by omega) (by omega) ((mF.rf.up kin).up kin) (by rw [va_up_ne _ _ nq0, va_up_ne _ _ nq0]; exact hO) (by rw [va_up_ne _ _ nq11, va_up_ne _ _ nq11]; exact hI) (va_up_self _ _ _) hr23 ⟨?_, ?_⟩ (fun i i1 i2 => by omega) (fun i hi => ?_)
  · rw [va_up_ne _ _ (by omega), show (3 + 42 * sDn S0).toNat = (3 + 42 * sDn S0 + 0).toNat by omega, va_up_self]
  · rw [va_up_self]
    exact va_up_ne _ _ (by omega)
  · rw [va_up_ne _ _ (by omega), va_up_ne _ _ (by omega)]

