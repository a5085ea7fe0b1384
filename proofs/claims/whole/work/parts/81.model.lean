/-! the model's parser: names as numbers, what is laid -/
theorem mck_1 {F : Nat → Int} {w : Int} : mck F 1 w = F := if_neg (by omega)
theorem mck_0 {F : Nat → Int} {w : Int} (h : F 25 = 0) : mck F 0 w = va_up (va_up F 25 w) 26 (F 21) := if_pos ⟨h, rfl⟩
theorem mck_e {F : Nat → Int} {r w : Int} (h : F 25 ≠ 0) : mck F r w = F := if_neg (by omega)
theorem mPs.ck {γ : zG} {M M' : zM} {A : Nat → Nat} {F f : Nat → Int} {n e r w : Int} (hA : mIA A) (h : mPs γ M A F f n e) (hf : mF A M M' [0]) (hO : M' (A 0) = some (mOb A (mck F r w))) : mPs γ M' A (mck F r w) f n e := h.kp hA hf (.of rfl) hO (mck_kp F r w) rfl
theorem zkd_59 {f : Nat → Int} {n e : Int} (h : hAt f n (ztS f n e) = 59) : ztK f n e = 3 := by
  show zkd (hAt f n (ztS f n e)) = 3
  rw [h]
  rfl
set_option maxHeartbeats 4000000 in
set_option maxRecDepth 100000 in
theorem k_X9_finish {l : Launch} {γ : zG} {M : zM} {A : Nat → Nat} {F f : Nat → Int} {n e0 : Int} (hA : mIA A) (hP : mPs γ M A F f n e0) (h25 : 0 ≤ F 25 ∧ F 25 ≤ 5) :
    zCon l γ yX9_finish cX9_finish 1 none [.ref (A 0)] M 5 107 0 0 (fun v' M' => v' = none ∧ mF A M M' [0] ∧ ∃ F', mKp [20, 21, 22, 23, 24, 25, 26] F F' ∧ (F 25 = 0 ∧ hAt f n (ztS f n e0) = 59 ∧ F' 25 = 0 ∧ F' 26 = F 26 ∧ mPs γ M' A F' f n (ztE f n e0) ∨ F 25 = 0 ∧ hAt f n (ztS f n e0) ≠ 59 ∧ F' 25 = 1 ∧ F' 26 = ztS f n e0 ∧ mPs γ M' A F' f n e0 ∨ F 25 ≠ 0 ∧ F' 25 = F 25 ∧ F' 26 = F 26 ∧ mPs γ M' A F' f n e0)) (fun _ _ => False) := by
  obtain ⟨q1, q2, q3, q4, q5, q6⟩ := id hP
  have hb := q4.1
  have rS := ztS_rng (f := f) q5
  have rK := ztK_rng f n e0
  have m3 := mtk_3 rK
  have hK0 := ztK_0 q4 q5
  have hra := hAt_r q4 (ztS f n e0)
  have h21 := q6.2.1
  have h22 := q6.2.2.1
  refine zEnter [some (.ref (A 0))] (by decide +kernel) rfl rfl (Nat.le_of_ble_eq_true rfl) ?_
  intro p e s m args below meth c Q C hin hQ
  have tl : ∀ (M1 : zM) (r : Int) (_ : r = 0 ∨ r = 1) (_ : r = 1 ↔ hAt f n (ztS f n e0) = 59), mF A M M1 [0] → M1 (A 0) = some (mOb A (mck F r 1)) → zAW p l e { frames := 5, cells := 0, slots := 0, locals := 107 } s m args below meth c γ 1 Q M1 0 0 33 [some (.ref (A 0))] [] := by
    intro M1 r hr hr2 hf hM1
    have hP1 := hP.ck hA hf hM1
    have b25 : 0 ≤ mck F r 1 25 ∧ mck F r 1 25 ≤ 5 := by
      unfold mck
      split
      · rw [va_up_ne _ _ (by decide), va_up_self]
        omega
      · exact h25
    refine z_aload_n C dX9_finish_33 rfl ?_
    refine z_callV C dX9_finish_34 lk_X9_234 mw_X9_next mi_X9_next ms_X9_next rfl hM1 (k_X9_next hA hP1 b25) rfl (by first | decide | exact Nat.le_of_ble_eq_true rfl) ⟨by decide, by decide, by decide, by decide⟩ (fun _ _ h => False.elim h) (fun v M' hp => ?_)
    obtain ⟨rfl, f34, F2, p34, c34⟩ := hp
    refine z_vret C hQ dX9_finish_37 (by decide) (by decide) ?_
    refine ⟨rfl, hf.tr f34 ⟨rfl, rfl⟩, F2, (mck_kp F r 1).tr p34 ⟨rfl, rfl⟩, ?_⟩
    have g25 := p34 25 (by decide)
    have g26 := p34 26 (by decide)
    by_cases e1 : F 25 = 0
    · by_cases e2 : r = 1
      · subst e2
        rw [mck_1] at *
        refine .inl ⟨e1, hr2.mp rfl, g25.trans e1, g26, ?_⟩
        rcases c34 with ⟨-, c⟩ | ⟨c, -⟩
        · exact c
        · exact absurd e1 c
      · obtain rfl : r = 0 := by omega
        rw [mck_0 e1] at *
        rw [va_up_ne _ _ (by decide), va_up_self] at g25
        rw [va_up_self, h21] at g26
        refine .inr (.inl ⟨e1, fun w => e2 (hr2.mpr w), g25, g26, ?_⟩)
        rcases c34 with ⟨c, -⟩ | ⟨-, c⟩
        · rw [va_up_ne _ _ (by decide), va_up_self] at c
          omega
        · exact c
    · rw [mck_e e1] at *
      refine .inr (.inr ⟨e1, g25, g26, ?_⟩)
      rcases c34 with ⟨c, -⟩ | ⟨-, c⟩
      · exact absurd c e1
      · exact c
  refine z_aload_n C dX9_finish_0 rfl ?_
  refine z_aload_n C dX9_finish_1 rfl ?_
  refine z_getM C dX9_finish_2 fl_X9_221 (by first | assumption | ((repeat (first | assumption | exact va_up_self _ _ _ | refine (va_up_ne _ _ (by first | assumption | exact hA.ne (by decide) | exact hA.ne (by omega))).trans ?_)); done)) rfl h22 ?_
  refine z_iconst C dX9_finish_5 ?_
  refine z_icmp_neZ (tgt := 27) C dX9_finish_6 (by decide) (by omega) (by omega) (fun h6 => ?_) (fun h6 => ?_)
  · refine z_iconst C dX9_finish_27 ?_
    refine z_iconst C dX9_finish_28 ?_
    refine z_callV C dX9_finish_29 lk_X9_231 mw_X9_check mi_X9_check ms_X9_check rfl q1 (k_X9_check hA q1 (r := 0) (what := 1) (by omega) (by omega) h25) rfl (by first | decide | exact Nat.le_of_ble_eq_true rfl) ⟨by decide, by decide, by decide, by decide⟩ (fun _ _ h => False.elim h) (fun v M' hp => ?_)
    obtain ⟨b29, rfl, f29, a29⟩ := hp
    refine z_pop C dX9_finish_32 rfl ?_
    exact tl _ 0 (.inl rfl) ⟨fun w => by omega, fun w => absurd (m3.2.2.1.mpr (zkd_59 w)) h6⟩ f29 a29
  · refine z_aload_n C dX9_finish_9 rfl ?_
    refine z_get C dX9_finish_10 fl_X9_42 (by first | assumption | ((repeat (first | assumption | exact va_up_self _ _ _ | refine (va_up_ne _ _ (by first | assumption | exact hA.ne (by decide) | exact hA.ne (by omega))).trans ?_)); done)) rfl ?_
    refine z_aload_n C dX9_finish_13 rfl ?_
    refine z_getM C dX9_finish_14 fl_X9_212 (by first | assumption | ((repeat (first | assumption | exact va_up_self _ _ _ | refine (va_up_ne _ _ (by first | assumption | exact hA.ne (by decide) | exact hA.ne (by omega))).trans ?_)); done)) rfl (by first | assumption | ((repeat (first | assumption | exact va_up_self _ _ _ | rewrite [va_up_ne _ _ (by decide)])); (first | done | exact rfl))) ?_
    have k3 : ztK f n e0 = 3 := m3.2.2.1.mp (by omega)
    have lt : ztS f n e0 < n := by omega
    have hin : hAt f n (ztS f n e0) = f (ztS f n e0).toNat := hAt_in (by omega)
    refine z_aldN C dX9_finish_17 (by first | assumption | ((repeat (first | assumption | exact va_up_self _ _ _ | refine (va_up_ne _ _ (by first | assumption | exact hA.ne (by decide) | exact hA.ne (by omega))).trans ?_)); done)) (by omega) (by omega) q4.2.1 (fun hr17 => ?_)
    rw [← hin]
    refine z_bipush C dX9_finish_18 (by decide) ?_
    refine z_icmp_neZ (tgt := 27) C dX9_finish_20 (by decide) (by omega) (by omega) (fun h20 => ?_) (fun h20 => ?_)
    · refine z_iconst C dX9_finish_27 ?_
      refine z_iconst C dX9_finish_28 ?_
      refine z_callV C dX9_finish_29 lk_X9_231 mw_X9_check mi_X9_check ms_X9_check rfl q1 (k_X9_check hA q1 (r := 0) (what := 1) (by omega) (by omega) h25) rfl (by first | decide | exact Nat.le_of_ble_eq_true rfl) ⟨by decide, by decide, by decide, by decide⟩ (fun _ _ h => False.elim h) (fun v M' hp => ?_)
      obtain ⟨b29, rfl, f29, a29⟩ := hp
      refine z_pop C dX9_finish_32 rfl ?_
      exact tl _ 0 (.inl rfl) ⟨fun w => by omega, fun w => absurd w h20⟩ f29 a29
    · refine z_iconst C dX9_finish_23 ?_
      refine z_goto (tgt := 28) C dX9_finish_24 (by decide) ?_
      refine z_iconst C dX9_finish_28 ?_
      refine z_callV C dX9_finish_29 lk_X9_231 mw_X9_check mi_X9_check ms_X9_check rfl q1 (k_X9_check hA q1 (r := 1) (what := 1) (by omega) (by omega) h25) rfl (by first | decide | exact Nat.le_of_ble_eq_true rfl) ⟨by decide, by decide, by decide, by decide⟩ (fun _ _ h => False.elim h) (fun v M' hp => ?_)
      obtain ⟨b29, rfl, f29, a29⟩ := hp
      refine z_pop C dX9_finish_32 rfl ?_
      exact tl _ 1 (.inr rfl) ⟨fun w => by omega, fun w => rfl⟩ f29 a29
/-- a name that stands from b on, m bytes -/
def mNv (f : Nat → Int) (n b m : Int) : Prop := (1 ≤ m ∧ m ≤ 4) ∧ hNm f n b (b + m)
set_option maxHeartbeats 4000000 in
set_option maxRecDepth 100000 in
theorem k_X9_nameFrom {l : Launch} {γ : zG} {M : zM} {A : Nat → Nat} {F f : Nat → Int} {n b m0 : Int} (hO : M (A 0) = some (mOb A F)) (hI : M (A 11) = some (zar γ 500 f)) (hB : hBo f n) (hb : 0 ≤ b ∧ 0 ≤ m0 ∧ b + m0 ≤ n) :
    zCon l γ yX9_nameFrom cX9_nameFrom 5 (some .int) [.ref (A 0), .int (zi b), .int (zi m0)] M 2 44 0 0 (fun v' M' => ∃ v : Int, v' = some (.int (zi v)) ∧ M' = M ∧ (mNv f n b m0 ∧ v = mNf (fun j => hAt f n (b + j)) m0 4 ∧ 0 ≤ v ∧ v ≤ 531440 ∨ ¬ mNv f n b m0 ∧ v = -1)) (fun _ _ => False) := by
  have hbo := hB.1
  have hra := hAt_r hB
  have nf : ∀ t : Nat, (∀ j : Int, 0 ≤ j → j < t → j < m0 → zLet (hAt f n (b + j))) → t ≤ 4 → 0 ≤ mNf (fun j => hAt f n (b + j)) m0 t ∧ mNf (fun j => hAt f n (b + j)) m0 t ≤ 531440 := by
    have aux : ∀ t : Nat, (∀ j : Int, 0 ≤ j → j < t → j < m0 → zLet (hAt f n (b + j))) → 0 ≤ mNf (fun j => hAt f n (b + j)) m0 t ∧ mNf (fun j => hAt f n (b + j)) m0 t + 1 ≤ 27 ^ t := by
      intro t
      induction t with
      | zero => intro _; exact ⟨by unfold mNf; decide, by unfold mNf; decide⟩
      | succ t ih =>
        intro h
        have := ih (fun j a1 a2 a3 => h j a1 (by omega) a3)
        have h2 := h t (by omega) (by omega)
        unfold mNf
        rw [Int.pow_succ]
        unfold zLet at h2
        split
        · rename_i q
          have := h2 q
          show 0 ≤ _ + (hAt f n (b + (t : Int)) - 96) ∧ _ + (hAt f n (b + (t : Int)) - 96) + 1 ≤ _
          omega
        · omega
    intro t ht h4
    have h := aux t ht
    have : (27 : Int) ^ t ≤ 531441 := by
      have : t = 0 ∨ t = 1 ∨ t = 2 ∨ t = 3 ∨ t = 4 := by omega
      rcases this with rfl | rfl | rfl | rfl | rfl <;> decide
    omega
  refine zEnter [some (.ref (A 0)), some (.int (zi b)), some (.int (zi m0)), none, none] (by decide +kernel) rfl rfl (Nat.le_of_ble_eq_true rfl) ?_
  intro p e s m args below meth c Q C hin hQ
  have loop : ∀ (t : Nat) (k : Int), 4 - k = t → 0 ≤ k ∧ k ≤ 4 → (1 ≤ m0 ∧ m0 ≤ 4) → (∀ j : Int, 0 ≤ j → j < k → j < m0 → zLet (hAt f n (b + j))) → zAW p l e { frames := 2, cells := 0, slots := 0, locals := 44 } s m args below meth c γ 5 Q M 0 0 16 [some (.ref (A 0)), some (.int (zi b)), some (.int (zi m0)), some (.int (zi (mNf (fun j => hAt f n (b + j)) m0 k.toNat))), some (.int (zi k))] [] := by
    intro t
    induction t with
    | zero =>
      intro k ht hk hm ha
      obtain rfl : k = 4 := by omega
      have := nf 4 (fun j a1 a2 a3 => ha j a1 a2 a3) (by omega)
      refine z_iload C dX9_nameFrom_16 rfl ?_
      refine z_iconst C dX9_nameFrom_18 ?_
      refine z_icmp_geZ (tgt := 79) C dX9_nameFrom_19 (by decide) (by omega) (by omega) (fun h19 => ?_) (fun h19 => ?_)
      · refine z_iload_n C dX9_nameFrom_79 rfl ?_
        refine z_iret C hQ dX9_nameFrom_80 rfl (by decide) (by decide) ?_
        refine ⟨_, rfl, rfl, .inl ⟨⟨hm, fun j j1 j2 => ?_⟩, rfl, this⟩⟩
        have := ha (j - b) (by omega) (by omega) (by omega)
        rw [show b + (j - b) = j by omega] at this
        exact this
      · exact absurd h19 (by omega)
    | succ t ih =>
      intro k ht hk hm ha
      have rg := nf k.toNat (fun j a1 a2 a3 => ha j a1 (by omega) a3) (by omega)
      have hrk := hra (b + k)
      have qq := ih (k + 1) (by omega) (by omega) hm
      rw [show (k + 1).toNat = k.toNat + 1 by omega, mNf, show ((k.toNat : Nat) : Int) = k by omega] at qq
      have hin : k < m0 → hAt f n (b + k) = f (b + k).toNat := fun w => hAt_in (by omega)
      refine z_iload C dX9_nameFrom_16 rfl ?_
      refine z_iconst C dX9_nameFrom_18 ?_
      refine z_icmp_geZ (tgt := 79) C dX9_nameFrom_19 (by decide) (by omega) (by omega) (fun h19 => ?_) (fun h19 => ?_)
      · exact absurd h19 (by omega)
      · refine z_iload C dX9_nameFrom_22 rfl ?_
        refine z_iload_n C dX9_nameFrom_24 rfl ?_
        refine z_icmp_geZ (tgt := 45) C dX9_nameFrom_25 (by decide) (by omega) (by omega) (fun h25 => ?_) (fun h25 => ?_)
        · refine z_iload_n C dX9_nameFrom_45 rfl ?_
          refine z_bipush C dX9_nameFrom_46 (by decide) ?_
          refine z_imulZ C dX9_nameFrom_48 ?_
          refine z_iload C dX9_nameFrom_49 rfl ?_
          refine z_iload_n C dX9_nameFrom_51 rfl ?_
          refine z_icmp_geZ (tgt := 70) C dX9_nameFrom_52 (by decide) (by omega) (by omega) (fun h52 => ?_) (fun h52 => ?_)
          · refine z_iconst C dX9_nameFrom_70 ?_
            refine z_iaddZ C dX9_nameFrom_71 ?_
            refine z_istore_n C dX9_nameFrom_72 (by decide) ?_
            refine z_iincZ C dX9_nameFrom_73 rfl (by decide) ?_
            refine z_goto (tgt := 16) C dX9_nameFrom_76 (by decide) ?_
            rw [if_neg (by omega)] at qq
            exact qq (fun j a1 a2 a3 => ha j a1 (by omega) a3)
          · exact absurd h52 (by omega)
        · refine z_aload_n C dX9_nameFrom_28 rfl ?_
          refine z_get C dX9_nameFrom_29 fl_X9_42 (by first | assumption | ((repeat (first | assumption | exact va_up_self _ _ _ | refine (va_up_ne _ _ (by first | assumption | exact hA.ne (by decide) | exact hA.ne (by omega))).trans ?_)); done)) rfl ?_
          refine z_iload_n C dX9_nameFrom_32 rfl ?_
          refine z_iload C dX9_nameFrom_33 rfl ?_
          refine z_iaddZ C dX9_nameFrom_35 ?_
          refine z_aldN C dX9_nameFrom_36 (by first | assumption | ((repeat (first | assumption | exact va_up_self _ _ _ | refine (va_up_ne _ _ (by first | assumption | exact hA.ne (by decide) | exact hA.ne (by omega))).trans ?_)); done)) (by omega) (by omega) hB.2.1 (fun hr36 => ?_)
          rw [← hin (by omega)]
          refine z_callS C dX9_nameFrom_37 lk_X9_202 mw_X9_isLetter mst_X9_isLetter (k_X9_isLetter (x := hAt f n (b + k)) (by unfold zR; omega)) rfl (by first | decide | exact Nat.le_of_ble_eq_true rfl) ⟨by decide, by decide, by decide, by decide⟩ (fun _ _ h => False.elim h) (fun v M' hp => ?_)
          obtain ⟨r37, rfl, rfl, q37⟩ := hp
          have s37 := q37.rng
          refine z_if_neZ (tgt := 45) C dX9_nameFrom_40 (by decide) (by omega) (fun h40 => ?_) (fun h40 => ?_)
          · refine z_iload_n C dX9_nameFrom_45 rfl ?_
            refine z_bipush C dX9_nameFrom_46 (by decide) ?_
            refine z_imulZ C dX9_nameFrom_48 ?_
            refine z_iload C dX9_nameFrom_49 rfl ?_
            refine z_iload_n C dX9_nameFrom_51 rfl ?_
            refine z_icmp_geZ (tgt := 70) C dX9_nameFrom_52 (by decide) (by omega) (by omega) (fun h52 => ?_) (fun h52 => ?_)
            · exact absurd h52 (by omega)
            · refine z_aload_n C dX9_nameFrom_55 rfl ?_
              refine z_get C dX9_nameFrom_56 fl_X9_42 (by first | assumption | ((repeat (first | assumption | exact va_up_self _ _ _ | refine (va_up_ne _ _ (by first | assumption | exact hA.ne (by decide) | exact hA.ne (by omega))).trans ?_)); done)) rfl ?_
              refine z_iload_n C dX9_nameFrom_59 rfl ?_
              refine z_iload C dX9_nameFrom_60 rfl ?_
              refine z_iaddZ C dX9_nameFrom_62 ?_
              refine z_aldN C dX9_nameFrom_63 (by first | assumption | ((repeat (first | assumption | exact va_up_self _ _ _ | refine (va_up_ne _ _ (by first | assumption | exact hA.ne (by decide) | exact hA.ne (by omega))).trans ?_)); done)) (by omega) (by omega) hB.2.1 (fun hr63 => ?_)
              rw [← hin (by omega)]
              refine z_bipush C dX9_nameFrom_64 (by decide) ?_
              refine z_isubZ C dX9_nameFrom_66 ?_
              refine z_goto (tgt := 71) C dX9_nameFrom_67 (by decide) ?_
              refine z_iaddZ C dX9_nameFrom_71 ?_
              refine z_istore_n C dX9_nameFrom_72 (by decide) ?_
              refine z_iincZ C dX9_nameFrom_73 rfl (by decide) ?_
              refine z_goto (tgt := 16) C dX9_nameFrom_76 (by decide) ?_
              rw [if_pos (by omega)] at qq
              refine qq (fun j a1 a2 a3 => ?_)
              by_cases e1 : j = k
              · rw [e1]
                exact q37.t h40
              · exact ha j a1 (by omega) a3
          · refine z_iconst C dX9_nameFrom_43 ?_
            refine z_iret C hQ dX9_nameFrom_44 rfl (by decide) (by decide) ?_
            refine ⟨-1, rfl, rfl, .inr ⟨fun w => ?_, rfl⟩⟩
            exact q37.f h40 (w.2 (b + k) (by omega) (by omega))
  refine z_iload_n C dX9_nameFrom_0 rfl ?_
  refine z_iconst C dX9_nameFrom_1 ?_
  refine z_iconst C dX9_nameFrom_2 ?_
  refine z_callS C dX9_nameFrom_3 lk_X9_128 mw_X9_isBetween mst_X9_isBetween (k_X9_isBetween (x := m0) (a := 1) (b := 4) (by unfold zR; omega) (by unfold zR; omega) (by unfold zR; omega)) rfl (by first | decide | exact Nat.le_of_ble_eq_true rfl) ⟨by decide, by decide, by decide, by decide⟩ (fun _ _ h => False.elim h) (fun v M' hp => ?_)
  obtain ⟨r3, rfl, rfl, q3⟩ := hp
  have s3 := q3.rng
  refine z_if_neZ (tgt := 11) C dX9_nameFrom_6 (by decide) (by omega) (fun h6 => ?_) (fun h6 => ?_)
  · refine z_iconst C dX9_nameFrom_11 ?_
    refine z_istore_n C dX9_nameFrom_12 (by decide) ?_
    refine z_iconst C dX9_nameFrom_13 ?_
    refine z_istore C dX9_nameFrom_14 (by decide) ?_
    exact loop 4 0 (by omega) (by omega) (q3.t h6) (fun j a1 a2 => by omega)
  · refine z_iconst C dX9_nameFrom_9 ?_
    refine z_iret C hQ dX9_nameFrom_10 rfl (by decide) (by decide) ?_
    exact ⟨-1, rfl, rfl, .inr ⟨fun w => q3.f h6 w.1, rfl⟩⟩
set_option maxHeartbeats 4000000 in
set_option maxRecDepth 100000 in
theorem k_X9_named {l : Launch} {γ : zG} {M : zM} {q : Nat} {g : Nat → Int} {S0 : zSt} {v : Int} (hM : M q = some (zar γ 5987 g)) (hS : mSt g S0) (hO : zOk S0) (hv : -1 ≤ v ∧ v ≤ 531440) :
    zCon l γ yX9_named cX9_named 3 (some .int) [.ref q, .int (zi v)] M 1 20 0 0 (fun v' M' => v' = some (.int (zi (zfi (fun i => mNm (sRd S0 i) = v) (sRn S0).toNat))) ∧ M' = M) (fun _ _ => False) := by
  have o1 := hO.1
  have hg := hS.1
  have e2 : g 2 = sRn S0 := hS.2.2.2.1
  refine zEnter [some (.ref q), some (.int (zi v)), none] (by decide +kernel) rfl rfl (Nat.le_of_ble_eq_true rfl) ?_
  intro p e s m args below meth c Q C hin hQ
  have loop : ∀ (t : Nat) (k : Int), sRn S0 - k = t → 0 ≤ k ∧ k ≤ sRn S0 → (∀ j : Nat, j < k → ¬ mNm (sRd S0 j) = v) → zAW p l e { frames := 1, cells := 0, slots := 0, locals := 20 } s m args below meth c γ 3 Q M 0 0 2 [some (.ref q), some (.int (zi v)), some (.int (zi k))] [] := by
    intro t
    induction t with
    | zero =>
      intro k ht hk ha
      refine z_iload_n C dX9_named_2 rfl ?_
      refine z_aload_n C dX9_named_3 rfl ?_
      refine z_iconst C dX9_named_4 ?_
      refine z_aldN C dX9_named_5 (by first | assumption | ((repeat (first | assumption | exact va_up_self _ _ _ | refine (va_up_ne _ _ (by first | assumption | exact hA.ne (by decide) | exact hA.ne (by omega))).trans ?_)); done)) (by omega) (by omega) (by assumption) (fun hr5 => ?_)
      rw [show (2 : Int).toNat = 2 from rfl, e2]
      refine z_icmp_geZ (tgt := 29) C dX9_named_6 (by decide) (by omega) (by omega) (fun h6 => ?_) (fun h6 => ?_)
      · refine z_iconst C dX9_named_29 ?_
        refine z_iret C hQ dX9_named_30 rfl (by decide) (by decide) ?_
        rw [zfi_no _ (fun j hj => ha j (by omega))]
        exact ⟨rfl, rfl⟩
      · exact absurd h6 (by omega)
    | succ t ih =>
      intro k ht hk ha
      have e3 := (hS.2.2.2.2.2 k.toNat (by omega)).1
      rw [show ((k.toNat : Nat) : Int) = k by omega] at e3
      refine z_iload_n C dX9_named_2 rfl ?_
      refine z_aload_n C dX9_named_3 rfl ?_
      refine z_iconst C dX9_named_4 ?_
      refine z_aldN C dX9_named_5 (by first | assumption | ((repeat (first | assumption | exact va_up_self _ _ _ | refine (va_up_ne _ _ (by first | assumption | exact hA.ne (by decide) | exact hA.ne (by omega))).trans ?_)); done)) (by omega) (by omega) (by assumption) (fun hr5 => ?_)
      rw [show (2 : Int).toNat = 2 from rfl, e2]
      refine z_icmp_geZ (tgt := 29) C dX9_named_6 (by decide) (by omega) (by omega) (fun h6 => ?_) (fun h6 => ?_)
      · exact absurd h6 (by omega)
      · refine z_aload_n C dX9_named_9 rfl ?_
        refine z_iload_n C dX9_named_10 rfl ?_
        refine z_callS C dX9_named_11 lk_X9_92 mw_X9_atReader mst_X9_atReader k_X9_atReader rfl (by first | decide | exact Nat.le_of_ble_eq_true rfl) ⟨by decide, by decide, by decide, by decide⟩ (fun _ _ h => False.elim h) (fun v M' hp => ?_)
        obtain ⟨rfl, rfl⟩ := hp
        refine z_iconst C dX9_named_14 ?_
        refine z_iaddZ C dX9_named_15 ?_
        rw [Int.add_zero]
        refine z_aldN C dX9_named_16 (by first | assumption | ((repeat (first | assumption | exact va_up_self _ _ _ | refine (va_up_ne _ _ (by first | assumption | exact hA.ne (by decide) | exact hA.ne (by omega))).trans ?_)); done)) (by omega) (by omega) (by assumption) (fun hr16 => ?_)
        rw [e3] at hr16 ⊢
        refine z_iload_n C dX9_named_17 rfl ?_
        refine z_icmp_neZ (tgt := 23) C dX9_named_18 (by decide) (by omega) (by omega) (fun h18 => ?_) (fun h18 => ?_)
        · refine z_iincZ C dX9_named_23 rfl (by decide) ?_
          refine z_goto (tgt := 2) C dX9_named_26 (by decide) ?_
          refine ih (k + 1) (by omega) (by omega) (fun j hj w => ?_)
          by_cases e1 : j = k.toNat
          · subst e1
            exact h18 w
          · exact ha j (by omega) w
        · refine z_iload_n C dX9_named_21 rfl ?_
          refine z_iret C hQ dX9_named_22 rfl (by decide) (by decide) ?_
          rw [zfi_at (i := k.toNat) (by omega) (fun j hj => ha j (by omega)) _ (by omega), show ((k.toNat : Nat) : Int) = k by omega]
          exact ⟨rfl, rfl⟩
  refine z_iconst C dX9_named_0 ?_
  refine z_istore_n C dX9_named_1 (by decide) ?_
  exact loop (sRn S0).toNat 0 (by omega) (by omega) (fun j hj => by omega)

