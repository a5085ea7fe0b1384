set_option maxHeartbeats 4000000 in
set_option maxRecDepth 100000 in
theorem k_X6_init {l : Launch} {γ : zG} {M : zM} {a : Nat} (hM : M a = some (.inr (6, [.null, .int 0, .int 0, .null, .int 0, .null]))) :
    zCon l γ yX6_init cX6_init 1 none [.ref a] M 2 32 5 1301 (fun v' M' => v' = none ∧ ∃ A : Nat → Nat, A 0 = a ∧ (∀ i, 1 ≤ i → i < 6 → M (A i) = none) ∧ zFr M M' (zFA A) ∧ hRd γ M' A (fun _ => 0, 0, 0, fun _ => 0, 0, fun _ => 0)) (fun _ _ => False) := by
  refine zEnter [some (.ref a)] (by decide +kernel) rfl rfl (Nat.le_of_ble_eq_true rfl) ?_
  intro p e s m args below meth c Q C hin hQ
  refine z_aload_n C dX6_init_0 rfl ?_
  refine z_objInit C dX6_init_1 t1_123 ob_in ob_co ⟨by decide, (by first | decide | exact Nat.le_of_ble_eq_true rfl)⟩ ?_
  refine z_aload_n C dX6_init_4 rfl ?_
  refine z_iconst C dX6_init_5 ?_
  refine z_newI C dX6_init_6 t1_55 (by omega) ⟨by decide, by decide⟩ (fun q6 hq6 => ?_)
  have n1 : a ≠ q6 := fun q => by rw [q, hq6] at hM; cases hM
  have n2 := n1.symm
  refine z_putF C dX6_init_8 fl_X6_9 hin (by first | assumption | ((repeat (first | assumption | exact va_up_self _ _ _ | refine (va_up_ne _ _ (by assumption)).trans ?_)); done) | (simp [va_up, *] <;> rfl)) (fun _ _ _ h => by cases h; rfl) rfl rfl (by simp) ?_
  refine z_aload_n C dX6_init_11 rfl ?_
  refine z_iconst C dX6_init_12 ?_
  refine z_put C dX6_init_13 fl_X6_15 (by first | assumption | ((repeat (first | assumption | exact va_up_self _ _ _ | refine (va_up_ne _ _ (by assumption)).trans ?_)); done) | (simp [va_up, *] <;> rfl)) rfl rfl (by simp) ?_
  refine z_aload_n C dX6_init_16 rfl ?_
  refine z_iconst C dX6_init_17 ?_
  refine z_put C dX6_init_18 fl_X6_19 (by first | assumption | ((repeat (first | assumption | exact va_up_self _ _ _ | refine (va_up_ne _ _ (by assumption)).trans ?_)); done) | (simp [va_up, *] <;> rfl)) rfl rfl (by simp) ?_
  refine z_aload_n C dX6_init_21 rfl ?_
  refine z_new C dX6_init_22 nw_X6_22 ⟨by decide, by decide⟩ (fun q22 hq22 => ?_)
  have n3 : a ≠ q22 := fun q => by rw [q] at hq22; simp [va_up] at hq22
  have n4 := n3.symm
  have n5 : q6 ≠ q22 := fun q => by rw [q] at hq22 n2; simp [va_up, n2] at hq22
  have n6 := n5.symm
  refine z_dup C dX6_init_25 rfl ?_
  refine z_callIN C dX6_init_26 nk_X6_24 mw_X2_init rfl mi_X2_init (k_X2_init (va_up_self _ _ _)) rfl (by first | decide | exact Nat.le_of_ble_eq_true rfl) ⟨by decide, by decide, by decide, by decide⟩ (fun _ _ h => False.elim h) (fun v M' hp => ?_)
  obtain ⟨rfl, k, v, hk, hv, f1, hC⟩ := hp
  have ek : k ≠ a ∧ k ≠ q6 ∧ k ≠ q22 ∧ M k = none := by
    unfold va_up at hk
    repeat' split at hk
    all_goals first | exact absurd hk (by simp) | simp_all
  have ev : v ≠ a ∧ v ≠ q6 ∧ v ≠ q22 ∧ M v = none := by
    unfold va_up at hv
    repeat' split at hv
    all_goals first | exact absurd hv (by simp) | simp_all
  have b0 := f1.at (b := a) (e := some (.inr (6, [.ref q6, .int (zi 0), .int (zi 0), .null, .int 0, .null]))) (by simp [n3, ek.1.symm, ev.1.symm]) (by rw [va_up_ne _ _ n3]; exact va_up_self _ _ _)
  have b1 := f1.at (b := q6) (e := some (zar γ 4 (fun _ => 0))) (by simp [n5, ek.2.1.symm, ev.2.1.symm]) (by rw [va_up_ne _ _ n5, va_up_ne _ _ n2, va_up_ne _ _ n2, va_up_ne _ _ n2]; exact va_up_self _ _ _)
  refine z_putF C dX6_init_29 fl_X6_25 hin (by first | assumption | ((repeat (first | assumption | exact va_up_self _ _ _ | refine (va_up_ne _ _ (by assumption)).trans ?_)); done) | (simp [va_up, *] <;> rfl)) (fun _ _ _ h => by cases h; rfl) rfl rfl (by simp) ?_
  refine z_aload_n C dX6_init_32 rfl ?_
  refine z_iconst C dX6_init_33 ?_
  refine z_put C dX6_init_34 fl_X6_29 (by first | assumption | ((repeat (first | assumption | exact va_up_self _ _ _ | refine (va_up_ne _ _ (by assumption)).trans ?_)); done) | (simp [va_up, *] <;> rfl)) rfl rfl (by simp) ?_
  refine z_aload_n C dX6_init_37 rfl ?_
  refine z_bipush C dX6_init_38 (by decide) ?_
  refine z_newI C dX6_init_40 t1_55 (by omega) ⟨by decide, by decide⟩ (fun q40 hq40 => ?_)
  have x0 : a ≠ q40 := fun q => by rw [q] at hq40; simp [va_up] at hq40
  have hq : M' q40 = none := by
    rw [va_up_ne _ _ x0.symm, va_up_ne _ _ x0.symm] at hq40
    exact hq40
  have x1 : q40 ≠ q6 := fun q => by rw [q, b1] at hq; cases hq
  have x2 : q40 ≠ q22 := fun q => by
    obtain ⟨fs, h⟩ := hC.ob
    rw [q, h] at hq
    cases hq
  have x3 : q40 ≠ k ∧ q40 ≠ v := by
    obtain ⟨-, n0, ks, vs, h, -⟩ := hC
    exact ⟨fun q => (by rw [q, h.2.1] at hq; cases hq), fun q => (by rw [q, h.2.2] at hq; cases hq)⟩
  have hq2 : M q40 = none := by
    have h := (f1 q40 (by simp [x2, x3])).symm.trans hq
    rw [va_up_ne _ _ x2, va_up_ne _ _ x0.symm, va_up_ne _ _ x0.symm, va_up_ne _ _ x0.symm, va_up_ne _ _ x1] at h
    exact h
  refine z_putF C dX6_init_42 fl_X6_32 hin (by first | assumption | ((repeat (first | assumption | exact va_up_self _ _ _ | refine (va_up_ne _ _ (by assumption)).trans ?_)); done) | (simp [va_up, *] <;> rfl)) (fun _ _ _ h => by cases h; rfl) rfl rfl (by simp) ?_
  refine z_vret C hQ dX6_init_45 (by decide) (by decide) ?_
  refine ⟨rfl, fun i => [a, q6, q22, k, v, q40].getD i 0, rfl, fun i h1 h2 => ?_, ?_, va_up_self _ _ _, ⟨fun _ => 0, ?_, fun _ => (by unfold zR; omega : zR 0), fun _ _ => rfl⟩, hC.fr (S := [a, q40]) ?_ (by simp [n4, x2.symm]) (by simp [ek.1, x3.1.symm]) (by simp [ev.1, x3.2.symm]), fun _ => 0, ?_, fun _ _ => rfl⟩
  · rcases (show i = 1 ∨ i = 2 ∨ i = 3 ∨ i = 4 ∨ i = 5 by omega) with h | h | h | h | h <;> subst h
    · exact hq6
    · have h : M q22 = none := by
        rw [va_up_ne _ _ n4, va_up_ne _ _ n4, va_up_ne _ _ n4, va_up_ne _ _ n6] at hq22
        exact hq22
      exact h
    · exact ek.2.2.2
    · exact ev.2.2.2
    · exact hq2
  · show zFr M _ [a, q6, q22, k, v, q40]
    refine zFr.u2 (zFr.u2 ((?_ : zFr M M' [a, q6, q22, k, v, q40])) (by simp) (by simp)) (by simp) (by simp)
    refine zFr.tr (S1 := [a, q6, q22]) (S2 := [q22, k, v]) ?_ f1 (fun x h => by simp at h ⊢; rcases h with h | h | h <;> simp [h]) (fun x h => by simp at h ⊢; rcases h with h | h | h <;> simp [h])
    exact zFr.u2 (zFr.u2 (zFr.up (by simp)) (by simp) (by simp)) (by simp) (by simp)
  · show va_up _ a _ q6 = _
    rw [va_up_ne _ _ n2, va_up_ne _ _ x1.symm, va_up_ne _ _ n2, va_up_ne _ _ n2]
    exact b1
  · exact zFr.u2 (zFr.u2 zFr.rf (by simp) (by simp)) (by simp) (by simp)
  · show va_up _ a _ q40 = _
    rw [va_up_ne _ _ x0.symm]
    exact va_up_self _ _ _

