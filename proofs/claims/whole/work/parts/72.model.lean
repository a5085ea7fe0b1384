/-! the model looks at a context -/
theorem zFo_cs {b p : Int} (h : b ≠ -1 → p ≠ -1) : (b ≠ -1 ∧ p ≠ -1 ∧ zFo b p = 2) ∨ (b = -1 ∧ p ≠ -1 ∧ zFo b p = 1) ∨ (b = -1 ∧ p = -1 ∧ zFo b p = 0) := by
  unfold zFo
  split
  · rename_i e
    by_cases q : b = -1
    · omega
    · exact absurd e (h q)
  · split <;> omega
/-- the counts of the first entries -/
def mcl (g : Nat → Int) (r : Int) : Nat → Int → Int
  | 0 => fun _ => 0
  | t + 1 => fun key => if mKe g r t = key then mVa g r t else mcl g r t key
theorem mcl_at {g : Nat → Int} {r : Int} {c : Int → Int} {G : List Int} (h : mRp g r c G) (key : Int) : ∀ t : Nat, (t : Int) ≤ mMa g r → (∃ j : Nat, j < t ∧ mKe g r j = key) ∧ mcl g r t key = c key ∨ (∀ j : Nat, j < t → mKe g r j ≠ key) ∧ mcl g r t key = 0
  | 0, _ => .inr ⟨fun j hj => by omega, rfl⟩
  | t + 1, ht => by
    show _ ∧ (if mKe g r t = key then mVa g r t else mcl g r t key) = _ ∨ _ ∧ (if mKe g r t = key then mVa g r t else mcl g r t key) = 0
    by_cases e : mKe g r t = key
    · rw [if_pos e]
      left
      refine ⟨⟨t, by omega, e⟩, ?_⟩
      have := (h.2.1 t (by omega) (by omega)).2.2
      rw [e] at this
      exact this.symm
    · rw [if_neg e]
      rcases mcl_at h key t (by omega) with ⟨⟨j, h1, h2⟩, h3⟩ | ⟨h1, h2⟩
      · exact .inl ⟨⟨j, by omega, h2⟩, h3⟩
      · refine .inr ⟨fun j hj => ?_, h2⟩
        by_cases w : j = t
        · subst w
          exact e
        · exact h1 j (by omega)
theorem mcl_fin {g : Nat → Int} {r : Int} {c : Int → Int} {G : List Int} (h : mRp g r c G) : mcl g r (mMa g r).toNat = c := by
  funext key
  have := h.1
  rcases mcl_at h key (mMa g r).toNat (by omega) with ⟨-, h3⟩ | ⟨h1, h2⟩
  · exact h3
  · rw [h2]
    by_cases e : c key = 0
    · exact e.symm
    · obtain ⟨j, a1, a2, a3⟩ := h.2.2.2 key e
      have := h1 j.toNat (by omega)
      rw [show ((j.toNat : Nat) : Int) = j by omega] at this
      exact absurd a3 this
/-- the laid counts of a context -/
def mLk (c : Int → Int) (b p : Int) (h : Nat → Int) : Prop := ∀ o s : Int, 0 ≤ o → o ≤ zFo b p → 0 ≤ s → s < 27 → h (27 * (zFo b p - o) + s).toNat = c (zCs o b p + s)
theorem zCs_inj {b p o o' s s' : Int} (hb : -1 ≤ b ∧ b < 27) (hp : -1 ≤ p ∧ p < 27) (hv : b ≠ -1 → p ≠ -1) (h1 : 0 ≤ o ∧ o ≤ zFo b p) (h2 : 0 ≤ o' ∧ o' ≤ zFo b p) (h3 : 0 ≤ s ∧ s < 27) (h4 : 0 ≤ s' ∧ s' < 27) (h : zCs o b p + s = zCs o' b p + s') : o = o' ∧ s = s' := by
  have := zFo_cs hv
  unfold zCs at h
  split at h <;> split at h <;> (try split at h) <;> (try split at h) <;> omega
theorem mLk.up {f : Int → Int} {b p : Int} {h : Nat → Int} (hb : -1 ≤ b ∧ b < 27) (hp : -1 ≤ p ∧ p < 27) (hv : b ≠ -1 → p ≠ -1) (q : mLk f b p h) {o s K V : Int} {w : Nat} (h1 : 0 ≤ o ∧ o ≤ zFo b p) (h2 : 0 ≤ s ∧ s < 27) (hK : K = zCs o b p + s) (hw : (w : Int) = 27 * (zFo b p - o) + s) : mLk (fun key => if K = key then V else f key) b p (va_up h w V) := fun o' s' a1 a2 a3 a4 => by
  show _ = if K = zCs o' b p + s' then V else f (zCs o' b p + s')
  by_cases e : K = zCs o' b p + s'
  · obtain ⟨rfl, rfl⟩ := zCs_inj hb hp hv h1 ⟨a1, a2⟩ h2 ⟨a3, a4⟩ (hK.symm.trans e)
    rw [if_pos e, show (27 * (zFo b p - o) + s).toNat = w by omega, va_up_self]
  · rw [if_neg e, va_up_ne _ _ ?_]
    · exact q o' s' a1 a2 a3 a4
    · intro w2
      apply e
      have : o = o' ∧ s = s' := by omega
      rw [hK, this.1, this.2]
theorem mLk.no {f : Int → Int} {b p : Int} {h : Nat → Int} (q : mLk f b p h) {K V : Int} (hK : ∀ o s : Int, 0 ≤ o → o ≤ zFo b p → 0 ≤ s → s < 27 → K ≠ zCs o b p + s) : mLk (fun key => if K = key then V else f key) b p h := fun o' s' a1 a2 a3 a4 => by
  show _ = if K = zCs o' b p + s' then V else f (zCs o' b p + s')
  rw [if_neg (hK o' s' a1 a2 a3 a4)]
  exact q o' s' a1 a2 a3 a4
theorem zCs_no {b p K o s : Int} (hb : -1 ≤ b ∧ b < 27) (hp : -1 ≤ p ∧ p < 27) (hv : b ≠ -1 → p ≠ -1) (n0 : ¬ K < 27) (n1 : p = -1 ∨ ¬ (27 + p * 27 ≤ K ∧ K ≤ 27 + p * 27 + 26)) (n2 : b = -1 ∨ ¬ (756 + (b * 27 + p) * 27 ≤ K ∧ K ≤ 756 + (b * 27 + p) * 27 + 26)) (h1 : 0 ≤ o) (h2 : o ≤ zFo b p) (h3 : 0 ≤ s) (h4 : s < 27) : K ≠ zCs o b p + s := by
  have := zFo_cs hv
  unfold zCs
  split
  · omega
  · split <;> omega
set_option maxHeartbeats 4000000 in
set_option maxRecDepth 100000 in
theorem k_X9_look {l : Launch} {γ : zG} {M : zM} {A : Nat → Nat} {F : Nat → Int} {kq : Nat} {g h0 : Nat → Int} {r b0 p0 : Int} {c0 : Int → Int} {G : List Int} (hA : mIA A) (hO : M (A 0) = some (mOb A F)) (hk : mRw kq) (hM : M (A kq) = some (zar γ 5987 g)) (hg : ∀ j, zR (g j)) (hH : M (A 7) = some (zar γ 81 h0)) (hh : ∀ j, zR (h0 j)) (hr : 0 ≤ r ∧ r < 4) (hb : -1 ≤ b0 ∧ b0 < 27) (hp0 : -1 ≤ p0 ∧ p0 < 27) (hv : b0 ≠ -1 → p0 ≠ -1) (hL : mRp g r c0 G) (hG : ∀ x, x ∈ G → 0 ≤ x ∧ x < 20439) :
    zCon l γ yX9_look cX9_look 10 none [.ref (A 0), .ref (A kq), .int (zi r), .int (zi b0), .int (zi p0)] M 2 41 0 0 (fun v' M' => v' = none ∧ mF A M M' [0, 7] ∧ M' (A 0) = some (mOb A (va_up F 10 (zFo b0 p0 + 1))) ∧ ∃ h, M' (A 7) = some (zar γ 81 h) ∧ (∀ j, zR (h j)) ∧ mLk c0 b0 p0 h) (fun _ _ => False) := by
  have fo := zFo_cs hv
  have l1 := hL.1
  have hk1 := hk
  unfold mRw at hk1
  have nq0 : A kq ≠ A 0 := hA.ne (by omega)
  have nq7 : A kq ≠ A 7 := hA.ne (by omega)
  refine zEnter [some (.ref (A 0)), some (.ref (A kq)), some (.int (zi r)), some (.int (zi b0)), some (.int (zi p0)), none, none, none, none, none] (by decide +kernel) rfl rfl (Nat.le_of_ble_eq_true rfl) ?_
  intro p e s m args below meth c Q C hin hQ
  have main : ∀ (t : Nat) (M1 : zM) (two one i : Int) (h : Nat → Int) (x8 x9 : Option Value), ((b0 = -1 ∧ two = -1) ∨ (b0 ≠ -1 ∧ two = 756 + (b0 * 27 + p0) * 27)) → ((p0 = -1 ∧ one = -1) ∨ (p0 ≠ -1 ∧ one = 27 + p0 * 27)) → mMa g r - i = t → 0 ≤ i ∧ i ≤ mMa g r → mF A M M1 [0, 7] → M1 (A 0) = some (mOb A (va_up F 10 (zFo b0 p0 + 1))) → M1 (A 7) = some (zar γ 81 h) → (∀ j, zR (h j)) → mLk (mcl g r i.toNat) b0 p0 h → zAW p l e { frames := 2, cells := 0, slots := 0, locals := 41 } s m args below meth c γ 10 Q M1 0 0 93 [some (.ref (A 0)), some (.ref (A kq)), some (.int (zi r)), some (.int (zi b0)), some (.int (zi p0)), some (.int (zi two)), some (.int (zi one)), some (.int (zi i)), x8, x9] [] := by
    intro t
    induction t with
    | zero =>
      intro M1 two one i h x8 x9 htw hon ht hi hf hO1 hH1 hh1 hK
      obtain rfl : i = mMa g r := by omega
      have hM1 := hf.at hA (hk.ni rfl) hM
      refine z_iload C dX9_look_93 rfl ?_
      refine z_aload_n C dX9_look_95 rfl ?_
      refine z_iload_n C dX9_look_96 rfl ?_
      refine z_callS C dX9_look_97 lk_X9_92 mw_X9_atReader mst_X9_atReader k_X9_atReader rfl (by first | decide | exact Nat.le_of_ble_eq_true rfl) ⟨by decide, by decide, by decide, by decide⟩ (fun _ _ h => False.elim h) (fun v M' hp => ?_)
      obtain ⟨rfl, rfl⟩ := hp
      refine z_bipush C dX9_look_100 (by decide) ?_
      refine z_iaddZ C dX9_look_102 ?_
      refine z_aldN C dX9_look_103 (by first | assumption | ((repeat (first | assumption | exact va_up_self _ _ _ | refine (va_up_ne _ _ (by first | assumption | exact hA.ne (by decide) | exact hA.ne (by omega))).trans ?_)); done)) (by omega) (by omega) (by assumption) (fun hr103 => ?_)
      rw [show g (339 + 1412 * r + 11).toNat = mMa g r from rfl]
      refine z_icmp_geZ (tgt := 247) C dX9_look_104 (by decide) (by omega) (by omega) (fun h104 => ?_) (fun h104 => ?_)
      · refine z_vret C hQ dX9_look_247 (by decide) (by decide) ?_
        rw [mcl_fin hL] at hK
        exact ⟨rfl, hf, hO1, h, hH1, hh1, hK⟩
      · exact absurd h104 (by omega)
    | succ t ih =>
      intro M1 two one i h x8 x9 htw hon ht hi hf hO1 hH1 hh1 hK
      have hM1 := hf.at hA (hk.ni rfl) hM
      obtain ⟨k1, k2, k3⟩ := hL.2.1 i (by omega) (by omega)
      have k4 := hG _ k1
      have e1 : g (339 + 1412 * r + 12 + 2 * i).toNat = mKe g r i := rfl
      have e2 : g (339 + 1412 * r + 12 + 2 * i + 1).toNat = mVa g r i := rfl
      have qq := fun M2 h2 x8 x9 => ih M2 two one (i + 1) h2 x8 x9 htw hon (by omega) (by omega)
      rw [show (i + 1).toNat = i.toNat + 1 by omega, mcl, show ((i.toNat : Nat) : Int) = i by omega] at qq
      refine z_iload C dX9_look_93 rfl ?_
      refine z_aload_n C dX9_look_95 rfl ?_
      refine z_iload_n C dX9_look_96 rfl ?_
      refine z_callS C dX9_look_97 lk_X9_92 mw_X9_atReader mst_X9_atReader k_X9_atReader rfl (by first | decide | exact Nat.le_of_ble_eq_true rfl) ⟨by decide, by decide, by decide, by decide⟩ (fun _ _ h => False.elim h) (fun v M' hp => ?_)
      obtain ⟨rfl, rfl⟩ := hp
      refine z_bipush C dX9_look_100 (by decide) ?_
      refine z_iaddZ C dX9_look_102 ?_
      refine z_aldN C dX9_look_103 (by first | assumption | ((repeat (first | assumption | exact va_up_self _ _ _ | refine (va_up_ne _ _ (by first | assumption | exact hA.ne (by decide) | exact hA.ne (by omega))).trans ?_)); done)) (by omega) (by omega) (by assumption) (fun hr103 => ?_)
      rw [show g (339 + 1412 * r + 11).toNat = mMa g r from rfl]
      refine z_icmp_geZ (tgt := 247) C dX9_look_104 (by decide) (by omega) (by omega) (fun h104 => ?_) (fun h104 => ?_)
      · exact absurd h104 (by omega)
      · refine z_aload_n C dX9_look_107 rfl ?_
        refine z_iload_n C dX9_look_108 rfl ?_
        refine z_iload C dX9_look_109 rfl ?_
        refine z_callS C dX9_look_111 lk_X9_95 mw_X9_entryAt mst_X9_entryAt k_X9_entryAt rfl (by first | decide | exact Nat.le_of_ble_eq_true rfl) ⟨by decide, by decide, by decide, by decide⟩ (fun _ _ h => False.elim h) (fun v M' hp => ?_)
        obtain ⟨rfl, rfl⟩ := hp
        refine z_aldN C dX9_look_114 (by first | assumption | ((repeat (first | assumption | exact va_up_self _ _ _ | refine (va_up_ne _ _ (by first | assumption | exact hA.ne (by decide) | exact hA.ne (by omega))).trans ?_)); done)) (by omega) (by omega) (by assumption) (fun hr114 => ?_)
        rw [e1]
        refine z_istore C dX9_look_115 (by decide) ?_
        refine z_aload_n C dX9_look_117 rfl ?_
        refine z_iload_n C dX9_look_118 rfl ?_
        refine z_iload C dX9_look_119 rfl ?_
        refine z_callS C dX9_look_121 lk_X9_95 mw_X9_entryAt mst_X9_entryAt k_X9_entryAt rfl (by first | decide | exact Nat.le_of_ble_eq_true rfl) ⟨by decide, by decide, by decide, by decide⟩ (fun _ _ h => False.elim h) (fun v M' hp => ?_)
        obtain ⟨rfl, rfl⟩ := hp
        refine z_iconst C dX9_look_124 ?_
        refine z_iaddZ C dX9_look_125 ?_
        refine z_aldN C dX9_look_126 (by first | assumption | ((repeat (first | assumption | exact va_up_self _ _ _ | refine (va_up_ne _ _ (by first | assumption | exact hA.ne (by decide) | exact hA.ne (by omega))).trans ?_)); done)) (by omega) (by omega) (by assumption) (fun hr126 => ?_)
        rw [e2]
        refine z_istore C dX9_look_127 (by decide) ?_
        refine z_iload C dX9_look_129 rfl ?_
        refine z_bipush C dX9_look_131 (by decide) ?_
        refine z_icmp_geZ (tgt := 158) C dX9_look_133 (by decide) (by omega) (by omega) (fun h133 => ?_) (fun h133 => ?_)
        · refine z_iload C dX9_look_158 rfl ?_
          refine z_iconst C dX9_look_160 ?_
          refine z_icmp_eqZ (tgt := 206) C dX9_look_161 (by decide) (by omega) (by omega) (fun h161 => ?_) (fun h161 => ?_)
          · have c206 : p0 = -1 ∨ ¬ (27 + p0 * 27 ≤ mKe g r i ∧ mKe g r i ≤ 27 + p0 * 27 + 26) := by
              first
                | exact .inr fun w => q175.f h178 (by omega)
                | exact .inl (by omega)
            refine z_iload C dX9_look_206 rfl ?_
            refine z_iconst C dX9_look_208 ?_
            refine z_icmp_eqZ (tgt := 241) C dX9_look_209 (by decide) (by omega) (by omega) (fun h209 => ?_) (fun h209 => ?_)
            · refine z_iincZ C dX9_look_241 rfl (by decide) ?_
              refine z_goto (tgt := 93) C dX9_look_244 (by decide) ?_
              refine qq _ _ _ _ hf hO1 hH1 hh1 (hK.no fun o s a1 a2 a3 a4 => zCs_no hb hp0 hv (by omega) c206 ?_ a1 a2 a3 a4)
              first
                | exact .inr fun w => q223.f h226 (by omega)
                | exact .inl (by omega)
            · refine z_iload C dX9_look_212 rfl ?_
              refine z_iload C dX9_look_214 rfl ?_
              refine z_iload C dX9_look_216 rfl ?_
              refine z_bipush C dX9_look_218 (by decide) ?_
              refine z_iaddZ C dX9_look_220 ?_
              refine z_iconst C dX9_look_221 ?_
              refine z_isubZ C dX9_look_222 ?_
              refine z_callS C dX9_look_223 lk_X9_128 mw_X9_isBetween mst_X9_isBetween (k_X9_isBetween (x := mKe g r i) (a := two) (b := two + 27 - 1) (by unfold zR; omega) (by unfold zR; omega) (by unfold zR; omega)) rfl (by first | decide | exact Nat.le_of_ble_eq_true rfl) ⟨by decide, by decide, by decide, by decide⟩ (fun _ _ h => False.elim h) (fun v M' hp => ?_)
              obtain ⟨r223, rfl, rfl, q223⟩ := hp
              have s223 := q223.rng
              refine z_if_eqZ (tgt := 241) C dX9_look_226 (by decide) (by omega) (fun h226 => ?_) (fun h226 => ?_)
              · refine z_iincZ C dX9_look_241 rfl (by decide) ?_
                refine z_goto (tgt := 93) C dX9_look_244 (by decide) ?_
                refine qq _ _ _ _ hf hO1 hH1 hh1 (hK.no fun o s a1 a2 a3 a4 => zCs_no hb hp0 hv (by omega) c206 ?_ a1 a2 a3 a4)
                first
                  | exact .inr fun w => q223.f h226 (by omega)
                  | exact .inl (by omega)
              · have c226 := q223.t h226
                refine z_aload_n C dX9_look_229 rfl ?_
                refine z_get C dX9_look_230 fl_X9_30 (by first | assumption | ((repeat (first | assumption | exact va_up_self _ _ _ | refine (va_up_ne _ _ (by first | assumption | exact hA.ne (by decide) | exact hA.ne (by omega))).trans ?_)); done)) rfl ?_
                refine z_iload C dX9_look_233 rfl ?_
                refine z_iload C dX9_look_235 rfl ?_
                refine z_isubZ C dX9_look_237 ?_
                refine z_iload C dX9_look_238 rfl ?_
                refine z_astN C dX9_look_240 (by first | assumption | ((repeat (first | assumption | exact va_up_self _ _ _ | refine (va_up_ne _ _ (by first | assumption | exact hA.ne (by decide) | exact hA.ne (by omega))).trans ?_)); done)) (by omega) (by omega) (by assumption) (by omega) (fun hr240 => ?_)
                refine z_iincZ C dX9_look_241 rfl (by decide) ?_
                refine z_goto (tgt := 93) C dX9_look_244 (by decide) ?_
                exact qq _ _ _ _ (hf.up rfl) (by rw [va_up_ne _ _ (hA.ne (by decide))]; exact hO1) (va_up_self _ _ _) hr240 (hK.up hb hp0 hv (o := 2) (s := mKe g r i - two) (by omega) (by omega) (by unfold zCs; rw [if_neg (by decide), if_neg (by decide)]; omega) (by omega))
          · refine z_iload C dX9_look_164 rfl ?_
            refine z_iload C dX9_look_166 rfl ?_
            refine z_iload C dX9_look_168 rfl ?_
            refine z_bipush C dX9_look_170 (by decide) ?_
            refine z_iaddZ C dX9_look_172 ?_
            refine z_iconst C dX9_look_173 ?_
            refine z_isubZ C dX9_look_174 ?_
            refine z_callS C dX9_look_175 lk_X9_128 mw_X9_isBetween mst_X9_isBetween (k_X9_isBetween (x := mKe g r i) (a := one) (b := one + 27 - 1) (by unfold zR; omega) (by unfold zR; omega) (by unfold zR; omega)) rfl (by first | decide | exact Nat.le_of_ble_eq_true rfl) ⟨by decide, by decide, by decide, by decide⟩ (fun _ _ h => False.elim h) (fun v M' hp => ?_)
            obtain ⟨r175, rfl, rfl, q175⟩ := hp
            have s175 := q175.rng
            refine z_if_eqZ (tgt := 206) C dX9_look_178 (by decide) (by omega) (fun h178 => ?_) (fun h178 => ?_)
            · have c206 : p0 = -1 ∨ ¬ (27 + p0 * 27 ≤ mKe g r i ∧ mKe g r i ≤ 27 + p0 * 27 + 26) := by
                first
                  | exact .inr fun w => q175.f h178 (by omega)
                  | exact .inl (by omega)
              refine z_iload C dX9_look_206 rfl ?_
              refine z_iconst C dX9_look_208 ?_
              refine z_icmp_eqZ (tgt := 241) C dX9_look_209 (by decide) (by omega) (by omega) (fun h209 => ?_) (fun h209 => ?_)
              · refine z_iincZ C dX9_look_241 rfl (by decide) ?_
                refine z_goto (tgt := 93) C dX9_look_244 (by decide) ?_
                refine qq _ _ _ _ hf hO1 hH1 hh1 (hK.no fun o s a1 a2 a3 a4 => zCs_no hb hp0 hv (by omega) c206 ?_ a1 a2 a3 a4)
                first
                  | exact .inr fun w => q223.f h226 (by omega)
                  | exact .inl (by omega)
              · refine z_iload C dX9_look_212 rfl ?_
                refine z_iload C dX9_look_214 rfl ?_
                refine z_iload C dX9_look_216 rfl ?_
                refine z_bipush C dX9_look_218 (by decide) ?_
                refine z_iaddZ C dX9_look_220 ?_
                refine z_iconst C dX9_look_221 ?_
                refine z_isubZ C dX9_look_222 ?_
                refine z_callS C dX9_look_223 lk_X9_128 mw_X9_isBetween mst_X9_isBetween (k_X9_isBetween (x := mKe g r i) (a := two) (b := two + 27 - 1) (by unfold zR; omega) (by unfold zR; omega) (by unfold zR; omega)) rfl (by first | decide | exact Nat.le_of_ble_eq_true rfl) ⟨by decide, by decide, by decide, by decide⟩ (fun _ _ h => False.elim h) (fun v M' hp => ?_)
                obtain ⟨r223, rfl, rfl, q223⟩ := hp
                have s223 := q223.rng
                refine z_if_eqZ (tgt := 241) C dX9_look_226 (by decide) (by omega) (fun h226 => ?_) (fun h226 => ?_)
                · refine z_iincZ C dX9_look_241 rfl (by decide) ?_
                  refine z_goto (tgt := 93) C dX9_look_244 (by decide) ?_
                  refine qq _ _ _ _ hf hO1 hH1 hh1 (hK.no fun o s a1 a2 a3 a4 => zCs_no hb hp0 hv (by omega) c206 ?_ a1 a2 a3 a4)
                  first
                    | exact .inr fun w => q223.f h226 (by omega)
                    | exact .inl (by omega)
                · have c226 := q223.t h226
                  refine z_aload_n C dX9_look_229 rfl ?_
                  refine z_get C dX9_look_230 fl_X9_30 (by first | assumption | ((repeat (first | assumption | exact va_up_self _ _ _ | refine (va_up_ne _ _ (by first | assumption | exact hA.ne (by decide) | exact hA.ne (by omega))).trans ?_)); done)) rfl ?_
                  refine z_iload C dX9_look_233 rfl ?_
                  refine z_iload C dX9_look_235 rfl ?_
                  refine z_isubZ C dX9_look_237 ?_
                  refine z_iload C dX9_look_238 rfl ?_
                  refine z_astN C dX9_look_240 (by first | assumption | ((repeat (first | assumption | exact va_up_self _ _ _ | refine (va_up_ne _ _ (by first | assumption | exact hA.ne (by decide) | exact hA.ne (by omega))).trans ?_)); done)) (by omega) (by omega) (by assumption) (by omega) (fun hr240 => ?_)
                  refine z_iincZ C dX9_look_241 rfl (by decide) ?_
                  refine z_goto (tgt := 93) C dX9_look_244 (by decide) ?_
                  exact qq _ _ _ _ (hf.up rfl) (by rw [va_up_ne _ _ (hA.ne (by decide))]; exact hO1) (va_up_self _ _ _) hr240 (hK.up hb hp0 hv (o := 2) (s := mKe g r i - two) (by omega) (by omega) (by unfold zCs; rw [if_neg (by decide), if_neg (by decide)]; omega) (by omega))
            · have c178 := q175.t h178
              refine z_aload_n C dX9_look_181 rfl ?_
              refine z_get C dX9_look_182 fl_X9_30 (by first | assumption | ((repeat (first | assumption | exact va_up_self _ _ _ | refine (va_up_ne _ _ (by first | assumption | exact hA.ne (by decide) | exact hA.ne (by omega))).trans ?_)); done)) rfl ?_
              refine z_bipush C dX9_look_185 (by decide) ?_
              refine z_aload_n C dX9_look_187 rfl ?_
              refine z_getM C dX9_look_188 fl_X9_125 (by first | assumption | ((repeat (first | assumption | exact va_up_self _ _ _ | refine (va_up_ne _ _ (by first | assumption | exact hA.ne (by decide) | exact hA.ne (by omega))).trans ?_)); done)) rfl (by first | assumption | ((repeat (first | assumption | exact va_up_self _ _ _ | exact rfl | refine (va_up_ne _ _ (by decide)).trans ?_)); done)) ?_
              refine z_iconst C dX9_look_191 ?_
              refine z_isubZ C dX9_look_192 ?_
              refine z_imulZ C dX9_look_193 ?_
              refine z_iload C dX9_look_194 rfl ?_
              refine z_iaddZ C dX9_look_196 ?_
              refine z_iload C dX9_look_197 rfl ?_
              refine z_isubZ C dX9_look_199 ?_
              refine z_iload C dX9_look_200 rfl ?_
              refine z_astN C dX9_look_202 (by first | assumption | ((repeat (first | assumption | exact va_up_self _ _ _ | refine (va_up_ne _ _ (by first | assumption | exact hA.ne (by decide) | exact hA.ne (by omega))).trans ?_)); done)) (by omega) (by omega) (by assumption) (by omega) (fun hr202 => ?_)
              refine z_goto (tgt := 241) C dX9_look_203 (by decide) ?_
              refine z_iincZ C dX9_look_241 rfl (by decide) ?_
              refine z_goto (tgt := 93) C dX9_look_244 (by decide) ?_
              exact qq _ _ _ _ (hf.up rfl) (by rw [va_up_ne _ _ (hA.ne (by decide))]; exact hO1) (va_up_self _ _ _) hr202 (hK.up hb hp0 hv (o := 1) (s := mKe g r i - one) (by omega) (by omega) (by unfold zCs; rw [if_neg (by decide), if_pos rfl]; omega) (by omega))
        · refine z_aload_n C dX9_look_136 rfl ?_
          refine z_get C dX9_look_137 fl_X9_30 (by first | assumption | ((repeat (first | assumption | exact va_up_self _ _ _ | refine (va_up_ne _ _ (by first | assumption | exact hA.ne (by decide) | exact hA.ne (by omega))).trans ?_)); done)) rfl ?_
          refine z_bipush C dX9_look_140 (by decide) ?_
          refine z_aload_n C dX9_look_142 rfl ?_
          refine z_getM C dX9_look_143 fl_X9_125 (by first | assumption | ((repeat (first | assumption | exact va_up_self _ _ _ | refine (va_up_ne _ _ (by first | assumption | exact hA.ne (by decide) | exact hA.ne (by omega))).trans ?_)); done)) rfl (by first | assumption | ((repeat (first | assumption | exact va_up_self _ _ _ | exact rfl | refine (va_up_ne _ _ (by decide)).trans ?_)); done)) ?_
          refine z_iconst C dX9_look_146 ?_
          refine z_isubZ C dX9_look_147 ?_
          refine z_imulZ C dX9_look_148 ?_
          refine z_iload C dX9_look_149 rfl ?_
          refine z_iaddZ C dX9_look_151 ?_
          refine z_iload C dX9_look_152 rfl ?_
          refine z_astN C dX9_look_154 (by first | assumption | ((repeat (first | assumption | exact va_up_self _ _ _ | refine (va_up_ne _ _ (by first | assumption | exact hA.ne (by decide) | exact hA.ne (by omega))).trans ?_)); done)) (by omega) (by omega) (by assumption) (by omega) (fun hr154 => ?_)
          refine z_goto (tgt := 241) C dX9_look_155 (by decide) ?_
          refine z_iincZ C dX9_look_241 rfl (by decide) ?_
          refine z_goto (tgt := 93) C dX9_look_244 (by decide) ?_
          exact qq _ _ _ _ (hf.up rfl) (by rw [va_up_ne _ _ (hA.ne (by decide))]; exact hO1) (va_up_self _ _ _) hr154 (hK.up hb hp0 hv (o := 0) (s := mKe g r i) (by omega) (by omega) (by unfold zCs; rw [if_pos rfl]; omega) (by omega))
  have t53 : ∀ (M1 : zM) (h : Nat → Int) (x5 : Option Value), mF A M M1 [0, 7] → M1 (A 0) = some (mOb A (va_up F 10 (zFo b0 p0 + 1))) → M1 (A 7) = some (zar γ 81 h) → (∀ j, zR (h j)) → (∀ j : Nat, (j : Int) < 27 * (zFo b0 p0 + 1) → h j = 0) → zAW p l e { frames := 2, cells := 0, slots := 0, locals := 41 } s m args below meth c γ 10 Q M1 0 0 53 [some (.ref (A 0)), some (.ref (A kq)), some (.int (zi r)), some (.int (zi b0)), some (.int (zi p0)), x5, none, none, none, none] [] := by
    intro M1 h x5 hf hO1 hH1 hh1 hz
    have hK : mLk (mcl g r 0) b0 p0 h := fun o s a1 a2 a3 a4 => hz _ (by omega)
    have t88 : ∀ (two one : Int), ((b0 = -1 ∧ two = -1) ∨ (b0 ≠ -1 ∧ two = 756 + (b0 * 27 + p0) * 27)) → ((p0 = -1 ∧ one = -1) ∨ (p0 ≠ -1 ∧ one = 27 + p0 * 27)) → zAW p l e { frames := 2, cells := 0, slots := 0, locals := 41 } s m args below meth c γ 10 Q M1 0 0 88 [some (.ref (A 0)), some (.ref (A kq)), some (.int (zi r)), some (.int (zi b0)), some (.int (zi p0)), some (.int (zi two)), none, none, none, none] [.int (zi one)] := by
      intro two one htw hon
      refine z_istore C dX9_look_88 (by decide) ?_
      refine z_iconst C dX9_look_90 ?_
      refine z_istore C dX9_look_91 (by decide) ?_
      exact main (mMa g r).toNat M1 two one 0 h none none htw hon (by omega) (by omega) hf hO1 hH1 hh1 hK
    have t69 : ∀ (two : Int), ((b0 = -1 ∧ two = -1) ∨ (b0 ≠ -1 ∧ two = 756 + (b0 * 27 + p0) * 27)) → zAW p l e { frames := 2, cells := 0, slots := 0, locals := 41 } s m args below meth c γ 10 Q M1 0 0 69 [some (.ref (A 0)), some (.ref (A kq)), some (.int (zi r)), some (.int (zi b0)), some (.int (zi p0)), x5, none, none, none, none] [.int (zi two)] := by
      intro two htw
      refine z_istore C dX9_look_69 (by decide) ?_
      refine z_iload C dX9_look_71 rfl ?_
      refine z_iconst C dX9_look_73 ?_
      refine z_icmp_neZ (tgt := 81) C dX9_look_74 (by decide) (by omega) (by omega) (fun h74 => ?_) (fun h74 => ?_)
      · refine z_iconst C dX9_look_81 ?_
        refine z_iload C dX9_look_82 rfl ?_
        refine z_iconst C dX9_look_84 ?_
        refine z_callS C dX9_look_85 lk_X9_106 mw_X9_keyOf mst_X9_keyOf (k_X9_keyOf (b := -1) (p0 := p0) (s0 := 0) (by unfold zR; omega) (by unfold zR; omega)) rfl (by first | decide | exact Nat.le_of_ble_eq_true rfl) ⟨by decide, by decide, by decide, by decide⟩ (fun _ _ h => False.elim h) (fun v M' hp => ?_)
        obtain ⟨rfl, rfl⟩ := hp
        rw [show mKy (-1) p0 0 = 27 + p0 * 27 by unfold mKy; rw [if_neg (by omega), if_pos (by omega)]; omega]
        exact t88 _ _ htw (.inr ⟨by omega, rfl⟩)
      · refine z_iconst C dX9_look_77 ?_
        refine z_goto (tgt := 88) C dX9_look_78 (by decide) ?_
        exact t88 _ _ htw (.inl ⟨by omega, rfl⟩)
    refine z_iload_n C dX9_look_53 rfl ?_
    refine z_iconst C dX9_look_54 ?_
    refine z_icmp_neZ (tgt := 62) C dX9_look_55 (by decide) (by omega) (by omega) (fun h55 => ?_) (fun h55 => ?_)
    · refine z_iload_n C dX9_look_62 rfl ?_
      refine z_iload C dX9_look_63 rfl ?_
      refine z_iconst C dX9_look_65 ?_
      refine z_callS C dX9_look_66 lk_X9_106 mw_X9_keyOf mst_X9_keyOf (k_X9_keyOf (b := b0) (p0 := p0) (s0 := 0) (by unfold zR; omega) (by unfold zR; omega)) rfl (by first | decide | exact Nat.le_of_ble_eq_true rfl) ⟨by decide, by decide, by decide, by decide⟩ (fun _ _ h => False.elim h) (fun v M' hp => ?_)
      obtain ⟨rfl, rfl⟩ := hp
      rw [show mKy b0 p0 0 = 756 + (b0 * 27 + p0) * 27 by unfold mKy; rw [if_pos (by omega)]; omega]
      exact t69 _ (.inr ⟨by omega, rfl⟩)
    · refine z_iconst C dX9_look_58 ?_
      refine z_goto (tgt := 69) C dX9_look_59 (by decide) ?_
      exact t69 _ (.inl ⟨by omega, rfl⟩)
  have clr : ∀ (t : Nat) (M1 : zM) (i : Int) (h : Nat → Int), 27 * (zFo b0 p0 + 1) - i = t → 0 ≤ i ∧ i ≤ 27 * (zFo b0 p0 + 1) → mF A M M1 [0, 7] → M1 (A 0) = some (mOb A (va_up F 10 (zFo b0 p0 + 1))) → M1 (A 7) = some (zar γ 81 h) → (∀ j, zR (h j)) → (∀ j : Nat, (j : Int) < i → h j = 0) → zAW p l e { frames := 2, cells := 0, slots := 0, locals := 41 } s m args below meth c γ 10 Q M1 0 0 27 [some (.ref (A 0)), some (.ref (A kq)), some (.int (zi r)), some (.int (zi b0)), some (.int (zi p0)), some (.int (zi i)), none, none, none, none] [] := by
    intro t
    induction t with
    | zero =>
      intro M1 i h ht hi hf hO1 hH1 hh1 hz
      refine z_iload C dX9_look_27 rfl ?_
      refine z_bipush C dX9_look_29 (by decide) ?_
      refine z_aload_n C dX9_look_31 rfl ?_
      refine z_getM C dX9_look_32 fl_X9_125 (by first | assumption | ((repeat (first | assumption | exact va_up_self _ _ _ | refine (va_up_ne _ _ (by first | assumption | exact hA.ne (by decide) | exact hA.ne (by omega))).trans ?_)); done)) rfl (by first | assumption | ((repeat (first | assumption | exact va_up_self _ _ _ | exact rfl | refine (va_up_ne _ _ (by decide)).trans ?_)); done)) ?_
      refine z_imulZ C dX9_look_35 ?_
      refine z_icmp_geZ (tgt := 53) C dX9_look_36 (by decide) (by omega) (by omega) (fun h36 => ?_) (fun h36 => ?_)
      · exact t53 M1 h _ hf hO1 hH1 hh1 (fun j hj => hz j (by omega))
      · exact absurd h36 (by omega)
    | succ t ih =>
      intro M1 i h ht hi hf hO1 hH1 hh1 hz
      refine z_iload C dX9_look_27 rfl ?_
      refine z_bipush C dX9_look_29 (by decide) ?_
      refine z_aload_n C dX9_look_31 rfl ?_
      refine z_getM C dX9_look_32 fl_X9_125 (by first | assumption | ((repeat (first | assumption | exact va_up_self _ _ _ | refine (va_up_ne _ _ (by first | assumption | exact hA.ne (by decide) | exact hA.ne (by omega))).trans ?_)); done)) rfl (by first | assumption | ((repeat (first | assumption | exact va_up_self _ _ _ | exact rfl | refine (va_up_ne _ _ (by decide)).trans ?_)); done)) ?_
      refine z_imulZ C dX9_look_35 ?_
      refine z_icmp_geZ (tgt := 53) C dX9_look_36 (by decide) (by omega) (by omega) (fun h36 => ?_) (fun h36 => ?_)
      · exact absurd h36 (by omega)
      · refine z_aload_n C dX9_look_39 rfl ?_
        refine z_get C dX9_look_40 fl_X9_30 (by first | assumption | ((repeat (first | assumption | exact va_up_self _ _ _ | refine (va_up_ne _ _ (by first | assumption | exact hA.ne (by decide) | exact hA.ne (by omega))).trans ?_)); done)) rfl ?_
        refine z_iload C dX9_look_43 rfl ?_
        refine z_iconst C dX9_look_45 ?_
        refine z_astN C dX9_look_46 (by first | assumption | ((repeat (first | assumption | exact va_up_self _ _ _ | refine (va_up_ne _ _ (by first | assumption | exact hA.ne (by decide) | exact hA.ne (by omega))).trans ?_)); done)) (by omega) (by omega) (by assumption) (by omega) (fun hr46 => ?_)
        refine z_iincZ C dX9_look_47 rfl (by decide) ?_
        refine z_goto (tgt := 27) C dX9_look_50 (by decide) ?_
        refine ih _ (i + 1) _ (by omega) (by omega) (hf.up rfl) (by rw [va_up_ne _ _ (hA.ne (by decide))]; exact hO1) (va_up_self _ _ _) hr46 (fun j hj => ?_)
        unfold va_up
        split
        · rfl
        · exact hz j (by omega)
  have t21 : ∀ v : Int, v = zFo b0 p0 + 1 → zAW p l e { frames := 2, cells := 0, slots := 0, locals := 41 } s m args below meth c γ 10 Q M 0 0 21 [some (.ref (A 0)), some (.ref (A kq)), some (.int (zi r)), some (.int (zi b0)), some (.int (zi p0)), none, none, none, none, none] [.int (zi v), .ref (A 0)] := by
    intro v hv2
    subst hv2
    refine z_putM C dX9_look_21 fl_X9_125 (by first | assumption | ((repeat (first | assumption | exact va_up_self _ _ _ | refine (va_up_ne _ _ (by first | assumption | exact hA.ne (by decide) | exact hA.ne (by omega))).trans ?_)); done)) rfl ?_
    refine z_iconst C dX9_look_24 ?_
    refine z_istore C dX9_look_25 (by decide) ?_
    exact clr (27 * (zFo b0 p0 + 1)).toNat _ 0 h0 (by omega) (by omega) (mF.rf.up rfl) (va_up_self _ _ _) (by rw [va_up_ne _ _ (hA.ne (by decide))]; exact hH) hh (fun j hj => by omega)
  refine z_aload_n C dX9_look_0 rfl ?_
  refine z_iload_n C dX9_look_1 rfl ?_
  refine z_iconst C dX9_look_2 ?_
  refine z_icmp_eqZ (tgt := 10) C dX9_look_3 (by decide) (by omega) (by omega) (fun h3 => ?_) (fun h3 => ?_)
  · refine z_iload C dX9_look_10 rfl ?_
    refine z_iconst C dX9_look_12 ?_
    refine z_icmp_eqZ (tgt := 20) C dX9_look_13 (by decide) (by omega) (by omega) (fun h13 => ?_) (fun h13 => ?_)
    · refine z_iconst C dX9_look_20 ?_
      exact t21 _ (by omega)
    · refine z_iconst C dX9_look_16 ?_
      refine z_goto (tgt := 21) C dX9_look_17 (by decide) ?_
      exact t21 _ (by omega)
  · refine z_iconst C dX9_look_6 ?_
    refine z_goto (tgt := 21) C dX9_look_7 (by decide) ?_
    exact t21 _ (by omega)

