/-! the law's acts -/
section ZR67
variable {p : Program} {l : Launch} {e : Env} {R : Room} {s : State} {m : MethodId} {args : Array Value} {below : List Frame} {meth : Method} {c : Code} {γ : zG} {cc : ByteArray} {nL : Nat} {ret : Option FieldType} {own : String} {xt : List ExceptionTableEntry} {Q : State → Prop} {M : zM} {k n pc : Nat} {L : zL} {st : List Value}
theorem z_tswI (C : zC p l s m args meth c γ cc nL ret own xt) {dflt lo hi : Int} {offs : Array Int} {len : Nat} {v off : Int} {tgt : Nat} (hd : decode cc pc = .ok (.tableswitch dflt lo hi offs, len)) (hv : zR v) (h : lo ≤ v ∧ v ≤ hi) (ho : offs[(v - lo).toNat]? = some off) (ht : (pc : Int) + off = (tgt : Int)) (kk : zAW p l e R s m args below meth c γ nL Q M k n tgt L st) : zAW p l e R s m args below meth c γ nL Q M k n pc L (.int (zi v) :: st) := by
  intro H locs ls hH hl hL hz
  have e1 : (zi v).toInt = v := zi_toInt hv
  exact lv_tableIn C.ex C.by hd (by rw [e1]; omega) (by rw [e1]; omega) (by rw [e1]; exact ho) ht (kk H locs ls hH hl hL hz)
theorem z_tswO (C : zC p l s m args meth c γ cc nL ret own xt) {dflt lo hi : Int} {offs : Array Int} {len : Nat} {v : Int} {tgt : Nat} (hd : decode cc pc = .ok (.tableswitch dflt lo hi offs, len)) (hv : zR v) (h : v < lo ∨ hi < v) (ht : (pc : Int) + dflt = (tgt : Int)) (kk : zAW p l e R s m args below meth c γ nL Q M k n tgt L st) : zAW p l e R s m args below meth c γ nL Q M k n pc L (.int (zi v) :: st) := by
  intro H locs ls hH hl hL hz
  have e1 : (zi v).toInt = v := zi_toInt hv
  exact lv_tableOut C.ex C.by hd (by rw [e1]; exact h) ht (kk H locs ls hH hl hL hz)
end ZR67
theorem zbfi_rng (c : Int → Int) (b p s s' : Int) : 0 ≤ zbfi c b p s s' ∧ zbfi c b p s s' ≤ 1 := by
  unfold zbfi
  split <;> decide
theorem zrk_rng1 (c : Int → Int) (b p s : Int) : 1 ≤ zrk c b p s ∧ zrk c b p s ≤ 28 := by
  unfold zrk
  have h1 := zsum_nn (f := fun y => zbfi c b p y s) (lo := 0) (t := 27) (fun i _ => (zbfi_rng c b p _ s).1)
  have h2 := zsum_le (f := fun y => zbfi c b p y s) (lo := 0) (b := 1) (t := 27) (fun i _ => (zbfi_rng c b p _ s).2)
  omega
theorem zgfn_rng (c : Int → Int) (sy : Nat → Int) (len : Int) : ∀ n : Nat, 0 ≤ zgfn c sy len n ∧ zgfn c sy len n ≤ 28 * n
  | 0 => by
    show (0 : Int) ≤ 0 ∧ (0 : Int) ≤ 28 * (0 : Nat)
    omega
  | n + 1 => by
    have h1 := zgfn_rng c sy len n
    have h2 := zrk_rng1 c (hAt sy len ((n : Int) - 2)) (hAt sy len ((n : Int) - 1)) (hAt sy len n)
    show 0 ≤ zgfn c sy len n + zrk c _ _ _ ∧ zgfn c sy len n + zrk c _ _ _ ≤ 28 * ((n + 1 : Nat) : Int)
    omega
theorem zlan_rng (c : Int → Int) (sy : Nat → Int) (len : Int) : ∀ n : Nat, 0 ≤ zlan c sy len n ∧ zlan c sy len n ≤ 28 * n
  | 0 => by
    show (0 : Int) ≤ 0 ∧ (0 : Int) ≤ 28 * (0 : Nat)
    omega
  | n + 1 => by
    have h1 := zlan_rng c sy len n
    have h2 := zrk_rng1 (zldn sy len c n) (hAt sy len ((n : Int) - 2)) (hAt sy len ((n : Int) - 1)) (hAt sy len n)
    show 0 ≤ zlan c sy len n + zrk _ _ _ _ ∧ zlan c sy len n + zrk _ _ _ _ ≤ 28 * ((n + 1 : Nat) : Int)
    omega
theorem zsi_rng (c : Int → Int) : 0 ≤ zsum (zind c) 0 20439 ∧ zsum (zind c) 0 20439 ≤ 20439 := by
  have h1 := zsum_nn (f := zind c) (lo := 0) (t := 20439) (fun i _ => (zind_rng c _).1)
  have h2 := zsum_le (f := zind c) (lo := 0) (b := 1) (t := 20439) (fun i _ => (zind_rng c _).2)
  omega
/-- the reader, the other reader, the document of an act -/
def zaR (r x : Int) : Int := x / 8 % r
def zaO (r x : Int) : Int := (zaR r x + 1) % r
def zaD (d x : Int) : Int := x / 8 / 8 % d
theorem zaR_rng {r : Int} (h : 1 ≤ r) (x : Int) : 0 ≤ zaR r x ∧ zaR r x < r := ⟨Int.emod_nonneg _ (by omega), Int.emod_lt_of_pos _ (by omega)⟩
theorem zaO_rng {r : Int} (h : 1 ≤ r) (x : Int) : 0 ≤ zaO r x ∧ zaO r x < r := ⟨Int.emod_nonneg _ (by omega), Int.emod_lt_of_pos _ (by omega)⟩
theorem zaD_rng {d : Int} (h : 1 ≤ d) (x : Int) : 0 ≤ zaD d x ∧ zaD d x < d := ⟨Int.emod_nonneg _ (by omega), Int.emod_lt_of_pos _ (by omega)⟩
/-- an act that trains -/
def zaT (r x : Int) : Prop := ¬ (x % 8 = 0 ∧ x / 8 / 64 % 3 = 0) ∧ ¬ (x % 8 = 1 ∧ x / 8 / 64 % 4 = 0) ∧ ¬ x % 8 = 2 ∧ ¬ (x % 8 = 3 ∧ zaR r x ≠ zaO r x)
/-- what an act does -/
def zActs (r d x : Int) (S S' : zSt) : Prop :=
  ((x % 8 = 0 ∧ x / 8 / 64 % 3 = 0) ∧ S' = sYear S) ∨ ((x % 8 = 1 ∧ x / 8 / 64 % 4 = 0) ∧ S' = sSetR S (zaR r x).toNat (rClr (sRd S (zaR r x).toNat))) ∨ (x % 8 = 2 ∧ ∃ v, S' = sSetR S (zaR r x).toNat (rSetM (sRd S (zaR r x).toNat) v)) ∨ ((x % 8 = 3 ∧ zaR r x ≠ zaO r x) ∧ S' = sSetR S (zaO r x).toNat (rMrg (sRd S (zaO r x).toNat) (sRd S (zaR r x).toNat))) ∨ (zaT r x ∧ S' = sTrn S (zaR r x) (zaD d x))
theorem zActs.iv {r d x y b : Int} {S S' : zSt} (h : zActs r d x S S') (hI : zIv r d y b S) (hr : 1 ≤ r) (hd : 1 ≤ d) (hb : 0 ≤ b) : zIv r d (y + 1) (b + b + 1) S' := by
  have h1 := zaR_rng hr x
  have h2 := zaO_rng hr x
  have h3 := zaD_rng hd x
  rcases h with ⟨-, rfl⟩ | ⟨-, rfl⟩ | ⟨-, v, rfl⟩ | ⟨-, rfl⟩ | ⟨-, rfl⟩
  · exact hI.year.mono (by omega) (by omega)
  · exact (hI.clr hb h1).mono (by omega) (by omega)
  · exact (hI.met h1).mono (by omega) (by omega)
  · exact (hI.mrg hb h1 h2).mono (by omega) (by omega)
  · exact (hI.trn h1 h3).mono (by omega) (by omega)
set_option maxHeartbeats 4000000 in
set_option maxRecDepth 100000 in
theorem k_L_acts {l : Launch} {γ : zG} {M : zM} {U : Nat → Nat} {Y : zSys} {r d y b x : Int} (hc : hFc γ M U Y) (hk : yOk Y) (hI : zIv r d y b (yS Y)) (hr : 1 ≤ r ∧ r ≤ 3) (hd : 1 ≤ d ∧ d ≤ 3) (hy : y ≤ 1000) (hx : 0 ≤ x ∧ x ≤ 2147483647) :
    zCon l γ yL_acts cL_acts 6 (some .int) [.ref (U 0), .int (zi x)] M 8 185 3 18 (fun v' M' => ∃ (Y' : zSys) (z : Int), fOk γ M M' U Y' ∧ yOk Y' ∧ zActs r d x (yS Y) (yS Y') ∧ v' = some (.int (zi z)) ∧ 0 ≤ z ∧ z ≤ 2147483647) (fun _ _ => False) := by
  obtain ⟨fs0, hM0⟩ := hc.ok0
  have hrn : sRn (yS Y) = r := hI.1.1
  have hdn : sDn (yS Y) = d := hI.1.2.1
  have hyr : 0 ≤ sYr (yS Y) ∧ sYr (yS Y) ≤ y := hI.1.2.2
  have h1 := zaR_rng hr.1 x
  have h2 := zaO_rng hr.1 x
  have h3 := zaD_rng hd.1 x
  have hRz : zR (zaR r x) := by unfold zR; omega
  have hOz : zR (zaO r x) := by unfold zR; omega
  have hDz : zR (zaD d x) := by unfold zR; omega
  have g1 : 0 ≤ zaR r x ∧ zaR r x < sRn (yS Y) := by omega
  have g2 : 0 ≤ zaO r x ∧ zaO r x < sRn (yS Y) := by omega
  have g3 : 0 ≤ zaD d x ∧ zaD d x < sDn (yS Y) := by omega
  have hXd := hI.2.1 (zaD d x).toNat (by omega)
  have t1 : q_train Y (zaR r x) (zaD d x) = (0, zgf (zdoc (rC (sRd (yS Y) (zaR r x).toNat)) (sDc (yS Y) (zaD d x).toNat)) (sDc (yS Y) (zaD d x).toNat)) := by
    unfold q_train
    rw [zqR_t g1, zqD_t g3]
  have t2 : q_learn Y (zaR r x) (zaD d x) = (0, zla (rC (sRd (yS Y) (zaR r x).toNat)) (sDc (yS Y) (zaD d x).toNat)) := by
    unfold q_learn
    rw [zqR_t g1, zqD_t g3]
  have t3 : q_forget Y (zaR r x) = (0, zsum (zind (rC (sRd (yS Y) (zaR r x).toNat))) 0 20439) := by
    unfold q_forget
    rw [zqR_t g1]
  have t5 := zgfn_rng (zdoc (rC (sRd (yS Y) (zaR r x).toNat)) (sDc (yS Y) (zaD d x).toNat)) (dSy (sDc (yS Y) (zaD d x).toNat)) (dLe (sDc (yS Y) (zaD d x).toNat)) (dLe (sDc (yS Y) (zaD d x).toNat)).toNat
  have t6 := zlan_rng (rC (sRd (yS Y) (zaR r x).toNat)) (dSy (sDc (yS Y) (zaD d x).toNat)) (dLe (sDc (yS Y) (zaD d x).toNat)) (dLe (sDc (yS Y) (zaD d x).toNat)).toNat
  have t7 := zsi_rng (rC (sRd (yS Y) (zaR r x).toNat))
  refine zEnter [some (.ref (U 0)), some (.int (zi x)), none, none, none, none] (by decide +kernel) rfl rfl (Nat.le_of_ble_eq_true rfl) ?_
  intro p e s m args below meth c Q C hin hQ
  have c76 : x % 8 = 0 → zAW p l e { frames := 8, cells := 3, slots := 18, locals := 185 } s m args below meth c γ 6 Q M 0 0 76 [some (.ref (U 0)), some (.int (zi x)), some (.int (zi (x / 8))), some (.int (zi (zaR r x))), some (.int (zi (zaO r x))), some (.int (zi (zaD d x)))] [] := by
    intro h8
    refine z_iload_n C dL_acts_76 rfl ?_
    refine z_bipush C dL_acts_77 (by decide) ?_
    refine z_idivZ C dL_acts_79 (by omega) (by omega) ?_
    refine z_iconst C dL_acts_80 ?_
    refine z_iremZ C dL_acts_81 (by omega) (by omega) ?_
    refine z_if_neZ (tgt := 92) C dL_acts_82 (by decide) (by omega) (fun h82 => ?_) (fun h82 => ?_)
    · refine z_aload_n C dL_acts_92 rfl ?_
      refine z_iload_n C dL_acts_93 rfl ?_
      refine z_iload C dL_acts_94 rfl ?_
      refine z_callV C dL_acts_96 lk_L_87 mw_X8_train mi_X8_train ms_X8_train rfl hM0 (k_X8_train hc hk hRz hDz) rfl (by first | decide | exact Nat.le_of_ble_eq_true rfl) ⟨by decide, by decide, by decide, by decide⟩ (fun X M' h => (h.no (by rw [t1])).elim) (fun v M' hp => ?_)
      obtain ⟨hO, hq0, rfl⟩ := hp
      refine z_iret C hQ dL_acts_99 rfl (by decide) (by decide) ?_
      exact ⟨_, _, hO, ok_train hk hq0, .inr (.inr (.inr (.inr ⟨⟨by omega, by omega, by omega, by omega⟩, rfl⟩))), rfl, by rw [t1]; exact t5.1, by rw [t1]; exact Int.le_trans t5.2 (by omega)⟩
    · refine z_aload_n C dL_acts_85 rfl ?_
      refine z_callV C dL_acts_86 lk_L_84 mw_X8_endYear mi_X8_endYear ms_X8_endYear rfl hM0 (k_X8_endYear hc hk) rfl (by first | decide | exact Nat.le_of_ble_eq_true rfl) ⟨by decide, by decide, by decide, by decide⟩ (fun X M' h => (h.no rfl).elim) (fun v M' hp => ?_)
      obtain ⟨hO, -, rfl⟩ := hp
      refine z_goto (tgt := 99) C dL_acts_89 (by decide) ?_
      refine z_iret C hQ dL_acts_99 rfl (by decide) (by decide) ?_
      exact ⟨_, _, hO, ok_endYear hk, .inl ⟨⟨h8, h82⟩, rfl⟩, rfl, by show 0 ≤ sYr (yS Y) + 1; omega, by show sYr (yS Y) + 1 ≤ 2147483647; omega⟩
  have c100 : x % 8 = 1 → zAW p l e { frames := 8, cells := 3, slots := 18, locals := 185 } s m args below meth c γ 6 Q M 0 0 100 [some (.ref (U 0)), some (.int (zi x)), some (.int (zi (x / 8))), some (.int (zi (zaR r x))), some (.int (zi (zaO r x))), some (.int (zi (zaD d x)))] [] := by
    intro h8
    refine z_iload_n C dL_acts_100 rfl ?_
    refine z_bipush C dL_acts_101 (by decide) ?_
    refine z_idivZ C dL_acts_103 (by omega) (by omega) ?_
    refine z_iconst C dL_acts_104 ?_
    refine z_iremZ C dL_acts_105 (by omega) (by omega) ?_
    refine z_if_neZ (tgt := 117) C dL_acts_106 (by decide) (by omega) (fun h106 => ?_) (fun h106 => ?_)
    · refine z_aload_n C dL_acts_117 rfl ?_
      refine z_iload_n C dL_acts_118 rfl ?_
      refine z_iload C dL_acts_119 rfl ?_
      refine z_callV C dL_acts_121 lk_L_94 mw_X8_learn mi_X8_learn ms_X8_learn rfl hM0 (k_X8_learn hc hk hRz hDz) rfl (by first | decide | exact Nat.le_of_ble_eq_true rfl) ⟨by decide, by decide, by decide, by decide⟩ (fun X M' h => (h.no (by rw [t2])).elim) (fun v M' hp => ?_)
      obtain ⟨hO, hq0, rfl⟩ := hp
      refine z_iret C hQ dL_acts_124 rfl (by decide) (by decide) ?_
      exact ⟨_, _, hO, ok_learn hk hq0, .inr (.inr (.inr (.inr ⟨⟨by omega, by omega, by omega, by omega⟩, rfl⟩))), rfl, by rw [t2]; exact t6.1, by rw [t2]; exact Int.le_trans t6.2 (by omega)⟩
    · refine z_aload_n C dL_acts_109 rfl ?_
      refine z_iload_n C dL_acts_110 rfl ?_
      refine z_callV C dL_acts_111 lk_L_91 mw_X8_forget mi_X8_forget ms_X8_forget rfl hM0 (k_X8_forget hc hk hRz) rfl (by first | decide | exact Nat.le_of_ble_eq_true rfl) ⟨by decide, by decide, by decide, by decide⟩ (fun X M' h => (h.no (by rw [t3])).elim) (fun v M' hp => ?_)
      obtain ⟨hO, hq0, rfl⟩ := hp
      refine z_goto (tgt := 124) C dL_acts_114 (by decide) ?_
      refine z_iret C hQ dL_acts_124 rfl (by decide) (by decide) ?_
      exact ⟨_, _, hO, ok_forget hk hq0, .inr (.inl ⟨⟨h8, h106⟩, rfl⟩), rfl, by rw [t3]; exact t7.1, by rw [t3]; exact Int.le_trans t7.2 (by omega)⟩
  have c125 : x % 8 = 2 → zAW p l e { frames := 8, cells := 3, slots := 18, locals := 185 } s m args below meth c γ 6 Q M 0 0 125 [some (.ref (U 0)), some (.int (zi x)), some (.int (zi (x / 8))), some (.int (zi (zaR r x))), some (.int (zi (zaO r x))), some (.int (zi (zaD d x)))] [] := by
    intro h8
    have hv : 0 ≤ x / 8 / 64 % 3 ∧ x / 8 / 64 % 3 ≤ 2 := by omega
    have t4 : q_setEscapeMethod Y (zaR r x) (x / 8 / 64 % 3) = (0, rMe (sRd (yS Y) (zaR r x).toNat)) := by
      unfold q_setEscapeMethod
      rw [zqR_t g1, zq2_t hv]
    have t8 := (hk.1.2.2 (zaR r x).toNat (by omega)).1.1
    refine z_aload_n C dL_acts_125 rfl ?_
    refine z_iload_n C dL_acts_126 rfl ?_
    refine z_iload_n C dL_acts_127 rfl ?_
    refine z_bipush C dL_acts_128 (by decide) ?_
    refine z_idivZ C dL_acts_130 (by omega) (by omega) ?_
    refine z_iconst C dL_acts_131 ?_
    refine z_iremZ C dL_acts_132 (by omega) (by omega) ?_
    refine z_callV C dL_acts_133 lk_L_97 mw_X8_setEscapeMethod mi_X8_setEscapeMethod ms_X8_setEscapeMethod rfl hM0 (k_X8_setEscapeMethod hc hk hRz (by unfold zR; omega)) rfl (by first | decide | exact Nat.le_of_ble_eq_true rfl) ⟨by decide, by decide, by decide, by decide⟩ (fun X M' h => (h.no (by rw [t4])).elim) (fun v M' hp => ?_)
    obtain ⟨hO, hq0, rfl⟩ := hp
    refine z_iret C hQ dL_acts_136 rfl (by decide) (by decide) ?_
    exact ⟨_, _, hO, ok_setEscapeMethod hk hq0, .inr (.inr (.inl ⟨h8, _, rfl⟩)), rfl, by rw [t4]; exact t8.1, by rw [t4]; exact Int.le_trans t8.2 (by decide)⟩
  have c137 : x % 8 = 3 → zAW p l e { frames := 8, cells := 3, slots := 18, locals := 185 } s m args below meth c γ 6 Q M 0 0 137 [some (.ref (U 0)), some (.int (zi x)), some (.int (zi (x / 8))), some (.int (zi (zaR r x))), some (.int (zi (zaO r x))), some (.int (zi (zaD d x)))] [] := by
    intro h8
    have t9 := zsi_rng (zmrg (rC (sRd (yS Y) (zaO r x).toNat)) (rC (sRd (yS Y) (zaR r x).toNat)))
    refine z_iload_n C dL_acts_137 rfl ?_
    refine z_iload C dL_acts_138 rfl ?_
    refine z_icmp_neZ (tgt := 153) C dL_acts_140 (by decide) (by omega) (by omega) (fun h140 => ?_) (fun h140 => ?_)
    · refine z_aload_n C dL_acts_153 rfl ?_
      refine z_iload_n C dL_acts_154 rfl ?_
      refine z_iload C dL_acts_155 rfl ?_
      have t4 : q_merge Y (zaR r x) (zaO r x) = (0, zsum (zind (zmrg (rC (sRd (yS Y) (zaO r x).toNat)) (rC (sRd (yS Y) (zaR r x).toNat)))) 0 20439) := by
        unfold q_merge
        rw [zqR_t g1, zqR_t g2, zq2_t h140]
      refine z_callV C dL_acts_157 lk_L_100 mw_X8_merge mi_X8_merge ms_X8_merge rfl hM0 (k_X8_merge hc hk hRz hOz) rfl (by first | decide | exact Nat.le_of_ble_eq_true rfl) ⟨by decide, by decide, by decide, by decide⟩ (fun X M' h => (h.no (by rw [t4])).elim) (fun v M' hp => ?_)
      obtain ⟨hO, hq0, rfl⟩ := hp
      refine z_iret C hQ dL_acts_160 rfl (by decide) (by decide) ?_
      exact ⟨_, _, hO, ok_merge hk hq0, .inr (.inr (.inr (.inl ⟨⟨h8, h140⟩, rfl⟩))), rfl, by rw [t4]; exact t9.1, by rw [t4]; exact Int.le_trans t9.2 (by decide)⟩
    · refine z_aload_n C dL_acts_143 rfl ?_
      refine z_iload_n C dL_acts_144 rfl ?_
      refine z_iload C dL_acts_145 rfl ?_
      refine z_callV C dL_acts_147 lk_L_87 mw_X8_train mi_X8_train ms_X8_train rfl hM0 (k_X8_train hc hk hRz hDz) rfl (by first | decide | exact Nat.le_of_ble_eq_true rfl) ⟨by decide, by decide, by decide, by decide⟩ (fun X M' h => (h.no (by rw [t1])).elim) (fun v M' hp => ?_)
      obtain ⟨hO, hq0, rfl⟩ := hp
      refine z_goto (tgt := 160) C dL_acts_150 (by decide) ?_
      refine z_iret C hQ dL_acts_160 rfl (by decide) (by decide) ?_
      exact ⟨_, _, hO, ok_train hk hq0, .inr (.inr (.inr (.inr ⟨⟨by omega, by omega, by omega, by omega⟩, rfl⟩))), rfl, by rw [t1]; exact t5.1, by rw [t1]; exact Int.le_trans t5.2 (by omega)⟩
  have c161 : (x % 8 = 4 ∨ x % 8 = 5) → zAW p l e { frames := 8, cells := 3, slots := 18, locals := 185 } s m args below meth c γ 6 Q M 0 0 161 [some (.ref (U 0)), some (.int (zi x)), some (.int (zi (x / 8))), some (.int (zi (zaR r x))), some (.int (zi (zaO r x))), some (.int (zi (zaD d x)))] [] := by
    intro h8
    refine z_aload_n C dL_acts_161 rfl ?_
    refine z_iload_n C dL_acts_162 rfl ?_
    refine z_iload C dL_acts_163 rfl ?_
    refine z_callV C dL_acts_165 lk_L_94 mw_X8_learn mi_X8_learn ms_X8_learn rfl hM0 (k_X8_learn hc hk hRz hDz) rfl (by first | decide | exact Nat.le_of_ble_eq_true rfl) ⟨by decide, by decide, by decide, by decide⟩ (fun X M' h => (h.no (by rw [t2])).elim) (fun v M' hp => ?_)
    obtain ⟨hO, hq0, rfl⟩ := hp
    refine z_iret C hQ dL_acts_168 rfl (by decide) (by decide) ?_
    exact ⟨_, _, hO, ok_learn hk hq0, .inr (.inr (.inr (.inr ⟨⟨by omega, by omega, by omega, by omega⟩, rfl⟩))), rfl, by rw [t2]; exact t6.1, by rw [t2]; exact Int.le_trans t6.2 (by omega)⟩
  have c169 : (x % 8 = 6 ∨ x % 8 = 7) → zAW p l e { frames := 8, cells := 3, slots := 18, locals := 185 } s m args below meth c γ 6 Q M 0 0 169 [some (.ref (U 0)), some (.int (zi x)), some (.int (zi (x / 8))), some (.int (zi (zaR r x))), some (.int (zi (zaO r x))), some (.int (zi (zaD d x)))] [] := by
    intro h8
    refine z_aload_n C dL_acts_169 rfl ?_
    refine z_iload_n C dL_acts_170 rfl ?_
    refine z_iload C dL_acts_171 rfl ?_
    refine z_callV C dL_acts_173 lk_L_87 mw_X8_train mi_X8_train ms_X8_train rfl hM0 (k_X8_train hc hk hRz hDz) rfl (by first | decide | exact Nat.le_of_ble_eq_true rfl) ⟨by decide, by decide, by decide, by decide⟩ (fun X M' h => (h.no (by rw [t1])).elim) (fun v M' hp => ?_)
    obtain ⟨hO, hq0, rfl⟩ := hp
    refine z_iret C hQ dL_acts_176 rfl (by decide) (by decide) ?_
    exact ⟨_, _, hO, ok_train hk hq0, .inr (.inr (.inr (.inr ⟨⟨by omega, by omega, by omega, by omega⟩, rfl⟩))), rfl, by rw [t1]; exact t5.1, by rw [t1]; exact Int.le_trans t5.2 (by omega)⟩
  refine z_iload_n C dL_acts_0 rfl ?_
  refine z_bipush C dL_acts_1 (by decide) ?_
  refine z_idivZ C dL_acts_3 (by omega) (by omega) ?_
  refine z_istore_n C dL_acts_4 (by decide) ?_
  refine z_iload_n C dL_acts_5 rfl ?_
  refine z_aload_n C dL_acts_6 rfl ?_
  refine z_callV C dL_acts_7 lk_L_78 mw_X8_readerCount mi_X8_readerCount ms_X8_readerCount rfl hM0 (k_I_readerCount hc hk) rfl (by first | decide | exact Nat.le_of_ble_eq_true rfl) ⟨by decide, by decide, by decide, by decide⟩ (fun _ _ h => False.elim h) (fun v M' hp => ?_)
  obtain ⟨rfl, rfl⟩ := hp
  rw [hrn]
  refine z_iremZ C dL_acts_10 (by omega) (by omega) ?_
  rw [show x / 8 % r = zaR r x from rfl]
  refine z_istore_n C dL_acts_11 (by decide) ?_
  refine z_iload_n C dL_acts_12 rfl ?_
  refine z_iconst C dL_acts_13 ?_
  refine z_iaddZ C dL_acts_14 ?_
  refine z_aload_n C dL_acts_15 rfl ?_
  refine z_callV C dL_acts_16 lk_L_78 mw_X8_readerCount mi_X8_readerCount ms_X8_readerCount rfl hM0 (k_I_readerCount hc hk) rfl (by first | decide | exact Nat.le_of_ble_eq_true rfl) ⟨by decide, by decide, by decide, by decide⟩ (fun _ _ h => False.elim h) (fun v M' hp => ?_)
  obtain ⟨rfl, rfl⟩ := hp
  rw [hrn]
  refine z_iremZ C dL_acts_19 (by omega) (by omega) ?_
  rw [show (zaR r x + 1) % r = zaO r x from rfl]
  refine z_istore C dL_acts_20 (by decide) ?_
  refine z_iload_n C dL_acts_22 rfl ?_
  refine z_bipush C dL_acts_23 (by decide) ?_
  refine z_idivZ C dL_acts_25 (by omega) (by omega) ?_
  refine z_aload_n C dL_acts_26 rfl ?_
  refine z_callV C dL_acts_27 lk_L_81 mw_X8_documentCount mi_X8_documentCount ms_X8_documentCount rfl hM0 (k_I_documentCount hc hk) rfl (by first | decide | exact Nat.le_of_ble_eq_true rfl) ⟨by decide, by decide, by decide, by decide⟩ (fun _ _ h => False.elim h) (fun v M' hp => ?_)
  obtain ⟨rfl, rfl⟩ := hp
  rw [hdn]
  refine z_iremZ C dL_acts_30 (by omega) (by omega) ?_
  rw [show x / 8 / 8 % d = zaD d x from rfl]
  refine z_istore C dL_acts_31 (by decide) ?_
  refine z_iload_n C dL_acts_33 rfl ?_
  refine z_bipush C dL_acts_34 (by decide) ?_
  refine z_iremZ C dL_acts_36 (by omega) (by omega) ?_
  rcases (show x % 8 = 0 ∨ x % 8 = 1 ∨ x % 8 = 2 ∨ x % 8 = 3 ∨ x % 8 = 4 ∨ x % 8 = 5 ∨ x % 8 = 6 ∨ x % 8 = 7 by omega) with h | h | h | h | h | h | h | h
  · rw [h]
    exact z_tswI (tgt := 76) C dL_acts_37 (by unfold zR; decide) (by decide) rfl rfl (c76 h)
  · rw [h]
    exact z_tswI (tgt := 100) C dL_acts_37 (by unfold zR; decide) (by decide) rfl rfl (c100 h)
  · rw [h]
    exact z_tswI (tgt := 125) C dL_acts_37 (by unfold zR; decide) (by decide) rfl rfl (c125 h)
  · rw [h]
    exact z_tswI (tgt := 137) C dL_acts_37 (by unfold zR; decide) (by decide) rfl rfl (c137 h)
  · rw [h]
    exact z_tswI (tgt := 161) C dL_acts_37 (by unfold zR; decide) (by decide) rfl rfl (c161 (.inl h))
  · rw [h]
    exact z_tswI (tgt := 161) C dL_acts_37 (by unfold zR; decide) (by decide) rfl rfl (c161 (.inr h))
  · rw [h]
    exact z_tswO (tgt := 169) C dL_acts_37 (by unfold zR; decide) (by decide) rfl (c169 (.inl h))
  · rw [h]
    exact z_tswO (tgt := 169) C dL_acts_37 (by unfold zR; decide) (by decide) rfl (c169 (.inr h))

