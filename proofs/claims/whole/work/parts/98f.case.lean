/-! the law's cases: denominator, probability, codeLength, rankAt, totalGuesses, adaptiveGuesses, firstGuessHits -/
section CSf
variable {p : Program} {l : Launch} {e : Env} {s : State} {m : MethodId} {args : Array Value} {below : List Frame} {meth : Method} {c : Code} {γ : zG} {Q : State → Prop} {M : zM} {k n : Nat} {xt : List ExceptionTableEntry}
set_option maxHeartbeats 4000000 in
set_option maxRecDepth 100000 in
theorem cs_denominator (C : zC p l s m args meth c γ cL_law 9 (some .boolean) RL xt) {b N : Nat} {ys : Nat → Int} (hXs : va_X b N (fun j => zi (ys j)) s s.heap) (hbs : b < γ.2.1.size) (hN : N ≤ 3072) (hys : ∀ j, zR (ys j)) {U A : Nat → Nat} {Y : zSys} {th : Int} {o d : Nat} (J : zJ3 γ M U A Y th o d) {i : Int} (hi : 0 ≤ i ∧ i + 6 ≤ N) (hkn : k + 4 ≤ 601024 ∧ n + 24 ≤ 7293034) (next : ∀ M' Y' th', zJ3 γ M' U A Y' th' o d → zAW p l e room_1 s m args below meth c γ 9 Q M' (k + 4) (n + 24) 4249 [some (.ref b), some (.ref (U 0)), some (.ref (A 0)), some (.ref o), some (.ref d), some (.int (zi i)), none, none, none] []) : zAW p l e room_1 s m args below meth c γ 9 Q M k n 2032 [some (.ref b), some (.ref (U 0)), some (.ref (A 0)), some (.ref o), some (.ref d), some (.int (zi i)), none, none, none] [] := by
  obtain ⟨hc, hk, hm, hUA, ⟨f0, ho⟩, ⟨g0, hd⟩, hUo, hUd, hAo, hAd, hod⟩ := J
  obtain ⟨fs0, ob0⟩ := hc.ob
  refine z_aload_n C dL_law_2032 rfl ?_
  refine z_aload_n C dL_law_2033 rfl ?_
  refine z_iload C dL_law_2034 rfl ?_
  refine z_iconst C dL_law_2036 ?_
  refine z_iaddZ C dL_law_2037 ?_
  refine z_xld C hXs hbs (by omega) (by omega) dL_law_2038 ?_
  refine z_aload_n C dL_law_2039 rfl ?_
  refine z_iload C dL_law_2040 rfl ?_
  refine z_iconst C dL_law_2042 ?_
  refine z_iaddZ C dL_law_2043 ?_
  refine z_xld C hXs hbs (by omega) (by omega) dL_law_2044 ?_
  refine z_aload_n C dL_law_2045 rfl ?_
  refine z_iload C dL_law_2046 rfl ?_
  refine z_iconst C dL_law_2048 ?_
  refine z_iaddZ C dL_law_2049 ?_
  refine z_xld C hXs hbs (by omega) (by omega) dL_law_2050 ?_
  refine z_aload_n C dL_law_2051 rfl ?_
  refine z_iload C dL_law_2052 rfl ?_
  refine z_iconst C dL_law_2054 ?_
  refine z_iaddZ C dL_law_2055 ?_
  refine z_xld C hXs hbs (by omega) (by omega) dL_law_2056 ?_
  refine z_aload_n C dL_law_2057 rfl ?_
  refine z_callSH C dL_law_2058 lkw_denominator mwh_L_denominator mst_L_denominator (w_denominator hc hk ho hUo (hys _) (hys _) (hys _) (hys _)) rfl (by first | decide | exact Nat.le_of_ble_eq_true rfl) ⟨by decide, by decide, by show _ ≤ 601024; omega, by show _ ≤ 7293034; omega⟩ (fun _ _ h => False.elim h) (fun v M' hp => ?_)
  obtain ⟨rfl, hr, f1, hc1, f2, hx1, hv⟩ := hp
  have hm1 := hm.frm (zUA_f f1 hUA hAo)
  obtain ⟨fs1, ob1⟩ := hm1.ob
  have ho1 := hx1
  have hd1 := f1.at (fun w => (List.mem_cons.mp w).elim (fun w => hod w.symm) (zU_no hUd)) hd
  refine z_istore C dL_law_2061 (by decide) ?_
  refine z_aload_n C dL_law_2063 rfl ?_
  refine z_aload_n C dL_law_2064 rfl ?_
  refine z_iload C dL_law_2065 rfl ?_
  refine z_iconst C dL_law_2067 ?_
  refine z_iaddZ C dL_law_2068 ?_
  refine z_xld C hXs hbs (by omega) (by omega) dL_law_2069 ?_
  refine z_aload_n C dL_law_2070 rfl ?_
  refine z_iload C dL_law_2071 rfl ?_
  refine z_iconst C dL_law_2073 ?_
  refine z_iaddZ C dL_law_2074 ?_
  refine z_xld C hXs hbs (by omega) (by omega) dL_law_2075 ?_
  refine z_aload_n C dL_law_2076 rfl ?_
  refine z_iload C dL_law_2077 rfl ?_
  refine z_iconst C dL_law_2079 ?_
  refine z_iaddZ C dL_law_2080 ?_
  refine z_xld C hXs hbs (by omega) (by omega) dL_law_2081 ?_
  refine z_aload_n C dL_law_2082 rfl ?_
  refine z_iload C dL_law_2083 rfl ?_
  refine z_iconst C dL_law_2085 ?_
  refine z_iaddZ C dL_law_2086 ?_
  refine z_xld C hXs hbs (by omega) (by omega) dL_law_2087 ?_
  refine z_callV C dL_law_2088 lk_L_298 mw_X9_denominator mi_X9_denominator ms_X9_denominator rfl ob1 (m_denominator hm1 hk.1 (hys _) (hys _) (hys _) (hys _)) rfl (by first | decide | exact Nat.le_of_ble_eq_true rfl) ⟨by decide, by decide, by show _ ≤ 601024; omega, by show _ ≤ 7293034; omega⟩ (fun _ _ h => False.elim h) (fun v M' hp => ?_)
  obtain ⟨b1, rfl, fA, hm2, hbv⟩ := hp
  have fB : zFr _ _ ((List.range 15).map A) := fA
  have ho2 := fB.at (mAll.no hAo) ho1
  have hd2 := fB.at (mAll.no hAd) hd1
  have J2 : zJ3 γ _ U A _ _ o d := ⟨hc1.frm fB (fun i hi => mAll.no (fun j hj w => hUA i j hi hj w.symm)), hk, hm2, hUA, ⟨_, ho2⟩, ⟨_, hd2⟩, hUo, hUd, hAo, hAd, hod⟩
  obtain ⟨fs2, ob2⟩ := hm2.ob
  refine z_lstore C dL_law_2091 (by decide) ?_
  refine z_aload_n C dL_law_2093 rfl ?_
  refine z_callV C dL_law_2094 lk_L_202 mw_X9_thrown mi_X9_thrown ms_X9_thrown rfl ob2 (m_thrown hm2) rfl (by first | decide | exact Nat.le_of_ble_eq_true rfl) ⟨by decide, by decide, by show _ ≤ 601024; omega, by show _ ≤ 7293034; omega⟩ (fun _ _ h => False.elim h) (fun v M' hp => ?_)
  obtain ⟨rfl, rfl⟩ := hp
  refine z_iload C dL_law_2097 rfl ?_
  refine z_icmp_eq (tgt := 2104) C dL_law_2099 (by decide) (fun h2099 => ?_) (fun h2099 => ?_)
  · refine z_iload C dL_law_2104 rfl ?_
    refine z_if_ne (tgt := 2120) C dL_law_2106 (by decide) (fun h2106 => ?_) (fun h2106 => ?_)
    · refine z_goto (tgt := 4249) C dL_law_2120 (by decide) ?_
      exact z_fg (by omega) (by omega) ⟨_, _, _, rfl⟩ (next _ _ _ J2)
    · have z0 := zq_0 hr h2106
      refine z_aload_n C dL_law_2109 rfl ?_
      refine z_iconst C dL_law_2110 ?_
      refine z_aldJ (i := 0) C dL_law_2111 ho2 ⟨by decide, by decide⟩ (by decide) ?_
      refine z_lload C dL_law_2112 rfl ?_
      refine z_lcmp C dL_law_2114 ?_
      refine z_if_eq (tgt := 2120) C dL_law_2115 (by decide) (fun h2115 => ?_) (fun h2115 => ?_)
      · refine z_goto (tgt := 4249) C dL_law_2120 (by decide) ?_
        exact z_fg (by omega) (by omega) ⟨_, _, _, rfl⟩ (next _ _ _ J2)
      · exact absurd (by show lg_cmp (f2 0) (zl b1) = 0; rw [hv z0, hbv z0]; exact lg_same _) h2115
  · exact absurd rfl h2099
set_option maxHeartbeats 4000000 in
set_option maxRecDepth 100000 in
theorem cs_probability (C : zC p l s m args meth c γ cL_law 9 (some .boolean) RL xt) {b N : Nat} {ys : Nat → Int} (hXs : va_X b N (fun j => zi (ys j)) s s.heap) (hbs : b < γ.2.1.size) (hN : N ≤ 3072) (hys : ∀ j, zR (ys j)) {U A : Nat → Nat} {Y : zSys} {th : Int} {o d : Nat} (J : zJ3 γ M U A Y th o d) {i : Int} (hi : 0 ≤ i ∧ i + 6 ≤ N) (hkn : k + 4 ≤ 601024 ∧ n + 24 ≤ 7293034) (next : ∀ M' Y' th', zJ3 γ M' U A Y' th' o d → zAW p l e room_1 s m args below meth c γ 9 Q M' (k + 4) (n + 24) 4249 [some (.ref b), some (.ref (U 0)), some (.ref (A 0)), some (.ref o), some (.ref d), some (.int (zi i)), none, none, none] []) : zAW p l e room_1 s m args below meth c γ 9 Q M k n 2123 [some (.ref b), some (.ref (U 0)), some (.ref (A 0)), some (.ref o), some (.ref d), some (.int (zi i)), none, none, none] [] := by
  obtain ⟨hc, hk, hm, hUA, ⟨f0, ho⟩, ⟨g0, hd⟩, hUo, hUd, hAo, hAd, hod⟩ := J
  obtain ⟨fs0, ob0⟩ := hc.ob
  refine z_aload_n C dL_law_2123 rfl ?_
  refine z_aload_n C dL_law_2124 rfl ?_
  refine z_iload C dL_law_2125 rfl ?_
  refine z_iconst C dL_law_2127 ?_
  refine z_iaddZ C dL_law_2128 ?_
  refine z_xld C hXs hbs (by omega) (by omega) dL_law_2129 ?_
  refine z_aload_n C dL_law_2130 rfl ?_
  refine z_iload C dL_law_2131 rfl ?_
  refine z_iconst C dL_law_2133 ?_
  refine z_iaddZ C dL_law_2134 ?_
  refine z_xld C hXs hbs (by omega) (by omega) dL_law_2135 ?_
  refine z_aload_n C dL_law_2136 rfl ?_
  refine z_iload C dL_law_2137 rfl ?_
  refine z_iconst C dL_law_2139 ?_
  refine z_iaddZ C dL_law_2140 ?_
  refine z_xld C hXs hbs (by omega) (by omega) dL_law_2141 ?_
  refine z_aload_n C dL_law_2142 rfl ?_
  refine z_iload C dL_law_2143 rfl ?_
  refine z_iconst C dL_law_2145 ?_
  refine z_iaddZ C dL_law_2146 ?_
  refine z_xld C hXs hbs (by omega) (by omega) dL_law_2147 ?_
  refine z_aload C dL_law_2148 rfl ?_
  refine z_callSH C dL_law_2150 lkw_probability mwh_L_probability mst_L_probability (w_probability hc hk hd hUd (hys _) (hys _) (hys _) (hys _)) rfl (by first | decide | exact Nat.le_of_ble_eq_true rfl) ⟨by decide, by decide, by show _ ≤ 601024; omega, by show _ ≤ 7293034; omega⟩ (fun _ _ h => False.elim h) (fun v M' hp => ?_)
  obtain ⟨rfl, hr, f1, hc1, f2, hx1, hv⟩ := hp
  have hm1 := hm.frm (zUA_f f1 hUA hAd)
  obtain ⟨fs1, ob1⟩ := hm1.ob
  have hd1 := hx1
  have ho1 := f1.at (fun w => (List.mem_cons.mp w).elim hod (zU_no hUo)) ho
  refine z_istore C dL_law_2153 (by decide) ?_
  refine z_aload_n C dL_law_2155 rfl ?_
  refine z_aload_n C dL_law_2156 rfl ?_
  refine z_iload C dL_law_2157 rfl ?_
  refine z_iconst C dL_law_2159 ?_
  refine z_iaddZ C dL_law_2160 ?_
  refine z_xld C hXs hbs (by omega) (by omega) dL_law_2161 ?_
  refine z_aload_n C dL_law_2162 rfl ?_
  refine z_iload C dL_law_2163 rfl ?_
  refine z_iconst C dL_law_2165 ?_
  refine z_iaddZ C dL_law_2166 ?_
  refine z_xld C hXs hbs (by omega) (by omega) dL_law_2167 ?_
  refine z_aload_n C dL_law_2168 rfl ?_
  refine z_iload C dL_law_2169 rfl ?_
  refine z_iconst C dL_law_2171 ?_
  refine z_iaddZ C dL_law_2172 ?_
  refine z_xld C hXs hbs (by omega) (by omega) dL_law_2173 ?_
  refine z_aload_n C dL_law_2174 rfl ?_
  refine z_iload C dL_law_2175 rfl ?_
  refine z_iconst C dL_law_2177 ?_
  refine z_iaddZ C dL_law_2178 ?_
  refine z_xld C hXs hbs (by omega) (by omega) dL_law_2179 ?_
  refine z_callV C dL_law_2180 lk_L_302 mw_X9_probability mi_X9_probability ms_X9_probability rfl ob1 (m_probability hm1 hk.1 (hys _) (hys _) (hys _) (hys _)) rfl (by first | decide | exact Nat.le_of_ble_eq_true rfl) ⟨by decide, by decide, by show _ ≤ 601024; omega, by show _ ≤ 7293034; omega⟩ (fun _ _ h => False.elim h) (fun v M' hp => ?_)
  obtain ⟨b1, rfl, fA, hm2, hbv⟩ := hp
  have fB : zFr _ _ ((List.range 15).map A) := fA
  have ho2 := fB.at (mAll.no hAo) ho1
  have hd2 := fB.at (mAll.no hAd) hd1
  have J2 : zJ3 γ _ U A _ _ o d := ⟨hc1.frm fB (fun i hi => mAll.no (fun j hj w => hUA i j hi hj w.symm)), hk, hm2, hUA, ⟨_, ho2⟩, ⟨_, hd2⟩, hUo, hUd, hAo, hAd, hod⟩
  obtain ⟨fs2, ob2⟩ := hm2.ob
  refine z_dstore C dL_law_2183 (by decide) ?_
  refine z_aload_n C dL_law_2185 rfl ?_
  refine z_callV C dL_law_2186 lk_L_202 mw_X9_thrown mi_X9_thrown ms_X9_thrown rfl ob2 (m_thrown hm2) rfl (by first | decide | exact Nat.le_of_ble_eq_true rfl) ⟨by decide, by decide, by show _ ≤ 601024; omega, by show _ ≤ 7293034; omega⟩ (fun _ _ h => False.elim h) (fun v M' hp => ?_)
  obtain ⟨rfl, rfl⟩ := hp
  refine z_iload C dL_law_2189 rfl ?_
  refine z_icmp_eq (tgt := 2196) C dL_law_2191 (by decide) (fun h2191 => ?_) (fun h2191 => ?_)
  · refine z_iload C dL_law_2196 rfl ?_
    refine z_if_ne (tgt := 2233) C dL_law_2198 (by decide) (fun h2198 => ?_) (fun h2198 => ?_)
    · refine z_goto (tgt := 4249) C dL_law_2233 (by decide) ?_
      exact z_fg (by omega) (by omega) ⟨_, _, _, rfl⟩ (next _ _ _ J2)
    · have z0 := zq_0 hr h2198
      refine z_aload C dL_law_2201 rfl ?_
      refine z_iconst C dL_law_2203 ?_
      refine z_aldD (i := 0) C dL_law_2204 hd2 ⟨by decide, by decide⟩ (by decide) ?_
      refine z_dload C dL_law_2205 rfl ?_
      refine z_dcmp C dL_law_2207 ?_
      refine z_if_eq (tgt := 2233) C dL_law_2208 (by decide) (fun h2208 => ?_) (fun h2208 => ?_)
      · refine z_goto (tgt := 4249) C dL_law_2233 (by decide) ?_
        exact z_fg (by omega) (by omega) ⟨_, _, _, rfl⟩ (next _ _ _ J2)
      · refine z_aload C dL_law_2211 rfl ?_
        refine z_iconst C dL_law_2213 ?_
        refine z_aldD (i := 0) C dL_law_2214 hd2 ⟨by decide, by decide⟩ (by decide) ?_
        refine z_aload C dL_law_2215 rfl ?_
        refine z_iconst C dL_law_2217 ?_
        refine z_aldD (i := 0) C dL_law_2218 hd2 ⟨by decide, by decide⟩ (by decide) ?_
        refine z_dcmp C dL_law_2219 ?_
        refine z_if_eq (tgt := 2231) C dL_law_2220 (by decide) (fun h2220 => ?_) (fun h2220 => ?_)
        · exact absurd (by show Op.cmpValue (FP.dcmp (f2 0) b1) .l = 0; rw [hbv z0, ← hv z0]; exact h2220) h2208
        · refine z_dload C dL_law_2223 rfl ?_
          refine z_dload C dL_law_2225 rfl ?_
          refine z_dcmp C dL_law_2227 ?_
          refine z_if_ne (tgt := 2233) C dL_law_2228 (by decide) (fun h2228 => ?_) (fun h2228 => ?_)
          · refine z_goto (tgt := 4249) C dL_law_2233 (by decide) ?_
            exact z_fg (by omega) (by omega) ⟨_, _, _, rfl⟩ (next _ _ _ J2)
          · exact absurd (by show Op.cmpValue (FP.dcmp (f2 0) b1) .l = 0; rw [hv z0, ← hbv z0]; exact h2228) h2208
  · exact absurd rfl h2191
set_option maxHeartbeats 4000000 in
set_option maxRecDepth 100000 in
theorem cs_codeLength (C : zC p l s m args meth c γ cL_law 9 (some .boolean) RL xt) {b N : Nat} {ys : Nat → Int} (hXs : va_X b N (fun j => zi (ys j)) s s.heap) (hbs : b < γ.2.1.size) (hN : N ≤ 3072) (hys : ∀ j, zR (ys j)) {U A : Nat → Nat} {Y : zSys} {th : Int} {o d : Nat} (J : zJ3 γ M U A Y th o d) {i : Int} (hi : 0 ≤ i ∧ i + 6 ≤ N) (hkn : k + 4 ≤ 601024 ∧ n + 24 ≤ 7293034) (next : ∀ M' Y' th', zJ3 γ M' U A Y' th' o d → zAW p l e room_1 s m args below meth c γ 9 Q M' (k + 4) (n + 24) 4249 [some (.ref b), some (.ref (U 0)), some (.ref (A 0)), some (.ref o), some (.ref d), some (.int (zi i)), none, none, none] []) : zAW p l e room_1 s m args below meth c γ 9 Q M k n 2236 [some (.ref b), some (.ref (U 0)), some (.ref (A 0)), some (.ref o), some (.ref d), some (.int (zi i)), none, none, none] [] := by
  obtain ⟨hc, hk, hm, hUA, ⟨f0, ho⟩, ⟨g0, hd⟩, hUo, hUd, hAo, hAd, hod⟩ := J
  obtain ⟨fs0, ob0⟩ := hc.ob
  refine z_aload_n C dL_law_2236 rfl ?_
  refine z_aload_n C dL_law_2237 rfl ?_
  refine z_iload C dL_law_2238 rfl ?_
  refine z_iconst C dL_law_2240 ?_
  refine z_iaddZ C dL_law_2241 ?_
  refine z_xld C hXs hbs (by omega) (by omega) dL_law_2242 ?_
  refine z_aload_n C dL_law_2243 rfl ?_
  refine z_iload C dL_law_2244 rfl ?_
  refine z_iconst C dL_law_2246 ?_
  refine z_iaddZ C dL_law_2247 ?_
  refine z_xld C hXs hbs (by omega) (by omega) dL_law_2248 ?_
  refine z_aload_n C dL_law_2249 rfl ?_
  refine z_iload C dL_law_2250 rfl ?_
  refine z_iconst C dL_law_2252 ?_
  refine z_iaddZ C dL_law_2253 ?_
  refine z_xld C hXs hbs (by omega) (by omega) dL_law_2254 ?_
  refine z_aload_n C dL_law_2255 rfl ?_
  refine z_iload C dL_law_2256 rfl ?_
  refine z_iconst C dL_law_2258 ?_
  refine z_iaddZ C dL_law_2259 ?_
  refine z_xld C hXs hbs (by omega) (by omega) dL_law_2260 ?_
  refine z_aload_n C dL_law_2261 rfl ?_
  refine z_callSH C dL_law_2262 lkw_codeLength mwh_L_codeLength mst_L_codeLength (w_codeLength hc hk ho hUo (hys _) (hys _) (hys _) (hys _)) rfl (by first | decide | exact Nat.le_of_ble_eq_true rfl) ⟨by decide, by decide, by show _ ≤ 601024; omega, by show _ ≤ 7293034; omega⟩ (fun _ _ h => False.elim h) (fun v M' hp => ?_)
  obtain ⟨rfl, hr, f1, hc1, f2, hx1, hv⟩ := hp
  have hm1 := hm.frm (zUA_f f1 hUA hAo)
  obtain ⟨fs1, ob1⟩ := hm1.ob
  have ho1 := hx1
  have hd1 := f1.at (fun w => (List.mem_cons.mp w).elim (fun w => hod w.symm) (zU_no hUd)) hd
  refine z_istore C dL_law_2265 (by decide) ?_
  refine z_aload_n C dL_law_2267 rfl ?_
  refine z_aload_n C dL_law_2268 rfl ?_
  refine z_iload C dL_law_2269 rfl ?_
  refine z_iconst C dL_law_2271 ?_
  refine z_iaddZ C dL_law_2272 ?_
  refine z_xld C hXs hbs (by omega) (by omega) dL_law_2273 ?_
  refine z_aload_n C dL_law_2274 rfl ?_
  refine z_iload C dL_law_2275 rfl ?_
  refine z_iconst C dL_law_2277 ?_
  refine z_iaddZ C dL_law_2278 ?_
  refine z_xld C hXs hbs (by omega) (by omega) dL_law_2279 ?_
  refine z_aload_n C dL_law_2280 rfl ?_
  refine z_iload C dL_law_2281 rfl ?_
  refine z_iconst C dL_law_2283 ?_
  refine z_iaddZ C dL_law_2284 ?_
  refine z_xld C hXs hbs (by omega) (by omega) dL_law_2285 ?_
  refine z_aload_n C dL_law_2286 rfl ?_
  refine z_iload C dL_law_2287 rfl ?_
  refine z_iconst C dL_law_2289 ?_
  refine z_iaddZ C dL_law_2290 ?_
  refine z_xld C hXs hbs (by omega) (by omega) dL_law_2291 ?_
  refine z_callV C dL_law_2292 lk_L_305 mw_X9_codeLength mi_X9_codeLength ms_X9_codeLength rfl ob1 (m_codeLength hm1 hk.1 (hys _) (hys _) (hys _) (hys _)) rfl (by first | decide | exact Nat.le_of_ble_eq_true rfl) ⟨by decide, by decide, by show _ ≤ 601024; omega, by show _ ≤ 7293034; omega⟩ (fun _ _ h => False.elim h) (fun v M' hp => ?_)
  obtain ⟨b1, rfl, fA, hm2, hbv⟩ := hp
  have fB : zFr _ _ ((List.range 15).map A) := fA
  have ho2 := fB.at (mAll.no hAo) ho1
  have hd2 := fB.at (mAll.no hAd) hd1
  have J2 : zJ3 γ _ U A _ _ o d := ⟨hc1.frm fB (fun i hi => mAll.no (fun j hj w => hUA i j hi hj w.symm)), hk, hm2, hUA, ⟨_, ho2⟩, ⟨_, hd2⟩, hUo, hUd, hAo, hAd, hod⟩
  obtain ⟨fs2, ob2⟩ := hm2.ob
  refine z_istore C dL_law_2295 (by decide) ?_
  refine z_aload_n C dL_law_2297 rfl ?_
  refine z_callV C dL_law_2298 lk_L_202 mw_X9_thrown mi_X9_thrown ms_X9_thrown rfl ob2 (m_thrown hm2) rfl (by first | decide | exact Nat.le_of_ble_eq_true rfl) ⟨by decide, by decide, by show _ ≤ 601024; omega, by show _ ≤ 7293034; omega⟩ (fun _ _ h => False.elim h) (fun v M' hp => ?_)
  obtain ⟨rfl, rfl⟩ := hp
  refine z_iload C dL_law_2301 rfl ?_
  refine z_icmp_eq (tgt := 2308) C dL_law_2303 (by decide) (fun h2303 => ?_) (fun h2303 => ?_)
  · refine z_iload C dL_law_2308 rfl ?_
    refine z_if_ne (tgt := 2325) C dL_law_2310 (by decide) (fun h2310 => ?_) (fun h2310 => ?_)
    · refine z_goto (tgt := 4249) C dL_law_2325 (by decide) ?_
      exact z_fg (by omega) (by omega) ⟨_, _, _, rfl⟩ (next _ _ _ J2)
    · have z0 := zq_0 hr h2310
      refine z_aload_n C dL_law_2313 rfl ?_
      refine z_iconst C dL_law_2314 ?_
      refine z_aldJ (i := 0) C dL_law_2315 ho2 ⟨by decide, by decide⟩ (by decide) ?_
      refine z_iload C dL_law_2316 rfl ?_
      refine z_i2l C dL_law_2318 ?_
      refine z_lcmp C dL_law_2319 ?_
      refine z_if_eq (tgt := 2325) C dL_law_2320 (by decide) (fun h2320 => ?_) (fun h2320 => ?_)
      · refine z_goto (tgt := 4249) C dL_law_2325 (by decide) ?_
        exact z_fg (by omega) (by omega) ⟨_, _, _, rfl⟩ (next _ _ _ J2)
      · exact absurd (by show lg_cmp (f2 0) (zi b1).toInt64 = 0; rw [hv z0, hbv z0]; exact lg_same _) h2320
  · exact absurd rfl h2303
set_option maxHeartbeats 4000000 in
set_option maxRecDepth 100000 in
theorem cs_rankAt (C : zC p l s m args meth c γ cL_law 9 (some .boolean) RL xt) {b N : Nat} {ys : Nat → Int} (hXs : va_X b N (fun j => zi (ys j)) s s.heap) (hbs : b < γ.2.1.size) (hN : N ≤ 3072) (hys : ∀ j, zR (ys j)) {U A : Nat → Nat} {Y : zSys} {th : Int} {o d : Nat} (J : zJ3 γ M U A Y th o d) {i : Int} (hi : 0 ≤ i ∧ i + 6 ≤ N) (hkn : k + 4 ≤ 601024 ∧ n + 24 ≤ 7293034) (next : ∀ M' Y' th', zJ3 γ M' U A Y' th' o d → zAW p l e room_1 s m args below meth c γ 9 Q M' (k + 4) (n + 24) 4249 [some (.ref b), some (.ref (U 0)), some (.ref (A 0)), some (.ref o), some (.ref d), some (.int (zi i)), none, none, none] []) : zAW p l e room_1 s m args below meth c γ 9 Q M k n 2328 [some (.ref b), some (.ref (U 0)), some (.ref (A 0)), some (.ref o), some (.ref d), some (.int (zi i)), none, none, none] [] := by
  obtain ⟨hc, hk, hm, hUA, ⟨f0, ho⟩, ⟨g0, hd⟩, hUo, hUd, hAo, hAd, hod⟩ := J
  obtain ⟨fs0, ob0⟩ := hc.ob
  refine z_aload_n C dL_law_2328 rfl ?_
  refine z_aload_n C dL_law_2329 rfl ?_
  refine z_iload C dL_law_2330 rfl ?_
  refine z_iconst C dL_law_2332 ?_
  refine z_iaddZ C dL_law_2333 ?_
  refine z_xld C hXs hbs (by omega) (by omega) dL_law_2334 ?_
  refine z_aload_n C dL_law_2335 rfl ?_
  refine z_iload C dL_law_2336 rfl ?_
  refine z_iconst C dL_law_2338 ?_
  refine z_iaddZ C dL_law_2339 ?_
  refine z_xld C hXs hbs (by omega) (by omega) dL_law_2340 ?_
  refine z_aload_n C dL_law_2341 rfl ?_
  refine z_iload C dL_law_2342 rfl ?_
  refine z_iconst C dL_law_2344 ?_
  refine z_iaddZ C dL_law_2345 ?_
  refine z_xld C hXs hbs (by omega) (by omega) dL_law_2346 ?_
  refine z_aload_n C dL_law_2347 rfl ?_
  refine z_callSH C dL_law_2348 lkw_rankAt mwh_L_rankAt mst_L_rankAt (w_rankAt hc hk ho hUo (hys _) (hys _) (hys _)) rfl (by first | decide | exact Nat.le_of_ble_eq_true rfl) ⟨by decide, by decide, by show _ ≤ 601024; omega, by show _ ≤ 7293034; omega⟩ (fun _ _ h => False.elim h) (fun v M' hp => ?_)
  obtain ⟨rfl, hr, f1, hc1, f2, hx1, hv⟩ := hp
  have hm1 := hm.frm (zUA_f f1 hUA hAo)
  obtain ⟨fs1, ob1⟩ := hm1.ob
  have ho1 := hx1
  have hd1 := f1.at (fun w => (List.mem_cons.mp w).elim (fun w => hod w.symm) (zU_no hUd)) hd
  refine z_istore C dL_law_2351 (by decide) ?_
  refine z_aload_n C dL_law_2353 rfl ?_
  refine z_aload_n C dL_law_2354 rfl ?_
  refine z_iload C dL_law_2355 rfl ?_
  refine z_iconst C dL_law_2357 ?_
  refine z_iaddZ C dL_law_2358 ?_
  refine z_xld C hXs hbs (by omega) (by omega) dL_law_2359 ?_
  refine z_aload_n C dL_law_2360 rfl ?_
  refine z_iload C dL_law_2361 rfl ?_
  refine z_iconst C dL_law_2363 ?_
  refine z_iaddZ C dL_law_2364 ?_
  refine z_xld C hXs hbs (by omega) (by omega) dL_law_2365 ?_
  refine z_aload_n C dL_law_2366 rfl ?_
  refine z_iload C dL_law_2367 rfl ?_
  refine z_iconst C dL_law_2369 ?_
  refine z_iaddZ C dL_law_2370 ?_
  refine z_xld C hXs hbs (by omega) (by omega) dL_law_2371 ?_
  refine z_callV C dL_law_2372 lk_L_308 mw_X9_rankAt mi_X9_rankAt ms_X9_rankAt rfl ob1 (m_rankAt hm1 hk.1 (hys _) (hys _) (hys _)) rfl (by first | decide | exact Nat.le_of_ble_eq_true rfl) ⟨by decide, by decide, by show _ ≤ 601024; omega, by show _ ≤ 7293034; omega⟩ (fun _ _ h => False.elim h) (fun v M' hp => ?_)
  obtain ⟨b1, rfl, fA, hm2, hbv⟩ := hp
  have fB : zFr _ _ ((List.range 15).map A) := fA
  have ho2 := fB.at (mAll.no hAo) ho1
  have hd2 := fB.at (mAll.no hAd) hd1
  have J2 : zJ3 γ _ U A _ _ o d := ⟨hc1.frm fB (fun i hi => mAll.no (fun j hj w => hUA i j hi hj w.symm)), hk, hm2, hUA, ⟨_, ho2⟩, ⟨_, hd2⟩, hUo, hUd, hAo, hAd, hod⟩
  obtain ⟨fs2, ob2⟩ := hm2.ob
  refine z_istore C dL_law_2375 (by decide) ?_
  refine z_aload_n C dL_law_2377 rfl ?_
  refine z_callV C dL_law_2378 lk_L_202 mw_X9_thrown mi_X9_thrown ms_X9_thrown rfl ob2 (m_thrown hm2) rfl (by first | decide | exact Nat.le_of_ble_eq_true rfl) ⟨by decide, by decide, by show _ ≤ 601024; omega, by show _ ≤ 7293034; omega⟩ (fun _ _ h => False.elim h) (fun v M' hp => ?_)
  obtain ⟨rfl, rfl⟩ := hp
  refine z_iload C dL_law_2381 rfl ?_
  refine z_icmp_eq (tgt := 2388) C dL_law_2383 (by decide) (fun h2383 => ?_) (fun h2383 => ?_)
  · refine z_iload C dL_law_2388 rfl ?_
    refine z_if_ne (tgt := 2405) C dL_law_2390 (by decide) (fun h2390 => ?_) (fun h2390 => ?_)
    · refine z_goto (tgt := 4249) C dL_law_2405 (by decide) ?_
      exact z_fg (by omega) (by omega) ⟨_, _, _, rfl⟩ (next _ _ _ J2)
    · have z0 := zq_0 hr h2390
      refine z_aload_n C dL_law_2393 rfl ?_
      refine z_iconst C dL_law_2394 ?_
      refine z_aldJ (i := 0) C dL_law_2395 ho2 ⟨by decide, by decide⟩ (by decide) ?_
      refine z_iload C dL_law_2396 rfl ?_
      refine z_i2l C dL_law_2398 ?_
      refine z_lcmp C dL_law_2399 ?_
      refine z_if_eq (tgt := 2405) C dL_law_2400 (by decide) (fun h2400 => ?_) (fun h2400 => ?_)
      · refine z_goto (tgt := 4249) C dL_law_2405 (by decide) ?_
        exact z_fg (by omega) (by omega) ⟨_, _, _, rfl⟩ (next _ _ _ J2)
      · exact absurd (by show lg_cmp (f2 0) (zi b1).toInt64 = 0; rw [hv z0, hbv z0]; exact lg_same _) h2400
  · exact absurd rfl h2383
set_option maxHeartbeats 4000000 in
set_option maxRecDepth 100000 in
theorem cs_totalGuesses (C : zC p l s m args meth c γ cL_law 9 (some .boolean) RL xt) {b N : Nat} {ys : Nat → Int} (hXs : va_X b N (fun j => zi (ys j)) s s.heap) (hbs : b < γ.2.1.size) (hN : N ≤ 3072) (hys : ∀ j, zR (ys j)) {U A : Nat → Nat} {Y : zSys} {th : Int} {o d : Nat} (J : zJ3 γ M U A Y th o d) {i : Int} (hi : 0 ≤ i ∧ i + 6 ≤ N) (hkn : k + 4 ≤ 601024 ∧ n + 24 ≤ 7293034) (next : ∀ M' Y' th', zJ3 γ M' U A Y' th' o d → zAW p l e room_1 s m args below meth c γ 9 Q M' (k + 4) (n + 24) 4249 [some (.ref b), some (.ref (U 0)), some (.ref (A 0)), some (.ref o), some (.ref d), some (.int (zi i)), none, none, none] []) : zAW p l e room_1 s m args below meth c γ 9 Q M k n 2408 [some (.ref b), some (.ref (U 0)), some (.ref (A 0)), some (.ref o), some (.ref d), some (.int (zi i)), none, none, none] [] := by
  obtain ⟨hc, hk, hm, hUA, ⟨f0, ho⟩, ⟨g0, hd⟩, hUo, hUd, hAo, hAd, hod⟩ := J
  obtain ⟨fs0, ob0⟩ := hc.ob
  refine z_aload_n C dL_law_2408 rfl ?_
  refine z_aload_n C dL_law_2409 rfl ?_
  refine z_iload C dL_law_2410 rfl ?_
  refine z_iconst C dL_law_2412 ?_
  refine z_iaddZ C dL_law_2413 ?_
  refine z_xld C hXs hbs (by omega) (by omega) dL_law_2414 ?_
  refine z_aload_n C dL_law_2415 rfl ?_
  refine z_iload C dL_law_2416 rfl ?_
  refine z_iconst C dL_law_2418 ?_
  refine z_iaddZ C dL_law_2419 ?_
  refine z_xld C hXs hbs (by omega) (by omega) dL_law_2420 ?_
  refine z_aload_n C dL_law_2421 rfl ?_
  refine z_callSH C dL_law_2422 lkw_totalGuesses mwh_L_totalGuesses mst_L_totalGuesses (w_totalGuesses hc hk ho hUo (hys _) (hys _)) rfl (by first | decide | exact Nat.le_of_ble_eq_true rfl) ⟨by decide, by decide, by show _ ≤ 601024; omega, by show _ ≤ 7293034; omega⟩ (fun _ _ h => False.elim h) (fun v M' hp => ?_)
  obtain ⟨rfl, hr, f1, hc1, f2, hx1, hv⟩ := hp
  have hm1 := hm.frm (zUA_f f1 hUA hAo)
  obtain ⟨fs1, ob1⟩ := hm1.ob
  have ho1 := hx1
  have hd1 := f1.at (fun w => (List.mem_cons.mp w).elim (fun w => hod w.symm) (zU_no hUd)) hd
  refine z_istore C dL_law_2425 (by decide) ?_
  refine z_aload_n C dL_law_2427 rfl ?_
  refine z_aload_n C dL_law_2428 rfl ?_
  refine z_iload C dL_law_2429 rfl ?_
  refine z_iconst C dL_law_2431 ?_
  refine z_iaddZ C dL_law_2432 ?_
  refine z_xld C hXs hbs (by omega) (by omega) dL_law_2433 ?_
  refine z_aload_n C dL_law_2434 rfl ?_
  refine z_iload C dL_law_2435 rfl ?_
  refine z_iconst C dL_law_2437 ?_
  refine z_iaddZ C dL_law_2438 ?_
  refine z_xld C hXs hbs (by omega) (by omega) dL_law_2439 ?_
  refine z_callV C dL_law_2440 lk_L_311 mw_X9_totalGuesses mi_X9_totalGuesses ms_X9_totalGuesses rfl ob1 (m_totalGuesses hm1 hk.1 (hys _) (hys _)) rfl (by first | decide | exact Nat.le_of_ble_eq_true rfl) ⟨by decide, by decide, by show _ ≤ 601024; omega, by show _ ≤ 7293034; omega⟩ (fun _ _ h => False.elim h) (fun v M' hp => ?_)
  obtain ⟨b1, rfl, fA, hm2, hbv⟩ := hp
  have fB : zFr _ _ ((List.range 15).map A) := fA
  have ho2 := fB.at (mAll.no hAo) ho1
  have hd2 := fB.at (mAll.no hAd) hd1
  have J2 : zJ3 γ _ U A _ _ o d := ⟨hc1.frm fB (fun i hi => mAll.no (fun j hj w => hUA i j hi hj w.symm)), hk, hm2, hUA, ⟨_, ho2⟩, ⟨_, hd2⟩, hUo, hUd, hAo, hAd, hod⟩
  obtain ⟨fs2, ob2⟩ := hm2.ob
  refine z_istore C dL_law_2443 (by decide) ?_
  refine z_aload_n C dL_law_2445 rfl ?_
  refine z_callV C dL_law_2446 lk_L_202 mw_X9_thrown mi_X9_thrown ms_X9_thrown rfl ob2 (m_thrown hm2) rfl (by first | decide | exact Nat.le_of_ble_eq_true rfl) ⟨by decide, by decide, by show _ ≤ 601024; omega, by show _ ≤ 7293034; omega⟩ (fun _ _ h => False.elim h) (fun v M' hp => ?_)
  obtain ⟨rfl, rfl⟩ := hp
  refine z_iload C dL_law_2449 rfl ?_
  refine z_icmp_eq (tgt := 2456) C dL_law_2451 (by decide) (fun h2451 => ?_) (fun h2451 => ?_)
  · refine z_iload C dL_law_2456 rfl ?_
    refine z_if_ne (tgt := 2473) C dL_law_2458 (by decide) (fun h2458 => ?_) (fun h2458 => ?_)
    · refine z_goto (tgt := 4249) C dL_law_2473 (by decide) ?_
      exact z_fg (by omega) (by omega) ⟨_, _, _, rfl⟩ (next _ _ _ J2)
    · have z0 := zq_0 hr h2458
      refine z_aload_n C dL_law_2461 rfl ?_
      refine z_iconst C dL_law_2462 ?_
      refine z_aldJ (i := 0) C dL_law_2463 ho2 ⟨by decide, by decide⟩ (by decide) ?_
      refine z_iload C dL_law_2464 rfl ?_
      refine z_i2l C dL_law_2466 ?_
      refine z_lcmp C dL_law_2467 ?_
      refine z_if_eq (tgt := 2473) C dL_law_2468 (by decide) (fun h2468 => ?_) (fun h2468 => ?_)
      · refine z_goto (tgt := 4249) C dL_law_2473 (by decide) ?_
        exact z_fg (by omega) (by omega) ⟨_, _, _, rfl⟩ (next _ _ _ J2)
      · exact absurd (by show lg_cmp (f2 0) (zi b1).toInt64 = 0; rw [hv z0, hbv z0]; exact lg_same _) h2468
  · exact absurd rfl h2451
set_option maxHeartbeats 4000000 in
set_option maxRecDepth 100000 in
theorem cs_adaptiveGuesses (C : zC p l s m args meth c γ cL_law 9 (some .boolean) RL xt) {b N : Nat} {ys : Nat → Int} (hXs : va_X b N (fun j => zi (ys j)) s s.heap) (hbs : b < γ.2.1.size) (hN : N ≤ 3072) (hys : ∀ j, zR (ys j)) {U A : Nat → Nat} {Y : zSys} {th : Int} {o d : Nat} (J : zJ3 γ M U A Y th o d) {i : Int} (hi : 0 ≤ i ∧ i + 6 ≤ N) (hkn : k + 4 ≤ 601024 ∧ n + 24 ≤ 7293034) (next : ∀ M' Y' th', zJ3 γ M' U A Y' th' o d → zAW p l e room_1 s m args below meth c γ 9 Q M' (k + 4) (n + 24) 4249 [some (.ref b), some (.ref (U 0)), some (.ref (A 0)), some (.ref o), some (.ref d), some (.int (zi i)), none, none, none] []) : zAW p l e room_1 s m args below meth c γ 9 Q M k n 2476 [some (.ref b), some (.ref (U 0)), some (.ref (A 0)), some (.ref o), some (.ref d), some (.int (zi i)), none, none, none] [] := by
  obtain ⟨hc, hk, hm, hUA, ⟨f0, ho⟩, ⟨g0, hd⟩, hUo, hUd, hAo, hAd, hod⟩ := J
  obtain ⟨fs0, ob0⟩ := hc.ob
  refine z_aload_n C dL_law_2476 rfl ?_
  refine z_aload_n C dL_law_2477 rfl ?_
  refine z_iload C dL_law_2478 rfl ?_
  refine z_iconst C dL_law_2480 ?_
  refine z_iaddZ C dL_law_2481 ?_
  refine z_xld C hXs hbs (by omega) (by omega) dL_law_2482 ?_
  refine z_aload_n C dL_law_2483 rfl ?_
  refine z_iload C dL_law_2484 rfl ?_
  refine z_iconst C dL_law_2486 ?_
  refine z_iaddZ C dL_law_2487 ?_
  refine z_xld C hXs hbs (by omega) (by omega) dL_law_2488 ?_
  refine z_aload_n C dL_law_2489 rfl ?_
  refine z_callSH C dL_law_2490 lkw_adaptiveGuesses mwh_L_adaptiveGuesses mst_L_adaptiveGuesses (w_adaptiveGuesses hc hk ho hUo (hys _) (hys _)) rfl (by first | decide | exact Nat.le_of_ble_eq_true rfl) ⟨by decide, by decide, by show _ ≤ 601024; omega, by show _ ≤ 7293034; omega⟩ (fun _ _ h => False.elim h) (fun v M' hp => ?_)
  obtain ⟨rfl, hr, f1, hc1, f2, hx1, hv⟩ := hp
  have hm1 := hm.frm (zUA_f f1 hUA hAo)
  obtain ⟨fs1, ob1⟩ := hm1.ob
  have ho1 := hx1
  have hd1 := f1.at (fun w => (List.mem_cons.mp w).elim (fun w => hod w.symm) (zU_no hUd)) hd
  refine z_istore C dL_law_2493 (by decide) ?_
  refine z_aload_n C dL_law_2495 rfl ?_
  refine z_aload_n C dL_law_2496 rfl ?_
  refine z_iload C dL_law_2497 rfl ?_
  refine z_iconst C dL_law_2499 ?_
  refine z_iaddZ C dL_law_2500 ?_
  refine z_xld C hXs hbs (by omega) (by omega) dL_law_2501 ?_
  refine z_aload_n C dL_law_2502 rfl ?_
  refine z_iload C dL_law_2503 rfl ?_
  refine z_iconst C dL_law_2505 ?_
  refine z_iaddZ C dL_law_2506 ?_
  refine z_xld C hXs hbs (by omega) (by omega) dL_law_2507 ?_
  refine z_callV C dL_law_2508 lk_L_314 mw_X9_adaptiveGuesses mi_X9_adaptiveGuesses ms_X9_adaptiveGuesses rfl ob1 (m_adaptiveGuesses hm1 hk.1 (hys _) (hys _)) rfl (by first | decide | exact Nat.le_of_ble_eq_true rfl) ⟨by decide, by decide, by show _ ≤ 601024; omega, by show _ ≤ 7293034; omega⟩ (fun _ _ h => False.elim h) (fun v M' hp => ?_)
  obtain ⟨b1, rfl, fA, hm2, hbv⟩ := hp
  have fB : zFr _ _ ((List.range 15).map A) := fA
  have ho2 := fB.at (mAll.no hAo) ho1
  have hd2 := fB.at (mAll.no hAd) hd1
  have J2 : zJ3 γ _ U A _ _ o d := ⟨hc1.frm fB (fun i hi => mAll.no (fun j hj w => hUA i j hi hj w.symm)), hk, hm2, hUA, ⟨_, ho2⟩, ⟨_, hd2⟩, hUo, hUd, hAo, hAd, hod⟩
  obtain ⟨fs2, ob2⟩ := hm2.ob
  refine z_istore C dL_law_2511 (by decide) ?_
  refine z_aload_n C dL_law_2513 rfl ?_
  refine z_callV C dL_law_2514 lk_L_202 mw_X9_thrown mi_X9_thrown ms_X9_thrown rfl ob2 (m_thrown hm2) rfl (by first | decide | exact Nat.le_of_ble_eq_true rfl) ⟨by decide, by decide, by show _ ≤ 601024; omega, by show _ ≤ 7293034; omega⟩ (fun _ _ h => False.elim h) (fun v M' hp => ?_)
  obtain ⟨rfl, rfl⟩ := hp
  refine z_iload C dL_law_2517 rfl ?_
  refine z_icmp_eq (tgt := 2524) C dL_law_2519 (by decide) (fun h2519 => ?_) (fun h2519 => ?_)
  · refine z_iload C dL_law_2524 rfl ?_
    refine z_if_ne (tgt := 2541) C dL_law_2526 (by decide) (fun h2526 => ?_) (fun h2526 => ?_)
    · refine z_goto (tgt := 4249) C dL_law_2541 (by decide) ?_
      exact z_fg (by omega) (by omega) ⟨_, _, _, rfl⟩ (next _ _ _ J2)
    · have z0 := zq_0 hr h2526
      refine z_aload_n C dL_law_2529 rfl ?_
      refine z_iconst C dL_law_2530 ?_
      refine z_aldJ (i := 0) C dL_law_2531 ho2 ⟨by decide, by decide⟩ (by decide) ?_
      refine z_iload C dL_law_2532 rfl ?_
      refine z_i2l C dL_law_2534 ?_
      refine z_lcmp C dL_law_2535 ?_
      refine z_if_eq (tgt := 2541) C dL_law_2536 (by decide) (fun h2536 => ?_) (fun h2536 => ?_)
      · refine z_goto (tgt := 4249) C dL_law_2541 (by decide) ?_
        exact z_fg (by omega) (by omega) ⟨_, _, _, rfl⟩ (next _ _ _ J2)
      · exact absurd (by show lg_cmp (f2 0) (zi b1).toInt64 = 0; rw [hv z0, hbv z0]; exact lg_same _) h2536
  · exact absurd rfl h2519
set_option maxHeartbeats 4000000 in
set_option maxRecDepth 100000 in
theorem cs_firstGuessHits (C : zC p l s m args meth c γ cL_law 9 (some .boolean) RL xt) {b N : Nat} {ys : Nat → Int} (hXs : va_X b N (fun j => zi (ys j)) s s.heap) (hbs : b < γ.2.1.size) (hN : N ≤ 3072) (hys : ∀ j, zR (ys j)) {U A : Nat → Nat} {Y : zSys} {th : Int} {o d : Nat} (J : zJ3 γ M U A Y th o d) {i : Int} (hi : 0 ≤ i ∧ i + 6 ≤ N) (hkn : k + 4 ≤ 601024 ∧ n + 24 ≤ 7293034) (next : ∀ M' Y' th', zJ3 γ M' U A Y' th' o d → zAW p l e room_1 s m args below meth c γ 9 Q M' (k + 4) (n + 24) 4249 [some (.ref b), some (.ref (U 0)), some (.ref (A 0)), some (.ref o), some (.ref d), some (.int (zi i)), none, none, none] []) : zAW p l e room_1 s m args below meth c γ 9 Q M k n 2544 [some (.ref b), some (.ref (U 0)), some (.ref (A 0)), some (.ref o), some (.ref d), some (.int (zi i)), none, none, none] [] := by
  obtain ⟨hc, hk, hm, hUA, ⟨f0, ho⟩, ⟨g0, hd⟩, hUo, hUd, hAo, hAd, hod⟩ := J
  obtain ⟨fs0, ob0⟩ := hc.ob
  refine z_aload_n C dL_law_2544 rfl ?_
  refine z_aload_n C dL_law_2545 rfl ?_
  refine z_iload C dL_law_2546 rfl ?_
  refine z_iconst C dL_law_2548 ?_
  refine z_iaddZ C dL_law_2549 ?_
  refine z_xld C hXs hbs (by omega) (by omega) dL_law_2550 ?_
  refine z_aload_n C dL_law_2551 rfl ?_
  refine z_iload C dL_law_2552 rfl ?_
  refine z_iconst C dL_law_2554 ?_
  refine z_iaddZ C dL_law_2555 ?_
  refine z_xld C hXs hbs (by omega) (by omega) dL_law_2556 ?_
  refine z_aload_n C dL_law_2557 rfl ?_
  refine z_callSH C dL_law_2558 lkw_firstGuessHits mwh_L_firstGuessHits mst_L_firstGuessHits (w_firstGuessHits hc hk ho hUo (hys _) (hys _)) rfl (by first | decide | exact Nat.le_of_ble_eq_true rfl) ⟨by decide, by decide, by show _ ≤ 601024; omega, by show _ ≤ 7293034; omega⟩ (fun _ _ h => False.elim h) (fun v M' hp => ?_)
  obtain ⟨rfl, hr, f1, hc1, f2, hx1, hv⟩ := hp
  have hm1 := hm.frm (zUA_f f1 hUA hAo)
  obtain ⟨fs1, ob1⟩ := hm1.ob
  have ho1 := hx1
  have hd1 := f1.at (fun w => (List.mem_cons.mp w).elim (fun w => hod w.symm) (zU_no hUd)) hd
  refine z_istore C dL_law_2561 (by decide) ?_
  refine z_aload_n C dL_law_2563 rfl ?_
  refine z_aload_n C dL_law_2564 rfl ?_
  refine z_iload C dL_law_2565 rfl ?_
  refine z_iconst C dL_law_2567 ?_
  refine z_iaddZ C dL_law_2568 ?_
  refine z_xld C hXs hbs (by omega) (by omega) dL_law_2569 ?_
  refine z_aload_n C dL_law_2570 rfl ?_
  refine z_iload C dL_law_2571 rfl ?_
  refine z_iconst C dL_law_2573 ?_
  refine z_iaddZ C dL_law_2574 ?_
  refine z_xld C hXs hbs (by omega) (by omega) dL_law_2575 ?_
  refine z_callV C dL_law_2576 lk_L_317 mw_X9_firstGuessHits mi_X9_firstGuessHits ms_X9_firstGuessHits rfl ob1 (m_firstGuessHits hm1 hk.1 (hys _) (hys _)) rfl (by first | decide | exact Nat.le_of_ble_eq_true rfl) ⟨by decide, by decide, by show _ ≤ 601024; omega, by show _ ≤ 7293034; omega⟩ (fun _ _ h => False.elim h) (fun v M' hp => ?_)
  obtain ⟨b1, rfl, fA, hm2, hbv⟩ := hp
  have fB : zFr _ _ ((List.range 15).map A) := fA
  have ho2 := fB.at (mAll.no hAo) ho1
  have hd2 := fB.at (mAll.no hAd) hd1
  have J2 : zJ3 γ _ U A _ _ o d := ⟨hc1.frm fB (fun i hi => mAll.no (fun j hj w => hUA i j hi hj w.symm)), hk, hm2, hUA, ⟨_, ho2⟩, ⟨_, hd2⟩, hUo, hUd, hAo, hAd, hod⟩
  obtain ⟨fs2, ob2⟩ := hm2.ob
  refine z_istore C dL_law_2579 (by decide) ?_
  refine z_aload_n C dL_law_2581 rfl ?_
  refine z_callV C dL_law_2582 lk_L_202 mw_X9_thrown mi_X9_thrown ms_X9_thrown rfl ob2 (m_thrown hm2) rfl (by first | decide | exact Nat.le_of_ble_eq_true rfl) ⟨by decide, by decide, by show _ ≤ 601024; omega, by show _ ≤ 7293034; omega⟩ (fun _ _ h => False.elim h) (fun v M' hp => ?_)
  obtain ⟨rfl, rfl⟩ := hp
  refine z_iload C dL_law_2585 rfl ?_
  refine z_icmp_eq (tgt := 2592) C dL_law_2587 (by decide) (fun h2587 => ?_) (fun h2587 => ?_)
  · refine z_iload C dL_law_2592 rfl ?_
    refine z_if_ne (tgt := 2609) C dL_law_2594 (by decide) (fun h2594 => ?_) (fun h2594 => ?_)
    · refine z_goto (tgt := 4249) C dL_law_2609 (by decide) ?_
      exact z_fg (by omega) (by omega) ⟨_, _, _, rfl⟩ (next _ _ _ J2)
    · have z0 := zq_0 hr h2594
      refine z_aload_n C dL_law_2597 rfl ?_
      refine z_iconst C dL_law_2598 ?_
      refine z_aldJ (i := 0) C dL_law_2599 ho2 ⟨by decide, by decide⟩ (by decide) ?_
      refine z_iload C dL_law_2600 rfl ?_
      refine z_i2l C dL_law_2602 ?_
      refine z_lcmp C dL_law_2603 ?_
      refine z_if_eq (tgt := 2609) C dL_law_2604 (by decide) (fun h2604 => ?_) (fun h2604 => ?_)
      · refine z_goto (tgt := 4249) C dL_law_2609 (by decide) ?_
        exact z_fg (by omega) (by omega) ⟨_, _, _, rfl⟩ (next _ _ _ J2)
      · exact absurd (by show lg_cmp (f2 0) (zi b1).toInt64 = 0; rw [hv z0, hbv z0]; exact lg_same _) h2604
  · exact absurd rfl h2587
end CSf

