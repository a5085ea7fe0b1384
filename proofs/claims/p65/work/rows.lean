section
-- ===== PART A: goes FIRST, ahead of the names: the tables' words, and 'selects' of the private methods out of them =====
/-- a private method of a class that the tables say can be made, by its rows of tables_1 -/
def lw_okq (q : MethodName × Nat) : Prop := (q.1.cls ≠ "java/lang/invoke/MethodHandle" ∧ q.1.cls ≠ "java/lang/invoke/VarHandle") ∧ Cond.instantiable q.1.cls q.2 ∈ tables_1 ∧ Cond.privateMethod q.1 ∈ tables_1 ∧ Cond.instanceMethod q.1 ∈ tables_1
theorem lw_p0 : lw_okq (⟨"TrigramReaders$Parser", "next", "()V"⟩, 7) := ⟨⟨by decide +kernel, by decide +kernel⟩, List.mem_of_getElem? (i := 215) (by decide +kernel), List.mem_of_getElem? (i := 249) (by decide +kernel), List.mem_of_getElem? (i := 250) (by decide +kernel)⟩
theorem lw_p1 : lw_okq (⟨"TrigramReaders$Parser", "isWord", "(Ljava/lang/String;)Z"⟩, 7) := ⟨⟨by decide +kernel, by decide +kernel⟩, List.mem_of_getElem? (i := 215) (by decide +kernel), List.mem_of_getElem? (i := 270) (by decide +kernel), List.mem_of_getElem? (i := 271) (by decide +kernel)⟩
theorem lw_p2 : lw_okq (⟨"TrigramReaders$Parser", "parseReader", "()Z"⟩, 7) := ⟨⟨by decide +kernel, by decide +kernel⟩, List.mem_of_getElem? (i := 215) (by decide +kernel), List.mem_of_getElem? (i := 276) (by decide +kernel), List.mem_of_getElem? (i := 277) (by decide +kernel)⟩
theorem lw_p3 : lw_okq (⟨"TrigramReaders$Parser", "fail", "(I)Z"⟩, 7) := ⟨⟨by decide +kernel, by decide +kernel⟩, List.mem_of_getElem? (i := 215) (by decide +kernel), List.mem_of_getElem? (i := 280) (by decide +kernel), List.mem_of_getElem? (i := 281) (by decide +kernel)⟩
theorem lw_p4 : lw_okq (⟨"TrigramReaders$Parser", "methodWord", "()I"⟩, 7) := ⟨⟨by decide +kernel, by decide +kernel⟩, List.mem_of_getElem? (i := 215) (by decide +kernel), List.mem_of_getElem? (i := 303) (by decide +kernel), List.mem_of_getElem? (i := 304) (by decide +kernel)⟩
theorem lw_p5 : lw_okq (⟨"TrigramReaders$Parser", "parseSemicolon", "()Z"⟩, 7) := ⟨⟨by decide +kernel, by decide +kernel⟩, List.mem_of_getElem? (i := 215) (by decide +kernel), List.mem_of_getElem? (i := 310) (by decide +kernel), List.mem_of_getElem? (i := 311) (by decide +kernel)⟩
theorem lw_p6 : lw_okq (⟨"TrigramReaders$Parser", "parseDocument", "()Z"⟩, 7) := ⟨⟨by decide +kernel, by decide +kernel⟩, List.mem_of_getElem? (i := 215) (by decide +kernel), List.mem_of_getElem? (i := 327) (by decide +kernel), List.mem_of_getElem? (i := 328) (by decide +kernel)⟩
theorem lw_p7 : lw_okq (⟨"TrigramReaders$Parser", "parseTrain", "()Z"⟩, 7) := ⟨⟨by decide +kernel, by decide +kernel⟩, List.mem_of_getElem? (i := 215) (by decide +kernel), List.mem_of_getElem? (i := 346) (by decide +kernel), List.mem_of_getElem? (i := 347) (by decide +kernel)⟩
theorem lw_p8 : lw_okq (⟨"TrigramReaders$Parser", "numberValue", "()I"⟩, 7) := ⟨⟨by decide +kernel, by decide +kernel⟩, List.mem_of_getElem? (i := 215) (by decide +kernel), List.mem_of_getElem? (i := 350) (by decide +kernel), List.mem_of_getElem? (i := 351) (by decide +kernel)⟩
theorem lw_p9 : lw_okq (⟨"TrigramReaders$Parser", "parseYear", "()Z"⟩, 7) := ⟨⟨by decide +kernel, by decide +kernel⟩, List.mem_of_getElem? (i := 215) (by decide +kernel), List.mem_of_getElem? (i := 399) (by decide +kernel), List.mem_of_getElem? (i := 400) (by decide +kernel)⟩
theorem lw_p10 : lw_okq (⟨"TrigramReaders", "existingReader", "(I)LTrigramReaders$Reader;"⟩, 15) := ⟨⟨by decide +kernel, by decide +kernel⟩, List.mem_of_getElem? (i := 30) (by decide +kernel), List.mem_of_getElem? (i := 514) (by decide +kernel), List.mem_of_getElem? (i := 515) (by decide +kernel)⟩
theorem lw_p11 : lw_okq (⟨"java/lang/Throwable", "fillInStackTrace", "(I)Ljava/lang/Throwable;"⟩, 6) := ⟨⟨by decide +kernel, by decide +kernel⟩, List.mem_of_getElem? (i := 561) (by decide +kernel), List.mem_of_getElem? (i := 559) (by decide +kernel), List.mem_of_getElem? (i := 560) (by decide +kernel)⟩
theorem lw_p12 : lw_okq (⟨"TrigramReaders", "existingDocument", "(I)LTrigramReaders$Document;"⟩, 15) := ⟨⟨by decide +kernel, by decide +kernel⟩, List.mem_of_getElem? (i := 30) (by decide +kernel), List.mem_of_getElem? (i := 594) (by decide +kernel), List.mem_of_getElem? (i := 595) (by decide +kernel)⟩
theorem lw_p13 : lw_okq (⟨"TrigramReaders", "remember", "()V"⟩, 15) := ⟨⟨by decide +kernel, by decide +kernel⟩, List.mem_of_getElem? (i := 30) (by decide +kernel), List.mem_of_getElem? (i := 671) (by decide +kernel), List.mem_of_getElem? (i := 672) (by decide +kernel)⟩
theorem lw_p14 : lw_okq (⟨"TrigramReaders", "guessesFor", "(LTrigramReaders$Counts;LTrigramReaders$Document;)I"⟩, 15) := ⟨⟨by decide +kernel, by decide +kernel⟩, List.mem_of_getElem? (i := 30) (by decide +kernel), List.mem_of_getElem? (i := 1020) (by decide +kernel), List.mem_of_getElem? (i := 1021) (by decide +kernel)⟩
theorem lw_p15 : lw_okq (⟨"TrigramReaders", "rankOfPosition", "(LTrigramReaders$Counts;LTrigramReaders$Document;I)I"⟩, 15) := ⟨⟨by decide +kernel, by decide +kernel⟩, List.mem_of_getElem? (i := 30) (by decide +kernel), List.mem_of_getElem? (i := 1024) (by decide +kernel), List.mem_of_getElem? (i := 1025) (by decide +kernel)⟩
def lw_privs_1 : List (MethodName × Nat) := [(⟨"TrigramReaders$Parser", "next", "()V"⟩, 7), (⟨"TrigramReaders$Parser", "isWord", "(Ljava/lang/String;)Z"⟩, 7), (⟨"TrigramReaders$Parser", "parseReader", "()Z"⟩, 7), (⟨"TrigramReaders$Parser", "fail", "(I)Z"⟩, 7), (⟨"TrigramReaders$Parser", "methodWord", "()I"⟩, 7), (⟨"TrigramReaders$Parser", "parseSemicolon", "()Z"⟩, 7), (⟨"TrigramReaders$Parser", "parseDocument", "()Z"⟩, 7), (⟨"TrigramReaders$Parser", "parseTrain", "()Z"⟩, 7), (⟨"TrigramReaders$Parser", "numberValue", "()I"⟩, 7), (⟨"TrigramReaders$Parser", "parseYear", "()Z"⟩, 7), (⟨"TrigramReaders", "existingReader", "(I)LTrigramReaders$Reader;"⟩, 15), (⟨"java/lang/Throwable", "fillInStackTrace", "(I)Ljava/lang/Throwable;"⟩, 6), (⟨"TrigramReaders", "existingDocument", "(I)LTrigramReaders$Document;"⟩, 15), (⟨"TrigramReaders", "remember", "()V"⟩, 15), (⟨"TrigramReaders", "guessesFor", "(LTrigramReaders$Counts;LTrigramReaders$Document;)I"⟩, 15), (⟨"TrigramReaders", "rankOfPosition", "(LTrigramReaders$Counts;LTrigramReaders$Document;I)I"⟩, 15)]
theorem lw_r1 : ∀ q ∈ lw_privs_1, lw_okq q := List.forall_mem_cons.mpr ⟨lw_p0, List.forall_mem_cons.mpr ⟨lw_p1, List.forall_mem_cons.mpr ⟨lw_p2, List.forall_mem_cons.mpr ⟨lw_p3, List.forall_mem_cons.mpr ⟨lw_p4, List.forall_mem_cons.mpr ⟨lw_p5, List.forall_mem_cons.mpr ⟨lw_p6, List.forall_mem_cons.mpr ⟨lw_p7, List.forall_mem_cons.mpr ⟨lw_p8, List.forall_mem_cons.mpr ⟨lw_p9, List.forall_mem_cons.mpr ⟨lw_p10, List.forall_mem_cons.mpr ⟨lw_p11, List.forall_mem_cons.mpr ⟨lw_p12, List.forall_mem_cons.mpr ⟨lw_p13, List.forall_mem_cons.mpr ⟨lw_p14, List.forall_mem_cons.mpr ⟨lw_p15, fun _ h => absurd h List.not_mem_nil⟩⟩⟩⟩⟩⟩⟩⟩⟩⟩⟩⟩⟩⟩⟩⟩
theorem lw_p16 : lw_okq (⟨"TrigramReaders", "rankIn", "(LTrigramReaders$Counts;III)I"⟩, 15) := ⟨⟨by decide +kernel, by decide +kernel⟩, List.mem_of_getElem? (i := 30) (by decide +kernel), List.mem_of_getElem? (i := 1028) (by decide +kernel), List.mem_of_getElem? (i := 1029) (by decide +kernel)⟩
theorem lw_p17 : lw_okq (⟨"TrigramReaders$Ranking", "appendOrder", "(LTrigramReaders$Counts;I)V"⟩, 4) := ⟨⟨by decide +kernel, by decide +kernel⟩, List.mem_of_getElem? (i := 414) (by decide +kernel), List.mem_of_getElem? (i := 1038) (by decide +kernel), List.mem_of_getElem? (i := 1039) (by decide +kernel)⟩
theorem lw_p18 : lw_okq (⟨"TrigramReaders$Ranking", "insert", "(III)V"⟩, 4) := ⟨⟨by decide +kernel, by decide +kernel⟩, List.mem_of_getElem? (i := 414) (by decide +kernel), List.mem_of_getElem? (i := 1043) (by decide +kernel), List.mem_of_getElem? (i := 1044) (by decide +kernel)⟩
theorem lw_p19 : lw_okq (⟨"TrigramReaders", "guessesWhileLearning", "(LTrigramReaders$Counts;LTrigramReaders$Document;)I"⟩, 15) := ⟨⟨by decide +kernel, by decide +kernel⟩, List.mem_of_getElem? (i := 30) (by decide +kernel), List.mem_of_getElem? (i := 1060) (by decide +kernel), List.mem_of_getElem? (i := 1061) (by decide +kernel)⟩
theorem lw_p20 : lw_okq (⟨"TrigramReaders", "guessIn", "(LTrigramReaders$Counts;III)I"⟩, 15) := ⟨⟨by decide +kernel, by decide +kernel⟩, List.mem_of_getElem? (i := 30) (by decide +kernel), List.mem_of_getElem? (i := 1109) (by decide +kernel), List.mem_of_getElem? (i := 1110) (by decide +kernel)⟩
theorem lw_p21 : lw_okq (⟨"TrigramReaders", "chanceOf", "(IIII)LTrigramReaders$Chance;"⟩, 15) := ⟨⟨by decide +kernel, by decide +kernel⟩, List.mem_of_getElem? (i := 30) (by decide +kernel), List.mem_of_getElem? (i := 1159) (by decide +kernel), List.mem_of_getElem? (i := 1160) (by decide +kernel)⟩
theorem lw_p22 : lw_okq (⟨"TrigramReaders$Chance", "visit", "(LTrigramReaders$Counts;III)Z"⟩, 4) := ⟨⟨by decide +kernel, by decide +kernel⟩, List.mem_of_getElem? (i := 434) (by decide +kernel), List.mem_of_getElem? (i := 1169) (by decide +kernel), List.mem_of_getElem? (i := 1170) (by decide +kernel)⟩
theorem lw_p23 : lw_okq (⟨"TrigramReaders$Chance", "reduce", "()V"⟩, 4) := ⟨⟨by decide +kernel, by decide +kernel⟩, List.mem_of_getElem? (i := 434) (by decide +kernel), List.mem_of_getElem? (i := 1183) (by decide +kernel), List.mem_of_getElem? (i := 1184) (by decide +kernel)⟩
def lw_privs_2 : List (MethodName × Nat) := [(⟨"TrigramReaders", "rankIn", "(LTrigramReaders$Counts;III)I"⟩, 15), (⟨"TrigramReaders$Ranking", "appendOrder", "(LTrigramReaders$Counts;I)V"⟩, 4), (⟨"TrigramReaders$Ranking", "insert", "(III)V"⟩, 4), (⟨"TrigramReaders", "guessesWhileLearning", "(LTrigramReaders$Counts;LTrigramReaders$Document;)I"⟩, 15), (⟨"TrigramReaders", "guessIn", "(LTrigramReaders$Counts;III)I"⟩, 15), (⟨"TrigramReaders", "chanceOf", "(IIII)LTrigramReaders$Chance;"⟩, 15), (⟨"TrigramReaders$Chance", "visit", "(LTrigramReaders$Counts;III)Z"⟩, 4), (⟨"TrigramReaders$Chance", "reduce", "()V"⟩, 4)]
theorem lw_r2 : ∀ q ∈ lw_privs_2, lw_okq q := List.forall_mem_cons.mpr ⟨lw_p16, List.forall_mem_cons.mpr ⟨lw_p17, List.forall_mem_cons.mpr ⟨lw_p18, List.forall_mem_cons.mpr ⟨lw_p19, List.forall_mem_cons.mpr ⟨lw_p20, List.forall_mem_cons.mpr ⟨lw_p21, List.forall_mem_cons.mpr ⟨lw_p22, List.forall_mem_cons.mpr ⟨lw_p23, fun _ h => absurd h List.not_mem_nil⟩⟩⟩⟩⟩⟩⟩⟩
def lw_privs : List (MethodName × Nat) := lw_privs_1 ++ (lw_privs_2)
def lw_tbl : List Cond := k2_sels lw_privs ++ tables_1
theorem lw_privs_ok : ∀ q ∈ lw_privs, lw_okq q := by
  show ∀ q ∈ lw_privs_1 ++ (lw_privs_2), lw_okq q
  exact List.forall_mem_append.mpr ⟨lw_r1, lw_r2⟩
/-- the streams that the claim lets the run draw from -/
abbrev lw_cs : List Choice := [Jvm.Choice.named "NaN.bits"]
theorem lw_bits : nanBits ∈ lw_cs := by first | decide | exact List.mem_cons_self | simp [lw_cs, nanBits]
end
section
/-! ===== BEGIN words of one list among another's, by their places ===== -/
theorem goodIn_r {big : List Cond} (ws : List Cond) (ps : List Nat) (hp : ws = ps.filterMap (fun i => big[i]?)) (h : ws.all goodWord = true) : GoodIn big ws := by
  intro w hw
  have h1 := List.all_eq_true.mp h w hw
  rw [hp] at hw
  obtain ⟨i, -, hi⟩ := List.mem_filterMap.mp hw
  have hm : w ∈ big := by first | exact List.mem_of_getElem? hi | exact List.getElem?_mem hi
  exact ⟨hm, good_of_word h1⟩
theorem goodIn_app {big a b : List Cond} (ha : GoodIn big a) (hb : GoodIn big b) : GoodIn big (a ++ b) := fun w h => (List.mem_append.mp h).elim (ha w) (hb w)
theorem goodIn_ca {big a b : List Cond} {c : Cond} (ha : GoodIn big (c :: a)) (hb : GoodIn big b) : GoodIn big (c :: (a ++ b)) := fun w h => (List.mem_cons.mp h).elim (fun e => ha w (List.mem_cons.mpr (Or.inl e))) (fun h => (List.mem_append.mp h).elim (fun h => ha w (List.mem_cons.mpr (Or.inr h))) (hb w))
theorem goodIn_sub {big ws : List Cond} (hm : ∀ w ∈ ws, w ∈ big) (h : ws.all goodWord = true) : GoodIn big ws := fun w hw => ⟨hm w hw, good_of_word (List.all_eq_true.mp h w hw)⟩
/-! ===== END ===== -/
/-! ===== BEGIN exceptions that leave a method, and their catching by the caller (launches without stack traces) ===== -/
section VXA
/-! The laws vx_back, vx_callV, vx_callS, vx_callSW, vx_throw0, vx_throwS follow proofs of the library, with one case more: JvmDerived/Free/Laws.lean (Back.of_free), Shelf42/LK1.lean (callV, callS), Shelf/KitTraced.lean (throwNew0V, throwNewS). -/
/-- where a method has thrown q: the class by its name, the cell, what was written, the world -/
def vx_T (XC : String → State → State → Prop) (st : State) (q : Addr) (t : State) (mc ms : Nat) (free : Addr → Prop) : Prop :=
  ∃ (E : String) (ce : Cell) (L : List Loc), XC E st t ∧ t.heap[q]? = some ce ∧ ce.vm = .none ∧ st.vm.findClass E = some ce.cls ∧ st.WarmedH t.vm ∧ st.sameButNew ({ t with vm := st.vm } : State) L mc ms ∧ ∀ z ∈ L, free z.base
def vx_Q (Qc : Array Value → State → Outcome → State → Prop) (XC : String → State → State → Prop) (mc ms : Nat) (free : Addr → Prop) : Array Value → State → Outcome → State → Prop := fun a st o t =>
  (Qc a st o t ∧ ∃ L, FrameEnd st o t L mc ms ∧ ∀ q ∈ L, free q.base) ∨ ∃ q, o = .threw q ∧ vx_T XC st q t mc ms free
/-- a callee that returns or throws -/
def vx_Met (l : Launch) (y : MethodName) (ws : List Cond) (rm : Room) (Pc : Array Value → State → Prop) (Qc : Array Value → State → Outcome → State → Prop) (XC : String → State → State → Prop) (mc ms : Nat) (free : Addr → Prop) : Prop :=
  MetFree l y (headSpec ws rm) Pc (fun _ _ _ _ _ => True) (vx_Q Qc XC mc ms free)
def vx_Post (XC : String → State → State → Prop) (mc ms : Nat) (free : Addr → Prop) : Pt → Array Value → Addr → Pt → Prop := fun A a q B =>
  ∃ (g : JFrame) (mk : MethodId) (t : State) (L : List Loc) (E : String) (ce : Cell), B.U.heap = t.heap ∧ B.U.vm = t.vm ∧ XC E (A.U.calling g mk a) t ∧ t.heap[q]? = some ce ∧ ce.vm = .none ∧ A.U.vm.findClass E = some ce.cls ∧ B.locs = A.locs ++ L ∧ (∀ z ∈ L, free z.base) ∧ B.cells = A.cells + mc ∧ B.slots = A.slots + ms
def vx_Back (l : Launch) (R : Room) (p : Program) (e : Env) (below : List Frame) (s : State) (sargs : Array Value) (y : MethodName) (len W9 : Nat)
    (Pre : Pt → Array Value → Prop) (Post : Pt → Array Value → Option Value → Pt → Prop) (PostX : Pt → Array Value → Addr → Pt → Prop) : Prop :=
  ∀ (m : MethodId) (meth : Method) (c : Code) (A : Pt) (g : JFrame) (ig : Instr) (mk : MethodId) (a : Array Value),
    Stand p l e R s m sargs below meth c A.U A.locs A.cells A.slots → g.method = m → g.locals.size = c.maxLocals → decode c.code g.pc = .ok (ig, len) →
    2 * g.monitorRoom + (g.stack.map fun v => v.category).sum ≤ W9 → A.U.methodNamed? y = some mk → Pre A a →
    (∃ (v : Option Value) (B : Pt), Stand p l e R s m sargs below meth c B.U B.locs B.cells B.slots ∧ Post A a v B ∧
      Steps p.tables e below (doInvoke e (A.U.setTop g) [] mk a).1 (B.U.setTop { g with pc := g.pc + len, stack := v.toList ++ g.stack })) ∨
    (∃ (q : Addr) (B : Pt), Stand p l e R s m sargs below meth c B.U B.locs B.cells B.slots ∧ PostX A a q B ∧
      Steps p.tables e below (doInvoke e (A.U.setTop g) [] mk a).1 ((B.U.setTop g).pushFrame (.throwing q)))
section Payer
variable {l : Launch} {R : Room} {p : Program} {e : Env} {below : List Frame} {s : State} {sargs : Array Value} {y : MethodName} {len W9 : Nat}
theorem vx_back {ws : List Cond} {rm : Room} {Pc : Array Value → State → Prop} {Qc : Array Value → State → Outcome → State → Prop} {XC : String → State → State → Prop} {mc ms : Nat} {free : Addr → Prop} {bytes : ByteArray} {maxL : Nat} {ret : Option FieldType}
    (hM : vx_Met l y ws rm Pc Qc XC mc ms free) (hblind : FrameBlind Pc) (hrc : rm.cells = mc) (hrs : rm.slots = ms)
    (hframes : rm.frames + 1 ≤ R.frames) (hlocals : W9 + (maxL + 11) + rm.locals ≤ R.locals)
    (hws : ∀ w ∈ ws, ∀ a' U, s.WarmedH U.vm → w.before a' U = true) (hcode : Cond.code y bytes maxL ret ∈ ws) (hinit : ∀ a' U, s.WarmedH U.vm → (Cond.initialized y.cls).before a' U = true) :
    vx_Back l R p e below s sargs y len W9 (PreOf R mc ms Pc) (PostOf Qc mc ms free) (vx_Post XC mc ms free) := by
  intro m meth c A g ig mk a X hg hsize hdg hW hn hp
  have h1 : (headSpec ws rm).pre.before a A.U = true := atoms_intro fun w hw => hws w hw _ _ X.warmed
  have h2 : (Cond.code y bytes maxL ret).before a A.U = true := hws _ hcode _ _ X.warmed
  have h3 : (Cond.initialized y.cls).before a A.U = true := hinit _ _ X.warmed
  have h4 : A.cells + (headSpec ws rm).room.cells ≤ R.cells := by rw [show (headSpec ws rm).room.cells = mc from hrc]; exact hp.1
  have h5 : A.slots + (headSpec ws rm).room.slots ≤ R.slots := by rw [show (headSpec ws rm).room.slots = ms from hrs]; exact hp.2.1
  have hPc : Pc a (A.U.calling g mk a) := hblind _ _ _ _ hp.2.2
  obtain ⟨U, Ls, c0, s0⟩ := A
  dsimp only [Pt.U, Pt.locs, Pt.cells, Pt.slots] at h1 h2 h3 h4 h5 X hn hPc ⊢
  obtain ⟨methY, cY, hmY, hcY, -, hlY, -, -, -, -⟩ := Cond.code_spec hn h2
  obtain ⟨kY, hkY, -⟩ := className_of_methodNamed hn
  have hinitY : kY.init = .initialized := Cond.initialized_spec (findClass_of_methodNamed hn) hkY h3
  have h : At U g.method c below := by rw [hg]; exact X.here
  have hlocals9 : W9 + (maxL + 11) + (headSpec ws rm).room.locals ≤ R.locals := hlocals
  have happ : (headSpec ws rm).appliesLoose y e.platform (U.calling g mk a) = true :=
    Spec.appliesLoose_calling (g := g) h hdg hn hkY hinitY
      (X.room_calling (g := g) (R' := (headSpec ws rm).room) hsize hmY hcY hframes (by rw [hlY]; omega) h4 h5) h1
  obtain ⟨mid, hmid⟩ := h.above
  have hfr : (U.setTop g).frames = (.java g :: mid) ++ below := by rw [State.frames_setTop' g h.top, hmid]; rfl
  obtain ⟨o, s₂, hsteps, -, hend, hq⟩ := Steps.callFree hM p X.admits X.cas X.clock (acts := []) hfr happ hPc trivial
  have hq' : vx_Q Qc XC mc ms free a (U.calling g mk a) o s₂ := hq
  rw [State.frames_setTop' g h.top] at hend
  obtain ⟨g₀, hg0⟩ := Option.isSome_iff_exists.mp h.top
  obtain ⟨r, hr⟩ := State.topJava?_eq_some.mp hg0
  have hr' : (({ U with heap := s₂.heap, slotsUsed := s₂.slotsUsed } : State).setVm s₂.vm).frames = .java g₀ :: r := hr
  rcases hq' with ⟨hqc, L, hfe, hL⟩ | ⟨q, rfl, E, ce, L, hx, hce, hcv, hcl, hW₂, hsm, hL⟩
  · obtain ⟨⟨v, rfl⟩, hW₂, e2, q2, q3, q4, q5, q6⟩ := id hfe
    have e3 : s₂ = ({ (U.calling g mk a).setFrames s₂.frames with heap := s₂.heap, slotsUsed := s₂.slotsUsed } : State).setVm s₂.vm := by
      have : s₂ = ({ s₂ with vm := (U.calling g mk a).vm } : State).setVm s₂.vm := rfl
      rw [e2] at this
      exact this
    obtain ⟨c₂, i₂, len₂, hc₂, hd₂, hf₂⟩ := hend
    have hW' : U.WarmedH s₂.vm := hW₂
    have hcc : c₂ = c := by
      have h1 : s₂.code? g.method = U.code? g.method := by
        rw [State.code?_eq, State.code?_eq, hW'.alike.method?]
      exact Option.some.inj (hc₂.symm.trans (h1.trans h.code))
    subst hcc
    have hlen : len₂ = len := by rw [hdg] at hd₂; cases hd₂; rfl
    subst hlen
    have hs₂ : s₂ = (({ U with heap := s₂.heap, slotsUsed := s₂.slotsUsed } : State).setVm s₂.vm).setTop { g with pc := g.pc + len₂, stack := v.toList ++ g.stack } := by
      refine e3.trans ?_
      rw [hf₂, State.calling_eq h.top, State.setFrames_setFrames, State.setTop_of_frames _ hr', hr]
      rfl
    have hsame : U.sameButNew ({ U with heap := s₂.heap, slotsUsed := s₂.slotsUsed } : State) L mc ms := by
      refine ⟨?_, q2, q3, q4, q5, q6⟩
      obtain ⟨t, ht, -⟩ := State.frames_cons hr
      show ({ U with heap := s₂.heap, slotsUsed := s₂.slotsUsed } : State) = { U.setFrames U.frames with heap := s₂.heap, slotsUsed := s₂.slotsUsed }
      rw [State.setFrames_self ht]
    subst hg
    refine Or.inl ⟨v, ⟨(({ U with heap := s₂.heap, slotsUsed := s₂.slotsUsed } : State).setVm s₂.vm), Ls ++ L, c0 + mc, s0 + ms⟩,
      ⟨X.admits, X.cas, X.clock, X.frames, X.room, X.hears, X.method, X.code, (X.here.setHeapUsed s₂.heap s₂.slotsUsed).setVm hW'.alike, X.tail, State.WarmedH.trans X.warmed hW', X.limits, X.bytes, X.same.trans (hsame.setVm s.vm)⟩,
      ⟨g, mk, s₂, L, rfl, rfl, hqc, rfl, hL, rfl, rfl⟩, ?_⟩
    show Steps p.tables e below _ ((({ U with heap := s₂.heap, slotsUsed := s₂.slotsUsed } : State).setVm s₂.vm).setTop { g with pc := g.pc + len₂, stack := v.toList ++ g.stack })
    rw [← hs₂]
    exact hsteps
  · obtain ⟨e2, q2, q3, q4, q5, q6⟩ := id hsm
    have e3 : s₂ = ({ (U.calling g mk a).setFrames s₂.frames with heap := s₂.heap, slotsUsed := s₂.slotsUsed } : State).setVm s₂.vm := by
      have : s₂ = ({ s₂ with vm := (U.calling g mk a).vm } : State).setVm s₂.vm := rfl
      rw [e2] at this
      exact this
    have hf₂ : s₂.frames = .throwing q :: .java g :: U.frames.tail := hend
    have hW' : U.WarmedH s₂.vm := hW₂
    have hs₂ : s₂ = ((({ U with heap := s₂.heap, slotsUsed := s₂.slotsUsed } : State).setVm s₂.vm).setTop g).pushFrame (.throwing q) := by
      refine e3.trans ?_
      rw [hf₂, State.calling_eq h.top, State.setFrames_setFrames, State.pushFrame, State.frames_setTop _ hr', State.setTop_of_frames _ hr', State.setFrames_setFrames, hr]
      rfl
    have hsame : U.sameButNew ({ U with heap := s₂.heap, slotsUsed := s₂.slotsUsed } : State) L mc ms := by
      refine ⟨?_, q2, q3, q4, q5, q6⟩
      obtain ⟨t, ht, -⟩ := State.frames_cons hr
      show ({ U with heap := s₂.heap, slotsUsed := s₂.slotsUsed } : State) = { U.setFrames U.frames with heap := s₂.heap, slotsUsed := s₂.slotsUsed }
      rw [State.setFrames_self ht]
    subst hg
    refine Or.inr ⟨q, ⟨(({ U with heap := s₂.heap, slotsUsed := s₂.slotsUsed } : State).setVm s₂.vm), Ls ++ L, c0 + mc, s0 + ms⟩,
      ⟨X.admits, X.cas, X.clock, X.frames, X.room, X.hears, X.method, X.code, (X.here.setHeapUsed s₂.heap s₂.slotsUsed).setVm hW'.alike, X.tail, State.WarmedH.trans X.warmed hW', X.limits, X.bytes, X.same.trans (hsame.setVm s.vm)⟩,
      ⟨g, mk, s₂, L, E, ce, rfl, rfl, hx, hce, hcv, hcl, rfl, hL, rfl, rfl⟩, ?_⟩
    show Steps p.tables e below _ (((({ U with heap := s₂.heap, slotsUsed := s₂.slotsUsed } : State).setVm s₂.vm).setTop g).pushFrame (.throwing q))
    rw [← hs₂]
    exact hsteps
end Payer
section Calls
variable {p : Program} {l : Launch} {e : Env} {R : Room} {s : State} {m : MethodId} {args : Array Value} {below : List Frame} {meth : Method} {c : Code} {T : State} {locs : List Loc} {cells slots : Nat}
theorem vx_callV (X : Stand p l e R s m args below meth c T locs cells slots) (hexec : p.tables.exec = Jvm.exec) {own C : String} {index : Nat} {y : MethodName} {bytes : ByteArray} {maxL : Nat} {ret : Option FieldType}
    (hown : s.vm.findClass own = some m.cls) (hlink : (Cond.methodLink own index y).before args s = true) (hinst : (Cond.instanceMethod y).before args s = true) (hsel : (Cond.selects C y y).before args s = true)
    (hcode : (Cond.code y bytes maxL ret).before args s = true) (hy : y.cls ≠ "java/lang/invoke/MethodHandle" ∧ y.cls ≠ "java/lang/invoke/VarHandle")
    {W9 : Nat} {Pre : Pt → Array Value → Prop} {Post : Pt → Array Value → Option Value → Pt → Prop} {PostX : Pt → Array Value → Addr → Pt → Prop} (hK : vx_Back l R p e below s args y 3 W9 Pre Post PostX)
    {b : Addr} {cellB : Cell} (hcell : T.heap[b]? = some cellB) (hobj : cellB.vm.isStatics = false) (hcls : s.vm.findClass C = some cellB.cls)
    {g : JFrame} (hg : g.method = m) (hsize : g.locals.size = c.maxLocals) {argsL rest : List Value} (hlen : ∀ sig, parseMethodDescriptor y.desc = some sig → argsL.length = sig.parameters.length)
    (hstack : g.stack = argsL.reverse ++ .ref b :: rest) (hW : 2 * g.monitorRoom + (rest.map fun v => v.category).sum ≤ W9) (hdg : decode c.code g.pc = .ok (.invokevirtual index, 3))
    (hpre : ∀ vm₁, s.WarmedH vm₁ → Pre ⟨T.setVm vm₁, locs, cells, slots⟩ (Value.ref b :: argsL).toArray) :
    (∃ (v : Option Value) (vm₁ : Vm) (B : Pt), s.WarmedH vm₁ ∧ Stand p l e R s m args below meth c B.U B.locs B.cells B.slots ∧ Post ⟨T.setVm vm₁, locs, cells, slots⟩ (Value.ref b :: argsL).toArray v B ∧
      ∀ target, Steps p.tables e below (B.U.setTop { g with pc := g.pc + 3, stack := v.toList ++ rest }) target → Steps p.tables e below (T.setTop g) target) ∨
    (∃ (q : Addr) (vm₁ : Vm) (B : Pt), s.WarmedH vm₁ ∧ Stand p l e R s m args below meth c B.U B.locs B.cells B.slots ∧ PostX ⟨T.setVm vm₁, locs, cells, slots⟩ (Value.ref b :: argsL).toArray q B ∧
      Steps p.tables e below (T.setTop g) ((B.U.setTop { g with stack := rest }).pushFrame (.throwing q))) := by
  obtain ⟨mk, methM, hnamed, hmethM, hstM, habM⟩ := Cond.instanceMethod_spec hinst
  obtain ⟨methM', cM, hmethM', -, -, -, -, -, -, hsigM⟩ := Cond.code_spec hnamed hcode
  cases hmethM.symm.trans hmethM'
  obtain ⟨c2, r2, m2, q1, q2, q3, q4, kP, hkP, hkPi⟩ := Cond.selects_spec hsel
  cases hcls.symm.trans q1
  cases (State.methodFound?_of_named hnamed hy).symm.trans q2
  cases hnamed.symm.trans q3
  have hselP : selectMethod e.platform s.vm cellB.cls mk = .method mk := by rw [Launch.admits_selectMethod X.admits]; exact q4
  obtain ⟨vm₁, X₁, hstep₁⟩ := X.invokevirtual hexec hown hlink hnamed hmethM hstM hkP hkPi hy (a := b) (cell := cellB) hcell
    (fun z h => by rw [h] at hobj; cases hobj) hselP hmethM habM hkP hkPi (g := g) hg (argsL := argsL) (rest := rest) (hlen _ hsigM) hstack hdg
  rcases hK m meth c ⟨T.setVm vm₁, locs, cells, slots⟩ { g with stack := rest } (.invokevirtual index) mk (Value.ref b :: argsL).toArray X₁ hg hsize hdg hW (X₁.named hnamed) (hpre vm₁ X₁.warmed) with ⟨v, B, X', hpost, hsteps⟩ | ⟨q, B, X', hpost, hsteps⟩
  · exact Or.inl ⟨v, vm₁, B, X₁.warmed, X', hpost, fun target h => hstep₁ _ fun acts => by rw [doInvoke_state]; exact hsteps.trans h⟩
  · exact Or.inr ⟨q, vm₁, B, X₁.warmed, X', hpost, hstep₁ _ fun acts => by rw [doInvoke_state]; exact hsteps⟩
theorem vx_callS (X : Stand p l e R s m args below meth c T locs cells slots) (hexec : p.tables.exec = Jvm.exec) {own : String} {index : Nat} {y : MethodName} {bytes : ByteArray} {maxL : Nat} {ret : Option FieldType}
    (hown : s.vm.findClass own = some m.cls) (hlink : (Cond.methodLink own index y).before args s = true) (hstat : (Cond.static y).before args s = true) (hinit : (Cond.initialized y.cls).before args s = true)
    (hcode : (Cond.code y bytes maxL ret).before args s = true) (hy : y.cls ≠ "java/lang/invoke/MethodHandle" ∧ y.cls ≠ "java/lang/invoke/VarHandle")
    {W9 : Nat} {Pre : Pt → Array Value → Prop} {Post : Pt → Array Value → Option Value → Pt → Prop} {PostX : Pt → Array Value → Addr → Pt → Prop} (hK : vx_Back l R p e below s args y 3 W9 Pre Post PostX)
    {g : JFrame} (hg : g.method = m) (hsize : g.locals.size = c.maxLocals) {argsL rest : List Value} (hlen : ∀ sig, parseMethodDescriptor y.desc = some sig → argsL.length = sig.parameters.length)
    (hstack : g.stack = argsL.reverse ++ rest) (hW : 2 * g.monitorRoom + (rest.map fun v => v.category).sum ≤ W9) (hdg : decode c.code g.pc = .ok (.invokestatic index, 3))
    (hpre : ∀ vm₁, s.WarmedH vm₁ → Pre ⟨T.setVm vm₁, locs, cells, slots⟩ argsL.toArray) :
    (∃ (v : Option Value) (vm₁ : Vm) (B : Pt), s.WarmedH vm₁ ∧ Stand p l e R s m args below meth c B.U B.locs B.cells B.slots ∧ Post ⟨T.setVm vm₁, locs, cells, slots⟩ argsL.toArray v B ∧
      ∀ target, Steps p.tables e below (B.U.setTop { g with pc := g.pc + 3, stack := v.toList ++ rest }) target → Steps p.tables e below (T.setTop g) target) ∨
    (∃ (q : Addr) (vm₁ : Vm) (B : Pt), s.WarmedH vm₁ ∧ Stand p l e R s m args below meth c B.U B.locs B.cells B.slots ∧ PostX ⟨T.setVm vm₁, locs, cells, slots⟩ argsL.toArray q B ∧
      Steps p.tables e below (T.setTop g) ((B.U.setTop { g with stack := rest }).pushFrame (.throwing q))) := by
  obtain ⟨mk, hnamed⟩ := Cond.code_named hcode
  obtain ⟨methM, cM, hmethM, -, -, -, -, -, -, hsigM⟩ := Cond.code_spec hnamed hcode
  have hstatic : methM.isStatic = true := Cond.static_spec hnamed hmethM hstat
  obtain ⟨kP, hkP, -⟩ := className_of_methodNamed hnamed
  have hinitP : kP.init = .initialized := Cond.initialized_spec (findClass_of_methodNamed hnamed) hkP hinit
  obtain ⟨vm₁, X₁, hstep₁⟩ := X.invokestatic hexec hown hlink hnamed hmethM hstatic hkP hinitP hy (g := g) hg (argsL := argsL) (rest := rest) (hlen _ hsigM) hstack hdg
  rcases hK m meth c ⟨T.setVm vm₁, locs, cells, slots⟩ { g with stack := rest } (.invokestatic index) mk argsL.toArray X₁ hg hsize hdg hW (X₁.named hnamed) (hpre vm₁ X₁.warmed) with ⟨v, B, X', hpost, hsteps⟩ | ⟨q, B, X', hpost, hsteps⟩
  · exact Or.inl ⟨v, vm₁, B, X₁.warmed, X', hpost, fun target h => hstep₁ _ fun acts => by rw [doInvoke_state]; exact hsteps.trans h⟩
  · exact Or.inr ⟨q, vm₁, B, X₁.warmed, X', hpost, hstep₁ _ fun acts => by rw [doInvoke_state]; exact hsteps⟩
end Calls
theorem vx_cls {s : State} {T : State} {vm₁ : Vm} {E : String} {k : ClassId} (hW : s.WarmedH vm₁) (h : (T.setVm vm₁).vm.findClass E = some k) : s.vm.findClass E = some k := by
  have h1 : vm₁.findClass E = some k := h
  rw [hW.alike.findClass] at h1
  exact h1
/-- the method's frame g, with q thrown over it -/
def vx_W (p : Program) (l : Launch) (e : Env) (R : Room) (s : State) (m : MethodId) (args : Array Value) (below : List Frame) (meth : Method) (c : Code) (H : Heap) (locs : List Loc) (cells slots : Nat) (Q : State → Prop) (g : JFrame) (q : Addr) : Prop :=
  ∀ T : State, T.heap = H → Stand p l e R s m args below meth c T locs cells slots → ∃ t, Steps p.tables e below ((T.setTop g).pushFrame (.throwing q)) t ∧ Q t
def vx_Run (p : Program) (l : Launch) (e : Env) (R : Room) (s : State) (m : MethodId) (args : Array Value) (below : List Frame) (meth : Method) (c : Code) (H : Heap) (locs : List Loc) (cells slots mc ms : Nat) (g : JFrame) (rest : List Value) (Qa : State → Outcome → State → Prop) (XC : String → State → State → Prop) (free : Addr → Prop) : Prop :=
  ∀ T : State, T.heap = H → Stand p l e R s m args below meth c T locs cells slots →
    (∃ (v : Option Value) (st₀ t T' : State) (L : List Loc), st₀.heap = H ∧ Stand p l e R s m args below meth c T' (locs ++ L) (cells + mc) (slots + ms) ∧ (∀ q ∈ L, free q.base) ∧ T'.heap = t.heap ∧ T'.vm = t.vm ∧ Qa st₀ (.returned v) t ∧
      Goes p e below T g T' { g with pc := g.pc + 3, stack := v.toList ++ rest }) ∨
    (∃ (q : Addr) (st₀ t T' : State) (L : List Loc) (E : String) (ce : Cell), st₀.heap = H ∧ Stand p l e R s m args below meth c T' (locs ++ L) (cells + mc) (slots + ms) ∧ (∀ z ∈ L, free z.base) ∧ T'.heap = t.heap ∧ T'.vm = t.vm ∧ XC E st₀ t ∧ t.heap[q]? = some ce ∧ ce.vm = .none ∧ s.vm.findClass E = some ce.cls ∧
      Steps p.tables e below (T.setTop g) ((T'.setTop { g with stack := rest }).pushFrame (.throwing q)))
def vx_X {S : Type} (px : S → Prop) (B : String → S → State → Prop) (A : Nat → Prop) : String → State → State → Prop := fun E st t => ∃ u : S, px u ∧ B E u t ∧ va_F A st t
section Runs
variable {p : Program} {l : Launch} {e : Env} {R : Room} {s : State} {m : MethodId} {args : Array Value} {below : List Frame} {meth : Method} {c : Code} {H : Heap} {locs : List Loc} {cells slots : Nat}
variable {y : MethodName} {bytes cc : ByteArray} {maxL nL mc ms n index : Nat} {ret : Option FieldType} {ws : List Cond} {rm : Room} {Pc : Array Value → State → Prop} {Qc : Array Value → State → Outcome → State → Prop} {XC : String → State → State → Prop} {free : Addr → Prop} {Ts : List Cond} {own C : String} {b : Addr} {As rest : List Value} {g : JFrame}
theorem vx_callBack (cb : CallB R s args own index y bytes maxL ret ws rm mc ms n) (hM : vx_Met l y ws rm Pc Qc XC mc ms free) (hbl : FrameBlind Pc) : vx_Back l R p e below s args y 3 8 (PreOf R mc ms Pc) (PostOf Qc mc ms free) (vx_Post XC mc ms free) := by
  obtain ⟨hrc, hrs, hfr, hlo, hws, hcw, -, hini, -⟩ := cb
  exact vx_back (bytes := bytes) (maxL := maxL) (ret := ret) hM hbl hrc hrs hfr hlo hws hcw (fun a' U hW => word_at hW (Or.inl (by first | rfl | simp [Cond.onTables, Cond.keeps, Cond.steady])) hini)
theorem vx_runV (S : CallFix p m c cc nL s args Ts own) (hM : vx_Met l y ws rm Pc Qc XC mc ms free) (cw : CallW R s args own C index y bytes maxL ret ws rm mc ms n) (hp : PreV s H C b Pc As)
    (hg : g.method = m) (hn : As.length = n) (hsize : g.locals.size = nL) (hstack : g.stack = As.reverse ++ .ref b :: rest) (hW : 2 * g.monitorRoom + (rest.map fun v => v.category).sum ≤ 8) (hdg : decode cc g.pc = .ok (.invokevirtual index, 3)) (hf : cells + mc ≤ R.cells ∧ slots + ms ≤ R.slots) :
    vx_Run p l e R s m args below meth c H locs cells slots mc ms g rest (Qc (Value.ref b :: As).toArray) XC free := by
  have hK : vx_Back l R p e below s args y 3 8 (PreOf R mc ms Pc) (PostOf Qc mc ms free) (vx_Post XC mc ms free) := vx_callBack cw.1 hM hp.1
  obtain ⟨⟨-, -, -, -, -, -, hcode, -, hy, hlen, hl⟩, hin, hse⟩ := cw
  obtain ⟨hx, hb, hml, ho, -⟩ := S
  obtain ⟨-, ⟨cellB, hcB, hoB, hclB⟩, hPc⟩ := hp
  intro T hT X
  rcases vx_callV X hx (C := C) (bytes := bytes) (maxL := maxL) (ret := ret) ho hl hin hse hcode hy hK (by rw [hT]; exact hcB) hoB hclB hg (hsize.trans hml.symm) (argsL := As) (rest := rest) (fun sig h => hn.trans (hlen sig h)) hstack hW (by rw [hb]; exact hdg)
    (fun vm₁ hW₁ => ⟨hf.1, hf.2, hPc (T.setVm vm₁) hT hW₁⟩) with ⟨v, vm₁, ⟨U', l2, c2, s2⟩, hW₁, X', ⟨g', mk, t, L, e1, e2, hq, h1, hL, h2, h3⟩, st⟩ | ⟨q, vm₁, ⟨U', l2, c2, s2⟩, hW₁, X', ⟨g', mk, t, L, E, ce, e1, e2, hq, hce, hcv, hcl, h1, hL, h2, h3⟩, st⟩
  · dsimp only [Pt.U, Pt.locs, Pt.cells, Pt.slots] at X' e1 e2 h1 h2 h3 st
    subst h1; subst h2; subst h3
    exact Or.inl ⟨v, (T.setVm vm₁).calling g' mk (Value.ref b :: As).toArray, t, U', L, hT, X', hL, e1, e2, hq, st⟩
  · dsimp only [Pt.U, Pt.locs, Pt.cells, Pt.slots] at X' e1 e2 h1 h2 h3 st hcl
    subst h1; subst h2; subst h3
    exact Or.inr ⟨q, (T.setVm vm₁).calling g' mk (Value.ref b :: As).toArray, t, U', L, E, ce, hT, X', hL, e1, e2, hq, hce, hcv, vx_cls hW₁ hcl, st⟩
theorem vx_runS (S : CallFix p m c cc nL s args Ts own) (hM : vx_Met l y ws rm Pc Qc XC mc ms free) (cw : CallB R s args own index y bytes maxL ret ws rm mc ms n ∧ (Cond.static y).before args s = true) (hp : PreS s H Pc As)
    (hg : g.method = m) (hn : As.length = n) (hsize : g.locals.size = nL) (hstack : g.stack = As.reverse ++ rest) (hW : 2 * g.monitorRoom + (rest.map fun v => v.category).sum ≤ 8) (hdg : decode cc g.pc = .ok (.invokestatic index, 3)) (hf : cells + mc ≤ R.cells ∧ slots + ms ≤ R.slots) :
    vx_Run p l e R s m args below meth c H locs cells slots mc ms g rest (Qc As.toArray) XC free := by
  have hK : vx_Back l R p e below s args y 3 8 (PreOf R mc ms Pc) (PostOf Qc mc ms free) (vx_Post XC mc ms free) := vx_callBack cw.1 hM hp.1
  obtain ⟨⟨-, -, -, -, -, -, hcode, hini, hy, hlen, hl⟩, hstt⟩ := cw
  obtain ⟨hx, hb, hml, ho, -⟩ := S
  intro T hT X
  rcases vx_callS X hx (bytes := bytes) (maxL := maxL) (ret := ret) ho hl hstt hini hcode hy hK hg (hsize.trans hml.symm) (argsL := As) (rest := rest) (fun sig h => hn.trans (hlen sig h)) hstack hW (by rw [hb]; exact hdg)
    (fun vm₁ hW₁ => ⟨hf.1, hf.2, hp.2 (T.setVm vm₁) hT hW₁⟩) with ⟨v, vm₁, ⟨U', l2, c2, s2⟩, hW₁, X', ⟨g', mk, t, L, e1, e2, hq, h1, hL, h2, h3⟩, st⟩ | ⟨q, vm₁, ⟨U', l2, c2, s2⟩, hW₁, X', ⟨g', mk, t, L, E, ce, e1, e2, hq, hce, hcv, hcl, h1, hL, h2, h3⟩, st⟩
  · dsimp only [Pt.U, Pt.locs, Pt.cells, Pt.slots] at X' e1 e2 h1 h2 h3 st
    subst h1; subst h2; subst h3
    exact Or.inl ⟨v, (T.setVm vm₁).calling g' mk As.toArray, t, U', L, hT, X', hL, e1, e2, hq, st⟩
  · dsimp only [Pt.U, Pt.locs, Pt.cells, Pt.slots] at X' e1 e2 h1 h2 h3 st hcl
    subst h1; subst h2; subst h3
    exact Or.inr ⟨q, (T.setVm vm₁).calling g' mk As.toArray, t, U', L, E, ce, hT, X', hL, e1, e2, hq, hce, hcv, vx_cls hW₁ hcl, st⟩
end Runs
section Rows
variable {p : Program} {l : Launch} {e : Env} {R : Room} {s : State} {m : MethodId} {args : Array Value} {below : List Frame} {meth : Method} {c : Code} {H : Heap} {locs : List Loc} {cells slots : Nat} {Q : State → Prop}
variable {mc ms : Nat} {free : Addr → Prop} {A0 A1 : Nat → Prop} {H0 : Heap} {a : Array Value} {pc : Nat} {ls : Array Slot} {st0 rest : List Value}
theorem vx_keep {st₀ t T' : State} {L : List Loc} (h0 : st₀.heap = H) (e1 : T'.heap = t.heap) (hS : va_S A0 H0 H locs) (hA : ∀ q, q < H.size → A1 q → A0 q) (hf : ∀ q, free q → A0 q) (hL : ∀ q ∈ L, free q.base) (hF : va_F A1 st₀ t) :
    H.size ≤ T'.heap.size ∧ (∀ q : Nat, q < H.size → ¬ A1 q → T'.heap[q]? = H[q]?) ∧ va_S A0 H0 T'.heap (locs ++ L) := by
  obtain ⟨hz, hk⟩ := hF
  rw [h0] at hz hk
  exact ⟨by rw [e1]; exact hz, fun q h1 h2 => by rw [e1]; exact hk q h1 h2,
    ⟨Nat.le_trans hS.1 (by rw [e1]; exact hz), fun q h1 h2 => by rw [e1, hk q (Nat.lt_of_lt_of_le h1 hS.1) (fun z => h2 (hA q (Nat.lt_of_lt_of_le h1 hS.1) z))]; exact hS.2.1 q h1 h2, fun q hq => by
      rcases List.mem_append.mp hq with h | h
      · exact hS.2.2 q h
      · exact hf _ (hL q h)⟩⟩
theorem vx_calli {S SX : Type} {post : Int32 → S → Prop} {px : SX → Prop} {B : S → State → Prop} {BX : String → SX → State → Prop} {AX : Nat → Prop} (hr : vx_Run p l e R s m args below meth c H locs cells slots mc ms (F0 m pc ls st0) rest (va_Qi post B A1 a) (vx_X px BX AX) free) (hS : va_S A0 H0 H locs) (hA : ∀ q, q < H.size → A1 q → A0 q) (hf : ∀ q, free q → A0 q) (hAX : ∀ q, q < H.size → AX q → A0 q)
    (kx : ∀ (E : String) (ce : Cell) (q9 : Addr) (u : SX) (t : State) (H1 : Heap) (locs1 : List Loc), t.heap = H1 → s.vm.Alike t.vm → px u → BX E u t → H.size ≤ H1.size → (∀ q : Nat, q < H.size → ¬ AX q → H1[q]? = H[q]?) → va_S A0 H0 H1 locs1 → H1[q9]? = some ce → ce.vm = .none → s.vm.findClass E = some ce.cls → vx_W p l e R s m args below meth c H1 locs1 (cells + mc) (slots + ms) Q (F0 m pc ls rest) q9)
    (kk : ∀ (r : Int32) (u : S) (t : State) (H1 : Heap) (locs1 : List Loc), t.heap = H1 → s.vm.Alike t.vm → post r u → B u t → H.size ≤ H1.size → (∀ q : Nat, q < H.size → ¬ A1 q → H1[q]? = H[q]?) → va_S A0 H0 H1 locs1 → W p l e R s m args below meth c H1 locs1 (cells + mc) (slots + ms) Q (F0 m (pc + 3) ls (.int r :: rest))) : W p l e R s m args below meth c H locs cells slots Q (F0 m pc ls st0) := by
  intro T hT X
  rcases hr T hT X with ⟨v, st₀, t, T', L, h0, X', hL, e1, e2, ⟨⟨r, u, hv, hp, hb⟩, hF⟩, st⟩ | ⟨q, st₀, t, T', L, E, ce, h0, X', hL, e1, e2, ⟨u, hp, hb, hF⟩, hce, hcv, hcl, st⟩
  · cases hv
    obtain ⟨k1, k2, k3⟩ := vx_keep h0 e1 hS hA hf hL hF
    obtain ⟨t2, a1, b1⟩ := kk r u t T'.heap (locs ++ L) e1.symm (by rw [← e2]; exact X'.warmed.alike) hp hb k1 k2 k3 T' rfl X'
    exact ⟨t2, st t2 a1, b1⟩
  · obtain ⟨k1, k2, k3⟩ := vx_keep h0 e1 hS hAX hf hL hF
    obtain ⟨t2, a1, b1⟩ := kx E ce q u t T'.heap (locs ++ L) e1.symm (by rw [← e2]; exact X'.warmed.alike) hp hb k1 k2 k3 (by rw [e1]; exact hce) hcv hcl T' rfl X'
    exact ⟨t2, st.trans a1, b1⟩
theorem vx_calll {S SX : Type} {post : Int64 → S → Prop} {px : SX → Prop} {B : S → State → Prop} {BX : String → SX → State → Prop} {AX : Nat → Prop} (hr : vx_Run p l e R s m args below meth c H locs cells slots mc ms (F0 m pc ls st0) rest (va_Ql post B A1 a) (vx_X px BX AX) free) (hS : va_S A0 H0 H locs) (hA : ∀ q, q < H.size → A1 q → A0 q) (hf : ∀ q, free q → A0 q) (hAX : ∀ q, q < H.size → AX q → A0 q)
    (kx : ∀ (E : String) (ce : Cell) (q9 : Addr) (u : SX) (t : State) (H1 : Heap) (locs1 : List Loc), t.heap = H1 → s.vm.Alike t.vm → px u → BX E u t → H.size ≤ H1.size → (∀ q : Nat, q < H.size → ¬ AX q → H1[q]? = H[q]?) → va_S A0 H0 H1 locs1 → H1[q9]? = some ce → ce.vm = .none → s.vm.findClass E = some ce.cls → vx_W p l e R s m args below meth c H1 locs1 (cells + mc) (slots + ms) Q (F0 m pc ls rest) q9)
    (kk : ∀ (r : Int64) (u : S) (t : State) (H1 : Heap) (locs1 : List Loc), t.heap = H1 → s.vm.Alike t.vm → post r u → B u t → H.size ≤ H1.size → (∀ q : Nat, q < H.size → ¬ A1 q → H1[q]? = H[q]?) → va_S A0 H0 H1 locs1 → W p l e R s m args below meth c H1 locs1 (cells + mc) (slots + ms) Q (F0 m (pc + 3) ls (.long r :: rest))) : W p l e R s m args below meth c H locs cells slots Q (F0 m pc ls st0) := by
  intro T hT X
  rcases hr T hT X with ⟨v, st₀, t, T', L, h0, X', hL, e1, e2, ⟨⟨r, u, hv, hp, hb⟩, hF⟩, st⟩ | ⟨q, st₀, t, T', L, E, ce, h0, X', hL, e1, e2, ⟨u, hp, hb, hF⟩, hce, hcv, hcl, st⟩
  · cases hv
    obtain ⟨k1, k2, k3⟩ := vx_keep h0 e1 hS hA hf hL hF
    obtain ⟨t2, a1, b1⟩ := kk r u t T'.heap (locs ++ L) e1.symm (by rw [← e2]; exact X'.warmed.alike) hp hb k1 k2 k3 T' rfl X'
    exact ⟨t2, st t2 a1, b1⟩
  · obtain ⟨k1, k2, k3⟩ := vx_keep h0 e1 hS hAX hf hL hF
    obtain ⟨t2, a1, b1⟩ := kx E ce q u t T'.heap (locs ++ L) e1.symm (by rw [← e2]; exact X'.warmed.alike) hp hb k1 k2 k3 (by rw [e1]; exact hce) hcv hcl T' rfl X'
    exact ⟨t2, st.trans a1, b1⟩
theorem vx_callf {S SX : Type} {post : UInt32 → S → Prop} {px : SX → Prop} {B : S → State → Prop} {BX : String → SX → State → Prop} {AX : Nat → Prop} (hr : vx_Run p l e R s m args below meth c H locs cells slots mc ms (F0 m pc ls st0) rest (va_Qf post B A1 a) (vx_X px BX AX) free) (hS : va_S A0 H0 H locs) (hA : ∀ q, q < H.size → A1 q → A0 q) (hf : ∀ q, free q → A0 q) (hAX : ∀ q, q < H.size → AX q → A0 q)
    (kx : ∀ (E : String) (ce : Cell) (q9 : Addr) (u : SX) (t : State) (H1 : Heap) (locs1 : List Loc), t.heap = H1 → s.vm.Alike t.vm → px u → BX E u t → H.size ≤ H1.size → (∀ q : Nat, q < H.size → ¬ AX q → H1[q]? = H[q]?) → va_S A0 H0 H1 locs1 → H1[q9]? = some ce → ce.vm = .none → s.vm.findClass E = some ce.cls → vx_W p l e R s m args below meth c H1 locs1 (cells + mc) (slots + ms) Q (F0 m pc ls rest) q9)
    (kk : ∀ (r : UInt32) (u : S) (t : State) (H1 : Heap) (locs1 : List Loc), t.heap = H1 → s.vm.Alike t.vm → post r u → B u t → H.size ≤ H1.size → (∀ q : Nat, q < H.size → ¬ A1 q → H1[q]? = H[q]?) → va_S A0 H0 H1 locs1 → W p l e R s m args below meth c H1 locs1 (cells + mc) (slots + ms) Q (F0 m (pc + 3) ls (.float r :: rest))) : W p l e R s m args below meth c H locs cells slots Q (F0 m pc ls st0) := by
  intro T hT X
  rcases hr T hT X with ⟨v, st₀, t, T', L, h0, X', hL, e1, e2, ⟨⟨r, u, hv, hp, hb⟩, hF⟩, st⟩ | ⟨q, st₀, t, T', L, E, ce, h0, X', hL, e1, e2, ⟨u, hp, hb, hF⟩, hce, hcv, hcl, st⟩
  · cases hv
    obtain ⟨k1, k2, k3⟩ := vx_keep h0 e1 hS hA hf hL hF
    obtain ⟨t2, a1, b1⟩ := kk r u t T'.heap (locs ++ L) e1.symm (by rw [← e2]; exact X'.warmed.alike) hp hb k1 k2 k3 T' rfl X'
    exact ⟨t2, st t2 a1, b1⟩
  · obtain ⟨k1, k2, k3⟩ := vx_keep h0 e1 hS hAX hf hL hF
    obtain ⟨t2, a1, b1⟩ := kx E ce q u t T'.heap (locs ++ L) e1.symm (by rw [← e2]; exact X'.warmed.alike) hp hb k1 k2 k3 (by rw [e1]; exact hce) hcv hcl T' rfl X'
    exact ⟨t2, st.trans a1, b1⟩
theorem vx_calld {S SX : Type} {post : UInt64 → S → Prop} {px : SX → Prop} {B : S → State → Prop} {BX : String → SX → State → Prop} {AX : Nat → Prop} (hr : vx_Run p l e R s m args below meth c H locs cells slots mc ms (F0 m pc ls st0) rest (va_Qd post B A1 a) (vx_X px BX AX) free) (hS : va_S A0 H0 H locs) (hA : ∀ q, q < H.size → A1 q → A0 q) (hf : ∀ q, free q → A0 q) (hAX : ∀ q, q < H.size → AX q → A0 q)
    (kx : ∀ (E : String) (ce : Cell) (q9 : Addr) (u : SX) (t : State) (H1 : Heap) (locs1 : List Loc), t.heap = H1 → s.vm.Alike t.vm → px u → BX E u t → H.size ≤ H1.size → (∀ q : Nat, q < H.size → ¬ AX q → H1[q]? = H[q]?) → va_S A0 H0 H1 locs1 → H1[q9]? = some ce → ce.vm = .none → s.vm.findClass E = some ce.cls → vx_W p l e R s m args below meth c H1 locs1 (cells + mc) (slots + ms) Q (F0 m pc ls rest) q9)
    (kk : ∀ (r : UInt64) (u : S) (t : State) (H1 : Heap) (locs1 : List Loc), t.heap = H1 → s.vm.Alike t.vm → post r u → B u t → H.size ≤ H1.size → (∀ q : Nat, q < H.size → ¬ A1 q → H1[q]? = H[q]?) → va_S A0 H0 H1 locs1 → W p l e R s m args below meth c H1 locs1 (cells + mc) (slots + ms) Q (F0 m (pc + 3) ls (.double r :: rest))) : W p l e R s m args below meth c H locs cells slots Q (F0 m pc ls st0) := by
  intro T hT X
  rcases hr T hT X with ⟨v, st₀, t, T', L, h0, X', hL, e1, e2, ⟨⟨r, u, hv, hp, hb⟩, hF⟩, st⟩ | ⟨q, st₀, t, T', L, E, ce, h0, X', hL, e1, e2, ⟨u, hp, hb, hF⟩, hce, hcv, hcl, st⟩
  · cases hv
    obtain ⟨k1, k2, k3⟩ := vx_keep h0 e1 hS hA hf hL hF
    obtain ⟨t2, a1, b1⟩ := kk r u t T'.heap (locs ++ L) e1.symm (by rw [← e2]; exact X'.warmed.alike) hp hb k1 k2 k3 T' rfl X'
    exact ⟨t2, st t2 a1, b1⟩
  · obtain ⟨k1, k2, k3⟩ := vx_keep h0 e1 hS hAX hf hL hF
    obtain ⟨t2, a1, b1⟩ := kx E ce q u t T'.heap (locs ++ L) e1.symm (by rw [← e2]; exact X'.warmed.alike) hp hb k1 k2 k3 (by rw [e1]; exact hce) hcv hcl T' rfl X'
    exact ⟨t2, st.trans a1, b1⟩
theorem vx_callv {S SX : Type} {post : S → Prop} {px : SX → Prop} {B : S → State → Prop} {BX : String → SX → State → Prop} {AX : Nat → Prop} (hr : vx_Run p l e R s m args below meth c H locs cells slots mc ms (F0 m pc ls st0) rest (va_Qv post B A1 a) (vx_X px BX AX) free) (hS : va_S A0 H0 H locs) (hA : ∀ q, q < H.size → A1 q → A0 q) (hf : ∀ q, free q → A0 q) (hAX : ∀ q, q < H.size → AX q → A0 q)
    (kx : ∀ (E : String) (ce : Cell) (q9 : Addr) (u : SX) (t : State) (H1 : Heap) (locs1 : List Loc), t.heap = H1 → s.vm.Alike t.vm → px u → BX E u t → H.size ≤ H1.size → (∀ q : Nat, q < H.size → ¬ AX q → H1[q]? = H[q]?) → va_S A0 H0 H1 locs1 → H1[q9]? = some ce → ce.vm = .none → s.vm.findClass E = some ce.cls → vx_W p l e R s m args below meth c H1 locs1 (cells + mc) (slots + ms) Q (F0 m pc ls rest) q9)
    (kk : ∀ (u : S) (t : State) (H1 : Heap) (locs1 : List Loc), t.heap = H1 → s.vm.Alike t.vm → post u → B u t → H.size ≤ H1.size → (∀ q : Nat, q < H.size → ¬ A1 q → H1[q]? = H[q]?) → va_S A0 H0 H1 locs1 → W p l e R s m args below meth c H1 locs1 (cells + mc) (slots + ms) Q (F0 m (pc + 3) ls (rest))) : W p l e R s m args below meth c H locs cells slots Q (F0 m pc ls st0) := by
  intro T hT X
  rcases hr T hT X with ⟨v, st₀, t, T', L, h0, X', hL, e1, e2, ⟨⟨u, hv, hp, hb⟩, hF⟩, st⟩ | ⟨q, st₀, t, T', L, E, ce, h0, X', hL, e1, e2, ⟨u, hp, hb, hF⟩, hce, hcv, hcl, st⟩
  · cases hv
    obtain ⟨k1, k2, k3⟩ := vx_keep h0 e1 hS hA hf hL hF
    obtain ⟨t2, a1, b1⟩ := kk u t T'.heap (locs ++ L) e1.symm (by rw [← e2]; exact X'.warmed.alike) hp hb k1 k2 k3 T' rfl X'
    exact ⟨t2, st t2 a1, b1⟩
  · obtain ⟨k1, k2, k3⟩ := vx_keep h0 e1 hS hAX hf hL hF
    obtain ⟨t2, a1, b1⟩ := kx E ce q u t T'.heap (locs ++ L) e1.symm (by rw [← e2]; exact X'.warmed.alike) hp hb k1 k2 k3 (by rw [e1]; exact hce) hcv hcl T' rfl X'
    exact ⟨t2, st.trans a1, b1⟩
/-- caught by the row x of this method's table; the rows ahead don't take it -/
theorem vx_catch {own name : String} {E : String} {ce : Cell} {q : Addr} (hown : s.vm.findClass own = some m.cls) (pre : List ExceptionTableEntry) (x : ExceptionTableEntry) (suf : List ExceptionTableEntry) (hsplit : c.exceptionTable.toList = pre ++ x :: suf)
    (hpass : ∀ z ∈ pre, covers z pc = false ∨ (z.catchType ≠ 0 ∧ ∃ nm : String, (Cond.classLink own z.catchType nm).before args s = true ∧ va_Nc E nm s)) (hx : covers x pc = true) (h0 : x.catchType ≠ 0)
    (hlink : (Cond.classLink own x.catchType name).before args s = true) (hcast : (Cond.castable E name).before args s = true) (hcell : H[q]? = some ce) (hv : ce.vm = .none) (hcl : s.vm.findClass E = some ce.cls)
    (kk : W p l e R s m args below meth c H locs cells slots Q (F0 m x.handlerPc ls [.ref q])) : vx_W p l e R s m args below meth c H locs cells slots Q (F0 m pc ls rest) q := by
  intro T hT X
  have hpl : e.platform.magicAccessors = ({} : Platform).magicAccessors := by rw [X.admits.platform]
  obtain ⟨c3, c4, hc3, hc4, hasg⟩ := Cond.castable_spec hcast
  cases Option.some.inj (hc3.symm.trans hcl)
  obtain ⟨c5, hc5, hcl5⟩ := Cond.classLink_spec hown hlink e.platform hpl
  cases Option.some.inj (hc4.symm.trans hc5)
  obtain ⟨vm', X', st⟩ := X.thenCaughtThrough q (g := F0 m pc ls rest) rfl (Steps.refl _) (by rw [hT]; exact hcell) (by rw [hv]; rfl) (by obtain ⟨k9, h9, -⟩ := Vm.findClass_spec hcl; exact ⟨k9, h9⟩) pre x suf hsplit
    (fun z hz => by
      rcases hpass z hz with h | ⟨hz0, nm, hl1, hn1⟩
      · exact Or.inl h
      · obtain ⟨c6, hc6, hcl6⟩ := Cond.classLink_spec hown hl1 e.platform hpl
        obtain ⟨a8, b8, h1, h2, h3⟩ := hn1
        cases Option.some.inj (h1.symm.trans hcl)
        cases Option.some.inj (h2.symm.trans hc6)
        exact Or.inr ⟨hz0, _, hcl6, h3⟩) hx (Or.inr ⟨h0, c4, hcl5, hasg⟩)
  obtain ⟨t, a1, b1⟩ := kk (T.setVm vm') hT X'
  exact ⟨t, st.trans a1, b1⟩
end Rows
section Ends
variable {p : Program} {l : Launch} {e : Env} {R : Room} {s : State} {m : MethodId} {args : Array Value} {below : List Frame} {meth : Method} {c : Code} {H : Heap} {locs : List Loc} {cells slots : Nat} {Q : State → Prop}
variable {mc ms : Nat} {free : Addr → Prop} {A0 A1 : Nat → Prop} {H0 : Heap} {a : Array Value} {ls : Array Slot} {st0 rest : List Value}
variable {Qc : Array Value → State → Outcome → State → Prop} {XC : String → State → State → Prop}
/-- what a body that may throw owes at its end -/
def vx_MQ (below : List Frame) (Qc : Array Value → State → Outcome → State → Prop) (XC : String → State → State → Prop) (a : Array Value) (s : State) (mc ms : Nat) (free : Addr → Prop) : State → Prop := fun t =>
  ∃ o, t.status = .running ∧ Ended t below o ∧ vx_Q Qc XC mc ms free a s o t
theorem vx_ret {g : JFrame} {mc ms : Nat} (k : W p l e R s m args below meth c H locs cells slots (MQ below Qc args s mc ms free) g) : W p l e R s m args below meth c H locs cells slots (vx_MQ below Qc XC args s mc ms free) g := by
  intro T hT X
  obtain ⟨t, a1, o, b1, b2, b3, b4⟩ := k T hT X
  exact ⟨t, a1, o, b1, b2, Or.inl ⟨b3, b4⟩⟩
/-- not caught here: it goes on to the caller -/
theorem vx_widen {g : JFrame} {q : Addr} {k n : Nat} (h1 : cells ≤ k) (h2 : slots ≤ n) (kk : vx_W p l e R s m args below meth c H locs k n Q g q) : vx_W p l e R s m args below meth c H locs cells slots Q g q := fun T hT X => kk T hT (stand_widen X h1 h2)
theorem vx_out {pc : Nat} {E : String} {ce : Cell} {q : Addr} {mc ms : Nat} (hout : ∀ x ∈ c.exceptionTable.toList, covers x pc = false) (hlocks : meth.locks = false) (hcell : H[q]? = some ce) (hv : ce.vm = .none) (hcl : s.vm.findClass E = some ce.cls)
    (hx : ∀ t : State, t.heap = H → s.vm.Alike t.vm → XC E s t) (hf : ∀ z ∈ locs, free z.base) (hc : cells ≤ mc) (hs : slots ≤ ms) :
    vx_W p l e R s m args below meth c H locs cells slots (vx_MQ below Qc XC args s mc ms free) (F0 m pc ls rest) q := by
  intro T hT X
  obtain ⟨st1, hrun, hend, hW, hsm⟩ := X.leaveThrown q (g := F0 m pc ls rest) rfl rfl rfl hout hlocks
  have hcell9 : (T.setFrames (.throwing q :: below)).heap[q]? = some ce := by
    show T.heap[q]? = some ce
    rw [hT]; exact hcell
  exact ⟨_, st1, .threw q, hrun, hend, Or.inr ⟨q, rfl, E, ce, locs, hx _ hT hW.alike, hcell9, hv, hcl, hW, hsm.mono hc hs, hf⟩⟩
theorem vx_frame {U : State} {k n : Nat} (h : s.sameButNew ({ U with vm := s.vm } : State) locs k n) : s.heap.size ≤ U.heap.size ∧ ∀ q : Nat, q < s.heap.size → (∀ z ∈ locs, z.base ≠ q) → U.heap[q]? = s.heap[q]? := by
  obtain ⟨-, h2, -, -, -, h6⟩ := h
  refine ⟨h2, fun q hq hz => ?_⟩
  obtain ⟨c9, e1, e2, e3, e4⟩ := h6 q _ (Array.getElem?_eq_getElem hq)
  have hs : c9.slots = (s.heap[q]).slots := Array.ext_getElem? fun i => e4 i fun hm => hz _ hm rfl
  have h9 : c9 = s.heap[q] := by
    rw [hs] at e2
    exact e2
  have e5 : U.heap[q]? = some c9 := e1
  rw [e5, h9, Array.getElem?_eq_getElem hq]
/-- the words of a throw but the four that speak of the heap -/
def vx_no (w : Cond) : Bool := decide (w ≠ .isRef (.static Bundle.tN "UNASSIGNED_STACK" Bundle.steD)) && decide (w ≠ .isRef (.static Bundle.tN "SUPPRESSED_SENTINEL" Bundle.listD)) && decide (w ≠ .laysStatic Bundle.tN "UNASSIGNED_STACK" Bundle.steD) && decide (w ≠ .laysStatic Bundle.tN "SUPPRESSED_SENTINEL" Bundle.listD)
def vx_at0 (own : String) (ic : Nat) (X : String) (names : List String) : List Cond := (Bundle.ownAtoms0 own ic X names).filter vx_no
def vx_atS (own : String) (ic : Nat) (X : String) (names : List String) : List Cond := (Bundle.ownAtoms own ic X names).filter vx_no
/-- a word that the tables alone decide, or a good one -/
def vx_ot (w : Cond) : Bool := w.onTables || goodWord w
theorem vx_ot_at {args a' : Array Value} {s U : State} {w : Cond} (hW : s.WarmedH U.vm) (hvm : s.vm = U.vm) (hg : vx_ot w = true) (h : w.before args s = true) : w.before a' U = true := by
  simp only [vx_ot, Bool.or_eq_true] at hg
  rcases hg with hg | hg
  · exact va_tabs hg hvm h
  · exact word_at hW (good_of_word hg) h
/-- a list's words: the good ones out of the method's own list, the others by premises of their own -/
theorem vx_hat {args : Array Value} {s : State} {L B : List Cond} (h1 : ∀ w ∈ L.filter goodWord, w.before args s = true) (h2 : ∀ w ∈ L.filter (fun w => !goodWord w), w ∈ B) (h3 : ∀ w ∈ B, w.before args s = true) : ∀ w ∈ L, w.before args s = true := by
  intro w hw
  by_cases g : goodWord w = true
  · exact h1 w (List.mem_filter.mpr ⟨hw, g⟩)
  · refine h3 w (h2 w (List.mem_filter.mpr ⟨hw, ?_⟩))
    show (!goodWord w) = true
    cases hgw : goodWord w
    · rfl
    · exact absurd hgw g
theorem vx_c {args : Array Value} {s : State} {w : Cond} {B : List Cond} (h : w.before args s = true) (t : ∀ w ∈ B, w.before args s = true) : ∀ w' ∈ w :: B, w'.before args s = true := fun w' h' => (List.mem_cons.mp h').elim (fun e => by rw [e]; exact h) (t w')
theorem vx_n {args : Array Value} {s : State} : ∀ w ∈ ([] : List Cond), w.before args s = true := fun _ h => nomatch h
theorem vx_own {args : Array Value} {s : State} {L : List Cond} (h1 : ∀ w ∈ L.filter vx_no, w.before args s = true)
    (hU : (Cond.isRef (.static Bundle.tN "UNASSIGNED_STACK" Bundle.steD)).before args s = true) (hN : (Cond.isRef (.static Bundle.tN "SUPPRESSED_SENTINEL" Bundle.listD)).before args s = true)
    (lU : (Cond.laysStatic Bundle.tN "UNASSIGNED_STACK" Bundle.steD).before args s = true) (lN : (Cond.laysStatic Bundle.tN "SUPPRESSED_SENTINEL" Bundle.listD).before args s = true) : ∀ w ∈ L, w.before args s = true := by
  intro w hw
  by_cases e1 : w = .isRef (.static Bundle.tN "UNASSIGNED_STACK" Bundle.steD)
  · rw [e1]; exact hU
  · by_cases e2 : w = .isRef (.static Bundle.tN "SUPPRESSED_SENTINEL" Bundle.listD)
    · rw [e2]; exact hN
    · by_cases e3 : w = .laysStatic Bundle.tN "UNASSIGNED_STACK" Bundle.steD
      · rw [e3]; exact lU
      · by_cases e4 : w = .laysStatic Bundle.tN "SUPPRESSED_SENTINEL" Bundle.listD
        · rw [e4]; exact lN
        · exact h1 w (List.mem_filter.mpr ⟨hw, by unfold vx_no; rw [decide_eq_true e1, decide_eq_true e2, decide_eq_true e3, decide_eq_true e4]; rfl⟩)
/-- where a static field lies, its class's statics cell in H -/
def vx_L (C n d : String) (A : Nat → Prop) (U : State) (H : Heap) : Prop := ∃ (c : ClassId) (k : Class) (i : Nat) (f : Field) (a : Nat) (cell : Cell), U.vm.findClass C = some c ∧ U.fieldFound? C n d = some (c, k, i, f) ∧ f.isStatic = true ∧ k.statics = some a ∧ H[a]? = some cell ∧ cell.vm.isStatics = true ∧ cell.cls = c ∧ f.slot < cell.slots.size ∧ k.staticTypes[f.slot]? = some f.type ∧ ¬ A a
theorem vx_L.moved {C n d : String} {A : Nat → Prop} {u U : State} {H : Heap} (hvm : u.vm.Alike U.vm) (h : vx_L C n d A u H) : vx_L C n d A U H := by
  obtain ⟨c, k, i, f, a, cell, h1, h2, h3, h4, h5, h6, h7, h8, h9, h10⟩ := h
  obtain ⟨k', hi', he⟩ := State.fieldFound?_setVm hvm h2
  exact ⟨c, k', i, f, a, cell, by rw [hvm.findClass]; exact h1, hi', h3, by rw [he]; exact h4, h5, h6, h7, h8, by rw [he]; exact h9, h10⟩
theorem vx_L.kept {C n d : String} {A : Nat → Prop} {U : State} {H H1 : Heap} (h : vx_L C n d A U H) (hq : ∀ a : Nat, a < H.size → ¬ A a → H1[a]? = H[a]?) : vx_L C n d A U H1 := by
  obtain ⟨c, k, i, f, a, cell, h1, h2, h3, h4, h5, h6, h7, h8, h9, h10⟩ := h
  exact ⟨c, k, i, f, a, cell, h1, h2, h3, h4, by rw [hq a (Array.getElem?_eq_some_iff.mp h5).1 h10]; exact h5, h6, h7, h8, h9, h10⟩
theorem vx_L.narrow {C n d : String} {A B : Nat → Prop} {U : State} {H : Heap} (h : vx_L C n d A U H) (hAB : ∀ q, B q → A q) : vx_L C n d B U H := by
  obtain ⟨c, k, i, f, a, cell, h1, h2, h3, h4, h5, h6, h7, h8, h9, h10⟩ := h
  exact ⟨c, k, i, f, a, cell, h1, h2, h3, h4, h5, h6, h7, h8, h9, fun z => h10 (hAB _ z)⟩
theorem vx_L.word {C n d : String} {A : Nat → Prop} {s : State} {args : Array Value} (h : vx_L C n d A s s.heap) : (Cond.laysStatic C n d).before args s = true := by
  obtain ⟨c, k, i, f, a, cell, h1, h2, h3, h4, h5, h6, h7, h8, h9, -⟩ := h
  show (Cond.laysStatic C n d).holds args s none s [] = true
  exact Cond.laysStatic_of h1 h2 h3 h4 h5 h6 h7 h8 h9
/-- .. and what it holds: null or some reference -/
def vx_Zq (C n d : String) (A : Nat → Prop) (U : State) (H : Heap) : Prop := va_Zq C n d A U H ∧ vx_L C n d A U H
theorem vx_Zq.moved {C n d : String} {A : Nat → Prop} {u U : State} {H : Heap} (hvm : u.vm.Alike U.vm) (h : vx_Zq C n d A u H) : vx_Zq C n d A U H := ⟨va_Zq.moved hvm h.1, vx_L.moved hvm h.2⟩
theorem vx_Zq.kept {C n d : String} {A : Nat → Prop} {U : State} {H H1 : Heap} (h : vx_Zq C n d A U H) (hq : ∀ a : Nat, a < H.size → ¬ A a → H1[a]? = H[a]?) : vx_Zq C n d A U H1 := ⟨va_Zq.kept h.1 hq, vx_L.kept h.2 hq⟩
theorem vx_Zq.narrow {C n d : String} {A B : Nat → Prop} {U : State} {H : Heap} (h : vx_Zq C n d A U H) (hAB : ∀ q, B q → A q) : vx_Zq C n d B U H := ⟨va_Zq.narrow h.1 hAB, vx_L.narrow h.2 hAB⟩
theorem vx_Zqof {args : Array Value} {s : State} {C n d : String} {A : Nat → Prop} (hl : (Cond.laysStatic C n d).before args s = true) (hini : (Cond.initialized C).before args s = true) (h : (Cond.isRef (.static C n d)).before args s = true) (hA : ∀ a : Nat, a < s.heap.size → ¬ A a) : vx_Zq C n d A s s.heap := by
  refine ⟨va_Zqof hl hini h hA, ?_⟩
  obtain ⟨c, k, i, f, a, cell, h1, h2, h3, h4, h5, h6, h7, h8, h9⟩ := Cond.laysStatic_spec hl
  exact ⟨c, k, i, f, a, cell, h1, h2, h3, h4, h5, h6, h7, h8, h9, hA a (Array.getElem?_eq_some_iff.mp h5).1⟩
theorem vx_isRef {C n d : String} {v : Value} {A : Nat → Prop} {s : State} {args : Array Value} (h : va_Z C n d v A s s.heap) (hv : v.isRef = true) : (Cond.isRef (.static C n d)).before args s = true := by
  obtain ⟨cf, kf, fi, f, a, cell, h1, h2, h3, h4, h5, h6, h7, -⟩ := h
  have he : (Term.static C n d).eval args s none [] s = some v := by
    simp [Term.eval, State.fieldNamed?, h1, h2, h4, h5, h6, h7]
  simp only [Cond.before, Cond.holds, Cond.value, he]
  cases v <;> simp_all [Value.isRef]
theorem vx_isRefq {C n d : String} {A : Nat → Prop} {s : State} {args : Array Value} (h : va_Zq C n d A s s.heap) : (Cond.isRef (.static C n d)).before args s = true := by
  rcases h with h | ⟨t, h⟩
  · exact vx_isRef h rfl
  · exact vx_isRef h rfl
/-- the same frame, seen from here: as if the method were called anew in this heap -/
theorem vx_rebase {T : State} (X : Stand p l e R s m args below meth c T locs cells slots) {R' : Room} (hf : R'.frames ≤ R.frames) (hl : R'.locals ≤ R.locals) (hc : cells + R'.cells ≤ R.cells) (hs : slots + R'.slots ≤ R.slots) :
    Stand p l e R' ((T.setVm s.vm).setFrames (.invoking m args :: below)) m args below meth c T [] 0 0 := by
  have htop : (T.setVm s.vm).topJava?.isSome := X.here.top
  have hF : ((T.setVm s.vm).setFrames (.invoking m args :: below)).frames = .invoking m args :: below := State.frames_setFrames _ (State.cur_lt_of_top htop)
  obtain ⟨g₀, hg0⟩ := Option.isSome_iff_exists.mp htop
  obtain ⟨r, hr⟩ := State.topJava?_eq_some.mp hg0
  have hl9 : e.platform.stackLimits (T.setVm s.vm).me = e.platform.stackLimits s.me := X.limits
  have hb9 : (T.setVm s.vm).me.stackBytes = s.me.stackBytes := X.bytes
  refine ⟨X.admits, X.cas, X.clock, hF, ?_, X.hears, X.method, X.code, X.here, X.tail, X.warmed, ?_, ?_, ?_⟩
  · have h := X.room
    have hU : ((T.setVm s.vm).setFrames (.invoking m args :: below)).localsInUse = s.localsInUse := by
      rw [State.localsInUse_invoking hF (meth := meth) (c := c) X.method X.code, State.localsInUse_invoking X.frames X.method X.code]
    simp only [State.hasRoom, Bool.and_eq_true, decide_eq_true_eq] at h ⊢
    obtain ⟨⟨⟨⟨h1, h2, h3, h4, h5, h6⟩, h7⟩, h8⟩, h9⟩ := h
    rw [X.frames, List.length_cons] at h2 h3
    have q1 := X.heapSize
    have q2 := X.used
    simp only [hF, hU, List.length_cons, State.stackLimits_setFrames, State.stackBytes_setFrames, hl9, hb9]
    refine ⟨⟨⟨⟨by omega, by omega, by omega, by omega, by omega, h6⟩, ?_⟩, ?_⟩, X.book⟩
    · show T.heap.size + R'.cells ≤ e.platform.maxCells
      omega
    · show T.slotsUsed + R'.slots ≤ e.platform.maxSlots
      omega
  · rw [State.stackLimits_setFrames]; rfl
  · rw [State.stackBytes_setFrames]; rfl
  · refine ⟨?_, Nat.le_refl _, Nat.le_refl _, ?_, ?_, fun a c9 h9 => ⟨c9, h9, rfl, rfl, fun _ _ => rfl⟩⟩
    · obtain ⟨t, ht, -⟩ := State.frames_cons hr
      show T.setVm s.vm = { ((T.setVm s.vm).setFrames (.invoking m args :: below)).setFrames (T.setVm s.vm).frames with heap := T.heap, slotsUsed := T.slotsUsed }
      rw [State.setFrames_setFrames, State.setFrames_self ht]
      rfl
    · show T.slotsUsed = T.slotsUsed + ((T.heap.toList.drop T.heap.size).map (·.slots.size)).sum
      rw [List.drop_eq_nil_of_le (Nat.le_of_eq Array.length_toList)]
      rfl
    · show ((T.heap.toList.drop T.heap.size).map (·.slots.size)).sum ≤ 0
      rw [List.drop_eq_nil_of_le (Nat.le_of_eq Array.length_toList)]
      exact Nat.le_refl _
/-- 'throw new E()': new; dup; invokespecial; athrow -/
theorem vx_throw0 {cc : ByteArray} {pc : Nat} (hexec : p.tables.exec = Jvm.exec) (hb : c.code = cc) (hl : l.stackTraces = false) {own cls : String} {names : List String} {ik ic mc ms : Nat} {A : Nat → Prop}
    (hown : s.vm.findClass own = some m.cls) (hcls : Bundle.fit cls = true) (hnames : ∀ n ∈ names, Bundle.fit n = true)
    (hk : (Cond.classLink own ik cls).before args s = true) (hini : (Cond.initialized cls).before args s = true) (hat : ∀ w ∈ vx_at0 own ic cls names, w.before args s = true)
    (hgood : ∀ w ∈ Cond.classLink own ik cls :: Cond.initialized cls :: vx_at0 own ic cls names, vx_ot w = true)
    (hU : vx_Zq Bundle.tN "UNASSIGNED_STACK" Bundle.steD A s s.heap) (hN : vx_Zq Bundle.tN "SUPPRESSED_SENTINEL" Bundle.listD A s s.heap) (hS : va_S A s.heap H locs) (hsize : ls.size = c.maxLocals)
    (d0 : decode cc pc = .ok (.new ik, 3)) (d3 : decode cc (pc + 3) = .ok (.dup, 1)) (d4 : decode cc (pc + 4) = .ok (.invokespecial ic, 3)) (d7 : decode cc (pc + 7) = .ok (.athrow, 1))
    (hout : ∀ x ∈ c.exceptionTable.toList, covers x (pc + 7) = false)
    (hRframes : names.length + 3 < R.frames) (hRlocals : (rest.map fun v => v.category).sum + (13 * (names.length + 1) + 42) ≤ R.locals) (hRcells : cells + 1 ≤ R.cells) (hRslots : slots + 6 ≤ R.slots) (hlocks : meth.locks = false)
    (hx : ∀ t : State, s.vm.Alike t.vm → H.size ≤ t.heap.size → (∀ q : Nat, q < H.size → t.heap[q]? = H[q]?) → XC cls s t)
    (hf : ∀ z ∈ locs, free z.base) (hc : cells + 1 ≤ mc) (hs : slots + 6 ≤ ms) :
    W p l e R s m args below meth c H locs cells slots (vx_MQ below Qc XC args s mc ms free) (F0 m pc ls rest) := by
  intro T hT X
  have htr : e.platform.stackTraces = false := (show e.platform.stackTraces = l.stackTraces by rw [X.admits.platform]).trans hl
  have Y := vx_rebase X (R' := { frames := R.frames, locals := R.locals, cells := 1, slots := 6 }) (Nat.le_refl _) (Nat.le_refl _) hRcells hRslots
  obtain ⟨s', hA⟩ : ∃ z, z = (T.setVm s.vm).setFrames (.invoking m args :: below) := ⟨_, rfl⟩
  rw [← hA] at Y
  have hvm : s'.vm = s.vm := by rw [hA]; rfl
  have hhp : s'.heap = H := by rw [hA]; exact hT
  have hW0 : s.WarmedH s'.vm := by rw [hvm]; exact State.WarmedH.refl s
  have hat' : ∀ w ∈ vx_at0 own ic cls names, w.before args s' = true := fun w hw => vx_ot_at hW0 hvm.symm (hgood w (List.mem_cons_of_mem _ (List.mem_cons_of_mem _ hw))) (hat w hw)
  have hk' : (Cond.classLink own ik cls).before args s' = true := vx_ot_at hW0 hvm.symm (hgood _ List.mem_cons_self) hk
  have hini' : (Cond.initialized cls).before args s' = true := vx_ot_at hW0 hvm.symm (hgood _ (List.mem_cons_of_mem _ List.mem_cons_self)) hini
  have hU' : vx_Zq Bundle.tN "UNASSIGNED_STACK" Bundle.steD A s' s'.heap := by rw [hhp]; exact vx_Zq.moved hW0.alike (hU.kept hS.2.1)
  have hN' : vx_Zq Bundle.tN "SUPPRESSED_SENTINEL" Bundle.listD A s' s'.heap := by rw [hhp]; exact vx_Zq.moved hW0.alike (hN.kept hS.2.1)
  have h : ∀ w ∈ Bundle.ownAtoms0 own ic cls names, w.before args s' = true := vx_own hat' (vx_isRefq hU'.1) (vx_isRefq hN'.1) hU'.2.word hN'.2.word
  have hown' : s'.vm.findClass own = some m.cls := by rw [hvm]; exact hown
  have hins : (Cond.instantiable cls 6).before args s' = true := h _ (by simp [Bundle.ownAtoms0])
  obtain ⟨vm₁, cX, kX, hfX, hkX, -, -, X₁, st1⟩ := Y.newCold hexec (own := own) (C := cls) (index := ik) (n := 6) hown' hk' hins hini'
    (g := F0 m pc ls rest) rfl (by rw [hb]; exact d0) (Nat.le_refl _) (Nat.le_refl _)
  generalize hT1 : (T.setVm vm₁).pushCell { cls := cX, slots := kX.instanceTypes.map defaultValue, vm := .none } = T1 at X₁ st1
  have hcat : (Value.ref T.heap.size).category = 1 := rfl
  have hcellA : T1.heap[T.heap.size]? = some (freshCell cX kX) := by rw [← hT1]; exact State.heap_pushCell_size _ _
  have d3' : decode c.code (pc + 3) = .ok (.dup, 1) := by rw [hb]; exact d3
  obtain ⟨U, hsteps, hrun, hend, hW, hsame, ce, hce, hO⟩ := X₁.ctorThrow0 hexec htr (own := own) (cls := cls) (names := names) (ic := ic) hown' hcls hnames h (fun x hx => nomatch hx) hfX hkX hcellA (by rw [hhp, hT]; exact Nat.le_refl _)
    (g := { method := m, pc := pc + 4, locals := ls, stack := .ref T.heap.size :: .ref T.heap.size :: rest, locked := none }) rfl hsize rfl rfl (rest := rest) rfl
    (by rw [hb]; exact d4) (by rw [hb]; exact d7) hout hRframes (by simp only [List.map_cons, List.sum_cons, hcat]; omega) hlocks
  obtain ⟨f1, f2⟩ := vx_frame hsame
  rw [hhp] at f1 f2
  have hWs : s.WarmedH U.vm := State.WarmedH.trans hW0 hW
  have hcl : s.vm.findClass cls = some ce.cls := by
    have h9 := hO.cls
    rw [hvm] at h9
    exact h9
  have hall : s.sameButNew ({ U with vm := s.vm } : State) locs mc ms := by
    subst hA
    obtain ⟨e1, e2⟩ := hsame
    rw [State.setFrames_setFrames] at e1
    have h2 : (T.setVm s.vm).sameButNew ({ U with vm := s.vm } : State) [] (0 + 1) (0 + 6) := ⟨e1, e2⟩
    have h3 := X.same.trans h2
    rw [List.append_nil] at h3
    exact h3.mono hc hs
  refine ⟨U, ?_, .threw T.heap.size, hrun, hend, Or.inr ⟨T.heap.size, rfl, cls, ce, locs, hx U hWs.alike f1 (fun q hq => f2 q hq (fun z hz => nomatch hz)), hce, hO.vm, hcl, hWs, hall, hf⟩⟩
  refine st1 _ ?_
  show Steps p.tables e below (T1.setTop { method := m, pc := pc + 3, locals := ls, stack := .ref T.heap.size :: rest, locked := none }) _
  jvm_step X₁.here [X₁.here.top, hexec, d3', Value.category]
  exact hsteps
/-- 'throw new E("text")': new; dup; ldc; invokespecial; athrow -/
theorem vx_throwS {cc : ByteArray} {pc : Nat} (hexec : p.tables.exec = Jvm.exec) (hb : c.code = cc) (hl : l.stackTraces = false) {own cls text : String} {names : List String} {ik is ic mc ms sa : Nat} {A : Nat → Prop}
    (hown : s.vm.findClass own = some m.cls) (hcls : Bundle.fit cls = true) (hnames : ∀ n ∈ names, Bundle.fit n = true)
    (hk : (Cond.classLink own ik cls).before args s = true) (hini : (Cond.initialized cls).before args s = true) (hstr : vk_R own is text sa s) (hat : ∀ w ∈ vx_atS own ic cls names, w.before args s = true)
    (hgood : ∀ w ∈ Cond.classLink own ik cls :: Cond.initialized cls :: vx_atS own ic cls names, vx_ot w = true)
    (hU : vx_Zq Bundle.tN "UNASSIGNED_STACK" Bundle.steD A s s.heap) (hN : vx_Zq Bundle.tN "SUPPRESSED_SENTINEL" Bundle.listD A s s.heap) (hS : va_S A s.heap H locs) (hsize : ls.size = c.maxLocals)
    (d0 : decode cc pc = .ok (.new ik, 3)) (d3 : decode cc (pc + 3) = .ok (.dup, 1)) (d4 : decode cc (pc + 4) = .ok (.ldc is, 2)) (d6 : decode cc (pc + 6) = .ok (.invokespecial ic, 3)) (d9 : decode cc (pc + 9) = .ok (.athrow, 1))
    (hout : ∀ x ∈ c.exceptionTable.toList, covers x (pc + 9) = false)
    (hRframes : names.length + 3 < R.frames) (hRlocals : (rest.map fun v => v.category).sum + (13 * (names.length + 1) + 43) ≤ R.locals) (hRcells : cells + 1 ≤ R.cells) (hRslots : slots + 6 ≤ R.slots) (hlocks : meth.locks = false)
    (hx : ∀ t : State, s.vm.Alike t.vm → H.size ≤ t.heap.size → (∀ q : Nat, q < H.size → t.heap[q]? = H[q]?) → XC cls s t)
    (hf : ∀ z ∈ locs, free z.base) (hc : cells + 1 ≤ mc) (hs : slots + 6 ≤ ms) :
    W p l e R s m args below meth c H locs cells slots (vx_MQ below Qc XC args s mc ms free) (F0 m pc ls rest) := by
  intro T hT X
  have htr : e.platform.stackTraces = false := (show e.platform.stackTraces = l.stackTraces by rw [X.admits.platform]).trans hl
  have Y := vx_rebase X (R' := { frames := R.frames, locals := R.locals, cells := 1, slots := 6 }) (Nat.le_refl _) (Nat.le_refl _) hRcells hRslots
  obtain ⟨s', hA⟩ : ∃ z, z = (T.setVm s.vm).setFrames (.invoking m args :: below) := ⟨_, rfl⟩
  rw [← hA] at Y
  have hvm : s'.vm = s.vm := by rw [hA]; rfl
  have hhp : s'.heap = H := by rw [hA]; exact hT
  have hW0 : s.WarmedH s'.vm := by rw [hvm]; exact State.WarmedH.refl s
  have hat' : ∀ w ∈ vx_atS own ic cls names, w.before args s' = true := fun w hw => vx_ot_at hW0 hvm.symm (hgood w (List.mem_cons_of_mem _ (List.mem_cons_of_mem _ hw))) (hat w hw)
  have hk' : (Cond.classLink own ik cls).before args s' = true := vx_ot_at hW0 hvm.symm (hgood _ List.mem_cons_self) hk
  have hini' : (Cond.initialized cls).before args s' = true := vx_ot_at hW0 hvm.symm (hgood _ (List.mem_cons_of_mem _ List.mem_cons_self)) hini
  have hU' : vx_Zq Bundle.tN "UNASSIGNED_STACK" Bundle.steD A s' s'.heap := by rw [hhp]; exact vx_Zq.moved hW0.alike (hU.kept hS.2.1)
  have hN' : vx_Zq Bundle.tN "SUPPRESSED_SENTINEL" Bundle.listD A s' s'.heap := by rw [hhp]; exact vx_Zq.moved hW0.alike (hN.kept hS.2.1)
  have h : ∀ w ∈ Bundle.ownAtoms own ic cls names, w.before args s' = true := vx_own hat' (vx_isRefq hU'.1) (vx_isRefq hN'.1) hU'.2.word hN'.2.word
  have hown' : s'.vm.findClass own = some m.cls := by rw [hvm]; exact hown
  have hins : (Cond.instantiable cls 6).before args s' = true := h _ (by simp [Bundle.ownAtoms])
  obtain ⟨vm₁, cX, kX, hfX, hkX, -, -, X₁, st1⟩ := Y.newCold hexec (own := own) (C := cls) (index := ik) (n := 6) hown' hk' hins hini'
    (g := F0 m pc ls rest) rfl (by rw [hb]; exact d0) (Nat.le_refl _) (Nat.le_refl _)
  generalize hT1 : (T.setVm vm₁).pushCell { cls := cX, slots := kX.instanceTypes.map defaultValue, vm := .none } = T1 at X₁ st1
  have hcat : (Value.ref T.heap.size).category = 1 := rfl
  have hcellA : T1.heap[T.heap.size]? = some (freshCell cX kX) := by rw [← hT1]; exact State.heap_pushCell_size _ _
  have d3' : decode c.code (pc + 3) = .ok (.dup, 1) := by rw [hb]; exact d3
  have d4' : decode c.code (pc + 4) = .ok (.ldc is, 2) := by rw [hb]; exact d4
  have hstr' : vk_R own is text sa s' := vk_R.warm hW0 hstr
  obtain ⟨U, hsteps, hrun, hend, hW, hsame, ce, hce, hO⟩ := X₁.ctorThrowS hexec htr (own := own) (cls := cls) (names := names) (ic := ic) hown' hcls hnames h (fun x hx => nomatch hx) hfX hkX hcellA (by rw [hhp, hT]; exact Nat.le_refl _) (msg := .ref sa) rfl
    (g := { method := m, pc := pc + 6, locals := ls, stack := .ref sa :: .ref T.heap.size :: .ref T.heap.size :: rest, locked := none }) rfl hsize rfl rfl (rest := rest) rfl
    (by rw [hb]; exact d6) (by rw [hb]; exact d9) hout hRframes (by simp only [List.map_cons, List.sum_cons, hcat]; omega) hlocks
  obtain ⟨f1, f2⟩ := vx_frame hsame
  rw [hhp] at f1 f2
  have hWs : s.WarmedH U.vm := State.WarmedH.trans hW0 hW
  have hcl : s.vm.findClass cls = some ce.cls := by
    have h9 := hO.cls
    rw [hvm] at h9
    exact h9
  have hall : s.sameButNew ({ U with vm := s.vm } : State) locs mc ms := by
    subst hA
    obtain ⟨e1, e2⟩ := hsame
    rw [State.setFrames_setFrames] at e1
    have h2 : (T.setVm s.vm).sameButNew ({ U with vm := s.vm } : State) [] (0 + 1) (0 + 6) := ⟨e1, e2⟩
    have h3 := X.same.trans h2
    rw [List.append_nil] at h3
    exact h3.mono hc hs
  refine ⟨U, ?_, .threw T.heap.size, hrun, hend, Or.inr ⟨T.heap.size, rfl, cls, ce, locs, hx U hWs.alike f1 (fun q hq => f2 q hq (fun z hz => nomatch hz)), hce, hO.vm, hcl, hWs, hall, hf⟩⟩
  refine st1 _ ?_
  show Steps p.tables e below (T1.setTop { method := m, pc := pc + 3, locals := ls, stack := .ref T.heap.size :: rest, locked := none }) _
  jvm_step X₁.here [X₁.here.top, hexec, d3', Value.category]
  exact X₁.ldcString hexec (own := own) (text := text) (index := is) (a := sa) hown' hstr'.1 hstr'.2
    (g := { method := m, pc := pc + 4, locals := ls, stack := .ref T.heap.size :: .ref T.heap.size :: rest, locked := none }) rfl d4' _ hsteps
/-- 'throw new E("text")', the text by a wide index -/
theorem vx_throwSW {cc : ByteArray} {pc : Nat} (hexec : p.tables.exec = Jvm.exec) (hb : c.code = cc) (hl : l.stackTraces = false) {own cls text : String} {names : List String} {ik is ic mc ms sa : Nat} {A : Nat → Prop}
    (hown : s.vm.findClass own = some m.cls) (hcls : Bundle.fit cls = true) (hnames : ∀ n ∈ names, Bundle.fit n = true)
    (hk : (Cond.classLink own ik cls).before args s = true) (hini : (Cond.initialized cls).before args s = true) (hstr : vk_R own is text sa s) (hat : ∀ w ∈ vx_atS own ic cls names, w.before args s = true)
    (hgood : ∀ w ∈ Cond.classLink own ik cls :: Cond.initialized cls :: vx_atS own ic cls names, vx_ot w = true)
    (hU : vx_Zq Bundle.tN "UNASSIGNED_STACK" Bundle.steD A s s.heap) (hN : vx_Zq Bundle.tN "SUPPRESSED_SENTINEL" Bundle.listD A s s.heap) (hS : va_S A s.heap H locs) (hsize : ls.size = c.maxLocals)
    (d0 : decode cc pc = .ok (.new ik, 3)) (d3 : decode cc (pc + 3) = .ok (.dup, 1)) (d4 : decode cc (pc + 4) = .ok (.ldc_w is, 3)) (d7 : decode cc (pc + 7) = .ok (.invokespecial ic, 3)) (d10 : decode cc (pc + 10) = .ok (.athrow, 1))
    (hout : ∀ x ∈ c.exceptionTable.toList, covers x (pc + 10) = false)
    (hRframes : names.length + 3 < R.frames) (hRlocals : (rest.map fun v => v.category).sum + (13 * (names.length + 1) + 43) ≤ R.locals) (hRcells : cells + 1 ≤ R.cells) (hRslots : slots + 6 ≤ R.slots) (hlocks : meth.locks = false)
    (hx : ∀ t : State, s.vm.Alike t.vm → H.size ≤ t.heap.size → (∀ q : Nat, q < H.size → t.heap[q]? = H[q]?) → XC cls s t)
    (hf : ∀ z ∈ locs, free z.base) (hc : cells + 1 ≤ mc) (hs : slots + 6 ≤ ms) :
    W p l e R s m args below meth c H locs cells slots (vx_MQ below Qc XC args s mc ms free) (F0 m pc ls rest) := by
  intro T hT X
  have htr : e.platform.stackTraces = false := (show e.platform.stackTraces = l.stackTraces by rw [X.admits.platform]).trans hl
  have Y := vx_rebase X (R' := { frames := R.frames, locals := R.locals, cells := 1, slots := 6 }) (Nat.le_refl _) (Nat.le_refl _) hRcells hRslots
  obtain ⟨s', hA⟩ : ∃ z, z = (T.setVm s.vm).setFrames (.invoking m args :: below) := ⟨_, rfl⟩
  rw [← hA] at Y
  have hvm : s'.vm = s.vm := by rw [hA]; rfl
  have hhp : s'.heap = H := by rw [hA]; exact hT
  have hW0 : s.WarmedH s'.vm := by rw [hvm]; exact State.WarmedH.refl s
  have hat' : ∀ w ∈ vx_atS own ic cls names, w.before args s' = true := fun w hw => vx_ot_at hW0 hvm.symm (hgood w (List.mem_cons_of_mem _ (List.mem_cons_of_mem _ hw))) (hat w hw)
  have hk' : (Cond.classLink own ik cls).before args s' = true := vx_ot_at hW0 hvm.symm (hgood _ List.mem_cons_self) hk
  have hini' : (Cond.initialized cls).before args s' = true := vx_ot_at hW0 hvm.symm (hgood _ (List.mem_cons_of_mem _ List.mem_cons_self)) hini
  have hU' : vx_Zq Bundle.tN "UNASSIGNED_STACK" Bundle.steD A s' s'.heap := by rw [hhp]; exact vx_Zq.moved hW0.alike (hU.kept hS.2.1)
  have hN' : vx_Zq Bundle.tN "SUPPRESSED_SENTINEL" Bundle.listD A s' s'.heap := by rw [hhp]; exact vx_Zq.moved hW0.alike (hN.kept hS.2.1)
  have h : ∀ w ∈ Bundle.ownAtoms own ic cls names, w.before args s' = true := vx_own hat' (vx_isRefq hU'.1) (vx_isRefq hN'.1) hU'.2.word hN'.2.word
  have hown' : s'.vm.findClass own = some m.cls := by rw [hvm]; exact hown
  have hins : (Cond.instantiable cls 6).before args s' = true := h _ (by simp [Bundle.ownAtoms])
  obtain ⟨vm₁, cX, kX, hfX, hkX, -, -, X₁, st1⟩ := Y.newCold hexec (own := own) (C := cls) (index := ik) (n := 6) hown' hk' hins hini'
    (g := F0 m pc ls rest) rfl (by rw [hb]; exact d0) (Nat.le_refl _) (Nat.le_refl _)
  generalize hT1 : (T.setVm vm₁).pushCell { cls := cX, slots := kX.instanceTypes.map defaultValue, vm := .none } = T1 at X₁ st1
  have hcat : (Value.ref T.heap.size).category = 1 := rfl
  have hcellA : T1.heap[T.heap.size]? = some (freshCell cX kX) := by rw [← hT1]; exact State.heap_pushCell_size _ _
  have d3' : decode c.code (pc + 3) = .ok (.dup, 1) := by rw [hb]; exact d3
  have d4' : decode c.code (pc + 4) = .ok (.ldc_w is, 3) := by rw [hb]; exact d4
  have hstr' : vk_R own is text sa s' := vk_R.warm hW0 hstr
  obtain ⟨U, hsteps, hrun, hend, hW, hsame, ce, hce, hO⟩ := X₁.ctorThrowS hexec htr (own := own) (cls := cls) (names := names) (ic := ic) hown' hcls hnames h (fun x hx => nomatch hx) hfX hkX hcellA (by rw [hhp, hT]; exact Nat.le_refl _) (msg := .ref sa) rfl
    (g := { method := m, pc := pc + 7, locals := ls, stack := .ref sa :: .ref T.heap.size :: .ref T.heap.size :: rest, locked := none }) rfl hsize rfl rfl (rest := rest) rfl
    (by rw [hb]; exact d7) (by rw [hb]; exact d10) hout hRframes (by simp only [List.map_cons, List.sum_cons, hcat]; omega) hlocks
  obtain ⟨f1, f2⟩ := vx_frame hsame
  rw [hhp] at f1 f2
  have hWs : s.WarmedH U.vm := State.WarmedH.trans hW0 hW
  have hcl : s.vm.findClass cls = some ce.cls := by
    have h9 := hO.cls
    rw [hvm] at h9
    exact h9
  have hall : s.sameButNew ({ U with vm := s.vm } : State) locs mc ms := by
    subst hA
    obtain ⟨e1, e2⟩ := hsame
    rw [State.setFrames_setFrames] at e1
    have h2 : (T.setVm s.vm).sameButNew ({ U with vm := s.vm } : State) [] (0 + 1) (0 + 6) := ⟨e1, e2⟩
    have h3 := X.same.trans h2
    rw [List.append_nil] at h3
    exact h3.mono hc hs
  refine ⟨U, ?_, .threw T.heap.size, hrun, hend, Or.inr ⟨T.heap.size, rfl, cls, ce, locs, hx U hWs.alike f1 (fun q hq => f2 q hq (fun z hz => nomatch hz)), hce, hO.vm, hcl, hWs, hall, hf⟩⟩
  refine st1 _ ?_
  show Steps p.tables e below (T1.setTop { method := m, pc := pc + 3, locals := ls, stack := .ref T.heap.size :: rest, locked := none }) _
  jvm_step X₁.here [X₁.here.top, hexec, d3', Value.category]
  exact X₁.ldcStringW hexec (own := own) (text := text) (index := is) (a := sa) hown' hstr'.1 hstr'.2
    (g := { method := m, pc := pc + 4, locals := ls, stack := .ref T.heap.size :: .ref T.heap.size :: rest, locked := none }) rfl d4' _ hsteps
end Ends
section Bodies
variable {l : Launch}
theorem vx_ofW {y : MethodName} {ws ws' : List Cond} {rm : Room} {Pc : Array Value → State → Prop} {Qc : Array Value → State → Outcome → State → Prop} {XC : String → State → State → Prop} {mc ms : Nat} {free : Addr → Prop} {cc : ByteArray} {maxL : Nat} {ret : Option FieldType}
    (hy : plainName y.cls = true) (hw : ws = Cond.code y cc maxL ret :: ws')
    (body : ∀ p e s m args below meth c s₁, BodyLoose p l y (headSpec ws rm) cc maxL ret e s m args below meth c s₁ → c.maxLocals = maxL → (∀ x ∈ c.exceptionTable.toList, False) → Pc args s →
      W p l e (headSpec ws rm).room s m args below meth c s.heap [] 0 0 (vx_MQ below Qc XC args s mc ms free) (entryFrame m args maxL)) : vx_Met l y ws rm Pc Qc XC mc ms free := by
  refine MetFree.of_bodyS (code := cc) (maxLocals := maxL) (ret := ret) hy ?_ ?_
  · intro args s m h hn
    obtain ⟨meth, c, h1, h2, h3, h4, h5, h6, -, -⟩ := Cond.code_spec hn (atoms_spec (ws := ws) h _ (by rw [hw]; exact List.mem_cons_self))
    exact ⟨meth, c, h1, h2, h3, h4, h5, h6⟩
  · intro p e s m args below meth c s₁ B hml hP _
    have hh0 : s₁.heap = s.heap := by rw [B.state]; rfl
    have ht : ∀ x ∈ c.exceptionTable.toList, False := by
      obtain ⟨meth9, c9, h1, h2, -, -, -, -, h7, -⟩ := Cond.code_spec B.named (atoms_spec (ws := ws) B.pre _ (by rw [hw]; exact List.mem_cons_self))
      cases Option.some.inj (h1.symm.trans B.method)
      cases Option.some.inj (h2.symm.trans (Stand.of_body B).code)
      intro x hx
      rw [Array.isEmpty_iff.mp h7] at hx
      cases hx
    obtain ⟨t, a1, o, b1, b2, b3⟩ := body p e s m args below meth c s₁ B hml ht hP s₁ hh0 (Stand.of_body B)
    exact ⟨t, o, a1, b1, b2, b3⟩
/-- the table of a body with handlers -/
theorem vx_table {p : Program} {x y : MethodName} {S : Spec} {cc bytes : ByteArray} {maxL maxL' : Nat} {ret ret' : Option FieldType} {e : Env} {s s₁ : State} {m : MethodId} {args : Array Value} {below : List Frame} {meth : Method} {c : Code} {hh : List (Nat × Nat × Nat × Nat)}
    (B : BodyLoose p l y S cc maxL ret e s m args below meth c s₁) (h : (Cond.codeWith y bytes maxL' ret' hh).before args s = true) : c.exceptionTable.toList = tableOf hh := by
  obtain ⟨m9, meth9, c9, hn9, h1, h2, -, -, h6, -⟩ := Cond.codeWith_spec h
  cases Option.some.inj (hn9.symm.trans B.named)
  cases Option.some.inj (h1.symm.trans B.method)
  cases Option.some.inj (h2.symm.trans (Stand.of_body B).code)
  rw [← h6, table_eq]
end Bodies
end VXA
/-! ===== END ===== -/
/-! ===== BEGIN a static call of a method with an exception table ===== -/
section VXS
variable {p : Program} {l : Launch} {e : Env} {R : Room} {s : State} {m : MethodId} {args : Array Value} {below : List Frame} {meth : Method} {c : Code} {T : State} {H : Heap} {locs : List Loc} {cells slots : Nat}
abbrev vx_CSW (R : Room) (s : State) (args : Array Value) (own : String) (index : Nat) (y : MethodName) (bytes : ByteArray) (maxL : Nat) (ret : Option FieldType) (hh : List (Nat × Nat × Nat × Nat)) (ws : List Cond) (rm : Room) (mc ms n : Nat) : Prop :=
  (rm.cells = mc ∧ rm.slots = ms ∧ rm.frames + 1 ≤ R.frames ∧ 8 + (maxL + 11) + rm.locals ≤ R.locals ∧ (∀ w ∈ ws, ∀ (a' : Array Value) (U : State), s.WarmedH U.vm → w.before a' U = true) ∧ Cond.codeWith y bytes maxL ret hh ∈ ws) ∧
  (Cond.codeWith y bytes maxL ret hh).before args s = true ∧ (Cond.initialized y.cls).before args s = true ∧ (y.cls ≠ "java/lang/invoke/MethodHandle" ∧ y.cls ≠ "java/lang/invoke/VarHandle") ∧
  (∀ sig, parseMethodDescriptor y.desc = some sig → n = sig.parameters.length) ∧ (Cond.methodLink own index y).before args s = true ∧ (Cond.static y).before args s = true
theorem vx_cwSW {own : String} {index maxL mc ms : Nat} {y : MethodName} {bytes : ByteArray} {ret : Option FieldType} {hh : List (Nat × Nat × Nat × Nat)} {Ts ws ws' : List Cond} {rm : Room} (n : Nat) (ht : ∀ w ∈ Ts, w.before args s = true) (hT : GoodIn Ts (va_wsS own index y ws)) (hw : ws = Cond.codeWith y bytes maxL ret hh :: ws') (hrc : rm.cells = mc) (hrs : rm.slots = ms)
    (hd : y.cls ≠ "java/lang/invoke/MethodHandle" ∧ y.cls ≠ "java/lang/invoke/VarHandle" ∧ (parseMethodDescriptor y.desc).map (fun d => d.parameters.length) = some n) (hR : rm.frames + 1 ≤ R.frames ∧ 8 + (maxL + 11) + rm.locals ≤ R.locals) :
    vx_CSW R s args own index y bytes maxL ret hh ws rm mc ms n := by
  have ok : ∀ w ∈ va_wsS own index y ws, w.before args s = true := fun w h => ht w (hT w h).1
  have hG : GoodIn Ts ws := fun w h => hT w (by unfold va_wsS; exact List.mem_append_right _ h)
  have hc : Cond.codeWith y bytes maxL ret hh ∈ ws := by rw [hw]; exact List.mem_cons_self
  refine ⟨⟨hrc, hrs, hR.1, hR.2, pay_in ht hG, hc⟩, ht _ (hG _ hc).1, ok _ (by simp [va_wsS]), ⟨hd.1, hd.2.1⟩, fun sig h => ?_, ok _ (by simp [va_wsS]), ok _ (by simp [va_wsS])⟩
  have h2 := hd.2.2
  rw [h] at h2
  exact (Option.some.inj h2).symm
theorem vx_callSW (X : Stand p l e R s m args below meth c T locs cells slots) (hexec : p.tables.exec = Jvm.exec) {own : String} {index : Nat} {y : MethodName} {bytes : ByteArray} {maxL : Nat} {ret : Option FieldType} {hh : List (Nat × Nat × Nat × Nat)}
    (hown : s.vm.findClass own = some m.cls) (hlink : (Cond.methodLink own index y).before args s = true) (hstat : (Cond.static y).before args s = true) (hinit : (Cond.initialized y.cls).before args s = true)
    (hcode : (Cond.codeWith y bytes maxL ret hh).before args s = true) (hy : y.cls ≠ "java/lang/invoke/MethodHandle" ∧ y.cls ≠ "java/lang/invoke/VarHandle")
    {W9 : Nat} {Pre : Pt → Array Value → Prop} {Post : Pt → Array Value → Option Value → Pt → Prop} (hK : Back l R p e below s args y 3 W9 Pre Post)
    {g : JFrame} (hg : g.method = m) (hsize : g.locals.size = c.maxLocals) {argsL rest : List Value} (hlen : ∀ sig, parseMethodDescriptor y.desc = some sig → argsL.length = sig.parameters.length)
    (hstack : g.stack = argsL.reverse ++ rest) (hW : 2 * g.monitorRoom + (rest.map fun v => v.category).sum ≤ W9) (hdg : decode c.code g.pc = .ok (.invokestatic index, 3))
    (hpre : ∀ vm₁, s.WarmedH vm₁ → Pre ⟨T.setVm vm₁, locs, cells, slots⟩ argsL.toArray) :
    ∃ (v : Option Value) (vm₁ : Vm) (B : Pt), s.WarmedH vm₁ ∧ Stand p l e R s m args below meth c B.U B.locs B.cells B.slots ∧ Post ⟨T.setVm vm₁, locs, cells, slots⟩ argsL.toArray v B ∧
      ∀ target, Steps p.tables e below (B.U.setTop { g with pc := g.pc + 3, stack := v.toList ++ rest }) target → Steps p.tables e below (T.setTop g) target := by
  obtain ⟨mk, methM, cM, hnamed, hmethM, -, -, -, -, -, -, hsigM⟩ := Cond.codeWith_spec hcode
  have hstatic : methM.isStatic = true := Cond.static_spec hnamed hmethM hstat
  obtain ⟨kP, hkP, -⟩ := className_of_methodNamed hnamed
  have hinitP : kP.init = .initialized := Cond.initialized_spec (findClass_of_methodNamed hnamed) hkP hinit
  obtain ⟨vm₁, X₁, hstep₁⟩ := X.invokestatic hexec hown hlink hnamed hmethM hstatic hkP hinitP hy (g := g) hg (argsL := argsL) (rest := rest) (hlen _ hsigM) hstack hdg
  obtain ⟨v, B, X', hpost, hsteps⟩ := hK m meth c ⟨T.setVm vm₁, locs, cells, slots⟩ { g with stack := rest } (.invokestatic index) mk argsL.toArray X₁ hg hsize hdg hW (X₁.named hnamed) (hpre vm₁ X₁.warmed)
  exact ⟨v, vm₁, B, X₁.warmed, X', hpost, fun target h => hstep₁ _ fun acts => by rw [doInvoke_state]; exact hsteps.trans h⟩
theorem vx_runSW {y : MethodName} {bytes cc : ByteArray} {maxL nL mc ms n index : Nat} {ret : Option FieldType} {hh : List (Nat × Nat × Nat × Nat)} {ws : List Cond} {rm : Room} {Pc : Array Value → State → Prop} {Qc : Array Value → State → Outcome → State → Prop} {free : Addr → Prop} {Ts : List Cond} {own : String} {As rest : List Value} {g : JFrame}
    (S : CallFix p m c cc nL s args Ts own) (hM : Met l y ws rm Pc Qc mc ms free) (cw : vx_CSW R s args own index y bytes maxL ret hh ws rm mc ms n) (hp : PreS s H Pc As)
    (hg : g.method = m) (hn : As.length = n) (hsize : g.locals.size = nL) (hstack : g.stack = As.reverse ++ rest) (hW : 2 * g.monitorRoom + (rest.map fun v => v.category).sum ≤ 8) (hdg : decode cc g.pc = .ok (.invokestatic index, 3)) (hf : cells + mc ≤ R.cells ∧ slots + ms ≤ R.slots) :
    va_Run p l e R s m args below meth c H locs cells slots mc ms g rest (Qc As.toArray) (free) := by
  obtain ⟨⟨hrc, hrs, hfr, hlo, hws, hcw⟩, hcode, hini, hy, hlen, hl, hstt⟩ := cw
  have hK : Back l R p e below s args y 3 8 (PreOf R mc ms Pc) (PostOf Qc mc ms free) := va_backW (hh := hh) (bytes := bytes) (maxL := maxL) (ret := ret) hM hp.1 hrc hrs hfr hlo hws hcw (fun a' U hW => word_at hW (Or.inl (by first | rfl | simp [Cond.onTables, Cond.keeps, Cond.steady])) hini)
  obtain ⟨hx, hb, hml, ho, -⟩ := S
  intro T hT X
  obtain ⟨v, vm₁, ⟨U', l2, c2, s2⟩, hW₁, X', ⟨g', mk, t, L, e1, e2, hq, h1, hL, h2, h3⟩, st⟩ := vx_callSW X hx (hh := hh) (bytes := bytes) (maxL := maxL) (ret := ret) ho hl hstt hini hcode hy hK hg (hsize.trans hml.symm) (argsL := As) (rest := rest) (fun sig h => hn.trans (hlen sig h)) hstack hW (by rw [hb]; exact hdg)
    (fun vm₁ hW₁ => ⟨hf.1, hf.2, hp.2 (T.setVm vm₁) hT hW₁⟩)
  dsimp only [Pt.U, Pt.locs, Pt.cells, Pt.slots] at X' e1 e2 h1 h2 h3 st
  subst h1; subst h2; subst h3
  exact ⟨v, (T.setVm vm₁).calling g' mk As.toArray, t, U', L, hT, X', hL, e1, e2, hq, st⟩
/-- not caught here, past rows that name other classes: it goes on to the caller -/
theorem vx_outP {p : Program} {l : Launch} {e : Env} {R : Room} {s : State} {m : MethodId} {args : Array Value} {below : List Frame} {meth : Method} {c : Code} {H : Heap} {locs : List Loc} {cells slots : Nat} {free : Addr → Prop} {ls : Array Slot} {rest : List Value} {Qc : Array Value → State → Outcome → State → Prop} {XC : String → State → State → Prop}
    {pc : Nat} {own E : String} {ce : Cell} {q : Addr} {mc ms : Nat} (hown : s.vm.findClass own = some m.cls) (hlocks : meth.locks = false)
    (hpass : ∀ z ∈ c.exceptionTable.toList, covers z pc = false ∨ (z.catchType ≠ 0 ∧ ∃ nm : String, (Cond.classLink own z.catchType nm).before args s = true ∧ va_Nc E nm s)) (hcell : H[q]? = some ce) (hv : ce.vm = .none) (hcl : s.vm.findClass E = some ce.cls)
    (hx : ∀ t : State, t.heap = H → s.vm.Alike t.vm → XC E s t) (hf : ∀ z ∈ locs, free z.base) (hc : cells ≤ mc) (hs : slots ≤ ms) :
    vx_W p l e R s m args below meth c H locs cells slots (vx_MQ below Qc XC args s mc ms free) (F0 m pc ls rest) q := by
  intro T hT X
  have hpl : e.platform.magicAccessors = ({} : Platform).magicAccessors := by rw [X.admits.platform]
  obtain ⟨vm', hW', X', st⟩ := X.outThrough hlocks q (g := F0 m pc ls rest) rfl rfl rfl (cell := ce) (by rw [hT]; exact hcell) (by rw [hv]; rfl)
    (by obtain ⟨k9, h9, -⟩ := Vm.findClass_spec hcl; exact ⟨k9, h9⟩) (fun z hz => by
      rcases hpass z hz with h | ⟨hz0, nm, hl1, hn1⟩
      · exact Or.inl h
      · obtain ⟨c6, hc6, hcl6⟩ := Cond.classLink_spec hown hl1 e.platform hpl
        obtain ⟨a8, b8, h1, h2, h3⟩ := hn1
        cases Option.some.inj (h1.symm.trans hcl)
        cases Option.some.inj (h2.symm.trans hc6)
        exact Or.inr ⟨hz0, _, hcl6, h3⟩)
  obtain ⟨g₀, hfr⟩ := X'.frames_eq
  have hcell9 : ((T.setVm vm').setFrames (.throwing q :: below)).heap[q]? = some ce := by
    show T.heap[q]? = some ce
    rw [hT]; exact hcell
  have hend : Ended ((T.setVm vm').setFrames (.throwing q :: below)) below (.threw q) := State.frames_setFrames _ (State.cur_lt_of_frames hfr)
  refine ⟨(T.setVm vm').setFrames (.throwing q :: below), ?_, .threw q, X'.here.running, hend, Or.inr ⟨q, rfl, E, ce, locs, hx _ hT (X'.ends _).1.alike, hcell9, hv, hcl, (X'.ends _).1, (X'.ends _).2.mono hc hs, hf⟩⟩
  rw [X.pushThrowing_eq]
  exact st
/-- a thing of a world lies in the heap -/
theorem vx_lt {D : va_G} {cl : List vw_C} {ws : va_W} {H1 : Heap} (h : va_P D cl ws H1) {k : Nat} {q : Nat × va_E} (hk : ws[k]? = some q) : q.1 < H1.size := (h k q hk).lt
end VXS
/-! ===== END ===== -/
/-! ===== BEGIN methods with a table of their own: called by a name, returning or throwing ===== -/
section VXH
/-! vx_backW, vx_callVX, vx_callSX, vx_callVW, vx_runVW, vx_runVX, vx_runSX, vx_ofWH follow the same proofs as their sisters above (Free/Laws.lean, Shelf42/LK1.lean); vx_outP calls Shelf42/NT130.lean (outThrough). -/
section
variable {l : Launch} {R : Room} {p : Program} {e : Env} {below : List Frame} {s : State} {sargs : Array Value} {y : MethodName} {len W9 : Nat}
theorem vx_backW {ws : List Cond} {rm : Room} {Pc : Array Value → State → Prop} {Qc : Array Value → State → Outcome → State → Prop} {XC : String → State → State → Prop} {mc ms : Nat} {free : Addr → Prop} {bytes : ByteArray} {maxL : Nat} {ret : Option FieldType} {hh : List (Nat × Nat × Nat × Nat)}
    (hM : vx_Met l y ws rm Pc Qc XC mc ms free) (hblind : FrameBlind Pc) (hrc : rm.cells = mc) (hrs : rm.slots = ms)
    (hframes : rm.frames + 1 ≤ R.frames) (hlocals : W9 + (maxL + 11) + rm.locals ≤ R.locals)
    (hws : ∀ w ∈ ws, ∀ a' U, s.WarmedH U.vm → w.before a' U = true) (hcode : Cond.codeWith y bytes maxL ret hh ∈ ws) (hinit : ∀ a' U, s.WarmedH U.vm → (Cond.initialized y.cls).before a' U = true) :
    vx_Back l R p e below s sargs y len W9 (PreOf R mc ms Pc) (PostOf Qc mc ms free) (vx_Post XC mc ms free) := by
  intro m meth c A g ig mk a X hg hsize hdg hW hn hp
  have h1 : (headSpec ws rm).pre.before a A.U = true := atoms_intro fun w hw => hws w hw _ _ X.warmed
  have h2 : (Cond.codeWith y bytes maxL ret hh).before a A.U = true := hws _ hcode _ _ X.warmed
  have h3 : (Cond.initialized y.cls).before a A.U = true := hinit _ _ X.warmed
  have h4 : A.cells + (headSpec ws rm).room.cells ≤ R.cells := by rw [show (headSpec ws rm).room.cells = mc from hrc]; exact hp.1
  have h5 : A.slots + (headSpec ws rm).room.slots ≤ R.slots := by rw [show (headSpec ws rm).room.slots = ms from hrs]; exact hp.2.1
  have hPc : Pc a (A.U.calling g mk a) := hblind _ _ _ _ hp.2.2
  obtain ⟨U, Ls, c0, s0⟩ := A
  dsimp only [Pt.U, Pt.locs, Pt.cells, Pt.slots] at h1 h2 h3 h4 h5 X hn hPc ⊢
  obtain ⟨m9, methY, cY, hn9, hmY, hcY, -, hlY, -⟩ := Cond.codeWith_spec h2
  cases Option.some.inj (hn9.symm.trans hn)
  obtain ⟨kY, hkY, -⟩ := className_of_methodNamed hn
  have hinitY : kY.init = .initialized := Cond.initialized_spec (findClass_of_methodNamed hn) hkY h3
  have h : At U g.method c below := by rw [hg]; exact X.here
  have hlocals9 : W9 + (maxL + 11) + (headSpec ws rm).room.locals ≤ R.locals := hlocals
  have happ : (headSpec ws rm).appliesLoose y e.platform (U.calling g mk a) = true :=
    Spec.appliesLoose_calling (g := g) h hdg hn hkY hinitY
      (X.room_calling (g := g) (R' := (headSpec ws rm).room) hsize hmY hcY hframes (by rw [hlY]; omega) h4 h5) h1
  obtain ⟨mid, hmid⟩ := h.above
  have hfr : (U.setTop g).frames = (.java g :: mid) ++ below := by rw [State.frames_setTop' g h.top, hmid]; rfl
  obtain ⟨o, s₂, hsteps, -, hend, hq⟩ := Steps.callFree hM p X.admits X.cas X.clock (acts := []) hfr happ hPc trivial
  have hq' : vx_Q Qc XC mc ms free a (U.calling g mk a) o s₂ := hq
  rw [State.frames_setTop' g h.top] at hend
  obtain ⟨g₀, hg0⟩ := Option.isSome_iff_exists.mp h.top
  obtain ⟨r, hr⟩ := State.topJava?_eq_some.mp hg0
  have hr' : (({ U with heap := s₂.heap, slotsUsed := s₂.slotsUsed } : State).setVm s₂.vm).frames = .java g₀ :: r := hr
  rcases hq' with ⟨hqc, L, hfe, hL⟩ | ⟨q, rfl, E, ce, L, hx, hce, hcv, hcl, hW₂, hsm, hL⟩
  · obtain ⟨⟨v, rfl⟩, hW₂, e2, q2, q3, q4, q5, q6⟩ := id hfe
    have e3 : s₂ = ({ (U.calling g mk a).setFrames s₂.frames with heap := s₂.heap, slotsUsed := s₂.slotsUsed } : State).setVm s₂.vm := by
      have : s₂ = ({ s₂ with vm := (U.calling g mk a).vm } : State).setVm s₂.vm := rfl
      rw [e2] at this
      exact this
    obtain ⟨c₂, i₂, len₂, hc₂, hd₂, hf₂⟩ := hend
    have hW' : U.WarmedH s₂.vm := hW₂
    have hcc : c₂ = c := by
      have h1 : s₂.code? g.method = U.code? g.method := by
        rw [State.code?_eq, State.code?_eq, hW'.alike.method?]
      exact Option.some.inj (hc₂.symm.trans (h1.trans h.code))
    subst hcc
    have hlen : len₂ = len := by rw [hdg] at hd₂; cases hd₂; rfl
    subst hlen
    have hs₂ : s₂ = (({ U with heap := s₂.heap, slotsUsed := s₂.slotsUsed } : State).setVm s₂.vm).setTop { g with pc := g.pc + len₂, stack := v.toList ++ g.stack } := by
      refine e3.trans ?_
      rw [hf₂, State.calling_eq h.top, State.setFrames_setFrames, State.setTop_of_frames _ hr', hr]
      rfl
    have hsame : U.sameButNew ({ U with heap := s₂.heap, slotsUsed := s₂.slotsUsed } : State) L mc ms := by
      refine ⟨?_, q2, q3, q4, q5, q6⟩
      obtain ⟨t, ht, -⟩ := State.frames_cons hr
      show ({ U with heap := s₂.heap, slotsUsed := s₂.slotsUsed } : State) = { U.setFrames U.frames with heap := s₂.heap, slotsUsed := s₂.slotsUsed }
      rw [State.setFrames_self ht]
    subst hg
    refine Or.inl ⟨v, ⟨(({ U with heap := s₂.heap, slotsUsed := s₂.slotsUsed } : State).setVm s₂.vm), Ls ++ L, c0 + mc, s0 + ms⟩,
      ⟨X.admits, X.cas, X.clock, X.frames, X.room, X.hears, X.method, X.code, (X.here.setHeapUsed s₂.heap s₂.slotsUsed).setVm hW'.alike, X.tail, State.WarmedH.trans X.warmed hW', X.limits, X.bytes, X.same.trans (hsame.setVm s.vm)⟩,
      ⟨g, mk, s₂, L, rfl, rfl, hqc, rfl, hL, rfl, rfl⟩, ?_⟩
    show Steps p.tables e below _ ((({ U with heap := s₂.heap, slotsUsed := s₂.slotsUsed } : State).setVm s₂.vm).setTop { g with pc := g.pc + len₂, stack := v.toList ++ g.stack })
    rw [← hs₂]
    exact hsteps
  · obtain ⟨e2, q2, q3, q4, q5, q6⟩ := id hsm
    have e3 : s₂ = ({ (U.calling g mk a).setFrames s₂.frames with heap := s₂.heap, slotsUsed := s₂.slotsUsed } : State).setVm s₂.vm := by
      have : s₂ = ({ s₂ with vm := (U.calling g mk a).vm } : State).setVm s₂.vm := rfl
      rw [e2] at this
      exact this
    have hf₂ : s₂.frames = .throwing q :: .java g :: U.frames.tail := hend
    have hW' : U.WarmedH s₂.vm := hW₂
    have hs₂ : s₂ = ((({ U with heap := s₂.heap, slotsUsed := s₂.slotsUsed } : State).setVm s₂.vm).setTop g).pushFrame (.throwing q) := by
      refine e3.trans ?_
      rw [hf₂, State.calling_eq h.top, State.setFrames_setFrames, State.pushFrame, State.frames_setTop _ hr', State.setTop_of_frames _ hr', State.setFrames_setFrames, hr]
      rfl
    have hsame : U.sameButNew ({ U with heap := s₂.heap, slotsUsed := s₂.slotsUsed } : State) L mc ms := by
      refine ⟨?_, q2, q3, q4, q5, q6⟩
      obtain ⟨t, ht, -⟩ := State.frames_cons hr
      show ({ U with heap := s₂.heap, slotsUsed := s₂.slotsUsed } : State) = { U.setFrames U.frames with heap := s₂.heap, slotsUsed := s₂.slotsUsed }
      rw [State.setFrames_self ht]
    subst hg
    refine Or.inr ⟨q, ⟨(({ U with heap := s₂.heap, slotsUsed := s₂.slotsUsed } : State).setVm s₂.vm), Ls ++ L, c0 + mc, s0 + ms⟩,
      ⟨X.admits, X.cas, X.clock, X.frames, X.room, X.hears, X.method, X.code, (X.here.setHeapUsed s₂.heap s₂.slotsUsed).setVm hW'.alike, X.tail, State.WarmedH.trans X.warmed hW', X.limits, X.bytes, X.same.trans (hsame.setVm s.vm)⟩,
      ⟨g, mk, s₂, L, E, ce, rfl, rfl, hx, hce, hcv, hcl, rfl, hL, rfl, rfl⟩, ?_⟩
    show Steps p.tables e below _ (((({ U with heap := s₂.heap, slotsUsed := s₂.slotsUsed } : State).setVm s₂.vm).setTop g).pushFrame (.throwing q))
    rw [← hs₂]
    exact hsteps
end
variable {p : Program} {l : Launch} {e : Env} {R : Room} {s : State} {m : MethodId} {args : Array Value} {below : List Frame} {meth : Method} {c : Code} {T : State} {H : Heap} {locs : List Loc} {cells slots : Nat}
theorem vx_callVX (X : Stand p l e R s m args below meth c T locs cells slots) (hexec : p.tables.exec = Jvm.exec) {own C : String} {index : Nat} {y : MethodName} {bytes : ByteArray} {maxL : Nat} {ret : Option FieldType} {hh : List (Nat × Nat × Nat × Nat)}
    (hown : s.vm.findClass own = some m.cls) (hlink : (Cond.methodLink own index y).before args s = true) (hinst : (Cond.instanceMethod y).before args s = true) (hsel : (Cond.selects C y y).before args s = true)
    (hcode : (Cond.codeWith y bytes maxL ret hh).before args s = true) (hy : y.cls ≠ "java/lang/invoke/MethodHandle" ∧ y.cls ≠ "java/lang/invoke/VarHandle")
    {W9 : Nat} {Pre : Pt → Array Value → Prop} {Post : Pt → Array Value → Option Value → Pt → Prop} {PostX : Pt → Array Value → Addr → Pt → Prop} (hK : vx_Back l R p e below s args y 3 W9 Pre Post PostX)
    {b : Addr} {cellB : Cell} (hcell : T.heap[b]? = some cellB) (hobj : cellB.vm.isStatics = false) (hcls : s.vm.findClass C = some cellB.cls)
    {g : JFrame} (hg : g.method = m) (hsize : g.locals.size = c.maxLocals) {argsL rest : List Value} (hlen : ∀ sig, parseMethodDescriptor y.desc = some sig → argsL.length = sig.parameters.length)
    (hstack : g.stack = argsL.reverse ++ .ref b :: rest) (hW : 2 * g.monitorRoom + (rest.map fun v => v.category).sum ≤ W9) (hdg : decode c.code g.pc = .ok (.invokevirtual index, 3))
    (hpre : ∀ vm₁, s.WarmedH vm₁ → Pre ⟨T.setVm vm₁, locs, cells, slots⟩ (Value.ref b :: argsL).toArray) :
    (∃ (v : Option Value) (vm₁ : Vm) (B : Pt), s.WarmedH vm₁ ∧ Stand p l e R s m args below meth c B.U B.locs B.cells B.slots ∧ Post ⟨T.setVm vm₁, locs, cells, slots⟩ (Value.ref b :: argsL).toArray v B ∧
      ∀ target, Steps p.tables e below (B.U.setTop { g with pc := g.pc + 3, stack := v.toList ++ rest }) target → Steps p.tables e below (T.setTop g) target) ∨
    (∃ (q : Addr) (vm₁ : Vm) (B : Pt), s.WarmedH vm₁ ∧ Stand p l e R s m args below meth c B.U B.locs B.cells B.slots ∧ PostX ⟨T.setVm vm₁, locs, cells, slots⟩ (Value.ref b :: argsL).toArray q B ∧
      Steps p.tables e below (T.setTop g) ((B.U.setTop { g with stack := rest }).pushFrame (.throwing q))) := by
  obtain ⟨mk, methM, hnamed, hmethM, hstM, habM⟩ := Cond.instanceMethod_spec hinst
  obtain ⟨m8, methM', cM, hn8, hmethM', -, -, -, -, -, -, hsigM⟩ := Cond.codeWith_spec hcode
  cases Option.some.inj (hn8.symm.trans hnamed)
  cases hmethM.symm.trans hmethM'
  obtain ⟨c2, r2, m2, q1, q2, q3, q4, kP, hkP, hkPi⟩ := Cond.selects_spec hsel
  cases hcls.symm.trans q1
  cases (State.methodFound?_of_named hnamed hy).symm.trans q2
  cases hnamed.symm.trans q3
  have hselP : selectMethod e.platform s.vm cellB.cls mk = .method mk := by rw [Launch.admits_selectMethod X.admits]; exact q4
  obtain ⟨vm₁, X₁, hstep₁⟩ := X.invokevirtual hexec hown hlink hnamed hmethM hstM hkP hkPi hy (a := b) (cell := cellB) hcell
    (fun z h => by rw [h] at hobj; cases hobj) hselP hmethM habM hkP hkPi (g := g) hg (argsL := argsL) (rest := rest) (hlen _ hsigM) hstack hdg
  rcases hK m meth c ⟨T.setVm vm₁, locs, cells, slots⟩ { g with stack := rest } (.invokevirtual index) mk (Value.ref b :: argsL).toArray X₁ hg hsize hdg hW (X₁.named hnamed) (hpre vm₁ X₁.warmed) with ⟨v, B, X', hpost, hsteps⟩ | ⟨q, B, X', hpost, hsteps⟩
  · exact Or.inl ⟨v, vm₁, B, X₁.warmed, X', hpost, fun target h => hstep₁ _ fun acts => by rw [doInvoke_state]; exact hsteps.trans h⟩
  · exact Or.inr ⟨q, vm₁, B, X₁.warmed, X', hpost, hstep₁ _ fun acts => by rw [doInvoke_state]; exact hsteps⟩
theorem vx_callSX (X : Stand p l e R s m args below meth c T locs cells slots) (hexec : p.tables.exec = Jvm.exec) {own : String} {index : Nat} {y : MethodName} {bytes : ByteArray} {maxL : Nat} {ret : Option FieldType} {hh : List (Nat × Nat × Nat × Nat)}
    (hown : s.vm.findClass own = some m.cls) (hlink : (Cond.methodLink own index y).before args s = true) (hstat : (Cond.static y).before args s = true) (hinit : (Cond.initialized y.cls).before args s = true)
    (hcode : (Cond.codeWith y bytes maxL ret hh).before args s = true) (hy : y.cls ≠ "java/lang/invoke/MethodHandle" ∧ y.cls ≠ "java/lang/invoke/VarHandle")
    {W9 : Nat} {Pre : Pt → Array Value → Prop} {Post : Pt → Array Value → Option Value → Pt → Prop} {PostX : Pt → Array Value → Addr → Pt → Prop} (hK : vx_Back l R p e below s args y 3 W9 Pre Post PostX)
    {g : JFrame} (hg : g.method = m) (hsize : g.locals.size = c.maxLocals) {argsL rest : List Value} (hlen : ∀ sig, parseMethodDescriptor y.desc = some sig → argsL.length = sig.parameters.length)
    (hstack : g.stack = argsL.reverse ++ rest) (hW : 2 * g.monitorRoom + (rest.map fun v => v.category).sum ≤ W9) (hdg : decode c.code g.pc = .ok (.invokestatic index, 3))
    (hpre : ∀ vm₁, s.WarmedH vm₁ → Pre ⟨T.setVm vm₁, locs, cells, slots⟩ argsL.toArray) :
    (∃ (v : Option Value) (vm₁ : Vm) (B : Pt), s.WarmedH vm₁ ∧ Stand p l e R s m args below meth c B.U B.locs B.cells B.slots ∧ Post ⟨T.setVm vm₁, locs, cells, slots⟩ argsL.toArray v B ∧
      ∀ target, Steps p.tables e below (B.U.setTop { g with pc := g.pc + 3, stack := v.toList ++ rest }) target → Steps p.tables e below (T.setTop g) target) ∨
    (∃ (q : Addr) (vm₁ : Vm) (B : Pt), s.WarmedH vm₁ ∧ Stand p l e R s m args below meth c B.U B.locs B.cells B.slots ∧ PostX ⟨T.setVm vm₁, locs, cells, slots⟩ argsL.toArray q B ∧
      Steps p.tables e below (T.setTop g) ((B.U.setTop { g with stack := rest }).pushFrame (.throwing q))) := by
  obtain ⟨mk, methM, cM, hnamed, hmethM, -, -, -, -, -, -, hsigM⟩ := Cond.codeWith_spec hcode
  have hstatic : methM.isStatic = true := Cond.static_spec hnamed hmethM hstat
  obtain ⟨kP, hkP, -⟩ := className_of_methodNamed hnamed
  have hinitP : kP.init = .initialized := Cond.initialized_spec (findClass_of_methodNamed hnamed) hkP hinit
  obtain ⟨vm₁, X₁, hstep₁⟩ := X.invokestatic hexec hown hlink hnamed hmethM hstatic hkP hinitP hy (g := g) hg (argsL := argsL) (rest := rest) (hlen _ hsigM) hstack hdg
  rcases hK m meth c ⟨T.setVm vm₁, locs, cells, slots⟩ { g with stack := rest } (.invokestatic index) mk argsL.toArray X₁ hg hsize hdg hW (X₁.named hnamed) (hpre vm₁ X₁.warmed) with ⟨v, B, X', hpost, hsteps⟩ | ⟨q, B, X', hpost, hsteps⟩
  · exact Or.inl ⟨v, vm₁, B, X₁.warmed, X', hpost, fun target h => hstep₁ _ fun acts => by rw [doInvoke_state]; exact hsteps.trans h⟩
  · exact Or.inr ⟨q, vm₁, B, X₁.warmed, X', hpost, hstep₁ _ fun acts => by rw [doInvoke_state]; exact hsteps⟩
theorem vx_callVW (X : Stand p l e R s m args below meth c T locs cells slots) (hexec : p.tables.exec = Jvm.exec) {own C : String} {index : Nat} {y : MethodName} {bytes : ByteArray} {maxL : Nat} {ret : Option FieldType} {hh : List (Nat × Nat × Nat × Nat)}
    (hown : s.vm.findClass own = some m.cls) (hlink : (Cond.methodLink own index y).before args s = true) (hinst : (Cond.instanceMethod y).before args s = true) (hsel : (Cond.selects C y y).before args s = true)
    (hcode : (Cond.codeWith y bytes maxL ret hh).before args s = true) (hy : y.cls ≠ "java/lang/invoke/MethodHandle" ∧ y.cls ≠ "java/lang/invoke/VarHandle")
    {W9 : Nat} {Pre : Pt → Array Value → Prop} {Post : Pt → Array Value → Option Value → Pt → Prop} (hK : Back l R p e below s args y 3 W9 Pre Post)
    {b : Addr} {cellB : Cell} (hcell : T.heap[b]? = some cellB) (hobj : cellB.vm.isStatics = false) (hcls : s.vm.findClass C = some cellB.cls)
    {g : JFrame} (hg : g.method = m) (hsize : g.locals.size = c.maxLocals) {argsL rest : List Value} (hlen : ∀ sig, parseMethodDescriptor y.desc = some sig → argsL.length = sig.parameters.length)
    (hstack : g.stack = argsL.reverse ++ .ref b :: rest) (hW : 2 * g.monitorRoom + (rest.map fun v => v.category).sum ≤ W9) (hdg : decode c.code g.pc = .ok (.invokevirtual index, 3))
    (hpre : ∀ vm₁, s.WarmedH vm₁ → Pre ⟨T.setVm vm₁, locs, cells, slots⟩ (Value.ref b :: argsL).toArray) :
    ∃ (v : Option Value) (vm₁ : Vm) (B : Pt), s.WarmedH vm₁ ∧ Stand p l e R s m args below meth c B.U B.locs B.cells B.slots ∧ Post ⟨T.setVm vm₁, locs, cells, slots⟩ (Value.ref b :: argsL).toArray v B ∧
      ∀ target, Steps p.tables e below (B.U.setTop { g with pc := g.pc + 3, stack := v.toList ++ rest }) target → Steps p.tables e below (T.setTop g) target := by
  obtain ⟨mk, methM, hnamed, hmethM, hstM, habM⟩ := Cond.instanceMethod_spec hinst
  obtain ⟨m8, methM', cM, hn8, hmethM', -, -, -, -, -, -, hsigM⟩ := Cond.codeWith_spec hcode
  cases Option.some.inj (hn8.symm.trans hnamed)
  cases hmethM.symm.trans hmethM'
  obtain ⟨c2, r2, m2, q1, q2, q3, q4, kP, hkP, hkPi⟩ := Cond.selects_spec hsel
  cases hcls.symm.trans q1
  cases (State.methodFound?_of_named hnamed hy).symm.trans q2
  cases hnamed.symm.trans q3
  have hselP : selectMethod e.platform s.vm cellB.cls mk = .method mk := by rw [Launch.admits_selectMethod X.admits]; exact q4
  obtain ⟨vm₁, X₁, hstep₁⟩ := X.invokevirtual hexec hown hlink hnamed hmethM hstM hkP hkPi hy (a := b) (cell := cellB) hcell
    (fun z h => by rw [h] at hobj; cases hobj) hselP hmethM habM hkP hkPi (g := g) hg (argsL := argsL) (rest := rest) (hlen _ hsigM) hstack hdg
  obtain ⟨v, B, X', hpost, hsteps⟩ := hK m meth c ⟨T.setVm vm₁, locs, cells, slots⟩ { g with stack := rest } (.invokevirtual index) mk (Value.ref b :: argsL).toArray X₁ hg hsize hdg hW (X₁.named hnamed) (hpre vm₁ X₁.warmed)
  exact ⟨v, vm₁, B, X₁.warmed, X', hpost, fun target h => hstep₁ _ fun acts => by rw [doInvoke_state]; exact hsteps.trans h⟩
abbrev vx_CVW (R : Room) (s : State) (args : Array Value) (own C : String) (index : Nat) (y : MethodName) (bytes : ByteArray) (maxL : Nat) (ret : Option FieldType) (hh : List (Nat × Nat × Nat × Nat)) (ws : List Cond) (rm : Room) (mc ms n : Nat) : Prop :=
  (rm.cells = mc ∧ rm.slots = ms ∧ rm.frames + 1 ≤ R.frames ∧ 8 + (maxL + 11) + rm.locals ≤ R.locals ∧ (∀ w ∈ ws, ∀ (a' : Array Value) (U : State), s.WarmedH U.vm → w.before a' U = true) ∧ Cond.codeWith y bytes maxL ret hh ∈ ws) ∧
  (Cond.codeWith y bytes maxL ret hh).before args s = true ∧ (Cond.initialized y.cls).before args s = true ∧ (y.cls ≠ "java/lang/invoke/MethodHandle" ∧ y.cls ≠ "java/lang/invoke/VarHandle") ∧
  (∀ sig, parseMethodDescriptor y.desc = some sig → n = sig.parameters.length) ∧ (Cond.methodLink own index y).before args s = true ∧ (Cond.instanceMethod y).before args s = true ∧ (Cond.selects C y y).before args s = true
theorem vx_cwVW {own C : String} {index maxL mc ms : Nat} {y : MethodName} {bytes : ByteArray} {ret : Option FieldType} {hh : List (Nat × Nat × Nat × Nat)} {Ts ws ws' : List Cond} {rm : Room} (n : Nat) (ht : ∀ w ∈ Ts, w.before args s = true) (hT : GoodIn Ts (wsV own index C y ws)) (hw : ws = Cond.codeWith y bytes maxL ret hh :: ws') (hrc : rm.cells = mc) (hrs : rm.slots = ms)
    (hd : y.cls = C ∧ y.cls ≠ "java/lang/invoke/MethodHandle" ∧ y.cls ≠ "java/lang/invoke/VarHandle" ∧ (parseMethodDescriptor y.desc).map (fun d => d.parameters.length) = some n) (hR : rm.frames + 1 ≤ R.frames ∧ 8 + (maxL + 11) + rm.locals ≤ R.locals) :
    vx_CVW R s args own C index y bytes maxL ret hh ws rm mc ms n := by
  obtain ⟨hC, hd⟩ := hd
  subst hC
  have ok : ∀ w ∈ wsV own index y.cls y ws, w.before args s = true := fun w h => ht w (hT w h).1
  have hG : GoodIn Ts ws := fun w h => hT w (by unfold wsV; exact List.mem_append_right _ h)
  have hc : Cond.codeWith y bytes maxL ret hh ∈ ws := by rw [hw]; exact List.mem_cons_self
  refine ⟨⟨hrc, hrs, hR.1, hR.2, pay_in ht hG, hc⟩, ht _ (hG _ hc).1, ok _ (by simp [wsV]), ⟨hd.1, hd.2.1⟩, fun sig h => ?_, ok _ (by simp [wsV]), ok _ (by simp [wsV]), ok _ (by simp [wsV])⟩
  have h2 := hd.2.2
  rw [h] at h2
  exact (Option.some.inj h2).symm
theorem vx_runVW {y : MethodName} {bytes cc : ByteArray} {maxL nL mc ms n index : Nat} {ret : Option FieldType} {hh : List (Nat × Nat × Nat × Nat)} {ws : List Cond} {rm : Room} {Pc : Array Value → State → Prop} {Qc : Array Value → State → Outcome → State → Prop} {free : Addr → Prop} {Ts : List Cond} {own C : String} {b : Addr} {As rest : List Value} {g : JFrame}
    (S : CallFix p m c cc nL s args Ts own) (hM : Met l y ws rm Pc Qc mc ms free) (cw : vx_CVW R s args own C index y bytes maxL ret hh ws rm mc ms n) (hp : PreV s H C b Pc As)
    (hg : g.method = m) (hn : As.length = n) (hsize : g.locals.size = nL) (hstack : g.stack = As.reverse ++ .ref b :: rest) (hW : 2 * g.monitorRoom + (rest.map fun v => v.category).sum ≤ 8) (hdg : decode cc g.pc = .ok (.invokevirtual index, 3)) (hf : cells + mc ≤ R.cells ∧ slots + ms ≤ R.slots) :
    va_Run p l e R s m args below meth c H locs cells slots mc ms g rest (Qc (Value.ref b :: As).toArray) free := by
  obtain ⟨⟨hrc, hrs, hfr, hlo, hws, hcw⟩, hcode, hini, hy, hlen, hl, hin, hse⟩ := cw
  have hK : Back l R p e below s args y 3 8 (PreOf R mc ms Pc) (PostOf Qc mc ms free) := va_backW (hh := hh) (bytes := bytes) (maxL := maxL) (ret := ret) hM hp.1 hrc hrs hfr hlo hws hcw (fun a' U hW => word_at hW (Or.inl (by first | rfl | simp [Cond.onTables, Cond.keeps, Cond.steady])) hini)
  obtain ⟨hx, hb, hml, ho, -⟩ := S
  obtain ⟨-, ⟨cellB, hcB, hoB, hclB⟩, hPc⟩ := hp
  intro T hT X
  obtain ⟨v, vm₁, ⟨U', l2, c2, s2⟩, hW₁, X', ⟨g', mk, t, L, e1, e2, hq, h1, hL, h2, h3⟩, st⟩ := vx_callVW X hx (C := C) (hh := hh) (bytes := bytes) (maxL := maxL) (ret := ret) ho hl hin hse hcode hy hK (by rw [hT]; exact hcB) hoB hclB hg (hsize.trans hml.symm) (argsL := As) (rest := rest) (fun sig h => hn.trans (hlen sig h)) hstack hW (by rw [hb]; exact hdg)
    (fun vm₁ hW₁ => ⟨hf.1, hf.2, hPc (T.setVm vm₁) hT hW₁⟩)
  dsimp only [Pt.U, Pt.locs, Pt.cells, Pt.slots] at X' e1 e2 h1 h2 h3 st
  subst h1; subst h2; subst h3
  exact ⟨v, (T.setVm vm₁).calling g' mk (Value.ref b :: As).toArray, t, U', L, hT, X', hL, e1, e2, hq, st⟩
section
variable {y : MethodName} {bytes cc : ByteArray} {maxL nL mc ms n index : Nat} {ret : Option FieldType} {ws : List Cond} {rm : Room} {Pc : Array Value → State → Prop} {Qc : Array Value → State → Outcome → State → Prop} {XC : String → State → State → Prop} {free : Addr → Prop} {Ts : List Cond} {own C : String} {b : Addr} {As rest : List Value} {g : JFrame}
theorem vx_runVX {hh : List (Nat × Nat × Nat × Nat)} (S : CallFix p m c cc nL s args Ts own) (hM : vx_Met l y ws rm Pc Qc XC mc ms free) (cw : vx_CVW R s args own C index y bytes maxL ret hh ws rm mc ms n) (hp : PreV s H C b Pc As)
    (hg : g.method = m) (hn : As.length = n) (hsize : g.locals.size = nL) (hstack : g.stack = As.reverse ++ .ref b :: rest) (hW : 2 * g.monitorRoom + (rest.map fun v => v.category).sum ≤ 8) (hdg : decode cc g.pc = .ok (.invokevirtual index, 3)) (hf : cells + mc ≤ R.cells ∧ slots + ms ≤ R.slots) :
    vx_Run p l e R s m args below meth c H locs cells slots mc ms g rest (Qc (Value.ref b :: As).toArray) XC free := by
  obtain ⟨⟨hrc, hrs, hfr, hlo, hws, hcw⟩, hcode, hini, hy, hlen, hl, hin, hse⟩ := cw
  have hK : vx_Back l R p e below s args y 3 8 (PreOf R mc ms Pc) (PostOf Qc mc ms free) (vx_Post XC mc ms free) := vx_backW (hh := hh) (bytes := bytes) (maxL := maxL) (ret := ret) hM hp.1 hrc hrs hfr hlo hws hcw (fun a' U hW => word_at hW (Or.inl (by first | rfl | simp [Cond.onTables, Cond.keeps, Cond.steady])) hini)
  obtain ⟨hx, hb, hml, ho, -⟩ := S
  obtain ⟨-, ⟨cellB, hcB, hoB, hclB⟩, hPc⟩ := hp
  intro T hT X
  rcases vx_callVX X hx (C := C) (hh := hh) (bytes := bytes) (maxL := maxL) (ret := ret) ho hl hin hse hcode hy hK (by rw [hT]; exact hcB) hoB hclB hg (hsize.trans hml.symm) (argsL := As) (rest := rest) (fun sig h => hn.trans (hlen sig h)) hstack hW (by rw [hb]; exact hdg)
    (fun vm₁ hW₁ => ⟨hf.1, hf.2, hPc (T.setVm vm₁) hT hW₁⟩) with ⟨v, vm₁, ⟨U', l2, c2, s2⟩, hW₁, X', ⟨g', mk, t, L, e1, e2, hq, h1, hL, h2, h3⟩, st⟩ | ⟨q, vm₁, ⟨U', l2, c2, s2⟩, hW₁, X', ⟨g', mk, t, L, E, ce, e1, e2, hq, hce, hcv, hcl, h1, hL, h2, h3⟩, st⟩
  · dsimp only [Pt.U, Pt.locs, Pt.cells, Pt.slots] at X' e1 e2 h1 h2 h3 st
    subst h1; subst h2; subst h3
    exact Or.inl ⟨v, (T.setVm vm₁).calling g' mk (Value.ref b :: As).toArray, t, U', L, hT, X', hL, e1, e2, hq, st⟩
  · dsimp only [Pt.U, Pt.locs, Pt.cells, Pt.slots] at X' e1 e2 h1 h2 h3 st hcl
    subst h1; subst h2; subst h3
    exact Or.inr ⟨q, (T.setVm vm₁).calling g' mk (Value.ref b :: As).toArray, t, U', L, E, ce, hT, X', hL, e1, e2, hq, hce, hcv, vx_cls hW₁ hcl, st⟩
theorem vx_runSX {hh : List (Nat × Nat × Nat × Nat)} (S : CallFix p m c cc nL s args Ts own) (hM : vx_Met l y ws rm Pc Qc XC mc ms free) (cw : vx_CSW R s args own index y bytes maxL ret hh ws rm mc ms n) (hp : PreS s H Pc As)
    (hg : g.method = m) (hn : As.length = n) (hsize : g.locals.size = nL) (hstack : g.stack = As.reverse ++ rest) (hW : 2 * g.monitorRoom + (rest.map fun v => v.category).sum ≤ 8) (hdg : decode cc g.pc = .ok (.invokestatic index, 3)) (hf : cells + mc ≤ R.cells ∧ slots + ms ≤ R.slots) :
    vx_Run p l e R s m args below meth c H locs cells slots mc ms g rest (Qc As.toArray) XC free := by
  obtain ⟨⟨hrc, hrs, hfr, hlo, hws, hcw⟩, hcode, hini, hy, hlen, hl, hstt⟩ := cw
  have hK : vx_Back l R p e below s args y 3 8 (PreOf R mc ms Pc) (PostOf Qc mc ms free) (vx_Post XC mc ms free) := vx_backW (hh := hh) (bytes := bytes) (maxL := maxL) (ret := ret) hM hp.1 hrc hrs hfr hlo hws hcw (fun a' U hW => word_at hW (Or.inl (by first | rfl | simp [Cond.onTables, Cond.keeps, Cond.steady])) hini)
  obtain ⟨hx, hb, hml, ho, -⟩ := S
  intro T hT X
  rcases vx_callSX X hx (hh := hh) (bytes := bytes) (maxL := maxL) (ret := ret) ho hl hstt hini hcode hy hK hg (hsize.trans hml.symm) (argsL := As) (rest := rest) (fun sig h => hn.trans (hlen sig h)) hstack hW (by rw [hb]; exact hdg)
    (fun vm₁ hW₁ => ⟨hf.1, hf.2, hp.2 (T.setVm vm₁) hT hW₁⟩) with ⟨v, vm₁, ⟨U', l2, c2, s2⟩, hW₁, X', ⟨g', mk, t, L, e1, e2, hq, h1, hL, h2, h3⟩, st⟩ | ⟨q, vm₁, ⟨U', l2, c2, s2⟩, hW₁, X', ⟨g', mk, t, L, E, ce, e1, e2, hq, hce, hcv, hcl, h1, hL, h2, h3⟩, st⟩
  · dsimp only [Pt.U, Pt.locs, Pt.cells, Pt.slots] at X' e1 e2 h1 h2 h3 st
    subst h1; subst h2; subst h3
    exact Or.inl ⟨v, (T.setVm vm₁).calling g' mk As.toArray, t, U', L, hT, X', hL, e1, e2, hq, st⟩
  · dsimp only [Pt.U, Pt.locs, Pt.cells, Pt.slots] at X' e1 e2 h1 h2 h3 st hcl
    subst h1; subst h2; subst h3
    exact Or.inr ⟨q, (T.setVm vm₁).calling g' mk As.toArray, t, U', L, E, ce, hT, X', hL, e1, e2, hq, hce, hcv, vx_cls hW₁ hcl, st⟩
end
end VXH
theorem vx_ofWH {l : Launch} {y : MethodName} {ws ws' : List Cond} {rm : Room} {Pc : Array Value → State → Prop} {Qc : Array Value → State → Outcome → State → Prop} {XC : String → State → State → Prop} {mc ms : Nat} {free : Addr → Prop} {cc : ByteArray} {maxL : Nat} {ret : Option FieldType} {hh : List (Nat × Nat × Nat × Nat)}
    (hy : plainName y.cls = true) (hw : ws = Cond.codeWith y cc maxL ret hh :: ws')
    (body : ∀ p e s m args below meth c s₁, BodyLoose p l y (headSpec ws rm) cc maxL ret e s m args below meth c s₁ → c.maxLocals = maxL → Pc args s →
      W p l e (headSpec ws rm).room s m args below meth c s.heap [] 0 0 (vx_MQ below Qc XC args s mc ms free) (entryFrame m args maxL)) : vx_Met l y ws rm Pc Qc XC mc ms free := by
  refine MetFree.of_bodyS (code := cc) (maxLocals := maxL) (ret := ret) hy ?_ ?_
  · intro args s m h hn
    obtain ⟨m9, meth, c, hn9, h1, h2, h3, h4, -, h5, h6, -⟩ := Cond.codeWith_spec (atoms_spec (ws := ws) h _ (by rw [hw]; exact List.mem_cons_self))
    cases hn.symm.trans hn9
    exact ⟨meth, c, h1, h2, h3, h4, h5, h6⟩
  · intro p e s m args below meth c s₁ B hml hP _
    have hh0 : s₁.heap = s.heap := by rw [B.state]; rfl
    obtain ⟨t, a1, o, b1, b2, b3⟩ := body p e s m args below meth c s₁ B hml hP s₁ hh0 (Stand.of_body B)
    exact ⟨t, o, a1, b1, b2, b3⟩
/-! ===== END ===== -/
/-! ===== BEGIN what the machine throws by itself, no traces kept ===== -/
section VXM
set_option maxHeartbeats 1000000 in
/-- the machine throws cls with the message text, no traces kept: from its note over the frame g to 'throwing' over the same frame (follows the proofs of Stand.vmThrowsMessage, Shelf/KitTracedVmS.lean, and Stand.throwsMessageColdBareV, StandMessageColdV.lean, without the step out of the frame) -/
theorem vx_vmAt {p : Program} {l : Launch} {e : Env} {R : Room} {s : State} {m₀ : MethodId} {args : Array Value} {below : List Frame} {meth : Method} {c : Code} {W : State} {locs : List Loc} {cells slots : Nat}
    (X : Stand p l e R s m₀ args below meth c W locs cells slots) (hexec : p.tables.exec = Jvm.exec) (htr : e.platform.stackTraces = false) {cls : String} {names : List String} {text : String}
    (hcls : Bundle.fit cls = true) (hnames : ∀ n ∈ names, Bundle.fit n = true) (hsoe : (cls == "java/lang/StackOverflowError") = false) (hoom : (cls == "java/lang/OutOfMemoryError") = false)
    (h : ∀ a ∈ Bundle.messageArmAtoms cls names, a.before args s = true)
    (hlocs : ∀ x ∈ locs, ∀ cell, s.heap[x.base]? = some cell → cell.vm.isStatics = false)
    (htext : (text == notModelled) = false) (hlimit : ¬ (stringBytes (stringToUtf16 text)).size > e.platform.arrayLengthLimit) (hheap : ¬ (stringBytes (stringToUtf16 text)).size * componentBytes .byte > e.platform.maxHeapBytes)
    {g : JFrame} (hg : g.method = m₀) (hsize : g.locals.size = c.maxLocals)
    (hRframes : names.length + 4 < R.frames) (hRlocals : 2 * g.monitorRoom + (g.stack.map fun v => v.category).sum + 10240 ≤ R.locals) (hshort : 13 * names.length + 55 ≤ 10240)
    (hRcells : cells + 3 ≤ R.cells) (hRslots : slots + ((stringBytes (stringToUtf16 text)).size + 4 + 6) ≤ R.slots) (hlocks : meth.locks = false) :
    ∃ (S : State) (q : Addr) (ce : Cell), (∀ target, Steps p.tables e below ((S.setTop g).pushFrame (.throwing q)) target → Steps p.tables e below ((W.setTop g).pushFrame (.throwNew cls (some text) none)) target) ∧
      Stand p l e R s m₀ args below meth c S locs (cells + 3) (slots + ((stringBytes (stringToUtf16 text)).size + 4 + 6)) ∧ S.heap[q]? = some ce ∧ s.vm.findClass cls = some ce.cls ∧ ce.vm = .none := by
  have howns : e.platform.frameOwnsMonitors = true := by rw [X.admits.platform]
  have hfin : e.platform.finalization = false := by rw [X.admits.platform]
  have hpl : e.platform.magicAccessors = ({} : Platform).magicAccessors := by rw [X.admits.platform]
  have a : ∀ x, x ∈ Bundle.messageArmAtoms cls names → x.holds args s none s [] = true := fun x hx => h x hx
  obtain ⟨T, Z0, L, -, Y⟩ := ThrowableC.of_atoms (args := args) howns hfin hpl (fun x hx => h x (by simp [Bundle.messageArmAtoms, hx]))
  obtain ⟨Z, M, LZ, LM, hnZ⟩ := Init0T.ofS_atoms (args := args) hpl L Y (fun x hx => h x (by simp [Bundle.messageArmAtoms, hx]))
  obtain ⟨P1, Ps, hlen, L1, hL, hP1m, hlink1, hlink⟩ := Bundle.chainS (args := args) hpl hnZ names cls hcls hnames (fun x hx => h x (by simp [Bundle.messageArmAtoms, hx]))
  obtain ⟨Zs, LZs, hn4, hfitv, hfitc⟩ := StringT.of_atoms (args := args) (fun x hx => h x (by simp [Bundle.messageArmAtoms, hx]))
  have hfound : s.vm.findClass cls = some P1.m.cls := findClass_of_methodNamed hP1m
  obtain ⟨c1, kX, hc1, hk, hord, -, -, hn6⟩ := Cond.instantiable_spec (a (.instantiable cls 6) (by simp [Bundle.messageArmAtoms]))
  cases Option.some.inj (hc1.symm.trans hfound)
  have hinit := Cond.initialized_spec hfound hk (a (.initialized cls) (by simp [Bundle.messageArmAtoms]))
  have hctor : kX.findMethod "<init>" "(Ljava/lang/String;)V" = some P1.m.idx := findMethod_of_methodNamed hP1m hk
  have hsel0 : selectMethod e.platform s.vm P1.m.cls T.fill0 = .method T.fill0 := by
    obtain ⟨c2, r2, m2, q1, q2, q3, q4, -⟩ := Cond.selects_spec (a (.selects cls Bundle.tFill0 Bundle.tFill0) (by simp [Bundle.messageArmAtoms]))
    cases Option.some.inj (q1.symm.trans hfound)
    cases Option.some.inj (q2.symm.trans (State.methodFound?_of_named Y.fill0 (by decide)))
    cases Option.some.inj (q3.symm.trans Y.fill0)
    rw [Launch.admits_selectMethod X.admits]; exact q4
  have hselF : selectMethod e.platform s.vm P1.m.cls T.fill = .method T.fill := by
    obtain ⟨c2, r2, m2, q1, q2, q3, q4, -⟩ := Cond.selects_spec (a (.selects cls Bundle.tFill Bundle.tFill) (by simp [Bundle.messageArmAtoms]))
    cases Option.some.inj (q1.symm.trans hfound)
    cases Option.some.inj (q2.symm.trans (State.methodFound?_of_named Y.fill (by decide)))
    cases Option.some.inj (q3.symm.trans Y.fill)
    rw [Launch.admits_selectMethod X.admits]; exact q4
  obtain ⟨cellS0, hcS0, hiss⟩ := Y.statics
  obtain ⟨u0, hu0⟩ := Cond.staticRefV Y.unassigned L.unassignedStatic L.statics hcS0 hiss (a (.isRef (.static Bundle.tN "UNASSIGNED_STACK" Bundle.steD)) (by simp [Bundle.messageArmAtoms]))
  obtain ⟨sen, hsen⟩ := Cond.staticRefV Y.sentinel L.sentinelStatic L.statics hcS0 hiss (a (.isRef (.static Bundle.tN "SUPPRESSED_SENTINEL" Bundle.listD)) (by simp [Bundle.messageArmAtoms]))
  obtain ⟨ci198, i198, fB, hk198, hg198, ha198, hsB, -, hnB, htB, hffB⟩ := Cond.ownField (t := .object "java/lang/Object") Y.found L.cls (by decide +kernel) (a (.fieldLink Bundle.tN 198 Bundle.tN "backtrace" "Ljava/lang/Object;") (by simp [Bundle.messageArmAtoms])) (a (.lays Bundle.tN Bundle.tN "backtrace" "Ljava/lang/Object;") (by simp [Bundle.messageArmAtoms])) e.platform hpl
  obtain ⟨cellS, hcS', heS, -, hkeep⟩ := X.same.2.2.2.2.2 T.aS cellS0 hcS0
  have hcellS : W.heap[T.aS]? = some cellS := hcS'
  have hout' : ∀ i, (⟨T.aS, i⟩ : Loc) ∉ locs := fun i hmem => by
    have := hlocs _ hmem cellS0 hcS0
    rw [hiss] at this; cases this
  have hknownS : cellS.vm ≠ .unknown := by
    rw [heS]; intro hu
    rw [show cellS0.vm = .unknown from hu] at hiss
    cases hiss
  have hvU : cellS.slots[T.fUnassigned.slot]? = some u0.v := by rw [hkeep _ (hout' _)]; exact hu0
  have hvSen : cellS.slots[T.fSentinel.slot]? = some sen.v := by rw [hkeep _ (hout' _)]; exact hsen
  obtain ⟨iM, hffM⟩ := Y.msg
  obtain ⟨tyC, dC, hdC, hdnC⟩ := Cond.laysAt hfound hk Y.cause (a (.lays cls Bundle.tN "cause" "Ljava/lang/Throwable;") (by simp [Bundle.messageArmAtoms]))
  obtain ⟨tyS, dS, hdS, hdnS⟩ := Cond.laysAt hfound hk Y.stack (a (.lays cls Bundle.tN "stackTrace" Bundle.steD) (by simp [Bundle.messageArmAtoms]))
  obtain ⟨tyP, dP, hdP, hdnP⟩ := Cond.laysAt hfound hk Y.supp (a (.lays cls Bundle.tN "suppressedExceptions" Bundle.listD) (by simp [Bundle.messageArmAtoms]))
  obtain ⟨tyM, dM, hdM, hdnM⟩ := Cond.laysAt hfound hk hffM (a (.lays cls Bundle.tN "detailMessage" "Ljava/lang/String;") (by simp [Bundle.messageArmAtoms]))
  obtain ⟨tyB, dB, hdB, hdnB⟩ := Cond.laysAt hfound hk hffB (a (.lays cls Bundle.tN "backtrace" "Ljava/lang/Object;") (by simp [Bundle.messageArmAtoms]))
  have bC := Cond.laysApart hdB hdC hdnB hdnC (by rw [hnB, Y.causeName]; decide)
  have bS := Cond.laysApart hdB hdS hdnB hdnS (by rw [hnB, Y.stackName]; decide)
  have bP := Cond.laysApart hdB hdP hdnB hdnP (by rw [hnB, Y.suppName]; decide)
  have hbk : ((preparedCellV T.toThrowableT (freshCell P1.m.cls kX) (W.heap.size + 2) u0 sen).withEntry W.cur).slots[fB.slot]? = some .null := by
    have := fresh_default (c := P1.m.cls) tyB
    rw [htB] at this
    simpa [preparedCellV, Cell.setSlot, Cell.withEntry, Array.getElem?_setIfInBounds, bC, bS, bP, bC.symm, bS.symm, bP.symm, defaultValue] using this
  have tkC := Takes.of_laid (v := .ref (W.heap.size + 2)) hk hord tyC (by rw [Y.causeType]; rfl)
  have tkS := Takes.of_laid (v := u0.v) hk hord tyS (by rw [Y.stackType]; exact fits_refV_array _ u0)
  have tkP := Takes.of_laid (v := sen.v) hk hord tyP (by rw [Y.suppType]; exact fits_refV_object _ sen)
  have tkM := Takes.of_laid (v := .ref (W.heap.size + 1)) hk hord tyM (by rw [Y.msgType]; rfl)
  have hskip : SkipFacts T e.platform s (fun u => u) u0 ((preparedCellV T.toThrowableT (freshCell P1.m.cls kX) (W.heap.size + 2) u0 sen).withEntry W.cur) := ⟨{ ci198 := ci198, i198 := i198, fBack := fB }, ⟨hk198, hg198, ha198, hsB⟩, hbk, fun _ _ => rfl⟩
  have h0 : At W g.method c below := by rw [hg]; exact X.here
  obtain ⟨hbeyond, hfreeW⟩ := X.vmMayThrow hsize (.throwNew cls (some text) none) (fun f hf => by cases hf) rfl hRlocals
  have hfr' : W.frames.length + Ps.length + 4 < (e.platform.stackLimits W.me).1 := by have := X.framesAbove hRframes; omega
  have hwd' : (stackUse (.java g :: W.frames.tail)).2 + 13 * Ps.length + 55 ≤ (e.platform.stackLimits W.me).2 := by have := X.stackAbove hsize (K := 13 * Ps.length + 55) (by omega); omega
  have hslots : W.slotsUsed + (stringBytes (stringToUtf16 text)).size + Zs.kS.instanceTypes.size + kX.instanceTypes.size ≤ e.platform.maxSlots := by
    have := X.slotsAbove hRslots
    rw [hn4, hn6]
    omega
  obtain ⟨vm', hW', st⟩ := Steps.vmThrowsMessageColdByV p (s₀ := s) (S := W) (g := g) h0 hexec T L Z LZ M LM X.warmed (t := W.cur) rfl Zs LZs P1 L1 Ps hL hlink1 hlink hsoe hoom hfound hk hinit hord hctor
    (Launch.admits_hotImplicitExceptions X.admits) hbeyond hfreeW htext hlimit hheap (X.cellsAbove hRcells) hslots (hfitv _) (hfitc _)
    (Nn := fun u => u) heapOnly_id (fun _ _ => rfl) (fun _ => rfl) (fun u x y => setCell_twice _ _ _ _) (fun _ => Nat.le_refl _) (cN := ((preparedCellV T.toThrowableT (freshCell P1.m.cls kX) (W.heap.size + 2) u0 sen).withEntry W.cur))
    hsel0 hcellS hknownS hvU tkS (fun _ hu => hu) (fun _ hu => hu) rfl rfl rfl (by simp [preparedCellV, Cell.setSlot, Cell.withEntry]) hskip (fun _ _ hA hW _ hroom _ hrest => L.nativeOff p htr hA hW hroom hrest) hselF hvSen tkC tkP tkM Y.objLocals rfl hfr' hwd'
  rw [plainBareV_eq T.toThrowableT (W.heap.size + 2) u0 sen (.ref (W.heap.size + 1)) W.cur rfl rfl] at st
  obtain ⟨-, -, w3, w4, -, -, -⟩ := withThrown_facts e.platform W Zs text P1.m.cls kX
  have X3 := ((X.pushed (bytesOf Zs.cB (stringToUtf16 text))).pushed (stringAt Zs.cS Zs.kS Zs.fv Zs.fc (stringToUtf16 text) W.heap.size)).pushed (freshCell P1.m.cls kX)
  rw [← withString_eq] at X3
  have X4 := X3.noted hW'
  have ha : (W.heap.size + 2) < ((withThrown W Zs text P1.m.cls kX).setVm vm').heap.size := by show _ < (withThrown W Zs text P1.m.cls kX).heap.size; rw [w3]; omega
  have hcell : ((withThrown W Zs text P1.m.cls kX).setVm vm').heap[(W.heap.size + 2)]? = some (freshCell P1.m.cls kX) := w4
  have X5 := ((((X4.stored hcell T.fCause.slot (.ref (W.heap.size + 2))).storedAgain ha T.fStack.slot u0.v).storedAgain ha T.fSupp.slot sen.v).storedAgain ha T.fStack.slot u0.v).storedAgain ha T.fMsg.slot (.ref (W.heap.size + 1))
  obtain ⟨g₁, hfrM⟩ := X5.frames_eq
  have hU : ((((withThrown W Zs text P1.m.cls kX).setVm vm').setCell (W.heap.size + 2) (plainBareV T.toThrowableT (freshCell P1.m.cls kX) (W.heap.size + 2) u0 sen (.ref (W.heap.size + 1)))).setTop g).pushFrame (.throwing (W.heap.size + 2)) = (((withThrown W Zs text P1.m.cls kX).setVm vm').setCell (W.heap.size + 2) (plainBareV T.toThrowableT (freshCell P1.m.cls kX) (W.heap.size + 2) u0 sen (.ref (W.heap.size + 1)))).setFrames (.throwing (W.heap.size + 2) :: .java g :: below) := by
    rw [State.pushFrame, State.frames_setTop _ hfrM, State.setTop_of_frames _ hfrM, State.setFrames_setFrames]
  have b1 : (bytesOf Zs.cB (stringToUtf16 text)).slots.size = (stringBytes (stringToUtf16 text)).size := by
    rw [(Cell.writeAll_facts _ _).2.2]; simp [bytes0]
  have b2 : (stringAt Zs.cS Zs.kS Zs.fv Zs.fc (stringToUtf16 text) W.heap.size).slots.size = 4 := by simp [string0, Cell.setSlot, hn4]
  have b3 : (freshCell P1.m.cls kX).slots.size = 6 := by simp [hn6]
  rw [b1, b2, b3] at X5
  have e9 : slots + (stringBytes (stringToUtf16 text)).size + 4 + 6 = slots + ((stringBytes (stringToUtf16 text)).size + 4 + 6) := by omega
  rw [e9] at X5
  simp only [List.append_assoc, List.cons_append, List.nil_append] at X5
  refine ⟨((withThrown W Zs text P1.m.cls kX).setVm vm').setCell (W.heap.size + 2) (plainBareV T.toThrowableT (freshCell P1.m.cls kX) (W.heap.size + 2) u0 sen (.ref (W.heap.size + 1))), W.heap.size + 2, _, fun target ht => st _ (by rw [X.tail, ← hU]; exact ht),
    X5.forget (fun y hy => ?_), heapAt_setCell_self _ ha, hfound, rfl⟩
  simp only [List.mem_cons, List.not_mem_nil, or_false] at hy
  have hge : s.heap.size ≤ W.heap.size := X.same.2.1
  rcases hy with rfl | rfl | rfl | rfl | rfl <;> exact Nat.le_trans hge (Nat.le_add_right _ 2)
set_option maxHeartbeats 1000000 in
/-- the machine throws NullPointerException, no traces kept: from its note over the frame g to 'throwing' over the same frame (follows the proof of Stand.vmThrowsNpe, Shelf42/KT2.lean; throwsNpeColdBareVAt, Shelf42/NT91.lean, called) -/
theorem vx_npeAt {p : Program} {l : Launch} {e : Env} {R : Room} {s : State} {m₀ : MethodId} {args : Array Value} {below : List Frame} {meth : Method} {c : Code} {W : State} {locs : List Loc} {cells slots : Nat}
    (X : Stand p l e R s m₀ args below meth c W locs cells slots) (hexec : p.tables.exec = Jvm.exec) (htr : e.platform.stackTraces = false) {n : Nat}
    (h : ∀ a ∈ Bundle.npeArmAtoms n, a.before args s = true)
    (hlocs : ∀ x ∈ locs, ∀ cell, s.heap[x.base]? = some cell → cell.vm.isStatics = false)
    {g : JFrame} (hg : g.method = m₀) (hsize : g.locals.size = c.maxLocals)
    (hRframes : 7 < R.frames) (hRlocals : 2 * g.monitorRoom + (g.stack.map fun v => v.category).sum + 10240 ≤ R.locals)
    (hRcells : cells + 1 ≤ R.cells) (hRslots : slots + n ≤ R.slots) (hlocks : meth.locks = false) :
    ∃ (S : State) (q : Addr) (ce : Cell), (∀ target, Steps p.tables e below ((S.setTop g).pushFrame (.throwing q)) target → Steps p.tables e below ((W.setTop g).pushFrame (.throwNew "java/lang/NullPointerException" none none)) target) ∧
      Stand p l e R s m₀ args below meth c S locs (cells + 1) (slots + n) ∧ S.heap[q]? = some ce ∧ s.vm.findClass "java/lang/NullPointerException" = some ce.cls ∧ ce.vm = .none := by
  have howns : e.platform.frameOwnsMonitors = true := by rw [X.admits.platform]
  have hfin : e.platform.finalization = false := by rw [X.admits.platform]
  have hpl : e.platform.magicAccessors = ({} : Platform).magicAccessors := by rw [X.admits.platform]
  have hpl2 : e.platform.arrayCloneIsPublic = true := by rw [X.admits.platform]
  have a' : ∀ x, x ∈ Bundle.npeArmAtoms n → x.holds args s none s [] = true := fun x hx => h x hx
  obtain ⟨T, Z, L, LZ, Y⟩ := ThrowableC.of_atoms (args := args) howns hfin hpl (fun x hx => h x (by simp [Bundle.npeArmAtoms, hx]))
  obtain ⟨N, LN, hcN, hnNF, hordN, hffS⟩ := NpeC.of_atoms (args := args) hpl hpl2 L Y (fun x hx => h x (by simp [Bundle.npeArmAtoms, hx]))
  obtain ⟨P1, L1, hP1m, hP1s⟩ := PassC.of_atoms (args := args) (s := s) hpl (X := Bundle.nN) (Y := Bundle.rN) (by decide) (by decide) LibCode.NullPointerException.Init0.at_0 LibCode.NullPointerException.Init0.at_1 LibCode.NullPointerException.Init0.at_4 (fun x hx => h x (by simp [Bundle.npeArmAtoms, hx]))
  obtain ⟨PR, LR, hPRm, hPRs⟩ := PassC.of_atoms (args := args) (s := s) hpl (X := Bundle.rN) (Y := Bundle.eN) (by decide) (by decide) LibCode.RuntimeException.Init0.at_0 LibCode.RuntimeException.Init0.at_1 LibCode.RuntimeException.Init0.at_4 (fun x hx => h x (by simp [Bundle.npeArmAtoms, hx]))
  obtain ⟨PE, LEx, hPEm, hPEs⟩ := PassC.of_atoms (args := args) (s := s) hpl (X := Bundle.eN) (Y := Bundle.tN) (by decide) (by decide) LibCode.Exception.Init0.at_0 LibCode.Exception.Init0.at_1 LibCode.Exception.Init0.at_4 (fun x hx => h x (by simp [Bundle.npeArmAtoms, hx]))
  have hfound : s.vm.findClass Bundle.nN = some P1.m.cls := findClass_of_methodNamed hP1m
  have ecls : N.cN = P1.m.cls := Option.some.inj (hcN.symm.trans hfound)
  have hk : s.vm.classes[P1.m.cls]? = some N.kN := by rw [← ecls]; exact LN.cls
  have hinit := Cond.initialized_spec hfound hk (a' (.initialized Bundle.nN) (by simp [Bundle.npeArmAtoms]))
  have hctor : N.kN.findMethod "<init>" "()V" = some P1.m.idx := findMethod_of_methodNamed hP1m hk
  obtain ⟨c1, k1, hc1, hk1, -, -, -, hn⟩ := Cond.instantiable_spec (a' (.instantiable Bundle.nN n) (by simp [Bundle.npeArmAtoms]))
  cases Option.some.inj (hc1.symm.trans hfound)
  cases Option.some.inj (hk1.symm.trans hk)
  have hfsz : (freshCell P1.m.cls N.kN).slots.size = n := by simp [hn]
  have hlink1 : P1.sup = PR.m := Option.some.inj (hP1s.symm.trans hPRm)
  have hlinkR : PR.sup = PE.m := Option.some.inj (hPRs.symm.trans hPEm)
  have hlinkE : PE.sup = Z.m T.toThrowableT := Option.some.inj (hPEs.symm.trans Y.init0)
  have hLs : ∀ P, P ∈ [PR, PE] → P.Links0 e.platform s := fun P hP => by
    simp only [List.mem_cons, List.not_mem_nil, or_false] at hP
    rcases hP with rfl | rfl
    · exact LR
    · exact LEx
  have hsel0 : selectMethod e.platform s.vm P1.m.cls T.fill0 = .method T.fill0 := by
    obtain ⟨c2, r2, m2, q1, q2, q3, q4, -⟩ := Cond.selects_spec (a' (.selects Bundle.nN Bundle.tFill0 Bundle.tFill0) (by simp [Bundle.npeArmAtoms]))
    cases Option.some.inj (q1.symm.trans hfound)
    cases Option.some.inj (q2.symm.trans (State.methodFound?_of_named Y.fill0 (by decide)))
    cases Option.some.inj (q3.symm.trans Y.fill0)
    rw [Launch.admits_selectMethod X.admits]; exact q4
  have hselF : selectMethod e.platform s.vm P1.m.cls T.fill = .method N.fill := by
    obtain ⟨c2, r2, m2, q1, q2, q3, q4, -⟩ := Cond.selects_spec (a' (.selects Bundle.nN Bundle.tFill Bundle.nFill) (by simp [Bundle.npeArmAtoms]))
    cases Option.some.inj (q1.symm.trans hfound)
    cases Option.some.inj (q2.symm.trans (State.methodFound?_of_named Y.fill (by decide)))
    cases Option.some.inj (q3.symm.trans hnNF)
    rw [Launch.admits_selectMethod X.admits]; exact q4
  obtain ⟨cellS0, hcS0, hiss⟩ := Y.statics
  obtain ⟨u0, hu0⟩ := Cond.staticRefV Y.unassigned L.unassignedStatic L.statics hcS0 hiss (a' (.isRef (.static Bundle.tN "UNASSIGNED_STACK" Bundle.steD)) (by simp [Bundle.npeArmAtoms]))
  obtain ⟨sen, hsen⟩ := Cond.staticRefV Y.sentinel L.sentinelStatic L.statics hcS0 hiss (a' (.isRef (.static Bundle.tN "SUPPRESSED_SENTINEL" Bundle.listD)) (by simp [Bundle.npeArmAtoms]))
  obtain ⟨ci198, i198, fB, hk198, hg198, ha198, hsB, -, hnB, htB, hffB⟩ := Cond.ownField (t := .object "java/lang/Object") Y.found L.cls (by decide +kernel) (a' (.fieldLink Bundle.tN 198 Bundle.tN "backtrace" Bundle.objD) (by simp [Bundle.npeArmAtoms])) (a' (.lays Bundle.tN Bundle.tN "backtrace" Bundle.objD) (by simp [Bundle.npeArmAtoms])) e.platform hpl
  obtain ⟨cellS, hcS', heS, -, hkeep⟩ := X.same.2.2.2.2.2 T.aS cellS0 hcS0
  have hcellS : W.heap[T.aS]? = some cellS := hcS'
  have hout' : ∀ i, (⟨T.aS, i⟩ : Loc) ∉ locs := fun i hmem => by
    have := hlocs _ hmem cellS0 hcS0
    rw [hiss] at this; cases this
  have hknownS : cellS.vm ≠ .unknown := by
    rw [heS]; intro hu
    rw [show cellS0.vm = .unknown from hu] at hiss
    cases hiss
  have hvU : cellS.slots[T.fUnassigned.slot]? = some u0.v := by rw [hkeep _ (hout' _)]; exact hu0
  have hvSen : cellS.slots[T.fSentinel.slot]? = some sen.v := by rw [hkeep _ (hout' _)]; exact hsen
  obtain ⟨tyC, dC, hdC, hdnC⟩ := Cond.laysAt hfound hk Y.cause (a' (.lays Bundle.nN Bundle.tN "cause" "Ljava/lang/Throwable;") (by simp [Bundle.npeArmAtoms]))
  obtain ⟨tyS, dS, hdS, hdnS⟩ := Cond.laysAt hfound hk Y.stack (a' (.lays Bundle.nN Bundle.tN "stackTrace" Bundle.steD) (by simp [Bundle.npeArmAtoms]))
  obtain ⟨tyP, dP, hdP, hdnP⟩ := Cond.laysAt hfound hk Y.supp (a' (.lays Bundle.nN Bundle.tN "suppressedExceptions" Bundle.listD) (by simp [Bundle.npeArmAtoms]))
  obtain ⟨tyX, dX, hdX, hdnX⟩ := Cond.laysAt hfound hk hffS (a' (.lays Bundle.nN Bundle.nN "extendedMessageState" "I") (by simp [Bundle.npeArmAtoms, Bundle.npeAtoms]))
  obtain ⟨hnX, htX⟩ := State.fieldFound?_type hffS (t := .int) (by decide +kernel)
  have xC := Cond.laysApart hdC hdX hdnC hdnX (by rw [hnX, Y.causeName]; decide)
  have xS := Cond.laysApart hdS hdX hdnS hdnX (by rw [hnX, Y.stackName]; decide)
  have xP := Cond.laysApart hdP hdX hdnP hdnX (by rw [hnX, Y.suppName]; decide)
  have hv0 : (freshCell P1.m.cls N.kN).slots[N.fState.slot]? = some (.int 0) := by
    have := fresh_default (c := P1.m.cls) tyX
    rw [htX] at this; exact this
  obtain ⟨tyB, dB, hdB, hdnB⟩ := Cond.laysAt hfound hk hffB (a' (.lays Bundle.nN Bundle.tN "backtrace" Bundle.objD) (by simp [Bundle.npeArmAtoms]))
  have bC := Cond.laysApart hdB hdC hdnB hdnC (by rw [hnB, Y.causeName]; decide)
  have bS := Cond.laysApart hdB hdS hdnB hdnS (by rw [hnB, Y.stackName]; decide)
  have bP := Cond.laysApart hdB hdP hdnB hdnP (by rw [hnB, Y.suppName]; decide)
  have bX := Cond.laysApart hdB hdX hdnB hdnX (by rw [hnB, hnX]; decide)
  have hbk : ((npeCell N.toNpeT (preparedCellV T.toThrowableT (freshCell P1.m.cls N.kN) W.heap.size u0 sen) W.cur).withEntry W.cur).slots[fB.slot]? = some .null := by
    have := fresh_default (c := P1.m.cls) tyB
    rw [htB] at this
    simpa [npeCell, preparedCellV, Cell.setSlot, Cell.withEntry, Array.getElem?_setIfInBounds, bC, bS, bP, bX, bC.symm, bS.symm, bP.symm, bX.symm, defaultValue] using this
  have tkC := Takes.of_laid (v := .ref W.heap.size) hk hordN tyC (by rw [Y.causeType]; rfl)
  have tkS := Takes.of_laid (v := u0.v) hk hordN tyS (by rw [Y.stackType]; exact fits_refV_array _ u0)
  have tkP := Takes.of_laid (v := sen.v) hk hordN tyP (by rw [Y.suppType]; exact fits_refV_object _ sen)
  have tkX := Takes.of_laid (v := .int 1) hk hordN tyX (by rw [htX]; rfl)
  have hskip : SkipFacts T e.platform s (fun u => u) u0 ((npeCell N.toNpeT (preparedCellV T.toThrowableT (freshCell P1.m.cls N.kN) W.heap.size u0 sen) W.cur).withEntry W.cur) := ⟨{ ci198 := ci198, i198 := i198, fBack := fB }, ⟨hk198, hg198, ha198, hsB⟩, hbk, fun _ _ => rfl⟩
  obtain ⟨vm', X3, st, -⟩ := X.throwsNpeColdBareVAt hexec hg hsize T L Z LZ N LN P1 L1 [PR, PE] hLs hlink1 ⟨hlinkR, hlinkE, trivial⟩ hfound hk hinit hordN hctor hsel0 hselF hcellS hknownS hvU hvSen
    hv0 xC xS xP tkC tkS tkP tkX Y.objLocals hskip (fun _ _ hA hW _ hroom _ hrest => L.nativeOff p htr hA hW hroom hrest) (by simpa using hRframes) hRlocals (by simp) hRcells (by rw [hn]; exact hRslots)
  have hlt : W.heap.size < ((W.pushCell (freshCell P1.m.cls N.kN)).setVm vm').heap.size := by
    show W.heap.size < (W.pushCell (freshCell P1.m.cls N.kN)).heap.size
    rw [State.heap_size_pushCell]; omega
  rw [hfsz] at X3
  obtain ⟨g₁, hfrM⟩ := X3.frames_eq
  have hU : ((((W.pushCell (freshCell P1.m.cls N.kN)).setVm vm').setCell W.heap.size (npeBareV T.toThrowableT N.toNpeT (freshCell P1.m.cls N.kN) W.heap.size u0 sen)).setTop g).pushFrame (.throwing W.heap.size) = (((W.pushCell (freshCell P1.m.cls N.kN)).setVm vm').setCell W.heap.size (npeBareV T.toThrowableT N.toNpeT (freshCell P1.m.cls N.kN) W.heap.size u0 sen)).setFrames (.throwing W.heap.size :: .java g :: below) := by
    rw [State.pushFrame, State.frames_setTop _ hfrM, State.setTop_of_frames _ hfrM, State.setFrames_setFrames]
  refine ⟨_, W.heap.size, _, fun target ht => st.trans (by rw [← hU]; exact ht), X3.forget (fun y hy => ?_), heapAt_setCell_self _ hlt, hfound, rfl⟩
  simp only [List.mem_cons, List.not_mem_nil, or_false] at hy
  have hge : s.heap.size ≤ W.heap.size := X.same.2.1
  rcases hy with rfl | rfl | rfl | rfl | rfl <;> exact hge
/-- the words of a machine's NullPointerException, but the four that speak of the heap -/
def vx_atN (n : Nat) : List Cond := (Bundle.npeArmAtoms n).filter vx_no
/-- the words of a machine's throw with a message, but the four that speak of the heap -/
def vx_atM (X : String) (names : List String) : List Cond := (Bundle.messageArmAtoms X names).filter vx_no
section
variable {p : Program} {l : Launch} {e : Env} {R : Room} {s : State} {m : MethodId} {args : Array Value} {below : List Frame} {meth : Method} {c : Code} {H : Heap} {locs : List Loc} {cells slots : Nat}
/-- a frame seen from a rebased start, seen from the first start again -/
theorem vx_back9 {T S : State} {R' : Room} {k n : Nat} (X : Stand p l e R s m args below meth c T locs cells slots) (Y : Stand p l e R' ((T.setVm s.vm).setFrames (.invoking m args :: below)) m args below meth c T [] 0 0) (Z : Stand p l e R' ((T.setVm s.vm).setFrames (.invoking m args :: below)) m args below meth c S [] k n) :
    Stand p l e R s m args below meth c S locs (cells + k) (slots + n) := by
  have hW0 : s.WarmedH ((T.setVm s.vm).setFrames (.invoking m args :: below)).vm := State.WarmedH.refl s
  refine { admits := X.admits, cas := X.cas, clock := X.clock, frames := X.frames, room := X.room, hears := X.hears, method := X.method, code := X.code, here := Z.here, tail := Z.tail, warmed := State.WarmedH.trans hW0 Z.warmed, limits := Z.limits.trans (Y.limits.symm.trans X.limits), bytes := Z.bytes.trans (Y.bytes.symm.trans X.bytes), same := ?_ }
  obtain ⟨e1, e2⟩ := Z.same
  rw [State.setFrames_setFrames] at e1
  have h2 : (T.setVm s.vm).sameButNew (S.setVm s.vm) [] k n := ⟨e1, e2⟩
  have h3 := X.same.trans h2
  rw [List.append_nil] at h3
  exact h3
/-- from the machine's note that E is thrown here with this text -/
def vx_Note (p : Program) (l : Launch) (e : Env) (R : Room) (s : State) (m : MethodId) (args : Array Value) (below : List Frame) (meth : Method) (c : Code) (H : Heap) (locs : List Loc) (cells slots : Nat) (Q : State → Prop) (g : JFrame) (E text : String) : Prop :=
  ∀ T : State, T.heap = H → Stand p l e R s m args below meth c T locs cells slots → ∃ t, Steps p.tables e below ((T.setTop g).pushFrame (.throwNew E (some text) none)) t ∧ Q t
theorem vx_vm {pc : Nat} {ls : Array Slot} {rest : List Value} {Q : State → Prop} (hexec : p.tables.exec = Jvm.exec) (hl : l.stackTraces = false) {cls text : String} {names : List String} {nb : Nat} {A : Nat → Prop}
    (hcls : Bundle.fit cls = true) (hnames : ∀ n ∈ names, Bundle.fit n = true) (hsoe : (cls == "java/lang/StackOverflowError") = false) (hoom : (cls == "java/lang/OutOfMemoryError") = false)
    (hat : ∀ w ∈ vx_atM cls names, w.before args s = true) (hgood : ∀ w ∈ vx_atM cls names, vx_ot w = true)
    (hU : vx_Zq Bundle.tN "UNASSIGNED_STACK" Bundle.steD A s s.heap) (hN : vx_Zq Bundle.tN "SUPPRESSED_SENTINEL" Bundle.listD A s s.heap) (hS : va_S A s.heap H locs) (hsize : ls.size = c.maxLocals)
    (htext : (text == notModelled) = false) (hnb : (stringBytes (stringToUtf16 text)).size ≤ nb) (hnb1 : nb ≤ 1000)
    (hRframes : names.length + 4 < R.frames) (hRlocals : (rest.map fun v => v.category).sum + 10240 ≤ R.locals) (hshort : 13 * names.length + 55 ≤ 10240) (hRcells : cells + 3 ≤ R.cells) (hRslots : slots + (nb + 10) ≤ R.slots) (hlocks : meth.locks = false)
    (k : ∀ (H1 : Heap) (q9 : Addr) (ce : Cell), H.size ≤ H1.size → (∀ q : Nat, q < H.size → H1[q]? = H[q]?) → va_S A s.heap H1 locs → H1[q9]? = some ce → ce.vm = .none → s.vm.findClass cls = some ce.cls → vx_W p l e R s m args below meth c H1 locs (cells + 3) (slots + (nb + 10)) Q (F0 m pc ls rest) q9) :
    vx_Note p l e R s m args below meth c H locs cells slots Q (F0 m pc ls rest) cls text := by
  intro T hT X
  have htr : e.platform.stackTraces = false := (show e.platform.stackTraces = l.stackTraces by rw [X.admits.platform]).trans hl
  have Y := vx_rebase X (R' := { frames := R.frames, locals := R.locals, cells := 3, slots := nb + 10 }) (Nat.le_refl _) (Nat.le_refl _) hRcells hRslots
  have hhp : ((T.setVm s.vm).setFrames (.invoking m args :: below)).heap = H := hT
  have hW0 : s.WarmedH ((T.setVm s.vm).setFrames (.invoking m args :: below)).vm := State.WarmedH.refl s
  have hat' : ∀ w ∈ vx_atM cls names, w.before args ((T.setVm s.vm).setFrames (.invoking m args :: below)) = true := fun w hw => vx_ot_at hW0 rfl (hgood w hw) (hat w hw)
  have hU' : vx_Zq Bundle.tN "UNASSIGNED_STACK" Bundle.steD A ((T.setVm s.vm).setFrames (.invoking m args :: below)) ((T.setVm s.vm).setFrames (.invoking m args :: below)).heap := by rw [hhp]; exact vx_Zq.moved hW0.alike (hU.kept hS.2.1)
  have hN' : vx_Zq Bundle.tN "SUPPRESSED_SENTINEL" Bundle.listD A ((T.setVm s.vm).setFrames (.invoking m args :: below)) ((T.setVm s.vm).setFrames (.invoking m args :: below)).heap := by rw [hhp]; exact vx_Zq.moved hW0.alike (hN.kept hS.2.1)
  obtain ⟨S, q, ce, st, Z, hce, hcl', hv⟩ := vx_vmAt Y hexec htr (cls := cls) (names := names) (text := text) hcls hnames hsoe hoom (vx_own hat' (vx_isRefq hU'.1) (vx_isRefq hN'.1) hU'.2.word hN'.2.word) (fun x hx => nomatch hx) htext
    (by rw [Launch.admits_arrayLengthLimit X.admits]; omega) (by rw [Launch.admits_maxHeapBytes X.admits]; simp only [componentBytes]; omega)
    (g := F0 m pc ls rest) rfl hsize hRframes (by show 2 * 0 + (rest.map fun v => v.category).sum + 10240 ≤ R.locals; omega) hshort (by show 0 + 3 ≤ 3; omega) (by show 0 + (_ + 4 + 6) ≤ nb + 10; omega) hlocks
  obtain ⟨f1, f2⟩ := vx_frame Z.same
  have f1' : H.size ≤ S.heap.size := by rw [← hT]; exact f1
  have f2' : ∀ q : Nat, q < H.size → S.heap[q]? = H[q]? := fun q hq => by
    rw [← hT]
    exact f2 q (by rw [← hT] at hq; exact hq) (fun z hz => nomatch hz)
  have X5 := vx_back9 X Y Z
  have X6 : Stand p l e R s m args below meth c S locs (cells + 3) (slots + (nb + 10)) := { X5 with same := X5.same.mono (by omega) (by omega) }
  obtain ⟨t, a1, b1⟩ := k S.heap q ce f1' f2' ⟨Nat.le_trans hS.1 f1', fun q h1 h2 => (f2' q (Nat.lt_of_lt_of_le h1 hS.1)).trans (hS.2.1 q h1 h2), hS.2.2⟩ hce hv hcl' S rfl X6
  exact ⟨t, st t a1, b1⟩
/-- from the machine's note that NullPointerException is thrown here -/
def vx_NoteN (p : Program) (l : Launch) (e : Env) (R : Room) (s : State) (m : MethodId) (args : Array Value) (below : List Frame) (meth : Method) (c : Code) (H : Heap) (locs : List Loc) (cells slots : Nat) (Q : State → Prop) (g : JFrame) : Prop :=
  ∀ T : State, T.heap = H → Stand p l e R s m args below meth c T locs cells slots → ∃ t, Steps p.tables e below ((T.setTop g).pushFrame (.throwNew "java/lang/NullPointerException" none none)) t ∧ Q t
theorem vx_npe {pc : Nat} {ls : Array Slot} {rest : List Value} {Q : State → Prop} (hexec : p.tables.exec = Jvm.exec) (hl : l.stackTraces = false) {nb : Nat} {A : Nat → Prop}
    (hat : ∀ w ∈ vx_atN nb, w.before args s = true) (hgood : ∀ w ∈ vx_atN nb, vx_ot w = true)
    (hU : vx_Zq Bundle.tN "UNASSIGNED_STACK" Bundle.steD A s s.heap) (hN : vx_Zq Bundle.tN "SUPPRESSED_SENTINEL" Bundle.listD A s s.heap) (hS : va_S A s.heap H locs) (hsize : ls.size = c.maxLocals)
    (hRframes : 7 < R.frames) (hRlocals : (rest.map fun v => v.category).sum + 10240 ≤ R.locals) (hRcells : cells + 1 ≤ R.cells) (hRslots : slots + nb ≤ R.slots) (hlocks : meth.locks = false)
    (k : ∀ (H1 : Heap) (q9 : Addr) (ce : Cell), H.size ≤ H1.size → (∀ q : Nat, q < H.size → H1[q]? = H[q]?) → va_S A s.heap H1 locs → H1[q9]? = some ce → ce.vm = .none → s.vm.findClass "java/lang/NullPointerException" = some ce.cls → vx_W p l e R s m args below meth c H1 locs (cells + 1) (slots + nb) Q (F0 m pc ls rest) q9) :
    vx_NoteN p l e R s m args below meth c H locs cells slots Q (F0 m pc ls rest) := by
  intro T hT X
  have htr : e.platform.stackTraces = false := (show e.platform.stackTraces = l.stackTraces by rw [X.admits.platform]).trans hl
  have Y := vx_rebase X (R' := { frames := R.frames, locals := R.locals, cells := 1, slots := nb }) (Nat.le_refl _) (Nat.le_refl _) hRcells hRslots
  have hhp : ((T.setVm s.vm).setFrames (.invoking m args :: below)).heap = H := hT
  have hW0 : s.WarmedH ((T.setVm s.vm).setFrames (.invoking m args :: below)).vm := State.WarmedH.refl s
  have hat' : ∀ w ∈ vx_atN nb, w.before args ((T.setVm s.vm).setFrames (.invoking m args :: below)) = true := fun w hw => vx_ot_at hW0 rfl (hgood w hw) (hat w hw)
  have hU' : vx_Zq Bundle.tN "UNASSIGNED_STACK" Bundle.steD A ((T.setVm s.vm).setFrames (.invoking m args :: below)) ((T.setVm s.vm).setFrames (.invoking m args :: below)).heap := by rw [hhp]; exact vx_Zq.moved hW0.alike (hU.kept hS.2.1)
  have hN' : vx_Zq Bundle.tN "SUPPRESSED_SENTINEL" Bundle.listD A ((T.setVm s.vm).setFrames (.invoking m args :: below)) ((T.setVm s.vm).setFrames (.invoking m args :: below)).heap := by rw [hhp]; exact vx_Zq.moved hW0.alike (hN.kept hS.2.1)
  obtain ⟨S, q, ce, st, Z, hce, hcl', hv⟩ := vx_npeAt Y hexec htr (n := nb) (vx_own hat' (vx_isRefq hU'.1) (vx_isRefq hN'.1) hU'.2.word hN'.2.word) (fun x hx => nomatch hx)
    (g := F0 m pc ls rest) rfl hsize hRframes (by show 2 * 0 + (rest.map fun v => v.category).sum + 10240 ≤ R.locals; omega) (by show 0 + 1 ≤ 1; omega) (by show 0 + nb ≤ nb; omega) hlocks
  obtain ⟨f1, f2⟩ := vx_frame Z.same
  have f1' : H.size ≤ S.heap.size := by rw [← hT]; exact f1
  have f2' : ∀ q : Nat, q < H.size → S.heap[q]? = H[q]? := fun q hq => by
    rw [← hT]
    exact f2 q (by rw [← hT] at hq; exact hq) (fun z hz => nomatch hz)
  have X5 := vx_back9 X Y Z
  have X6 : Stand p l e R s m args below meth c S locs (cells + 1) (slots + nb) := { X5 with same := X5.same.mono (by omega) (by omega) }
  obtain ⟨t, a1, b1⟩ := k S.heap q ce f1' f2' ⟨Nat.le_trans hS.1 f1', fun q h1 h2 => (f2' q (Nat.lt_of_lt_of_le h1 hS.1)).trans (hS.2.1 q h1 h2), hS.2.2⟩ hce hv hcl' S rfl X6
  exact ⟨t, st t a1, b1⟩
variable {Q : State → Prop} {cc : ByteArray} {pc : Nat} {ls : Array Slot} {rest : List Value}
theorem vx_idivZ (hexec : p.tables.exec = Jvm.exec) (hb : c.code = cc) {a b : Int32} (h0 : b = 0) (d : decode cc pc = .ok (.idiv, 1)) (k : vx_Note p l e R s m args below meth c H locs cells slots Q (F0 m pc ls rest) "java/lang/ArithmeticException" "/ by zero") :
    W p l e R s m args below meth c H locs cells slots Q (F0 m pc ls (.int b :: .int a :: rest)) := by
  intro T hT X
  obtain ⟨t, st, q⟩ := k T hT X
  exact ⟨t, X.idivZero hexec (g := F0 m pc ls (.int b :: .int a :: rest)) rfl (a := a) (rest := rest) (by rw [h0]) (by rw [hb]; exact d) t st, q⟩
theorem vx_iremZ (hexec : p.tables.exec = Jvm.exec) (hb : c.code = cc) {a b : Int32} (h0 : b = 0) (d : decode cc pc = .ok (.irem, 1)) (k : vx_Note p l e R s m args below meth c H locs cells slots Q (F0 m pc ls rest) "java/lang/ArithmeticException" "/ by zero") :
    W p l e R s m args below meth c H locs cells slots Q (F0 m pc ls (.int b :: .int a :: rest)) := by
  intro T hT X
  obtain ⟨t, st, q⟩ := k T hT X
  exact ⟨t, X.iremZero hexec (g := F0 m pc ls (.int b :: .int a :: rest)) rfl (a := a) (rest := rest) (by rw [h0]) (by rw [hb]; exact d) t st, q⟩
theorem vx_ldivZ (hexec : p.tables.exec = Jvm.exec) (hb : c.code = cc) {a b : Int64} (h0 : b = 0) (d : decode cc pc = .ok (.ldiv, 1)) (k : vx_Note p l e R s m args below meth c H locs cells slots Q (F0 m pc ls rest) "java/lang/ArithmeticException" "/ by zero") :
    W p l e R s m args below meth c H locs cells slots Q (F0 m pc ls (.long b :: .long a :: rest)) := by
  intro T hT X
  obtain ⟨t, st, q⟩ := k T hT X
  exact ⟨t, X.ldivZero hexec (g := F0 m pc ls (.long b :: .long a :: rest)) rfl (a := a) (rest := rest) (by rw [h0]) (by rw [hb]; exact d) t st, q⟩
theorem vx_lremZ (hexec : p.tables.exec = Jvm.exec) (hb : c.code = cc) {a b : Int64} (h0 : b = 0) (d : decode cc pc = .ok (.lrem, 1)) (k : vx_Note p l e R s m args below meth c H locs cells slots Q (F0 m pc ls rest) "java/lang/ArithmeticException" "/ by zero") :
    W p l e R s m args below meth c H locs cells slots Q (F0 m pc ls (.long b :: .long a :: rest)) := by
  intro T hT X
  obtain ⟨t, st, q⟩ := k T hT X
  exact ⟨t, X.lremZero hexec (g := F0 m pc ls (.long b :: .long a :: rest)) rfl (a := a) (rest := rest) (by rw [h0]) (by rw [hb]; exact d) t st, q⟩
theorem vx_ialdZ {D : va_G} {cl : List vw_C} {ws : va_W} {tys : List (ClassId × FieldType)} {a : Nat} (hexec : p.tables.exec = Jvm.exec) (hb : c.code = cc) (hK : va_K D cl tys s) (hP : va_P D cl ws H) (q0 t0 : Nat) {cA : ClassId} {n : Nat} {f : Nat → Int32} (ha : ws[q0]? = some (a, .inl (cA, n, .inl f))) (ht : tys[t0]? = some (cA, .int)) {i : Int32} (hout : ¬ vp_in i n) (hdg : decode cc pc = .ok (.iaload, 1))
    (k : ∀ tx : String, tx = (toString "Index " ++ toString i ++ toString " out of bounds for length " ++ toString n : String) → vx_Note p l e R s m args below meth c H locs cells slots Q (F0 m pc ls rest) "java/lang/ArrayIndexOutOfBoundsException" tx) : W p l e R s m args below meth c H locs cells slots Q (F0 m pc ls (.int i :: .ref a :: rest)) := by
  intro T hT X
  obtain ⟨t, st, q⟩ := k _ rfl T hT X
  refine ⟨t, ?_, q⟩
  have h1 := X.ialoadOut hexec (by rw [hT]; exact hP q0 _ ha) ((hK.2 t0 _ ht).1 n (fun j => .int (f j))) (j := i) (by show (i < 0 ∨ (arrV _ _ _).slots.size ≤ _); rw [arrV_size]; exact Classical.byContradiction hout) (g := F0 m pc ls (.int i :: .ref a :: rest)) rfl (rest := rest) rfl (by rw [hb]; exact hdg) t
  simp only [arrV_size] at h1
  exact h1 st
theorem vx_iastZ {D : va_G} {cl : List vw_C} {ws : va_W} {tys : List (ClassId × FieldType)} {a : Nat} (hexec : p.tables.exec = Jvm.exec) (hb : c.code = cc) (hK : va_K D cl tys s) (hP : va_P D cl ws H) (q0 t0 : Nat) {cA : ClassId} {n : Nat} {f : Nat → Int32} (ha : ws[q0]? = some (a, .inl (cA, n, .inl f))) (ht : tys[t0]? = some (cA, .int)) {i : Int32} {x : Int32} (hout : ¬ vp_in i n) (hdg : decode cc pc = .ok (.iastore, 1))
    (k : ∀ tx : String, tx = (toString "Index " ++ toString i ++ toString " out of bounds for length " ++ toString n : String) → vx_Note p l e R s m args below meth c H locs cells slots Q (F0 m pc ls rest) "java/lang/ArrayIndexOutOfBoundsException" tx) : W p l e R s m args below meth c H locs cells slots Q (F0 m pc ls (.int x :: .int i :: .ref a :: rest)) := by
  intro T hT X
  obtain ⟨t, st, q⟩ := k _ rfl T hT X
  refine ⟨t, ?_, q⟩
  have h1 := X.iastoreOut hexec (by rw [hT]; exact hP q0 _ ha) ((hK.2 t0 _ ht).1 n (fun j => .int (f j))) (j := i) (by show (i < 0 ∨ (arrV _ _ _).slots.size ≤ _); rw [arrV_size]; exact Classical.byContradiction hout) (g := F0 m pc ls (.int x :: .int i :: .ref a :: rest)) rfl (rest := rest) rfl (by rw [hb]; exact hdg) t
  simp only [arrV_size] at h1
  exact h1 st
theorem vx_baldZ {D : va_G} {cl : List vw_C} {ws : va_W} {tys : List (ClassId × FieldType)} {a : Nat} (hexec : p.tables.exec = Jvm.exec) (hb : c.code = cc) (hK : va_K D cl tys s) (hP : va_P D cl ws H) (q0 t0 : Nat) {cA : ClassId} {n : Nat} {f : Nat → Int32} (ha : ws[q0]? = some (a, .inl (cA, n, .inl f))) (ht : tys[t0]? = some (cA, .byte)) {i : Int32} (hout : ¬ vp_in i n) (hdg : decode cc pc = .ok (.baload, 1))
    (k : ∀ tx : String, tx = (toString "Index " ++ toString i ++ toString " out of bounds for length " ++ toString n : String) → vx_Note p l e R s m args below meth c H locs cells slots Q (F0 m pc ls rest) "java/lang/ArrayIndexOutOfBoundsException" tx) : W p l e R s m args below meth c H locs cells slots Q (F0 m pc ls (.int i :: .ref a :: rest)) := by
  intro T hT X
  obtain ⟨t, st, q⟩ := k _ rfl T hT X
  refine ⟨t, ?_, q⟩
  have h1 := X.baloadOut hexec (by rw [hT]; exact hP q0 _ ha) ((hK.2 t0 _ ht).1 n (fun j => .int (f j))) (j := i) (by show (i < 0 ∨ (arrV _ _ _).slots.size ≤ _); rw [arrV_size]; exact Classical.byContradiction hout) (g := F0 m pc ls (.int i :: .ref a :: rest)) rfl (rest := rest) rfl (by rw [hb]; exact hdg) t
  simp only [arrV_size] at h1
  exact h1 st
theorem vx_bastZ {D : va_G} {cl : List vw_C} {ws : va_W} {tys : List (ClassId × FieldType)} {a : Nat} (hexec : p.tables.exec = Jvm.exec) (hb : c.code = cc) (hK : va_K D cl tys s) (hP : va_P D cl ws H) (q0 t0 : Nat) {cA : ClassId} {n : Nat} {f : Nat → Int32} (ha : ws[q0]? = some (a, .inl (cA, n, .inl f))) (ht : tys[t0]? = some (cA, .byte)) {i : Int32} {x : Int32} (hout : ¬ vp_in i n) (hdg : decode cc pc = .ok (.bastore, 1))
    (k : ∀ tx : String, tx = (toString "Index " ++ toString i ++ toString " out of bounds for length " ++ toString n : String) → vx_Note p l e R s m args below meth c H locs cells slots Q (F0 m pc ls rest) "java/lang/ArrayIndexOutOfBoundsException" tx) : W p l e R s m args below meth c H locs cells slots Q (F0 m pc ls (.int x :: .int i :: .ref a :: rest)) := by
  intro T hT X
  obtain ⟨t, st, q⟩ := k _ rfl T hT X
  refine ⟨t, ?_, q⟩
  have h1 := X.bastoreOut hexec (by rw [hT]; exact hP q0 _ ha) ((hK.2 t0 _ ht).1 n (fun j => .int (f j))) (j := i) (by show (i < 0 ∨ (arrV _ _ _).slots.size ≤ _); rw [arrV_size]; exact Classical.byContradiction hout) (g := F0 m pc ls (.int x :: .int i :: .ref a :: rest)) rfl (rest := rest) rfl (by rw [hb]; exact hdg) t
  simp only [arrV_size] at h1
  exact h1 st
theorem vx_zaldZ {D : va_G} {cl : List vw_C} {ws : va_W} {tys : List (ClassId × FieldType)} {a : Nat} (hexec : p.tables.exec = Jvm.exec) (hb : c.code = cc) (hK : va_K D cl tys s) (hP : va_P D cl ws H) (q0 t0 : Nat) {cA : ClassId} {n : Nat} {f : Nat → Int32} (ha : ws[q0]? = some (a, .inl (cA, n, .inl f))) (ht : tys[t0]? = some (cA, .boolean)) {i : Int32} (hout : ¬ vp_in i n) (hdg : decode cc pc = .ok (.baload, 1))
    (k : ∀ tx : String, tx = (toString "Index " ++ toString i ++ toString " out of bounds for length " ++ toString n : String) → vx_Note p l e R s m args below meth c H locs cells slots Q (F0 m pc ls rest) "java/lang/ArrayIndexOutOfBoundsException" tx) : W p l e R s m args below meth c H locs cells slots Q (F0 m pc ls (.int i :: .ref a :: rest)) := by
  intro T hT X
  obtain ⟨t, st, q⟩ := k _ rfl T hT X
  refine ⟨t, ?_, q⟩
  have h1 := X.baloadOut hexec (by rw [hT]; exact hP q0 _ ha) ((hK.2 t0 _ ht).1 n (fun j => .int (f j))) (j := i) (by show (i < 0 ∨ (arrV _ _ _).slots.size ≤ _); rw [arrV_size]; exact Classical.byContradiction hout) (g := F0 m pc ls (.int i :: .ref a :: rest)) rfl (rest := rest) rfl (by rw [hb]; exact hdg) t
  simp only [arrV_size] at h1
  exact h1 st
theorem vx_zastZ {D : va_G} {cl : List vw_C} {ws : va_W} {tys : List (ClassId × FieldType)} {a : Nat} (hexec : p.tables.exec = Jvm.exec) (hb : c.code = cc) (hK : va_K D cl tys s) (hP : va_P D cl ws H) (q0 t0 : Nat) {cA : ClassId} {n : Nat} {f : Nat → Int32} (ha : ws[q0]? = some (a, .inl (cA, n, .inl f))) (ht : tys[t0]? = some (cA, .boolean)) {i : Int32} {x : Int32} (hout : ¬ vp_in i n) (hdg : decode cc pc = .ok (.bastore, 1))
    (k : ∀ tx : String, tx = (toString "Index " ++ toString i ++ toString " out of bounds for length " ++ toString n : String) → vx_Note p l e R s m args below meth c H locs cells slots Q (F0 m pc ls rest) "java/lang/ArrayIndexOutOfBoundsException" tx) : W p l e R s m args below meth c H locs cells slots Q (F0 m pc ls (.int x :: .int i :: .ref a :: rest)) := by
  intro T hT X
  obtain ⟨t, st, q⟩ := k _ rfl T hT X
  refine ⟨t, ?_, q⟩
  have h1 := X.bastoreOut hexec (by rw [hT]; exact hP q0 _ ha) ((hK.2 t0 _ ht).1 n (fun j => .int (f j))) (j := i) (by show (i < 0 ∨ (arrV _ _ _).slots.size ≤ _); rw [arrV_size]; exact Classical.byContradiction hout) (g := F0 m pc ls (.int x :: .int i :: .ref a :: rest)) rfl (rest := rest) rfl (by rw [hb]; exact hdg) t
  simp only [arrV_size] at h1
  exact h1 st
theorem vx_caldZ {D : va_G} {cl : List vw_C} {ws : va_W} {tys : List (ClassId × FieldType)} {a : Nat} (hexec : p.tables.exec = Jvm.exec) (hb : c.code = cc) (hK : va_K D cl tys s) (hP : va_P D cl ws H) (q0 t0 : Nat) {cA : ClassId} {n : Nat} {f : Nat → Int32} (ha : ws[q0]? = some (a, .inl (cA, n, .inl f))) (ht : tys[t0]? = some (cA, .char)) {i : Int32} (hout : ¬ vp_in i n) (hdg : decode cc pc = .ok (.caload, 1))
    (k : ∀ tx : String, tx = (toString "Index " ++ toString i ++ toString " out of bounds for length " ++ toString n : String) → vx_Note p l e R s m args below meth c H locs cells slots Q (F0 m pc ls rest) "java/lang/ArrayIndexOutOfBoundsException" tx) : W p l e R s m args below meth c H locs cells slots Q (F0 m pc ls (.int i :: .ref a :: rest)) := by
  intro T hT X
  obtain ⟨t, st, q⟩ := k _ rfl T hT X
  refine ⟨t, ?_, q⟩
  have h1 := X.caloadOut hexec (by rw [hT]; exact hP q0 _ ha) ((hK.2 t0 _ ht).1 n (fun j => .int (f j))) (j := i) (by show (i < 0 ∨ (arrV _ _ _).slots.size ≤ _); rw [arrV_size]; exact Classical.byContradiction hout) (g := F0 m pc ls (.int i :: .ref a :: rest)) rfl (rest := rest) rfl (by rw [hb]; exact hdg) t
  simp only [arrV_size] at h1
  exact h1 st
theorem vx_castZ {D : va_G} {cl : List vw_C} {ws : va_W} {tys : List (ClassId × FieldType)} {a : Nat} (hexec : p.tables.exec = Jvm.exec) (hb : c.code = cc) (hK : va_K D cl tys s) (hP : va_P D cl ws H) (q0 t0 : Nat) {cA : ClassId} {n : Nat} {f : Nat → Int32} (ha : ws[q0]? = some (a, .inl (cA, n, .inl f))) (ht : tys[t0]? = some (cA, .char)) {i : Int32} {x : Int32} (hout : ¬ vp_in i n) (hdg : decode cc pc = .ok (.castore, 1))
    (k : ∀ tx : String, tx = (toString "Index " ++ toString i ++ toString " out of bounds for length " ++ toString n : String) → vx_Note p l e R s m args below meth c H locs cells slots Q (F0 m pc ls rest) "java/lang/ArrayIndexOutOfBoundsException" tx) : W p l e R s m args below meth c H locs cells slots Q (F0 m pc ls (.int x :: .int i :: .ref a :: rest)) := by
  intro T hT X
  obtain ⟨t, st, q⟩ := k _ rfl T hT X
  refine ⟨t, ?_, q⟩
  have h1 := X.castoreOut hexec (by rw [hT]; exact hP q0 _ ha) ((hK.2 t0 _ ht).1 n (fun j => .int (f j))) (j := i) (by show (i < 0 ∨ (arrV _ _ _).slots.size ≤ _); rw [arrV_size]; exact Classical.byContradiction hout) (g := F0 m pc ls (.int x :: .int i :: .ref a :: rest)) rfl (rest := rest) rfl (by rw [hb]; exact hdg) t
  simp only [arrV_size] at h1
  exact h1 st
theorem vx_saldZ {D : va_G} {cl : List vw_C} {ws : va_W} {tys : List (ClassId × FieldType)} {a : Nat} (hexec : p.tables.exec = Jvm.exec) (hb : c.code = cc) (hK : va_K D cl tys s) (hP : va_P D cl ws H) (q0 t0 : Nat) {cA : ClassId} {n : Nat} {f : Nat → Int32} (ha : ws[q0]? = some (a, .inl (cA, n, .inl f))) (ht : tys[t0]? = some (cA, .short)) {i : Int32} (hout : ¬ vp_in i n) (hdg : decode cc pc = .ok (.saload, 1))
    (k : ∀ tx : String, tx = (toString "Index " ++ toString i ++ toString " out of bounds for length " ++ toString n : String) → vx_Note p l e R s m args below meth c H locs cells slots Q (F0 m pc ls rest) "java/lang/ArrayIndexOutOfBoundsException" tx) : W p l e R s m args below meth c H locs cells slots Q (F0 m pc ls (.int i :: .ref a :: rest)) := by
  intro T hT X
  obtain ⟨t, st, q⟩ := k _ rfl T hT X
  refine ⟨t, ?_, q⟩
  have h1 := X.saloadOut hexec (by rw [hT]; exact hP q0 _ ha) ((hK.2 t0 _ ht).1 n (fun j => .int (f j))) (j := i) (by show (i < 0 ∨ (arrV _ _ _).slots.size ≤ _); rw [arrV_size]; exact Classical.byContradiction hout) (g := F0 m pc ls (.int i :: .ref a :: rest)) rfl (rest := rest) rfl (by rw [hb]; exact hdg) t
  simp only [arrV_size] at h1
  exact h1 st
theorem vx_sastZ {D : va_G} {cl : List vw_C} {ws : va_W} {tys : List (ClassId × FieldType)} {a : Nat} (hexec : p.tables.exec = Jvm.exec) (hb : c.code = cc) (hK : va_K D cl tys s) (hP : va_P D cl ws H) (q0 t0 : Nat) {cA : ClassId} {n : Nat} {f : Nat → Int32} (ha : ws[q0]? = some (a, .inl (cA, n, .inl f))) (ht : tys[t0]? = some (cA, .short)) {i : Int32} {x : Int32} (hout : ¬ vp_in i n) (hdg : decode cc pc = .ok (.sastore, 1))
    (k : ∀ tx : String, tx = (toString "Index " ++ toString i ++ toString " out of bounds for length " ++ toString n : String) → vx_Note p l e R s m args below meth c H locs cells slots Q (F0 m pc ls rest) "java/lang/ArrayIndexOutOfBoundsException" tx) : W p l e R s m args below meth c H locs cells slots Q (F0 m pc ls (.int x :: .int i :: .ref a :: rest)) := by
  intro T hT X
  obtain ⟨t, st, q⟩ := k _ rfl T hT X
  refine ⟨t, ?_, q⟩
  have h1 := X.sastoreOut hexec (by rw [hT]; exact hP q0 _ ha) ((hK.2 t0 _ ht).1 n (fun j => .int (f j))) (j := i) (by show (i < 0 ∨ (arrV _ _ _).slots.size ≤ _); rw [arrV_size]; exact Classical.byContradiction hout) (g := F0 m pc ls (.int x :: .int i :: .ref a :: rest)) rfl (rest := rest) rfl (by rw [hb]; exact hdg) t
  simp only [arrV_size] at h1
  exact h1 st
theorem vx_laldZ {D : va_G} {cl : List vw_C} {ws : va_W} {tys : List (ClassId × FieldType)} {a : Nat} (hexec : p.tables.exec = Jvm.exec) (hb : c.code = cc) (hK : va_K D cl tys s) (hP : va_P D cl ws H) (q0 t0 : Nat) {cA : ClassId} {n : Nat} {f : Nat → Int64} (ha : ws[q0]? = some (a, .inl (cA, n, .inr (.inl f)))) (ht : tys[t0]? = some (cA, .long)) {i : Int32} (hout : ¬ vp_in i n) (hdg : decode cc pc = .ok (.laload, 1))
    (k : ∀ tx : String, tx = (toString "Index " ++ toString i ++ toString " out of bounds for length " ++ toString n : String) → vx_Note p l e R s m args below meth c H locs cells slots Q (F0 m pc ls rest) "java/lang/ArrayIndexOutOfBoundsException" tx) : W p l e R s m args below meth c H locs cells slots Q (F0 m pc ls (.int i :: .ref a :: rest)) := by
  intro T hT X
  obtain ⟨t, st, q⟩ := k _ rfl T hT X
  refine ⟨t, ?_, q⟩
  have h1 := X.laloadOut hexec (by rw [hT]; exact hP q0 _ ha) ((hK.2 t0 _ ht).1 n (fun j => .long (f j))) (j := i) (by show (i < 0 ∨ (arrV _ _ _).slots.size ≤ _); rw [arrV_size]; exact Classical.byContradiction hout) (g := F0 m pc ls (.int i :: .ref a :: rest)) rfl (rest := rest) rfl (by rw [hb]; exact hdg) t
  simp only [arrV_size] at h1
  exact h1 st
theorem vx_lastZ {D : va_G} {cl : List vw_C} {ws : va_W} {tys : List (ClassId × FieldType)} {a : Nat} (hexec : p.tables.exec = Jvm.exec) (hb : c.code = cc) (hK : va_K D cl tys s) (hP : va_P D cl ws H) (q0 t0 : Nat) {cA : ClassId} {n : Nat} {f : Nat → Int64} (ha : ws[q0]? = some (a, .inl (cA, n, .inr (.inl f)))) (ht : tys[t0]? = some (cA, .long)) {i : Int32} {x : Int64} (hout : ¬ vp_in i n) (hdg : decode cc pc = .ok (.lastore, 1))
    (k : ∀ tx : String, tx = (toString "Index " ++ toString i ++ toString " out of bounds for length " ++ toString n : String) → vx_Note p l e R s m args below meth c H locs cells slots Q (F0 m pc ls rest) "java/lang/ArrayIndexOutOfBoundsException" tx) : W p l e R s m args below meth c H locs cells slots Q (F0 m pc ls (.long x :: .int i :: .ref a :: rest)) := by
  intro T hT X
  obtain ⟨t, st, q⟩ := k _ rfl T hT X
  refine ⟨t, ?_, q⟩
  have h1 := X.lastoreOut hexec (by rw [hT]; exact hP q0 _ ha) ((hK.2 t0 _ ht).1 n (fun j => .long (f j))) (j := i) (by show (i < 0 ∨ (arrV _ _ _).slots.size ≤ _); rw [arrV_size]; exact Classical.byContradiction hout) (g := F0 m pc ls (.long x :: .int i :: .ref a :: rest)) rfl (rest := rest) rfl (by rw [hb]; exact hdg) t
  simp only [arrV_size] at h1
  exact h1 st
theorem vx_faldZ {D : va_G} {cl : List vw_C} {ws : va_W} {tys : List (ClassId × FieldType)} {a : Nat} (hexec : p.tables.exec = Jvm.exec) (hb : c.code = cc) (hK : va_K D cl tys s) (hP : va_P D cl ws H) (q0 t0 : Nat) {cA : ClassId} {n : Nat} {f : Nat → UInt32} (ha : ws[q0]? = some (a, .inl (cA, n, .inr (.inr (.inl f))))) (ht : tys[t0]? = some (cA, .float)) {i : Int32} (hout : ¬ vp_in i n) (hdg : decode cc pc = .ok (.faload, 1))
    (k : ∀ tx : String, tx = (toString "Index " ++ toString i ++ toString " out of bounds for length " ++ toString n : String) → vx_Note p l e R s m args below meth c H locs cells slots Q (F0 m pc ls rest) "java/lang/ArrayIndexOutOfBoundsException" tx) : W p l e R s m args below meth c H locs cells slots Q (F0 m pc ls (.int i :: .ref a :: rest)) := by
  intro T hT X
  obtain ⟨t, st, q⟩ := k _ rfl T hT X
  refine ⟨t, ?_, q⟩
  have h1 := X.faloadOut hexec (by rw [hT]; exact hP q0 _ ha) ((hK.2 t0 _ ht).1 n (fun j => .float (f j))) (j := i) (by show (i < 0 ∨ (arrV _ _ _).slots.size ≤ _); rw [arrV_size]; exact Classical.byContradiction hout) (g := F0 m pc ls (.int i :: .ref a :: rest)) rfl (rest := rest) rfl (by rw [hb]; exact hdg) t
  simp only [arrV_size] at h1
  exact h1 st
theorem vx_fastZ {D : va_G} {cl : List vw_C} {ws : va_W} {tys : List (ClassId × FieldType)} {a : Nat} (hexec : p.tables.exec = Jvm.exec) (hb : c.code = cc) (hK : va_K D cl tys s) (hP : va_P D cl ws H) (q0 t0 : Nat) {cA : ClassId} {n : Nat} {f : Nat → UInt32} (ha : ws[q0]? = some (a, .inl (cA, n, .inr (.inr (.inl f))))) (ht : tys[t0]? = some (cA, .float)) {i : Int32} {x : UInt32} (hout : ¬ vp_in i n) (hdg : decode cc pc = .ok (.fastore, 1))
    (k : ∀ tx : String, tx = (toString "Index " ++ toString i ++ toString " out of bounds for length " ++ toString n : String) → vx_Note p l e R s m args below meth c H locs cells slots Q (F0 m pc ls rest) "java/lang/ArrayIndexOutOfBoundsException" tx) : W p l e R s m args below meth c H locs cells slots Q (F0 m pc ls (.float x :: .int i :: .ref a :: rest)) := by
  intro T hT X
  obtain ⟨t, st, q⟩ := k _ rfl T hT X
  refine ⟨t, ?_, q⟩
  have h1 := X.fastoreOut hexec (by rw [hT]; exact hP q0 _ ha) ((hK.2 t0 _ ht).1 n (fun j => .float (f j))) (j := i) (by show (i < 0 ∨ (arrV _ _ _).slots.size ≤ _); rw [arrV_size]; exact Classical.byContradiction hout) (g := F0 m pc ls (.float x :: .int i :: .ref a :: rest)) rfl (rest := rest) rfl (by rw [hb]; exact hdg) t
  simp only [arrV_size] at h1
  exact h1 st
theorem vx_daldZ {D : va_G} {cl : List vw_C} {ws : va_W} {tys : List (ClassId × FieldType)} {a : Nat} (hexec : p.tables.exec = Jvm.exec) (hb : c.code = cc) (hK : va_K D cl tys s) (hP : va_P D cl ws H) (q0 t0 : Nat) {cA : ClassId} {n : Nat} {f : Nat → UInt64} (ha : ws[q0]? = some (a, .inl (cA, n, .inr (.inr (.inr (.inl f)))))) (ht : tys[t0]? = some (cA, .double)) {i : Int32} (hout : ¬ vp_in i n) (hdg : decode cc pc = .ok (.daload, 1))
    (k : ∀ tx : String, tx = (toString "Index " ++ toString i ++ toString " out of bounds for length " ++ toString n : String) → vx_Note p l e R s m args below meth c H locs cells slots Q (F0 m pc ls rest) "java/lang/ArrayIndexOutOfBoundsException" tx) : W p l e R s m args below meth c H locs cells slots Q (F0 m pc ls (.int i :: .ref a :: rest)) := by
  intro T hT X
  obtain ⟨t, st, q⟩ := k _ rfl T hT X
  refine ⟨t, ?_, q⟩
  have h1 := X.daloadOut hexec (by rw [hT]; exact hP q0 _ ha) ((hK.2 t0 _ ht).1 n (fun j => .double (f j))) (j := i) (by show (i < 0 ∨ (arrV _ _ _).slots.size ≤ _); rw [arrV_size]; exact Classical.byContradiction hout) (g := F0 m pc ls (.int i :: .ref a :: rest)) rfl (rest := rest) rfl (by rw [hb]; exact hdg) t
  simp only [arrV_size] at h1
  exact h1 st
theorem vx_dastZ {D : va_G} {cl : List vw_C} {ws : va_W} {tys : List (ClassId × FieldType)} {a : Nat} (hexec : p.tables.exec = Jvm.exec) (hb : c.code = cc) (hK : va_K D cl tys s) (hP : va_P D cl ws H) (q0 t0 : Nat) {cA : ClassId} {n : Nat} {f : Nat → UInt64} (ha : ws[q0]? = some (a, .inl (cA, n, .inr (.inr (.inr (.inl f)))))) (ht : tys[t0]? = some (cA, .double)) {i : Int32} {x : UInt64} (hout : ¬ vp_in i n) (hdg : decode cc pc = .ok (.dastore, 1))
    (k : ∀ tx : String, tx = (toString "Index " ++ toString i ++ toString " out of bounds for length " ++ toString n : String) → vx_Note p l e R s m args below meth c H locs cells slots Q (F0 m pc ls rest) "java/lang/ArrayIndexOutOfBoundsException" tx) : W p l e R s m args below meth c H locs cells slots Q (F0 m pc ls (.double x :: .int i :: .ref a :: rest)) := by
  intro T hT X
  obtain ⟨t, st, q⟩ := k _ rfl T hT X
  refine ⟨t, ?_, q⟩
  have h1 := X.dastoreOut hexec (by rw [hT]; exact hP q0 _ ha) ((hK.2 t0 _ ht).1 n (fun j => .double (f j))) (j := i) (by show (i < 0 ∨ (arrV _ _ _).slots.size ≤ _); rw [arrV_size]; exact Classical.byContradiction hout) (g := F0 m pc ls (.double x :: .int i :: .ref a :: rest)) rfl (rest := rest) rfl (by rw [hb]; exact hdg) t
  simp only [arrV_size] at h1
  exact h1 st
theorem vx_arraylengthN (hexec : p.tables.exec = Jvm.exec) (hb : c.code = cc) (hdg : decode cc pc = .ok (.arraylength, 1)) (k : vx_NoteN p l e R s m args below meth c H locs cells slots Q (F0 m pc ls rest)) : W p l e R s m args below meth c H locs cells slots Q (F0 m pc ls (.null :: rest)) := by
  intro T hT X
  obtain ⟨t, st, q⟩ := k T hT X
  exact ⟨t, X.arraylengthNull hexec (g := F0 m pc ls (.null :: rest)) rfl (rest := rest) rfl (by rw [hb]; exact hdg) t st, q⟩
theorem vx_ialoadN (hexec : p.tables.exec = Jvm.exec) (hb : c.code = cc) {i : Int32} (hdg : decode cc pc = .ok (.iaload, 1)) (k : vx_NoteN p l e R s m args below meth c H locs cells slots Q (F0 m pc ls rest)) : W p l e R s m args below meth c H locs cells slots Q (F0 m pc ls (.int i :: .null :: rest)) := by
  intro T hT X
  obtain ⟨t, st, q⟩ := k T hT X
  exact ⟨t, X.ialoadNull hexec (g := F0 m pc ls (.int i :: .null :: rest)) rfl (rest := rest) rfl (by rw [hb]; exact hdg) t st, q⟩
theorem vx_laloadN (hexec : p.tables.exec = Jvm.exec) (hb : c.code = cc) {i : Int32} (hdg : decode cc pc = .ok (.laload, 1)) (k : vx_NoteN p l e R s m args below meth c H locs cells slots Q (F0 m pc ls rest)) : W p l e R s m args below meth c H locs cells slots Q (F0 m pc ls (.int i :: .null :: rest)) := by
  intro T hT X
  obtain ⟨t, st, q⟩ := k T hT X
  exact ⟨t, X.laloadNull hexec (g := F0 m pc ls (.int i :: .null :: rest)) rfl (rest := rest) rfl (by rw [hb]; exact hdg) t st, q⟩
theorem vx_faloadN (hexec : p.tables.exec = Jvm.exec) (hb : c.code = cc) {i : Int32} (hdg : decode cc pc = .ok (.faload, 1)) (k : vx_NoteN p l e R s m args below meth c H locs cells slots Q (F0 m pc ls rest)) : W p l e R s m args below meth c H locs cells slots Q (F0 m pc ls (.int i :: .null :: rest)) := by
  intro T hT X
  obtain ⟨t, st, q⟩ := k T hT X
  exact ⟨t, X.faloadNull hexec (g := F0 m pc ls (.int i :: .null :: rest)) rfl (rest := rest) rfl (by rw [hb]; exact hdg) t st, q⟩
theorem vx_daloadN (hexec : p.tables.exec = Jvm.exec) (hb : c.code = cc) {i : Int32} (hdg : decode cc pc = .ok (.daload, 1)) (k : vx_NoteN p l e R s m args below meth c H locs cells slots Q (F0 m pc ls rest)) : W p l e R s m args below meth c H locs cells slots Q (F0 m pc ls (.int i :: .null :: rest)) := by
  intro T hT X
  obtain ⟨t, st, q⟩ := k T hT X
  exact ⟨t, X.daloadNull hexec (g := F0 m pc ls (.int i :: .null :: rest)) rfl (rest := rest) rfl (by rw [hb]; exact hdg) t st, q⟩
theorem vx_aaloadN (hexec : p.tables.exec = Jvm.exec) (hb : c.code = cc) {i : Int32} (hdg : decode cc pc = .ok (.aaload, 1)) (k : vx_NoteN p l e R s m args below meth c H locs cells slots Q (F0 m pc ls rest)) : W p l e R s m args below meth c H locs cells slots Q (F0 m pc ls (.int i :: .null :: rest)) := by
  intro T hT X
  obtain ⟨t, st, q⟩ := k T hT X
  exact ⟨t, X.aaloadNull hexec (g := F0 m pc ls (.int i :: .null :: rest)) rfl (rest := rest) rfl (by rw [hb]; exact hdg) t st, q⟩
theorem vx_baloadN (hexec : p.tables.exec = Jvm.exec) (hb : c.code = cc) {i : Int32} (hdg : decode cc pc = .ok (.baload, 1)) (k : vx_NoteN p l e R s m args below meth c H locs cells slots Q (F0 m pc ls rest)) : W p l e R s m args below meth c H locs cells slots Q (F0 m pc ls (.int i :: .null :: rest)) := by
  intro T hT X
  obtain ⟨t, st, q⟩ := k T hT X
  exact ⟨t, X.baloadNull hexec (g := F0 m pc ls (.int i :: .null :: rest)) rfl (rest := rest) rfl (by rw [hb]; exact hdg) t st, q⟩
theorem vx_caloadN (hexec : p.tables.exec = Jvm.exec) (hb : c.code = cc) {i : Int32} (hdg : decode cc pc = .ok (.caload, 1)) (k : vx_NoteN p l e R s m args below meth c H locs cells slots Q (F0 m pc ls rest)) : W p l e R s m args below meth c H locs cells slots Q (F0 m pc ls (.int i :: .null :: rest)) := by
  intro T hT X
  obtain ⟨t, st, q⟩ := k T hT X
  exact ⟨t, X.caloadNull hexec (g := F0 m pc ls (.int i :: .null :: rest)) rfl (rest := rest) rfl (by rw [hb]; exact hdg) t st, q⟩
theorem vx_saloadN (hexec : p.tables.exec = Jvm.exec) (hb : c.code = cc) {i : Int32} (hdg : decode cc pc = .ok (.saload, 1)) (k : vx_NoteN p l e R s m args below meth c H locs cells slots Q (F0 m pc ls rest)) : W p l e R s m args below meth c H locs cells slots Q (F0 m pc ls (.int i :: .null :: rest)) := by
  intro T hT X
  obtain ⟨t, st, q⟩ := k T hT X
  exact ⟨t, X.saloadNull hexec (g := F0 m pc ls (.int i :: .null :: rest)) rfl (rest := rest) rfl (by rw [hb]; exact hdg) t st, q⟩
theorem vx_iastoreN (hexec : p.tables.exec = Jvm.exec) (hb : c.code = cc) {x : Int32} {i : Int32} (hdg : decode cc pc = .ok (.iastore, 1)) (k : vx_NoteN p l e R s m args below meth c H locs cells slots Q (F0 m pc ls rest)) : W p l e R s m args below meth c H locs cells slots Q (F0 m pc ls (.int x :: .int i :: .null :: rest)) := by
  intro T hT X
  obtain ⟨t, st, q⟩ := k T hT X
  exact ⟨t, X.iastoreNull hexec (g := F0 m pc ls (.int x :: .int i :: .null :: rest)) rfl (rest := rest) rfl (by rw [hb]; exact hdg) t st, q⟩
theorem vx_lastoreN (hexec : p.tables.exec = Jvm.exec) (hb : c.code = cc) {x : Int64} {i : Int32} (hdg : decode cc pc = .ok (.lastore, 1)) (k : vx_NoteN p l e R s m args below meth c H locs cells slots Q (F0 m pc ls rest)) : W p l e R s m args below meth c H locs cells slots Q (F0 m pc ls (.long x :: .int i :: .null :: rest)) := by
  intro T hT X
  obtain ⟨t, st, q⟩ := k T hT X
  exact ⟨t, X.lastoreNull hexec (g := F0 m pc ls (.long x :: .int i :: .null :: rest)) rfl (rest := rest) rfl (by rw [hb]; exact hdg) t st, q⟩
theorem vx_fastoreN (hexec : p.tables.exec = Jvm.exec) (hb : c.code = cc) {x : UInt32} {i : Int32} (hdg : decode cc pc = .ok (.fastore, 1)) (k : vx_NoteN p l e R s m args below meth c H locs cells slots Q (F0 m pc ls rest)) : W p l e R s m args below meth c H locs cells slots Q (F0 m pc ls (.float x :: .int i :: .null :: rest)) := by
  intro T hT X
  obtain ⟨t, st, q⟩ := k T hT X
  exact ⟨t, X.fastoreNull hexec (g := F0 m pc ls (.float x :: .int i :: .null :: rest)) rfl (rest := rest) rfl (by rw [hb]; exact hdg) t st, q⟩
theorem vx_dastoreN (hexec : p.tables.exec = Jvm.exec) (hb : c.code = cc) {x : UInt64} {i : Int32} (hdg : decode cc pc = .ok (.dastore, 1)) (k : vx_NoteN p l e R s m args below meth c H locs cells slots Q (F0 m pc ls rest)) : W p l e R s m args below meth c H locs cells slots Q (F0 m pc ls (.double x :: .int i :: .null :: rest)) := by
  intro T hT X
  obtain ⟨t, st, q⟩ := k T hT X
  exact ⟨t, X.dastoreNull hexec (g := F0 m pc ls (.double x :: .int i :: .null :: rest)) rfl (rest := rest) rfl (by rw [hb]; exact hdg) t st, q⟩
theorem vx_bastoreN (hexec : p.tables.exec = Jvm.exec) (hb : c.code = cc) {x : Int32} {i : Int32} (hdg : decode cc pc = .ok (.bastore, 1)) (k : vx_NoteN p l e R s m args below meth c H locs cells slots Q (F0 m pc ls rest)) : W p l e R s m args below meth c H locs cells slots Q (F0 m pc ls (.int x :: .int i :: .null :: rest)) := by
  intro T hT X
  obtain ⟨t, st, q⟩ := k T hT X
  exact ⟨t, X.bastoreNull hexec (g := F0 m pc ls (.int x :: .int i :: .null :: rest)) rfl (rest := rest) rfl (by rw [hb]; exact hdg) t st, q⟩
theorem vx_castoreN (hexec : p.tables.exec = Jvm.exec) (hb : c.code = cc) {x : Int32} {i : Int32} (hdg : decode cc pc = .ok (.castore, 1)) (k : vx_NoteN p l e R s m args below meth c H locs cells slots Q (F0 m pc ls rest)) : W p l e R s m args below meth c H locs cells slots Q (F0 m pc ls (.int x :: .int i :: .null :: rest)) := by
  intro T hT X
  obtain ⟨t, st, q⟩ := k T hT X
  exact ⟨t, X.castoreNull hexec (g := F0 m pc ls (.int x :: .int i :: .null :: rest)) rfl (rest := rest) rfl (by rw [hb]; exact hdg) t st, q⟩
theorem vx_sastoreN (hexec : p.tables.exec = Jvm.exec) (hb : c.code = cc) {x : Int32} {i : Int32} (hdg : decode cc pc = .ok (.sastore, 1)) (k : vx_NoteN p l e R s m args below meth c H locs cells slots Q (F0 m pc ls rest)) : W p l e R s m args below meth c H locs cells slots Q (F0 m pc ls (.int x :: .int i :: .null :: rest)) := by
  intro T hT X
  obtain ⟨t, st, q⟩ := k T hT X
  exact ⟨t, X.sastoreNull hexec (g := F0 m pc ls (.int x :: .int i :: .null :: rest)) rfl (rest := rest) rfl (by rw [hb]; exact hdg) t st, q⟩
theorem vx_invokeN {own C : String} {index maxL : Nat} {y : MethodName} {bytes : ByteArray} {ret : Option FieldType} (hexec : p.tables.exec = Jvm.exec) (hb : c.code = cc) (hown : s.vm.findClass own = some m.cls) (hlink : (Cond.methodLink own index y).before args s = true) (hinst : (Cond.instanceMethod y).before args s = true) (hcode : (Cond.code y bytes maxL ret).before args s = true) (hsel : (Cond.selects C y y).before args s = true)
    (hx : y.cls ≠ "java/lang/invoke/MethodHandle" ∧ y.cls ≠ "java/lang/invoke/VarHandle") {As : List Value} (hlen : (parseMethodDescriptor y.desc).map (fun d => d.parameters.length) = some As.length) (hdg : decode cc pc = .ok (.invokevirtual index, 3))
    (k : vx_NoteN p l e R s m args below meth c H locs cells slots Q (F0 m pc ls rest)) {st0 : List Value} (hst : st0 = As.reverse ++ .null :: rest) : W p l e R s m args below meth c H locs cells slots Q (F0 m pc ls st0) := by
  intro T hT X
  obtain ⟨r0, r, hn, hrm, hstR, hsigR⟩ := va_Decl.of hinst hcode
  obtain ⟨c2, r2, m2, q1, q2, q3, q4, kP, hkP, hkPi⟩ := Cond.selects_spec hsel
  cases hn.symm.trans q3
  have hl9 : As.length = r.sig.parameters.length := by
    rw [hsigR] at hlen
    exact (Option.some.inj hlen).symm
  obtain ⟨vm', X1, st1⟩ := X.invokevirtualNull hexec hown hlink hn hrm hstR hkP hkPi hx (g := F0 m pc ls st0) rfl (argsL := As) (rest := rest) hl9 hst (by rw [hb]; exact hdg)
  obtain ⟨t, st, q⟩ := k (T.setVm vm') hT X1
  exact ⟨t, st1 t st, q⟩
theorem vx_newarrayZ {atype : ArrayType} (hexec : p.tables.exec = Jvm.exec) (hb : c.code = cc) {n : Int32} (h0 : n < 0) (hdg : decode cc pc = .ok (.newarray atype, 2)) (k : ∀ tx : String, tx = toString n → vx_Note p l e R s m args below meth c H locs cells slots Q (F0 m pc ls rest) "java/lang/NegativeArraySizeException" tx) : W p l e R s m args below meth c H locs cells slots Q (F0 m pc ls (.int n :: rest)) := by
  intro T hT X
  obtain ⟨t, st, q⟩ := k _ rfl T hT X
  exact ⟨t, X.newarrayNegative hexec (g := F0 m pc ls (.int n :: rest)) rfl h0 (rest := rest) rfl (by rw [hb]; exact hdg) t st, q⟩
end
end VXM
/-! ===== END ===== -/
/-! ===== BEGIN an exception as an object: made, kept, thrown later (no traces kept) ===== -/
section VXK
variable {p : Program} {l : Launch} {e : Env} {R : Room} {s : State} {m₀ : MethodId} {args : Array Value} {below : List Frame} {meth : Method} {c : Code} {W : State} {locs : List Loc} {cells slots : Nat}
set_option maxHeartbeats 1000000 in
theorem vx_ctorMadeS (X : Stand p l e R s m₀ args below meth c W locs cells slots) (hexec : p.tables.exec = Jvm.exec) (htr : e.platform.stackTraces = false) {own cls : String} {names : List String} {ic : Nat}
    (hown : s.vm.findClass own = some m₀.cls) (hcls : Bundle.fit cls = true) (hnames : ∀ n ∈ names, Bundle.fit n = true)
    (h : ∀ a ∈ Bundle.ownAtoms own ic cls names, a.before args s = true)
    (hlocs : ∀ x ∈ locs, ∀ cell, s.heap[x.base]? = some cell → cell.vm.isStatics = false)
    {a : Addr} {cX : ClassId} {kX : Class} (hfoundX : s.vm.findClass cls = some cX) (hkX : s.vm.classes[cX]? = some kX) (hcell : W.heap[a]? = some (freshCell cX kX)) (hnew : s.heap.size ≤ a)
    {msg : Value} (hmsg : msg.isRef = true)
    {g : JFrame} (hg : g.method = m₀) (hsize : g.locals.size = c.maxLocals) {rest : List Value} (hstack : g.stack = msg :: .ref a :: .ref a :: rest)
    (hd6 : decode c.code g.pc = .ok (.invokespecial ic, 3))
    (hRframes : names.length + 3 < R.frames) (hRlocals : 2 * g.monitorRoom + ((Value.ref a :: rest).map fun v => v.category).sum + (13 * (names.length + 1) + 42) ≤ R.locals) :
    ∃ (V : State) (ce : Cell) (L : List Loc), Stand p l e R s m₀ args below meth c (V.setCell a ce) (locs ++ L) cells slots ∧ (∀ y ∈ L, y.base = a) ∧ a < V.heap.size ∧ ce.cls = cX ∧ ce.vm = .none ∧
      ∀ target, Steps p.tables e below ((V.setCell a ce).setTop { g with stack := .ref a :: rest, pc := g.pc + 3 }) target → Steps p.tables e below (W.setTop g) target := by
  have howns : e.platform.frameOwnsMonitors = true := by rw [X.admits.platform]
  have hfin : e.platform.finalization = false := by rw [X.admits.platform]
  have hpl : e.platform.magicAccessors = ({} : Platform).magicAccessors := by rw [X.admits.platform]
  have a' : ∀ x, x ∈ Bundle.ownAtoms own ic cls names → x.holds args s none s [] = true := fun x hx => h x hx
  obtain ⟨T, Z0, L, -, Y⟩ := ThrowableC.of_atoms (args := args) howns hfin hpl (fun x hx => h x (by simp [Bundle.ownAtoms, hx]))
  obtain ⟨Z, M, LZ, LM, hnZ⟩ := Init0T.ofS_atoms (args := args) hpl L Y (fun x hx => h x (by simp [Bundle.ownAtoms, hx]))
  obtain ⟨P1, Ps, hlen, L1, hL, hP1m, hlink1, hlink⟩ := Bundle.chainS (args := args) hpl hnZ names cls hcls hnames (fun x hx => h x (by simp [Bundle.ownAtoms, hx]))
  have hfound : s.vm.findClass cls = some P1.m.cls := findClass_of_methodNamed hP1m
  cases Option.some.inj (hfoundX.symm.trans hfound)
  obtain ⟨c1, kX', hc1, hk, hord, -, -, hn6⟩ := Cond.instantiable_spec (a' (.instantiable cls 6) (by simp [Bundle.ownAtoms]))
  cases Option.some.inj (hc1.symm.trans hfound)
  cases Option.some.inj (hkX.symm.trans hk)
  have hsel0 : selectMethod e.platform s.vm P1.m.cls T.fill0 = .method T.fill0 := by
    obtain ⟨c2, r2, m2, q1, q2, q3, q4, -⟩ := Cond.selects_spec (a' (.selects cls Bundle.tFill0 Bundle.tFill0) (by simp [Bundle.ownAtoms]))
    cases Option.some.inj (q1.symm.trans hfound)
    cases Option.some.inj (q2.symm.trans (State.methodFound?_of_named Y.fill0 (by decide)))
    cases Option.some.inj (q3.symm.trans Y.fill0)
    rw [Launch.admits_selectMethod X.admits]; exact q4
  have hselF : selectMethod e.platform s.vm P1.m.cls T.fill = .method T.fill := by
    obtain ⟨c2, r2, m2, q1, q2, q3, q4, -⟩ := Cond.selects_spec (a' (.selects cls Bundle.tFill Bundle.tFill) (by simp [Bundle.ownAtoms]))
    cases Option.some.inj (q1.symm.trans hfound)
    cases Option.some.inj (q2.symm.trans (State.methodFound?_of_named Y.fill (by decide)))
    cases Option.some.inj (q3.symm.trans Y.fill)
    rw [Launch.admits_selectMethod X.admits]; exact q4
  obtain ⟨cellS0, hcS0, hiss⟩ := Y.statics
  obtain ⟨u0, hu0⟩ := Cond.staticRefV Y.unassigned L.unassignedStatic L.statics hcS0 hiss (a' (.isRef (.static Bundle.tN "UNASSIGNED_STACK" Bundle.steD)) (by simp [Bundle.ownAtoms]))
  obtain ⟨sen, hsen⟩ := Cond.staticRefV Y.sentinel L.sentinelStatic L.statics hcS0 hiss (a' (.isRef (.static Bundle.tN "SUPPRESSED_SENTINEL" Bundle.listD)) (by simp [Bundle.ownAtoms]))
  obtain ⟨ci198, i198, fB, hk198, hg198, ha198, hsB, -, hnB, htB, hffB⟩ := Cond.ownField (t := .object "java/lang/Object") Y.found L.cls (by decide +kernel) (a' (.fieldLink Bundle.tN 198 Bundle.tN "backtrace" "Ljava/lang/Object;") (by simp [Bundle.ownAtoms])) (a' (.lays Bundle.tN Bundle.tN "backtrace" "Ljava/lang/Object;") (by simp [Bundle.ownAtoms])) e.platform hpl
  obtain ⟨cellS, hcS', heS, -, hkeep⟩ := X.same.2.2.2.2.2 T.aS cellS0 hcS0
  have hcellS : W.heap[T.aS]? = some cellS := hcS'
  have hout' : ∀ i, (⟨T.aS, i⟩ : Loc) ∉ locs := fun i hmem => by
    have := hlocs _ hmem cellS0 hcS0
    rw [hiss] at this; cases this
  have hknownS : cellS.vm ≠ .unknown := by
    rw [heS]; intro hu
    rw [show cellS0.vm = .unknown from hu] at hiss
    cases hiss
  have hneS : T.aS ≠ a := Nat.ne_of_lt (Nat.lt_of_lt_of_le (Array.getElem?_eq_some_iff.mp hcS0).1 hnew)
  obtain ⟨iM, hffM⟩ := Y.msg
  obtain ⟨tyC, dC, hdC, hdnC⟩ := Cond.laysAt hfound hk Y.cause (a' (.lays cls Bundle.tN "cause" "Ljava/lang/Throwable;") (by simp [Bundle.ownAtoms]))
  obtain ⟨tyS, dS, hdS, hdnS⟩ := Cond.laysAt hfound hk Y.stack (a' (.lays cls Bundle.tN "stackTrace" Bundle.steD) (by simp [Bundle.ownAtoms]))
  obtain ⟨tyP, dP, hdP, hdnP⟩ := Cond.laysAt hfound hk Y.supp (a' (.lays cls Bundle.tN "suppressedExceptions" Bundle.listD) (by simp [Bundle.ownAtoms]))
  obtain ⟨tyM, dM, hdM, hdnM⟩ := Cond.laysAt hfound hk hffM (a' (.lays cls Bundle.tN "detailMessage" "Ljava/lang/String;") (by simp [Bundle.ownAtoms]))
  obtain ⟨tyB, dB, hdB, hdnB⟩ := Cond.laysAt hfound hk hffB (a' (.lays cls Bundle.tN "backtrace" "Ljava/lang/Object;") (by simp [Bundle.ownAtoms]))
  have bC := Cond.laysApart hdB hdC hdnB hdnC (by rw [hnB, Y.causeName]; decide)
  have bS := Cond.laysApart hdB hdS hdnB hdnS (by rw [hnB, Y.stackName]; decide)
  have bP := Cond.laysApart hdB hdP hdnB hdnP (by rw [hnB, Y.suppName]; decide)
  have hskip : SkipFacts T e.platform s (fun u => u) u0 ((preparedCellV T.toThrowableT (freshCell P1.m.cls kX) a u0 sen).withEntry W.cur) :=
    ⟨{ ci198 := ci198, i198 := i198, fBack := fB }, ⟨hk198, hg198, ha198, hsB⟩, by
      have := fresh_default (c := P1.m.cls) tyB
      rw [htB] at this
      simpa [preparedCellV, Cell.setSlot, Cell.withEntry, Array.getElem?_setIfInBounds, bC, bS, bP, bC.symm, bS.symm, bP.symm, defaultValue] using this, fun _ _ => rfl⟩
  obtain ⟨tm, methC, cdC, kC, vm₁, hnC, -, -, -, -, -, -, -, hW₁, st1⟩ := Steps.initColdS (tb := p.tables) (e := e) (below := below) (s := s) (U := W) X.here hexec X.warmed hpl hown (t := Bundle.initS cls) rfl rfl (Bundle.fit_spec hcls).2
    (a' (.methodLink own ic (Bundle.initS cls)) (by simp [Bundle.ownAtoms])) (h (.instanceMethod (Bundle.initS cls)) (by cases names <;> simp [Bundle.ownAtoms, Bundle.chainSAtoms, Bundle.passSAtoms])) (bytes := Bundle.six) (maxL := 2) (h (.code (Bundle.initS cls) Bundle.six 2 none) (by cases names <;> simp [Bundle.ownAtoms, Bundle.chainSAtoms, Bundle.passSAtoms]))
    (f := g) hg (a := a) (msg := msg) (rest := .ref a :: rest) hstack hd6
  cases Option.some.inj (hnC.symm.trans hP1m)
  have X₁ := X.noted hW₁
  obtain ⟨vm₂, X₂, st2⟩ := X₁.ctorMessageOffV hexec (g := { g with stack := .ref a :: rest }) hg hsize T L Z LZ M LM (P1 :: Ps)
    (fun P hP => by rcases List.mem_cons.mp hP with rfl | hP; exact L1; exact hL P hP) ⟨hlink1, hlink⟩ (u0 := u0) (sen := sen) (self := a) hmsg (cell := freshCell P1.m.cls kX) (cellS := cellS)
    hcell (fun _ => by simp) (by simp) rfl rfl hsel0 hselF hcellS hneS hknownS (by rw [hkeep _ (hout' _)]; exact hu0) (by rw [hkeep _ (hout' _)]; exact hsen)
    (Takes.of_laid hk hord tyC (by rw [Y.causeType]; rfl)) (Takes.of_laid hk hord tyS (by rw [Y.stackType]; exact fits_refV_array _ u0)) (Takes.of_laid hk hord tyP (by rw [Y.suppType]; exact fits_refV_object _ sen))
    (Takes.of_laid hk hord tyM (by rw [Y.msgType]; exact fits_refV_object _ ⟨msg, hmsg⟩)) Y.objLocals hskip htr [] hd6
    (by simp only [List.length_cons, hlen]; omega) (by simp only [List.length_cons, hlen]; exact hRlocals)
  have hlt : a < ((W.setVm vm₁).setVm vm₂).heap.size := (Array.getElem?_eq_some_iff.mp hcell).1
  refine ⟨(W.setVm vm₁).setVm vm₂, _, _, X₂, fun y hy => ?_, hlt, rfl, rfl, fun target hwalk => st1 _ (fun acts => ?_)⟩
  · simp only [List.mem_cons, List.not_mem_nil, or_false] at hy
    rcases hy with rfl | rfl | rfl | rfl | rfl <;> rfl
  · rw [doInvoke_state]
    exact st2 _ hwalk
set_option maxHeartbeats 1000000 in
theorem vx_ctorMade0 (X : Stand p l e R s m₀ args below meth c W locs cells slots) (hexec : p.tables.exec = Jvm.exec) (htr : e.platform.stackTraces = false) {own cls : String} {names : List String} {ic : Nat}
    (hown : s.vm.findClass own = some m₀.cls) (hcls : Bundle.fit cls = true) (hnames : ∀ n ∈ names, Bundle.fit n = true)
    (h : ∀ a ∈ Bundle.ownAtoms0 own ic cls names, a.before args s = true)
    (hlocs : ∀ x ∈ locs, ∀ cell, s.heap[x.base]? = some cell → cell.vm.isStatics = false)
    {a : Addr} {cX : ClassId} {kX : Class} (hfoundX : s.vm.findClass cls = some cX) (hkX : s.vm.classes[cX]? = some kX) (hcell : W.heap[a]? = some (freshCell cX kX)) (hnew : s.heap.size ≤ a)
    {g : JFrame} (hg : g.method = m₀) (hsize : g.locals.size = c.maxLocals) {rest : List Value} (hstack : g.stack = .ref a :: .ref a :: rest)
    (hd6 : decode c.code g.pc = .ok (.invokespecial ic, 3))
    (hRframes : names.length + 3 < R.frames) (hRlocals : 2 * g.monitorRoom + ((Value.ref a :: rest).map fun v => v.category).sum + (13 * (names.length + 1) + 41) ≤ R.locals) :
    ∃ (V : State) (ce : Cell) (L : List Loc), Stand p l e R s m₀ args below meth c (V.setCell a ce) (locs ++ L) cells slots ∧ (∀ y ∈ L, y.base = a) ∧ a < V.heap.size ∧ ce.cls = cX ∧ ce.vm = .none ∧
      ∀ target, Steps p.tables e below ((V.setCell a ce).setTop { g with stack := .ref a :: rest, pc := g.pc + 3 }) target → Steps p.tables e below (W.setTop g) target := by
  have howns : e.platform.frameOwnsMonitors = true := by rw [X.admits.platform]
  have hfin : e.platform.finalization = false := by rw [X.admits.platform]
  have hpl : e.platform.magicAccessors = ({} : Platform).magicAccessors := by rw [X.admits.platform]
  have a' : ∀ x, x ∈ Bundle.ownAtoms0 own ic cls names → x.holds args s none s [] = true := fun x hx => h x hx
  obtain ⟨T, Z, L, LZ, Y⟩ := ThrowableC.of_atoms (args := args) howns hfin hpl (fun x hx => h x (by simp [Bundle.ownAtoms0, hx]))
  obtain ⟨P1, Ps, hlen, L1, hL, hP1m, hlink1, hlink⟩ := Bundle.chain0 (args := args) hpl Y.init0 names cls hcls hnames (fun x hx => h x (by simp [Bundle.ownAtoms0, hx]))
  have hfound : s.vm.findClass cls = some P1.m.cls := findClass_of_methodNamed hP1m
  cases Option.some.inj (hfoundX.symm.trans hfound)
  obtain ⟨c1, kX', hc1, hk, hord, -, -, hn6⟩ := Cond.instantiable_spec (a' (.instantiable cls 6) (by simp [Bundle.ownAtoms0]))
  cases Option.some.inj (hc1.symm.trans hfound)
  cases Option.some.inj (hkX.symm.trans hk)
  have hsel0 : selectMethod e.platform s.vm P1.m.cls T.fill0 = .method T.fill0 := by
    obtain ⟨c2, r2, m2, q1, q2, q3, q4, -⟩ := Cond.selects_spec (a' (.selects cls Bundle.tFill0 Bundle.tFill0) (by simp [Bundle.ownAtoms0]))
    cases Option.some.inj (q1.symm.trans hfound)
    cases Option.some.inj (q2.symm.trans (State.methodFound?_of_named Y.fill0 (by decide)))
    cases Option.some.inj (q3.symm.trans Y.fill0)
    rw [Launch.admits_selectMethod X.admits]; exact q4
  have hselF : selectMethod e.platform s.vm P1.m.cls T.fill = .method T.fill := by
    obtain ⟨c2, r2, m2, q1, q2, q3, q4, -⟩ := Cond.selects_spec (a' (.selects cls Bundle.tFill Bundle.tFill) (by simp [Bundle.ownAtoms0]))
    cases Option.some.inj (q1.symm.trans hfound)
    cases Option.some.inj (q2.symm.trans (State.methodFound?_of_named Y.fill (by decide)))
    cases Option.some.inj (q3.symm.trans Y.fill)
    rw [Launch.admits_selectMethod X.admits]; exact q4
  obtain ⟨cellS0, hcS0, hiss⟩ := Y.statics
  obtain ⟨u0, hu0⟩ := Cond.staticRefV Y.unassigned L.unassignedStatic L.statics hcS0 hiss (a' (.isRef (.static Bundle.tN "UNASSIGNED_STACK" Bundle.steD)) (by simp [Bundle.ownAtoms0]))
  obtain ⟨sen, hsen⟩ := Cond.staticRefV Y.sentinel L.sentinelStatic L.statics hcS0 hiss (a' (.isRef (.static Bundle.tN "SUPPRESSED_SENTINEL" Bundle.listD)) (by simp [Bundle.ownAtoms0]))
  obtain ⟨ci198, i198, fB, hk198, hg198, ha198, hsB, -, hnB, htB, hffB⟩ := Cond.ownField (t := .object "java/lang/Object") Y.found L.cls (by decide +kernel) (a' (.fieldLink Bundle.tN 198 Bundle.tN "backtrace" "Ljava/lang/Object;") (by simp [Bundle.ownAtoms0])) (a' (.lays Bundle.tN Bundle.tN "backtrace" "Ljava/lang/Object;") (by simp [Bundle.ownAtoms0])) e.platform hpl
  obtain ⟨cellS, hcS', heS, -, hkeep⟩ := X.same.2.2.2.2.2 T.aS cellS0 hcS0
  have hcellS : W.heap[T.aS]? = some cellS := hcS'
  have hout' : ∀ i, (⟨T.aS, i⟩ : Loc) ∉ locs := fun i hmem => by
    have := hlocs _ hmem cellS0 hcS0
    rw [hiss] at this; cases this
  have hknownS : cellS.vm ≠ .unknown := by
    rw [heS]; intro hu
    rw [show cellS0.vm = .unknown from hu] at hiss
    cases hiss
  have hneS : T.aS ≠ a := Nat.ne_of_lt (Nat.lt_of_lt_of_le (Array.getElem?_eq_some_iff.mp hcS0).1 hnew)
  obtain ⟨iM, hffM⟩ := Y.msg
  obtain ⟨tyC, dC, hdC, hdnC⟩ := Cond.laysAt hfound hk Y.cause (a' (.lays cls Bundle.tN "cause" "Ljava/lang/Throwable;") (by simp [Bundle.ownAtoms0]))
  obtain ⟨tyS, dS, hdS, hdnS⟩ := Cond.laysAt hfound hk Y.stack (a' (.lays cls Bundle.tN "stackTrace" Bundle.steD) (by simp [Bundle.ownAtoms0]))
  obtain ⟨tyP, dP, hdP, hdnP⟩ := Cond.laysAt hfound hk Y.supp (a' (.lays cls Bundle.tN "suppressedExceptions" Bundle.listD) (by simp [Bundle.ownAtoms0]))
  obtain ⟨tyM, dM, hdM, hdnM⟩ := Cond.laysAt hfound hk hffM (a' (.lays cls Bundle.tN "detailMessage" "Ljava/lang/String;") (by simp [Bundle.ownAtoms0]))
  obtain ⟨tyB, dB, hdB, hdnB⟩ := Cond.laysAt hfound hk hffB (a' (.lays cls Bundle.tN "backtrace" "Ljava/lang/Object;") (by simp [Bundle.ownAtoms0]))
  have bC := Cond.laysApart hdB hdC hdnB hdnC (by rw [hnB, Y.causeName]; decide)
  have bS := Cond.laysApart hdB hdS hdnB hdnS (by rw [hnB, Y.stackName]; decide)
  have bP := Cond.laysApart hdB hdP hdnB hdnP (by rw [hnB, Y.suppName]; decide)
  have hskip : SkipFacts T e.platform s (fun u => u) u0 ((preparedCellV T.toThrowableT (freshCell P1.m.cls kX) a u0 sen).withEntry W.cur) :=
    ⟨{ ci198 := ci198, i198 := i198, fBack := fB }, ⟨hk198, hg198, ha198, hsB⟩, by
      have := fresh_default (c := P1.m.cls) tyB
      rw [htB] at this
      simpa [preparedCellV, Cell.setSlot, Cell.withEntry, Array.getElem?_setIfInBounds, bC, bS, bP, bC.symm, bS.symm, bP.symm, defaultValue] using this, fun _ _ => rfl⟩
  obtain ⟨tm, methC, cdC, kC, vm₁, hnC, -, -, -, -, -, -, -, hW₁, st1⟩ := Steps.initCold (tb := p.tables) (e := e) (below := below) (s := s) (U := W) X.here hexec X.warmed hpl hown (t := Bundle.init0 cls) rfl rfl (Bundle.fit_spec hcls).2
    (a' (.methodLink own ic (Bundle.init0 cls)) (by simp [Bundle.ownAtoms0])) (h (.instanceMethod (Bundle.init0 cls)) (by cases names <;> simp [Bundle.ownAtoms0, Bundle.chain0Atoms, Bundle.passAtoms])) (bytes := Bundle.five) (maxL := 1) (h (.code (Bundle.init0 cls) Bundle.five 1 none) (by cases names <;> simp [Bundle.ownAtoms0, Bundle.chain0Atoms, Bundle.passAtoms]))
    (f := g) hg (a := a) (rest := .ref a :: rest) hstack hd6
  cases Option.some.inj (hnC.symm.trans hP1m)
  have X₁ := X.noted hW₁
  obtain ⟨vm₂, X₂, st2⟩ := X₁.ctorPlainOffV hexec (g := { g with stack := .ref a :: rest }) hg hsize T L Z LZ (P1 :: Ps)
    (fun P hP => by rcases List.mem_cons.mp hP with rfl | hP; exact L1; exact hL P hP) ⟨hlink1, hlink⟩ (u0 := u0) (sen := sen) (self := a) (cell := freshCell P1.m.cls kX) (cellS := cellS)
    hcell (fun _ => by simp) (by simp) rfl rfl hsel0 hselF hcellS hneS hknownS (by rw [hkeep _ (hout' _)]; exact hu0) (by rw [hkeep _ (hout' _)]; exact hsen)
    (Takes.of_laid hk hord tyC (by rw [Y.causeType]; rfl)) (Takes.of_laid hk hord tyS (by rw [Y.stackType]; exact fits_refV_array _ u0)) (Takes.of_laid hk hord tyP (by rw [Y.suppType]; exact fits_refV_object _ sen)) Y.objLocals hskip htr [] hd6
    (by simp only [List.length_cons, hlen]; omega) (by simp only [List.length_cons, hlen]; exact hRlocals)
  have hlt : a < ((W.setVm vm₁).setVm vm₂).heap.size := (Array.getElem?_eq_some_iff.mp hcell).1
  refine ⟨(W.setVm vm₁).setVm vm₂, _, _, X₂, fun y hy => ?_, hlt, rfl, rfl, fun target hwalk => st1 _ (fun acts => ?_)⟩
  · simp only [List.mem_cons, List.not_mem_nil, or_false] at hy
    rcases hy with rfl | rfl | rfl | rfl <;> rfl
  · rw [doInvoke_state]
    exact st2 _ hwalk
end VXK
section VXK2
variable {p : Program} {l : Launch} {e : Env} {R : Room} {s : State} {m : MethodId} {args : Array Value} {below : List Frame} {meth : Method} {c : Code} {H : Heap} {locs : List Loc} {cells slots : Nat} {Q : State → Prop}
variable {ls : Array Slot} {rest : List Value} {D : va_G} {cl : List vw_C} {tys : List (ClassId × FieldType)} {ws : va_W}
/-- 'new E("text")' that isn't thrown at once: the object goes on the stack -/
theorem vx_makeS {cc : ByteArray} {pc : Nat} (hexec : p.tables.exec = Jvm.exec) (hb : c.code = cc) (hl : l.stackTraces = false) {own cls text : String} {names : List String} {ik is ic sa ci : Nat} {A : Nat → Prop} {T0 : u_T}
    (hown : s.vm.findClass own = some m.cls) (hcls : Bundle.fit cls = true) (hnames : ∀ n ∈ names, Bundle.fit n = true)
    (hk : (Cond.classLink own ik cls).before args s = true) (hini : (Cond.initialized cls).before args s = true) (hstr : vk_R own is text sa s) (hat : ∀ w ∈ vx_atS own ic cls names, w.before args s = true)
    (hgood : ∀ w ∈ Cond.classLink own ik cls :: Cond.initialized cls :: vx_atS own ic cls names, vx_ot w = true)
    (hU : vx_Zq Bundle.tN "UNASSIGNED_STACK" Bundle.steD A s s.heap) (hN : vx_Zq Bundle.tN "SUPPRESSED_SENTINEL" Bundle.listD A s s.heap) (hS : va_S A s.heap H locs) (hsize : ls.size = c.maxLocals)
    (d0 : decode cc pc = .ok (.new ik, 3)) (d3 : decode cc (pc + 3) = .ok (.dup, 1)) (d4 : decode cc (pc + 4) = .ok (.ldc is, 2)) (d6 : decode cc (pc + 6) = .ok (.invokespecial ic, 3))
    (hK : va_K D cl tys s) (hP : va_P D cl ws H) (hD : va_D A ws) (hA : ∀ q, s.heap.size ≤ q → A q) (hc : cl[ci]? = some (cls, T0, 0))
    (hRframes : names.length + 3 < R.frames) (hRlocals : (rest.map fun v => v.category).sum + (13 * (names.length + 1) + 43) ≤ R.locals) (hRcells : cells + 1 ≤ R.cells) (hRslots : slots + 6 ≤ R.slots)
    (kk : ∀ (q : Nat) (H1 : Heap), va_P D cl (ws ++ [(q, .inr (ci, []))]) H1 → va_D A (ws ++ [(q, .inr (ci, []))]) → va_S A s.heap H1 locs → W p l e R s m args below meth c H1 locs (cells + 1) (slots + 6) Q (F0 m (pc + 9) ls (.ref q :: rest))) :
    W p l e R s m args below meth c H locs cells slots Q (F0 m pc ls rest) := by
  intro T hT X
  subst hT
  have htr : e.platform.stackTraces = false := (show e.platform.stackTraces = l.stackTraces by rw [X.admits.platform]).trans hl
  have Y := vx_rebase X (R' := { frames := R.frames, locals := R.locals, cells := 1, slots := 6 }) (Nat.le_refl _) (Nat.le_refl _) hRcells hRslots
  obtain ⟨s', hA'⟩ : ∃ z, z = (T.setVm s.vm).setFrames (.invoking m args :: below) := ⟨_, rfl⟩
  rw [← hA'] at Y
  have hvm : s'.vm = s.vm := by rw [hA']; rfl
  have hhp : s'.heap = T.heap := by rw [hA']; rfl
  have hW0 : s.WarmedH s'.vm := by rw [hvm]; exact State.WarmedH.refl s
  have hat' : ∀ w ∈ vx_atS own ic cls names, w.before args s' = true := fun w hw => vx_ot_at hW0 hvm.symm (hgood w (List.mem_cons_of_mem _ (List.mem_cons_of_mem _ hw))) (hat w hw)
  have hk' : (Cond.classLink own ik cls).before args s' = true := vx_ot_at hW0 hvm.symm (hgood _ List.mem_cons_self) hk
  have hini' : (Cond.initialized cls).before args s' = true := vx_ot_at hW0 hvm.symm (hgood _ (List.mem_cons_of_mem _ List.mem_cons_self)) hini
  have hU' : vx_Zq Bundle.tN "UNASSIGNED_STACK" Bundle.steD A s' s'.heap := by rw [hhp]; exact vx_Zq.moved hW0.alike (hU.kept hS.2.1)
  have hN' : vx_Zq Bundle.tN "SUPPRESSED_SENTINEL" Bundle.listD A s' s'.heap := by rw [hhp]; exact vx_Zq.moved hW0.alike (hN.kept hS.2.1)
  have h : ∀ w ∈ Bundle.ownAtoms own ic cls names, w.before args s' = true := vx_own hat' (vx_isRefq hU'.1) (vx_isRefq hN'.1) hU'.2.word hN'.2.word
  have hown' : s'.vm.findClass own = some m.cls := by rw [hvm]; exact hown
  have hins : (Cond.instantiable cls 6).before args s' = true := h _ (by simp [Bundle.ownAtoms])
  obtain ⟨vm₁, cX, kX, hfX, hkX, -, -, X₁, st1⟩ := Y.newCold hexec (own := own) (C := cls) (index := ik) (n := 6) hown' hk' hins hini'
    (g := F0 m pc ls rest) rfl (by rw [hb]; exact d0) (Nat.le_refl _) (Nat.le_refl _)
  generalize hT1 : (T.setVm vm₁).pushCell { cls := cX, slots := kX.instanceTypes.map defaultValue, vm := .none } = T1 at X₁ st1
  have hcat : (Value.ref T.heap.size).category = 1 := rfl
  have hcellA : T1.heap[T.heap.size]? = some (freshCell cX kX) := by rw [← hT1]; exact State.heap_pushCell_size _ _
  have d3' : decode c.code (pc + 3) = .ok (.dup, 1) := by rw [hb]; exact d3
  have d4' : decode c.code (pc + 4) = .ok (.ldc is, 2) := by rw [hb]; exact d4
  have hstr' : vk_R own is text sa s' := vk_R.warm hW0 hstr
  obtain ⟨V, ce, L, Z, hL, hlt, hcl9, hvm9, st⟩ := vx_ctorMadeS X₁ hexec htr (own := own) (cls := cls) (names := names) (ic := ic) hown' hcls hnames h (fun x hx => nomatch hx) hfX hkX hcellA (by rw [hhp]; exact Nat.le_refl _) (msg := .ref sa) rfl
    (g := { method := m, pc := pc + 6, locals := ls, stack := .ref sa :: .ref T.heap.size :: .ref T.heap.size :: rest, locked := none }) rfl hsize (rest := rest) rfl
    (by rw [hb]; exact d6) hRframes (by simp only [List.map_cons, List.sum_cons, hcat]; omega)
  have Z0 := Stand.forget (locs := []) Z (fun y hy => by rw [hL y hy, hhp]; exact Nat.le_refl _)
  obtain ⟨f1, f2⟩ := vx_frame Z0.same
  rw [hhp] at f1 f2
  have hcid : ce.cls = D.1 ci := by
    rw [hcl9]
    have h1 := (hK.1 ci _ hc).2.1
    rw [hvm] at hfX
    exact Option.some.inj (hfX.symm.trans h1)
  have hh : (V.setCell T.heap.size ce).heap[T.heap.size]? = some ce := heapAt_setCell_self (s := V) ce hlt
  subst hA'
  have X5 := vx_back9 X Y Z0
  have X6 : Stand p l e R s m args below meth c (V.setCell T.heap.size ce) locs (cells + 1) (slots + 6) := { X5 with same := X5.same.mono (by omega) (by omega) }
  have hk9 : ∀ (k : Nat) (x : Nat × va_E), ws[k]? = some x → (V.setCell T.heap.size ce).heap[x.1]? = T.heap[x.1]? := fun k x hx => f2 x.1 ((hP k x hx).lt) (fun z hz => nomatch hz)
  obtain ⟨t, a1, b1⟩ := kk T.heap.size (V.setCell T.heap.size ce).heap ((hP.kept hk9).app (fun k x hx => by
      have hz : k < 1 := (List.getElem?_eq_some_iff.mp hx).1
      rw [show k = 0 by omega] at hx
      cases hx
      exact ⟨_, hc, ce, hh, hcid, hvm9, fun k hk => absurd hk (Nat.not_lt_zero k)⟩)) (hD.push hP rfl (hA _ hS.1)) ⟨Nat.le_trans hS.1 f1, fun q h1 h2 => (f2 q (Nat.lt_of_lt_of_le h1 hS.1) (fun z hz => nomatch hz)).trans (hS.2.1 q h1 h2), hS.2.2⟩ _ rfl X6
  refine ⟨t, st1 _ ?_, b1⟩
  show Steps p.tables e below (T1.setTop { method := m, pc := pc + 3, locals := ls, stack := .ref T.heap.size :: rest, locked := none }) _
  jvm_step X₁.here [X₁.here.top, hexec, d3', Value.category]
  exact X₁.ldcString hexec (own := own) (text := text) (index := is) (a := sa) hown' hstr'.1 hstr'.2
    (g := { method := m, pc := pc + 4, locals := ls, stack := .ref T.heap.size :: .ref T.heap.size :: rest, locked := none }) rfl d4' _ (st _ a1)
/-- 'new E()' that isn't thrown at once: the object goes on the stack -/
theorem vx_make0 {cc : ByteArray} {pc : Nat} (hexec : p.tables.exec = Jvm.exec) (hb : c.code = cc) (hl : l.stackTraces = false) {own cls : String} {names : List String} {ik ic ci : Nat} {A : Nat → Prop} {T0 : u_T}
    (hown : s.vm.findClass own = some m.cls) (hcls : Bundle.fit cls = true) (hnames : ∀ n ∈ names, Bundle.fit n = true)
    (hk : (Cond.classLink own ik cls).before args s = true) (hini : (Cond.initialized cls).before args s = true) (hat : ∀ w ∈ vx_at0 own ic cls names, w.before args s = true)
    (hgood : ∀ w ∈ Cond.classLink own ik cls :: Cond.initialized cls :: vx_at0 own ic cls names, vx_ot w = true)
    (hU : vx_Zq Bundle.tN "UNASSIGNED_STACK" Bundle.steD A s s.heap) (hN : vx_Zq Bundle.tN "SUPPRESSED_SENTINEL" Bundle.listD A s s.heap) (hS : va_S A s.heap H locs) (hsize : ls.size = c.maxLocals)
    (d0 : decode cc pc = .ok (.new ik, 3)) (d3 : decode cc (pc + 3) = .ok (.dup, 1)) (d4 : decode cc (pc + 4) = .ok (.invokespecial ic, 3))
    (hK : va_K D cl tys s) (hP : va_P D cl ws H) (hD : va_D A ws) (hA : ∀ q, s.heap.size ≤ q → A q) (hc : cl[ci]? = some (cls, T0, 0))
    (hRframes : names.length + 3 < R.frames) (hRlocals : (rest.map fun v => v.category).sum + (13 * (names.length + 1) + 42) ≤ R.locals) (hRcells : cells + 1 ≤ R.cells) (hRslots : slots + 6 ≤ R.slots)
    (kk : ∀ (q : Nat) (H1 : Heap), va_P D cl (ws ++ [(q, .inr (ci, []))]) H1 → va_D A (ws ++ [(q, .inr (ci, []))]) → va_S A s.heap H1 locs → W p l e R s m args below meth c H1 locs (cells + 1) (slots + 6) Q (F0 m (pc + 7) ls (.ref q :: rest))) :
    W p l e R s m args below meth c H locs cells slots Q (F0 m pc ls rest) := by
  intro T hT X
  subst hT
  have htr : e.platform.stackTraces = false := (show e.platform.stackTraces = l.stackTraces by rw [X.admits.platform]).trans hl
  have Y := vx_rebase X (R' := { frames := R.frames, locals := R.locals, cells := 1, slots := 6 }) (Nat.le_refl _) (Nat.le_refl _) hRcells hRslots
  obtain ⟨s', hA'⟩ : ∃ z, z = (T.setVm s.vm).setFrames (.invoking m args :: below) := ⟨_, rfl⟩
  rw [← hA'] at Y
  have hvm : s'.vm = s.vm := by rw [hA']; rfl
  have hhp : s'.heap = T.heap := by rw [hA']; rfl
  have hW0 : s.WarmedH s'.vm := by rw [hvm]; exact State.WarmedH.refl s
  have hat' : ∀ w ∈ vx_at0 own ic cls names, w.before args s' = true := fun w hw => vx_ot_at hW0 hvm.symm (hgood w (List.mem_cons_of_mem _ (List.mem_cons_of_mem _ hw))) (hat w hw)
  have hk' : (Cond.classLink own ik cls).before args s' = true := vx_ot_at hW0 hvm.symm (hgood _ List.mem_cons_self) hk
  have hini' : (Cond.initialized cls).before args s' = true := vx_ot_at hW0 hvm.symm (hgood _ (List.mem_cons_of_mem _ List.mem_cons_self)) hini
  have hU' : vx_Zq Bundle.tN "UNASSIGNED_STACK" Bundle.steD A s' s'.heap := by rw [hhp]; exact vx_Zq.moved hW0.alike (hU.kept hS.2.1)
  have hN' : vx_Zq Bundle.tN "SUPPRESSED_SENTINEL" Bundle.listD A s' s'.heap := by rw [hhp]; exact vx_Zq.moved hW0.alike (hN.kept hS.2.1)
  have h : ∀ w ∈ Bundle.ownAtoms0 own ic cls names, w.before args s' = true := vx_own hat' (vx_isRefq hU'.1) (vx_isRefq hN'.1) hU'.2.word hN'.2.word
  have hown' : s'.vm.findClass own = some m.cls := by rw [hvm]; exact hown
  have hins : (Cond.instantiable cls 6).before args s' = true := h _ (by simp [Bundle.ownAtoms0])
  obtain ⟨vm₁, cX, kX, hfX, hkX, -, -, X₁, st1⟩ := Y.newCold hexec (own := own) (C := cls) (index := ik) (n := 6) hown' hk' hins hini'
    (g := F0 m pc ls rest) rfl (by rw [hb]; exact d0) (Nat.le_refl _) (Nat.le_refl _)
  generalize hT1 : (T.setVm vm₁).pushCell { cls := cX, slots := kX.instanceTypes.map defaultValue, vm := .none } = T1 at X₁ st1
  have hcat : (Value.ref T.heap.size).category = 1 := rfl
  have hcellA : T1.heap[T.heap.size]? = some (freshCell cX kX) := by rw [← hT1]; exact State.heap_pushCell_size _ _
  have d3' : decode c.code (pc + 3) = .ok (.dup, 1) := by rw [hb]; exact d3
  obtain ⟨V, ce, L, Z, hL, hlt, hcl9, hvm9, st⟩ := vx_ctorMade0 X₁ hexec htr (own := own) (cls := cls) (names := names) (ic := ic) hown' hcls hnames h (fun x hx => nomatch hx) hfX hkX hcellA (by rw [hhp]; exact Nat.le_refl _)
    (g := { method := m, pc := pc + 4, locals := ls, stack := .ref T.heap.size :: .ref T.heap.size :: rest, locked := none }) rfl hsize (rest := rest) rfl
    (by rw [hb]; exact d4) hRframes (by simp only [List.map_cons, List.sum_cons, hcat]; omega)
  have Z0 := Stand.forget (locs := []) Z (fun y hy => by rw [hL y hy, hhp]; exact Nat.le_refl _)
  obtain ⟨f1, f2⟩ := vx_frame Z0.same
  rw [hhp] at f1 f2
  have hcid : ce.cls = D.1 ci := by
    rw [hcl9]
    have h1 := (hK.1 ci _ hc).2.1
    rw [hvm] at hfX
    exact Option.some.inj (hfX.symm.trans h1)
  have hh : (V.setCell T.heap.size ce).heap[T.heap.size]? = some ce := heapAt_setCell_self (s := V) ce hlt
  subst hA'
  have X5 := vx_back9 X Y Z0
  have X6 : Stand p l e R s m args below meth c (V.setCell T.heap.size ce) locs (cells + 1) (slots + 6) := { X5 with same := X5.same.mono (by omega) (by omega) }
  have hk9 : ∀ (k : Nat) (x : Nat × va_E), ws[k]? = some x → (V.setCell T.heap.size ce).heap[x.1]? = T.heap[x.1]? := fun k x hx => f2 x.1 ((hP k x hx).lt) (fun z hz => nomatch hz)
  obtain ⟨t, a1, b1⟩ := kk T.heap.size (V.setCell T.heap.size ce).heap ((hP.kept hk9).app (fun k x hx => by
      have hz : k < 1 := (List.getElem?_eq_some_iff.mp hx).1
      rw [show k = 0 by omega] at hx
      cases hx
      exact ⟨_, hc, ce, hh, hcid, hvm9, fun k hk => absurd hk (Nat.not_lt_zero k)⟩)) (hD.push hP rfl (hA _ hS.1)) ⟨Nat.le_trans hS.1 f1, fun q h1 h2 => (f2 q (Nat.lt_of_lt_of_le h1 hS.1) (fun z hz => nomatch hz)).trans (hS.2.1 q h1 h2), hS.2.2⟩ _ rfl X6
  refine ⟨t, st1 _ ?_, b1⟩
  show Steps p.tables e below (T1.setTop { method := m, pc := pc + 3, locals := ls, stack := .ref T.heap.size :: rest, locked := none }) _
  jvm_step X₁.here [X₁.here.top, hexec, d3', Value.category]
  exact st _ a1
/-- 'throw x' of an object that was made before -/
theorem vx_athrow {cc : ByteArray} {pc : Nat} (hexec : p.tables.exec = Jvm.exec) (hb : c.code = cc) {q : Addr} (hdg : decode cc pc = .ok (.athrow, 1)) (k : vx_W p l e R s m args below meth c H locs cells slots Q (F0 m pc ls rest) q) : W p l e R s m args below meth c H locs cells slots Q (F0 m pc ls (.ref q :: rest)) := by
  intro T hT X
  obtain ⟨t, st, hq⟩ := k T hT X
  refine ⟨t, ?_, hq⟩
  have hdg' : decode c.code pc = .ok (.athrow, 1) := by rw [hb]; exact hdg
  jvm_step X.here [X.here.top, hexec, hdg', athrow.wp_sem]
  exact st
end VXK2
/-! ===== END ===== -/
/-! ===== BEGIN a constructor that throws (launches without stack traces) ===== -/
section VXIA
variable {p : Program} {l : Launch} {e : Env} {R : Room} {s : State} {m : MethodId} {args : Array Value} {below : List Frame} {meth : Method} {c : Code} {T : State} {locs : List Loc} {cells slots : Nat}
theorem vx_callI (X : Stand p l e R s m args below meth c T locs cells slots) (hexec : p.tables.exec = Jvm.exec) {own : String} {index : Nat} {y : MethodName} {bytes : ByteArray} {maxL : Nat}
    (hown : s.vm.findClass own = some m.cls) (hy1 : y.name = "<init>") (hlink : (Cond.methodLink own index y).before args s = true) (hinst : (Cond.instanceMethod y).before args s = true)
    (hcode : (Cond.code y bytes maxL none).before args s = true) (hy : y.cls ≠ "java/lang/invoke/MethodHandle" ∧ y.cls ≠ "java/lang/invoke/VarHandle")
    {W9 : Nat} {Pre : Pt → Array Value → Prop} {Post : Pt → Array Value → Option Value → Pt → Prop} {PostX : Pt → Array Value → Addr → Pt → Prop} (hK : vx_Back l R p e below s args y 3 W9 Pre Post PostX)
    {g : JFrame} (hg : g.method = m) (hsize : g.locals.size = c.maxLocals) {a : Addr} {argsL rest : List Value} (hlen : ∀ sig, parseMethodDescriptor y.desc = some sig → argsL.length = sig.parameters.length)
    (hstack : g.stack = argsL.reverse ++ .ref a :: rest) (hW : 2 * g.monitorRoom + (rest.map fun v => v.category).sum ≤ W9) (hdg : decode c.code g.pc = .ok (.invokespecial index, 3))
    (hpre : ∀ vm₁, s.WarmedH vm₁ → Pre ⟨T.setVm vm₁, locs, cells, slots⟩ (Value.ref a :: argsL).toArray) :
    (∃ (v : Option Value) (vm₁ : Vm) (B : Pt), s.WarmedH vm₁ ∧ Stand p l e R s m args below meth c B.U B.locs B.cells B.slots ∧ Post ⟨T.setVm vm₁, locs, cells, slots⟩ (Value.ref a :: argsL).toArray v B ∧
      ∀ target, Steps p.tables e below (B.U.setTop { g with pc := g.pc + 3, stack := v.toList ++ rest }) target → Steps p.tables e below (T.setTop g) target) ∨
    (∃ (q : Addr) (vm₁ : Vm) (B : Pt), s.WarmedH vm₁ ∧ Stand p l e R s m args below meth c B.U B.locs B.cells B.slots ∧ PostX ⟨T.setVm vm₁, locs, cells, slots⟩ (Value.ref a :: argsL).toArray q B ∧
      Steps p.tables e below (T.setTop g) ((B.U.setTop { g with stack := rest }).pushFrame (.throwing q))) := by
  subst hg
  have hpl : e.platform.magicAccessors = ({} : Platform).magicAccessors := by rw [X.admits.platform]
  obtain ⟨mk, methM, cM, kP, vm₁, hnamed, hmethM, hcodeM, -, hlocalsM, -, hkP, -, hW₁, hstep₁⟩ := Steps.initColdArgs (e := e) X.here hexec X.warmed hpl hown hy1 hy hlink hinst hcode (f := g) rfl hlen hstack hdg
  have X₁ := X.noted hW₁
  rcases hK g.method meth c ⟨T.setVm vm₁, locs, cells, slots⟩ { g with stack := rest } (.invokespecial index) mk (Value.ref a :: argsL).toArray X₁ rfl hsize hdg hW (X₁.named hnamed) (hpre vm₁ X₁.warmed) with ⟨v, B, X', hpost, hsteps⟩ | ⟨q, B, X', hpost, hsteps⟩
  · exact Or.inl ⟨v, vm₁, B, X₁.warmed, X', hpost, fun target h => hstep₁ _ fun acts => by rw [doInvoke_state]; exact hsteps.trans h⟩
  · exact Or.inr ⟨q, vm₁, B, X₁.warmed, X', hpost, hstep₁ _ fun acts => by rw [doInvoke_state]; exact hsteps⟩
end VXIA
section VXIB
variable {p : Program} {l : Launch} {e : Env} {R : Room} {s : State} {m : MethodId} {args : Array Value} {below : List Frame} {meth : Method} {c : Code} {H : Heap} {locs : List Loc} {cells slots : Nat}
variable {y : MethodName} {bytes cc : ByteArray} {maxL nL mc ms n index : Nat} {ret : Option FieldType} {ws : List Cond} {rm : Room} {Pc : Array Value → State → Prop} {Qc : Array Value → State → Outcome → State → Prop} {XC : String → State → State → Prop} {free : Addr → Prop} {Ts : List Cond} {own C : String} {b : Addr} {As rest : List Value} {g : JFrame}
theorem vx_runI (S : CallFix p m c cc nL s args Ts own) (hM : vx_Met l y ws rm Pc Qc XC mc ms free) (cw : CallB R s args own index y bytes maxL none ws rm mc ms n ∧ y.name = "<init>" ∧ (Cond.instanceMethod y).before args s = true) (hp : PreS s H Pc (.ref b :: As))
    (hg : g.method = m) (hn : As.length = n) (hsize : g.locals.size = nL) (hstack : g.stack = As.reverse ++ .ref b :: rest) (hW : 2 * g.monitorRoom + (rest.map fun v => v.category).sum ≤ 8) (hdg : decode cc g.pc = .ok (.invokespecial index, 3)) (hf : cells + mc ≤ R.cells ∧ slots + ms ≤ R.slots) :
    vx_Run p l e R s m args below meth c H locs cells slots mc ms g rest (Qc (Value.ref b :: As).toArray) XC free := by
  have hK : vx_Back l R p e below s args y 3 8 (PreOf R mc ms Pc) (PostOf Qc mc ms free) (vx_Post XC mc ms free) := vx_callBack cw.1 hM hp.1
  obtain ⟨⟨-, -, -, -, -, -, hcode, -, hy, hlen, hl⟩, hy1, hin⟩ := cw
  obtain ⟨hx, hb, hml, ho, -⟩ := S
  have hPc := hp.2
  intro T hT X
  rcases vx_callI X hx (bytes := bytes) (maxL := maxL) ho hy1 hl hin hcode hy hK hg (hsize.trans hml.symm) (a := b) (argsL := As) (rest := rest) (fun sig h => hn.trans (hlen sig h)) hstack hW (by rw [hb]; exact hdg)
    (fun vm₁ hW₁ => ⟨hf.1, hf.2, hPc (T.setVm vm₁) hT hW₁⟩) with ⟨v, vm₁, ⟨U', l2, c2, s2⟩, hW₁, X', ⟨g', mk, t, L, e1, e2, hq, h1, hL, h2, h3⟩, st⟩ | ⟨q, vm₁, ⟨U', l2, c2, s2⟩, hW₁, X', ⟨g', mk, t, L, E, ce, e1, e2, hq, hce, hcv, hcl, h1, hL, h2, h3⟩, st⟩
  · dsimp only [Pt.U, Pt.locs, Pt.cells, Pt.slots] at X' e1 e2 h1 h2 h3 st
    subst h1; subst h2; subst h3
    exact Or.inl ⟨v, (T.setVm vm₁).calling g' mk (Value.ref b :: As).toArray, t, U', L, hT, X', hL, e1, e2, hq, st⟩
  · dsimp only [Pt.U, Pt.locs, Pt.cells, Pt.slots] at X' e1 e2 h1 h2 h3 st hcl
    subst h1; subst h2; subst h3
    exact Or.inr ⟨q, (T.setVm vm₁).calling g' mk (Value.ref b :: As).toArray, t, U', L, E, ce, hT, X', hL, e1, e2, hq, hce, hcv, vx_cls hW₁ hcl, st⟩
end VXIB
/-! ===== END ===== -/
/-! ===== BEGIN a private constructor of a nest mate that throws ===== -/
section VXIC
variable {p : Program} {l : Launch} {e : Env} {R : Room} {s : State} {m : MethodId} {args : Array Value} {below : List Frame} {meth : Method} {c : Code} {T : State} {locs : List Loc} {cells slots : Nat}
theorem vx_callIN (X : Stand p l e R s m args below meth c T locs cells slots) (hexec : p.tables.exec = Jvm.exec) {own : String} {index : Nat} {host : String} {y : MethodName} {bytes : ByteArray} {maxL : Nat}
    (hown : s.vm.findClass own = some m.cls) (hy1 : y.name = "<init>") (hlink : (Cond.methodLinkNest own index y host).before args s = true) (hinst : (Cond.instanceMethod y).before args s = true)
    (hcode : (Cond.code y bytes maxL none).before args s = true) (hy : y.cls ≠ "java/lang/invoke/MethodHandle" ∧ y.cls ≠ "java/lang/invoke/VarHandle")
    {W9 : Nat} {Pre : Pt → Array Value → Prop} {Post : Pt → Array Value → Option Value → Pt → Prop} {PostX : Pt → Array Value → Addr → Pt → Prop} (hK : vx_Back l R p e below s args y 3 W9 Pre Post PostX)
    {g : JFrame} (hg : g.method = m) (hsize : g.locals.size = c.maxLocals) {a : Addr} {argsL rest : List Value} (hlen : ∀ sig, parseMethodDescriptor y.desc = some sig → argsL.length = sig.parameters.length)
    (hstack : g.stack = argsL.reverse ++ .ref a :: rest) (hW : 2 * g.monitorRoom + (rest.map fun v => v.category).sum ≤ W9) (hdg : decode c.code g.pc = .ok (.invokespecial index, 3))
    (hpre : ∀ vm₁, s.WarmedH vm₁ → Pre ⟨T.setVm vm₁, locs, cells, slots⟩ (Value.ref a :: argsL).toArray) :
    (∃ (v : Option Value) (vm₁ : Vm) (B : Pt), s.WarmedH vm₁ ∧ Stand p l e R s m args below meth c B.U B.locs B.cells B.slots ∧ Post ⟨T.setVm vm₁, locs, cells, slots⟩ (Value.ref a :: argsL).toArray v B ∧
      ∀ target, Steps p.tables e below (B.U.setTop { g with pc := g.pc + 3, stack := v.toList ++ rest }) target → Steps p.tables e below (T.setTop g) target) ∨
    (∃ (q : Addr) (vm₁ : Vm) (B : Pt), s.WarmedH vm₁ ∧ Stand p l e R s m args below meth c B.U B.locs B.cells B.slots ∧ PostX ⟨T.setVm vm₁, locs, cells, slots⟩ (Value.ref a :: argsL).toArray q B ∧
      Steps p.tables e below (T.setTop g) ((B.U.setTop { g with stack := rest }).pushFrame (.throwing q))) := by
  subst hg
  have hpl : e.platform.magicAccessors = ({} : Platform).magicAccessors := by rw [X.admits.platform]
  obtain ⟨mk, methM, cM, kP, vm₁, hnamed, hmethM, hcodeM, -, hlocalsM, -, hkP, -, hW₁, hstep₁⟩ := Steps.initColdArgsNest (e := e) X.here hexec X.warmed hpl hown hy1 hy hlink hinst hcode (f := g) rfl hlen hstack hdg
  have X₁ := X.noted hW₁
  rcases hK g.method meth c ⟨T.setVm vm₁, locs, cells, slots⟩ { g with stack := rest } (.invokespecial index) mk (Value.ref a :: argsL).toArray X₁ rfl hsize hdg hW (X₁.named hnamed) (hpre vm₁ X₁.warmed) with ⟨v, B, X', hpost, hsteps⟩ | ⟨q, B, X', hpost, hsteps⟩
  · exact Or.inl ⟨v, vm₁, B, X₁.warmed, X', hpost, fun target h => hstep₁ _ fun acts => by rw [doInvoke_state]; exact hsteps.trans h⟩
  · exact Or.inr ⟨q, vm₁, B, X₁.warmed, X', hpost, hstep₁ _ fun acts => by rw [doInvoke_state]; exact hsteps⟩
end VXIC
section VXID
variable {p : Program} {l : Launch} {e : Env} {R : Room} {s : State} {m : MethodId} {args : Array Value} {below : List Frame} {meth : Method} {c : Code} {H : Heap} {locs : List Loc} {cells slots : Nat}
theorem vx_runIN {y : MethodName} {bytes cc : ByteArray} {maxL nL mc ms n index : Nat} {ws : List Cond} {rm : Room} {Pc : Array Value → State → Prop} {Qc : Array Value → State → Outcome → State → Prop} {XC : String → State → State → Prop} {free : Addr → Prop} {Ts : List Cond} {own host : String} {b : Addr} {As rest : List Value} {g : JFrame}
    (S : CallFix p m c cc nL s args Ts own) (hM : vx_Met l y ws rm Pc Qc XC mc ms free) (cw : va_CN R s args own index y host bytes maxL none ws rm mc ms n ∧ y.name = "<init>" ∧ (Cond.instanceMethod y).before args s = true) (hp : PreS s H Pc (.ref b :: As))
    (hg : g.method = m) (hn : As.length = n) (hsize : g.locals.size = nL) (hstack : g.stack = As.reverse ++ .ref b :: rest) (hW : 2 * g.monitorRoom + (rest.map fun v => v.category).sum ≤ 8) (hdg : decode cc g.pc = .ok (.invokespecial index, 3)) (hf : cells + mc ≤ R.cells ∧ slots + ms ≤ R.slots) :
    vx_Run p l e R s m args below meth c H locs cells slots mc ms g rest (Qc (Value.ref b :: As).toArray) XC free := by
  obtain ⟨⟨⟨hrc, hrs, hfr, hlo, hws, hcw⟩, hcode, hini, hy, hlen, hl⟩, hx1, hx2⟩ := cw
  have hK : vx_Back l R p e below s args y 3 8 (PreOf R mc ms Pc) (PostOf Qc mc ms free) (vx_Post XC mc ms free) := vx_back (bytes := bytes) (maxL := maxL) (ret := none) hM hp.1 hrc hrs hfr hlo hws hcw (fun a' U hW => word_at hW (Or.inl (by first | rfl | simp [Cond.onTables, Cond.keeps, Cond.steady])) hini)
  obtain ⟨hx, hb, hml, ho, -⟩ := S
  have hPc := hp.2
  intro T hT X
  rcases vx_callIN X hx (bytes := bytes) (maxL := maxL) ho hx1 hl hx2 hcode hy hK hg (hsize.trans hml.symm) (a := b) (argsL := As) (rest := rest) (fun sig h => hn.trans (hlen sig h)) hstack hW (by rw [hb]; exact hdg)
    (fun vm₁ hW₁ => ⟨hf.1, hf.2, hPc (T.setVm vm₁) hT hW₁⟩) with ⟨v, vm₁, ⟨U', l2, c2, s2⟩, hW₁, X', ⟨g', mk, t, L, e1, e2, hq, h1, hL, h2, h3⟩, st⟩ | ⟨q, vm₁, ⟨U', l2, c2, s2⟩, hW₁, X', ⟨g', mk, t, L, E, ce, e1, e2, hq, hce, hcv, hcl, h1, hL, h2, h3⟩, st⟩
  · dsimp only [Pt.U, Pt.locs, Pt.cells, Pt.slots] at X' e1 e2 h1 h2 h3 st
    subst h1; subst h2; subst h3
    exact Or.inl ⟨v, (T.setVm vm₁).calling g' mk (Value.ref b :: As).toArray, t, U', L, hT, X', hL, e1, e2, hq, st⟩
  · dsimp only [Pt.U, Pt.locs, Pt.cells, Pt.slots] at X' e1 e2 h1 h2 h3 st hcl
    subst h1; subst h2; subst h3
    exact Or.inr ⟨q, (T.setVm vm₁).calling g' mk (Value.ref b :: As).toArray, t, U', L, E, ce, hT, X', hL, e1, e2, hq, hce, hcv, vx_cls hW₁ hcl, st⟩
end VXID
/-! ===== END ===== -/
/-! ===== BEGIN a method of a class above, found by the receiver, that may throw (follows va_callVU, va_runU of this kit) ===== -/
section
variable {p : Program} {l : Launch} {e : Env} {R : Room} {s : State} {m : MethodId} {args : Array Value} {below : List Frame} {meth : Method} {c : Code} {H : Heap} {locs : List Loc} {cells slots : Nat}
theorem vx_callVU {T : State} {locs : List Loc} {cells slots : Nat} (X : Stand p l e R s m args below meth c T locs cells slots) (hexec : p.tables.exec = Jvm.exec) {own C owner : String} {index : Nat} {x y : MethodName} {bytes : ByteArray} {maxL : Nat} {ret : Option FieldType}
    (hown : s.vm.findClass own = some m.cls) (hlink : (Cond.methodLink own index x).before args s = true) (hsame : (Cond.sameMethod x.cls owner x.name x.desc).before args s = true)
    (hd0 : va_Decl s ⟨owner, x.name, x.desc⟩) (howner : owner ≠ "java/lang/invoke/MethodHandle" ∧ owner ≠ "java/lang/invoke/VarHandle")
    (hsel : (Cond.selects C x y).before args s = true) (hinst : (Cond.instanceMethod y).before args s = true) (hcode : (Cond.code y bytes maxL ret).before args s = true)
    {W : Nat} {Pre : Pt → Array Value → Prop} {Post : Pt → Array Value → Option Value → Pt → Prop} {PostX : Pt → Array Value → Addr → Pt → Prop} (hK : vx_Back l R p e below s args y 3 W Pre Post PostX)
    {b : Addr} {cellB : Cell} (hcell : T.heap[b]? = some cellB) (hobj : cellB.vm.isStatics = false) (hcls : s.vm.findClass C = some cellB.cls)
    {g : JFrame} (hg : g.method = m) (hsize : g.locals.size = c.maxLocals) {argsL rest : List Value} (hlen : ∀ sig, parseMethodDescriptor x.desc = some sig → argsL.length = sig.parameters.length)
    (hstack : g.stack = argsL.reverse ++ .ref b :: rest) (hW : 2 * g.monitorRoom + (rest.map fun v => v.category).sum ≤ W) (hdg : decode c.code g.pc = .ok (.invokevirtual index, 3))
    (hpre : ∀ vm₁, s.WarmedH vm₁ → Pre ⟨T.setVm vm₁, locs, cells, slots⟩ (Value.ref b :: argsL).toArray) :
    (∃ (v : Option Value) (vm₁ : Vm) (B : Pt), s.WarmedH vm₁ ∧ Stand p l e R s m args below meth c B.U B.locs B.cells B.slots ∧ Post ⟨T.setVm vm₁, locs, cells, slots⟩ (Value.ref b :: argsL).toArray v B ∧
      ∀ target, Steps p.tables e below (B.U.setTop { g with pc := g.pc + 3, stack := v.toList ++ rest }) target → Steps p.tables e below (T.setTop g) target) ∨
    (∃ (q : Addr) (vm₁ : Vm) (B : Pt), s.WarmedH vm₁ ∧ Stand p l e R s m args below meth c B.U B.locs B.cells B.slots ∧ PostX ⟨T.setVm vm₁, locs, cells, slots⟩ (Value.ref b :: argsL).toArray q B ∧
      Steps p.tables e below (T.setTop g) ((B.U.setTop { g with stack := rest }).pushFrame (.throwing q))) := by
  obtain ⟨r0, r, hn, hrm, hstR, hsigR⟩ := hd0
  obtain ⟨cn, ck, r1, hcn, hck, hni, hf, hn1⟩ := Cond.sameMethod_found hsame
  cases hn.symm.trans hn1
  obtain ⟨mk, methM, hnamed, hmethM, -, habM⟩ := Cond.instanceMethod_spec hinst
  obtain ⟨c2, r2, m2, q1, q2, q3, q4, kP, hkP, hkPi⟩ := Cond.selects_spec hsel
  cases hcls.symm.trans q1
  cases hf.symm.trans q2
  cases hnamed.symm.trans q3
  have hselP : selectMethod e.platform s.vm cellB.cls r0 = .method mk := by rw [Launch.admits_selectMethod X.admits]; exact q4
  obtain ⟨vm₁, X₁, hstep₁⟩ := X.invokevirtualUp hexec hown hlink hsame howner hn hrm hstR (a := b) (cell := cellB) hcell
    (fun z h => by rw [h] at hobj; cases hobj) hselP hmethM habM hkP hkPi (g := g) hg (argsL := argsL) (rest := rest) (hlen _ hsigR) hstack hdg
  rcases hK m meth c ⟨T.setVm vm₁, locs, cells, slots⟩ { g with stack := rest } (.invokevirtual index) mk (Value.ref b :: argsL).toArray X₁ hg hsize hdg hW (X₁.named hnamed) (hpre vm₁ X₁.warmed) with ⟨v, B, X', hpost, hsteps⟩ | ⟨q, B, X', hpost, hsteps⟩
  · exact Or.inl ⟨v, vm₁, B, X₁.warmed, X', hpost, fun target h => hstep₁ _ fun acts => by rw [doInvoke_state]; exact hsteps.trans h⟩
  · exact Or.inr ⟨q, vm₁, B, X₁.warmed, X', hpost, hstep₁ _ fun acts => by rw [doInvoke_state]; exact hsteps⟩
theorem vx_runU {x y : MethodName} {bytes cc : ByteArray} {maxL nL mc ms n index : Nat} {ret : Option FieldType} {ws : List Cond} {rm : Room} {Pc : Array Value → State → Prop} {Qc : Array Value → State → Outcome → State → Prop} {XC : String → State → State → Prop} {free : Addr → Prop} {Ts : List Cond} {own C owner : String} {b : Addr} {As rest : List Value} {g : JFrame}
    (S : CallFix p m c cc nL s args Ts own) (hM : vx_Met l y ws rm Pc Qc XC mc ms free) (cw : va_CU R s args own C owner index x y bytes maxL ret ws rm mc ms n) (hp : PreV s H C b Pc As)
    (hg : g.method = m) (hn : As.length = n) (hsize : g.locals.size = nL) (hstack : g.stack = As.reverse ++ .ref b :: rest) (hW : 2 * g.monitorRoom + (rest.map fun v => v.category).sum ≤ 8) (hdg : decode cc g.pc = .ok (.invokevirtual index, 3)) (hf : cells + mc ≤ R.cells ∧ slots + ms ≤ R.slots) :
    vx_Run p l e R s m args below meth c H locs cells slots mc ms g rest (Qc (Value.ref b :: As).toArray) XC free := by
  obtain ⟨hrc, hrs, hfr, hlo, hws, hcw⟩ := cw.back
  have hini := cw.init
  have hK : vx_Back l R p e below s args y 3 8 (PreOf R mc ms Pc) (PostOf Qc mc ms free) (vx_Post XC mc ms free) := vx_back (bytes := bytes) (maxL := maxL) (ret := ret) hM hp.1 hrc hrs hfr hlo hws hcw (fun a' U hW => word_at hW (Or.inl (by first | rfl | simp [Cond.onTables, Cond.keeps, Cond.steady])) hini)
  obtain ⟨hx, hb, hml, ho, -⟩ := S
  obtain ⟨-, ⟨cellB, hcB, hoB, hclB⟩, hPc⟩ := hp
  intro T hT X
  rcases vx_callVU X hx (C := C) (owner := owner) (bytes := bytes) (maxL := maxL) (ret := ret) ho cw.link cw.same cw.decl cw.notMH cw.sel cw.inst cw.code hK (by rw [hT]; exact hcB) hoB hclB hg (hsize.trans hml.symm) (argsL := As) (rest := rest) (fun sig h => hn.trans (cw.len sig h)) hstack hW (by rw [hb]; exact hdg)
    (fun vm₁ hW₁ => ⟨hf.1, hf.2, hPc (T.setVm vm₁) hT hW₁⟩) with ⟨v, vm₁, ⟨U', l2, c2, s2⟩, hW₁, X', ⟨g', mk, t, L, e1, e2, hq, h1, hL, h2, h3⟩, st⟩ | ⟨q, vm₁, ⟨U', l2, c2, s2⟩, hW₁, X', ⟨g', mk, t, L, E, ce, e1, e2, hq, hce, hcv, hcl, h1, hL, h2, h3⟩, st⟩
  · dsimp only [Pt.U, Pt.locs, Pt.cells, Pt.slots] at X' e1 e2 h1 h2 h3 st
    subst h1; subst h2; subst h3
    exact Or.inl ⟨v, (T.setVm vm₁).calling g' mk (Value.ref b :: As).toArray, t, U', L, hT, X', hL, e1, e2, hq, st⟩
  · dsimp only [Pt.U, Pt.locs, Pt.cells, Pt.slots] at X' e1 e2 h1 h2 h3 st hcl
    subst h1; subst h2; subst h3
    exact Or.inr ⟨q, (T.setVm vm₁).calling g' mk (Value.ref b :: As).toArray, t, U', L, E, ce, hT, X', hL, e1, e2, hq, hce, hcv, vx_cls hW₁ hcl, st⟩
end
/-! ===== END ===== -/
/-! ===== BEGIN super.m(..) that may throw (follows va_callSU, va_runSU) ===== -/
section
variable {p : Program} {l : Launch} {e : Env} {R : Room} {s : State} {m : MethodId} {args : Array Value} {below : List Frame} {meth : Method} {c : Code} {H : Heap} {locs : List Loc} {cells slots : Nat}
theorem vx_callSU {T : State} {locs : List Loc} {cells slots : Nat} (X : Stand p l e R s m args below meth c T locs cells slots) (hexec : p.tables.exec = Jvm.exec) {own : String} {index : Nat} {y : MethodName} {bytes : ByteArray} {maxL : Nat} {ret : Option FieldType}
    (hown : s.vm.findClass own = some m.cls) (hlink : (Cond.methodLink own index y).before args s = true) (hsame : (Cond.sameMethod y.cls y.cls y.name y.desc).before args s = true) (hsup : (Cond.superclass own y.cls).before args s = true)
    (hinst : (Cond.instanceMethod y).before args s = true) (hcode : (Cond.code y bytes maxL ret).before args s = true) (hno : y.name ≠ "<init>")
    {W : Nat} {Pre : Pt → Array Value → Prop} {Post : Pt → Array Value → Option Value → Pt → Prop} {PostX : Pt → Array Value → Addr → Pt → Prop} (hK : vx_Back l R p e below s args y 3 W Pre Post PostX)
    {b : Addr} {cellB : Cell} {kB : Class} (hcell : T.heap[b]? = some cellB) (hobj : cellB.vm.isStatics = false) (hkB : s.vm.classes[cellB.cls]? = some kB)
    {g : JFrame} (hg : g.method = m) (hsize : g.locals.size = c.maxLocals) {argsL rest : List Value} (hlen : ∀ sig, parseMethodDescriptor y.desc = some sig → argsL.length = sig.parameters.length)
    (hstack : g.stack = argsL.reverse ++ .ref b :: rest) (hW : 2 * g.monitorRoom + (rest.map fun v => v.category).sum ≤ W) (hdg : decode c.code g.pc = .ok (.invokespecial index, 3))
    (hpre : ∀ vm₁, s.WarmedH vm₁ → Pre ⟨T.setVm vm₁, locs, cells, slots⟩ (Value.ref b :: argsL).toArray) :
    (∃ (v : Option Value) (vm₁ : Vm) (B : Pt), s.WarmedH vm₁ ∧ Stand p l e R s m args below meth c B.U B.locs B.cells B.slots ∧ Post ⟨T.setVm vm₁, locs, cells, slots⟩ (Value.ref b :: argsL).toArray v B ∧
      ∀ target, Steps p.tables e below (B.U.setTop { g with pc := g.pc + 3, stack := v.toList ++ rest }) target → Steps p.tables e below (T.setTop g) target) ∨
    (∃ (q : Addr) (vm₁ : Vm) (B : Pt), s.WarmedH vm₁ ∧ Stand p l e R s m args below meth c B.U B.locs B.cells B.slots ∧ PostX ⟨T.setVm vm₁, locs, cells, slots⟩ (Value.ref b :: argsL).toArray q B ∧
      Steps p.tables e below (T.setTop g) ((B.U.setTop { g with stack := rest }).pushFrame (.throwing q))) := by
  obtain ⟨mk, methM, hnamed, hmethM, hstM, habM⟩ := Cond.instanceMethod_spec hinst
  obtain ⟨methM', cM, hmethM', -, -, -, -, -, -, hsigM⟩ := Cond.code_spec hnamed hcode
  cases hmethM.symm.trans hmethM'
  obtain ⟨ps, dk, kp, hps, hdk, hkp, hsuper, -, -, hnid⟩ := Cond.superclass_spec hown hsup
  have hn : s.methodNamed? ⟨y.cls, y.name, y.desc⟩ = some mk := hnamed
  have hpm : ps = mk.cls := Option.some.inj (hps.symm.trans (findClass_of_methodNamed hnamed))
  have hsub : s.vm.isSubclass ps mk.cls = true := by rw [hpm]; simp [Vm.isSubclass, Vm.isSubclassAux]
  obtain ⟨vm₁, X₁, hstep₁⟩ := X.invokespecialUp hexec hown hlink hsame hn hmethM hstM habM hno hdk hnid hps hsuper hsub (a := b) (cell := cellB) hcell
    (fun z h => by rw [h] at hobj; cases hobj) hkB (g := g) hg (argsL := argsL) (rest := rest) (hlen _ hsigM) hstack hdg
  rcases hK m meth c ⟨T.setVm vm₁, locs, cells, slots⟩ { g with stack := rest } (.invokespecial index) mk (Value.ref b :: argsL).toArray X₁ hg hsize hdg hW (X₁.named hnamed) (hpre vm₁ X₁.warmed) with ⟨v, B, X', hpost, hsteps⟩ | ⟨q, B, X', hpost, hsteps⟩
  · exact Or.inl ⟨v, vm₁, B, X₁.warmed, X', hpost, fun target h => hstep₁ _ (by rw [doInvoke_state]; exact hsteps.trans h)⟩
  · exact Or.inr ⟨q, vm₁, B, X₁.warmed, X', hpost, hstep₁ _ (by rw [doInvoke_state]; exact hsteps)⟩
theorem vx_runSU {y : MethodName} {bytes cc : ByteArray} {maxL nL mc ms n index : Nat} {ret : Option FieldType} {ws : List Cond} {rm : Room} {Pc : Array Value → State → Prop} {Qc : Array Value → State → Outcome → State → Prop} {XC : String → State → State → Prop} {free : Addr → Prop} {Ts : List Cond} {own C : String} {cC : ClassId} {b : Addr} {As rest : List Value} {g : JFrame}
    (hat : ClassAt s C cC) (S : CallFix p m c cc nL s args Ts own) (hM : vx_Met l y ws rm Pc Qc XC mc ms free) (cw : va_CS R s args own index y bytes maxL ret ws rm mc ms n) (hp : PreV s H C b Pc As)
    (hg : g.method = m) (hn : As.length = n) (hsize : g.locals.size = nL) (hstack : g.stack = As.reverse ++ .ref b :: rest) (hW : 2 * g.monitorRoom + (rest.map fun v => v.category).sum ≤ 8) (hdg : decode cc g.pc = .ok (.invokespecial index, 3)) (hf : cells + mc ≤ R.cells ∧ slots + ms ≤ R.slots) :
    vx_Run p l e R s m args below meth c H locs cells slots mc ms g rest (Qc (Value.ref b :: As).toArray) XC free := by
  obtain ⟨⟨hrc, hrs, hfr, hlo, hws, hcw⟩, hl1, hl2, hl3, hl4, hini, hcode, hno, hlen⟩ := cw
  have hK : vx_Back l R p e below s args y 3 8 (PreOf R mc ms Pc) (PostOf Qc mc ms free) (vx_Post XC mc ms free) := vx_back (bytes := bytes) (maxL := maxL) (ret := ret) hM hp.1 hrc hrs hfr hlo hws hcw (fun a' U hW => word_at hW (Or.inl (by first | rfl | simp [Cond.onTables, Cond.keeps, Cond.steady])) hini)
  obtain ⟨hx, hb, hml, ho, -⟩ := S
  obtain ⟨-, ⟨cellB, hcB, hoB, hclB⟩, hPc⟩ := hp
  obtain ⟨hfc, kB, hkB, -⟩ := hat
  cases hfc.symm.trans hclB
  intro T hT X
  rcases vx_callSU X hx (bytes := bytes) (maxL := maxL) (ret := ret) ho hl1 hl2 hl3 hl4 hcode hno hK (by rw [hT]; exact hcB) hoB hkB hg (hsize.trans hml.symm) (argsL := As) (rest := rest) (fun sig h => hn.trans (hlen sig h)) hstack hW (by rw [hb]; exact hdg)
    (fun vm₁ hW₁ => ⟨hf.1, hf.2, hPc (T.setVm vm₁) hT hW₁⟩) with ⟨v, vm₁, ⟨U', l2, c2, s2⟩, hW₁, X', ⟨g', mk, t, L, e1, e2, hq, h1, hL, h2, h3⟩, st⟩ | ⟨q, vm₁, ⟨U', l2, c2, s2⟩, hW₁, X', ⟨g', mk, t, L, E, ce, e1, e2, hq, hce, hcv, hcl, h1, hL, h2, h3⟩, st⟩
  · dsimp only [Pt.U, Pt.locs, Pt.cells, Pt.slots] at X' e1 e2 h1 h2 h3 st
    subst h1; subst h2; subst h3
    exact Or.inl ⟨v, (T.setVm vm₁).calling g' mk (Value.ref b :: As).toArray, t, U', L, hT, X', hL, e1, e2, hq, st⟩
  · dsimp only [Pt.U, Pt.locs, Pt.cells, Pt.slots] at X' e1 e2 h1 h2 h3 st hcl
    subst h1; subst h2; subst h3
    exact Or.inr ⟨q, (T.setVm vm₁).calling g' mk (Value.ref b :: As).toArray, t, U', L, E, ce, hT, X', hL, e1, e2, hq, hce, hcv, vx_cls hW₁ hcl, st⟩
end
/-! ===== END ===== -/
/-! ===== BEGIN a private method of a nest mate that may throw (follows va_callVN, va_callSN, va_runVN, va_runSN) ===== -/
section
variable {p : Program} {l : Launch} {e : Env} {R : Room} {s : State} {m : MethodId} {args : Array Value} {below : List Frame} {meth : Method} {c : Code} {H : Heap} {locs : List Loc} {cells slots : Nat}
variable {T : State}
theorem vx_callVN (X : Stand p l e R s m args below meth c T locs cells slots) (hexec : p.tables.exec = Jvm.exec) {own C : String} {index : Nat} {host : String} {y : MethodName} {bytes : ByteArray} {maxL : Nat} {ret : Option FieldType}
    (hown : s.vm.findClass own = some m.cls) (hlink : (Cond.methodLinkNest own index y host).before args s = true) (hinst : (Cond.instanceMethod y).before args s = true) (hsel : (Cond.selects C y y).before args s = true)
    (hcode : (Cond.code y bytes maxL ret).before args s = true) (hy : y.cls ≠ "java/lang/invoke/MethodHandle" ∧ y.cls ≠ "java/lang/invoke/VarHandle")
    {W : Nat} {Pre : Pt → Array Value → Prop} {Post : Pt → Array Value → Option Value → Pt → Prop} {PostX : Pt → Array Value → Addr → Pt → Prop} (hK : vx_Back l R p e below s args y 3 W Pre Post PostX)
    {b : Addr} {cellB : Cell} (hcell : T.heap[b]? = some cellB) (hobj : cellB.vm.isStatics = false) (hcls : s.vm.findClass C = some cellB.cls)
    {g : JFrame} (hg : g.method = m) (hsize : g.locals.size = c.maxLocals) {argsL rest : List Value} (hlen : ∀ sig, parseMethodDescriptor y.desc = some sig → argsL.length = sig.parameters.length)
    (hstack : g.stack = argsL.reverse ++ .ref b :: rest) (hW : 2 * g.monitorRoom + (rest.map fun v => v.category).sum ≤ W) (hdg : decode c.code g.pc = .ok (.invokevirtual index, 3))
    (hpre : ∀ vm₁, s.WarmedH vm₁ → Pre ⟨T.setVm vm₁, locs, cells, slots⟩ (Value.ref b :: argsL).toArray) :
    (∃ (v : Option Value) (vm₁ : Vm) (B : Pt), s.WarmedH vm₁ ∧ Stand p l e R s m args below meth c B.U B.locs B.cells B.slots ∧ Post ⟨T.setVm vm₁, locs, cells, slots⟩ (Value.ref b :: argsL).toArray v B ∧
      ∀ target, Steps p.tables e below (B.U.setTop { g with pc := g.pc + 3, stack := v.toList ++ rest }) target → Steps p.tables e below (T.setTop g) target) ∨
    (∃ (q : Addr) (vm₁ : Vm) (B : Pt), s.WarmedH vm₁ ∧ Stand p l e R s m args below meth c B.U B.locs B.cells B.slots ∧ PostX ⟨T.setVm vm₁, locs, cells, slots⟩ (Value.ref b :: argsL).toArray q B ∧
      Steps p.tables e below (T.setTop g) ((B.U.setTop { g with stack := rest }).pushFrame (.throwing q))) := by
  obtain ⟨mk, methM, hnamed, hmethM, hstM, habM⟩ := Cond.instanceMethod_spec hinst
  obtain ⟨methM', cM, hmethM', -, -, -, -, -, -, hsigM⟩ := Cond.code_spec hnamed hcode
  cases hmethM.symm.trans hmethM'
  obtain ⟨c2, r2, m2, q1, q2, q3, q4, kP, hkP, hkPi⟩ := Cond.selects_spec hsel
  cases hcls.symm.trans q1
  cases (State.methodFound?_of_named hnamed hy).symm.trans q2
  cases hnamed.symm.trans q3
  have hselP : selectMethod e.platform s.vm cellB.cls mk = .method mk := by rw [Launch.admits_selectMethod X.admits]; exact q4
  obtain ⟨vm₁, X₁, hstep₁⟩ := X.invokevirtualNest hexec hown hlink hnamed hmethM hstM hkP hkPi hy (a := b) (cell := cellB) hcell
    (fun z h => by rw [h] at hobj; cases hobj) hselP hmethM habM hkP hkPi (g := g) hg (argsL := argsL) (rest := rest) (hlen _ hsigM) hstack hdg
  rcases hK m meth c ⟨T.setVm vm₁, locs, cells, slots⟩ { g with stack := rest } (.invokevirtual index) mk (Value.ref b :: argsL).toArray X₁ hg hsize hdg hW (X₁.named hnamed) (hpre vm₁ X₁.warmed) with ⟨v, B, X', hpost, hsteps⟩ | ⟨q, B, X', hpost, hsteps⟩
  · exact Or.inl ⟨v, vm₁, B, X₁.warmed, X', hpost, fun target h => hstep₁ _ fun acts => by rw [doInvoke_state]; exact hsteps.trans h⟩
  · exact Or.inr ⟨q, vm₁, B, X₁.warmed, X', hpost, hstep₁ _ fun acts => by rw [doInvoke_state]; exact hsteps⟩
theorem vx_callSN (X : Stand p l e R s m args below meth c T locs cells slots) (hexec : p.tables.exec = Jvm.exec) {own : String} {index : Nat} {host : String} {y : MethodName} {bytes : ByteArray} {maxL : Nat} {ret : Option FieldType}
    (hown : s.vm.findClass own = some m.cls) (hlink : (Cond.methodLinkNest own index y host).before args s = true) (hstat : (Cond.static y).before args s = true) (hinit : (Cond.initialized y.cls).before args s = true)
    (hcode : (Cond.code y bytes maxL ret).before args s = true) (hy : y.cls ≠ "java/lang/invoke/MethodHandle" ∧ y.cls ≠ "java/lang/invoke/VarHandle")
    {W : Nat} {Pre : Pt → Array Value → Prop} {Post : Pt → Array Value → Option Value → Pt → Prop} {PostX : Pt → Array Value → Addr → Pt → Prop} (hK : vx_Back l R p e below s args y 3 W Pre Post PostX)
    {g : JFrame} (hg : g.method = m) (hsize : g.locals.size = c.maxLocals) {argsL rest : List Value} (hlen : ∀ sig, parseMethodDescriptor y.desc = some sig → argsL.length = sig.parameters.length)
    (hstack : g.stack = argsL.reverse ++ rest) (hW : 2 * g.monitorRoom + (rest.map fun v => v.category).sum ≤ W) (hdg : decode c.code g.pc = .ok (.invokestatic index, 3))
    (hpre : ∀ vm₁, s.WarmedH vm₁ → Pre ⟨T.setVm vm₁, locs, cells, slots⟩ argsL.toArray) :
    (∃ (v : Option Value) (vm₁ : Vm) (B : Pt), s.WarmedH vm₁ ∧ Stand p l e R s m args below meth c B.U B.locs B.cells B.slots ∧ Post ⟨T.setVm vm₁, locs, cells, slots⟩ argsL.toArray v B ∧
      ∀ target, Steps p.tables e below (B.U.setTop { g with pc := g.pc + 3, stack := v.toList ++ rest }) target → Steps p.tables e below (T.setTop g) target) ∨
    (∃ (q : Addr) (vm₁ : Vm) (B : Pt), s.WarmedH vm₁ ∧ Stand p l e R s m args below meth c B.U B.locs B.cells B.slots ∧ PostX ⟨T.setVm vm₁, locs, cells, slots⟩ argsL.toArray q B ∧
      Steps p.tables e below (T.setTop g) ((B.U.setTop { g with stack := rest }).pushFrame (.throwing q))) := by
  obtain ⟨mk, hnamed⟩ := Cond.code_named hcode
  obtain ⟨methM, cM, hmethM, -, -, -, -, -, -, hsigM⟩ := Cond.code_spec hnamed hcode
  have hstatic : methM.isStatic = true := Cond.static_spec hnamed hmethM hstat
  obtain ⟨kP, hkP, -⟩ := className_of_methodNamed hnamed
  have hinitP : kP.init = .initialized := Cond.initialized_spec (findClass_of_methodNamed hnamed) hkP hinit
  obtain ⟨vm₁, X₁, hstep₁⟩ := X.invokestaticNest hexec hown hlink hnamed hmethM hstatic hkP hinitP hy (g := g) hg (argsL := argsL) (rest := rest) (hlen _ hsigM) hstack hdg
  rcases hK m meth c ⟨T.setVm vm₁, locs, cells, slots⟩ { g with stack := rest } (.invokestatic index) mk argsL.toArray X₁ hg hsize hdg hW (X₁.named hnamed) (hpre vm₁ X₁.warmed) with ⟨v, B, X', hpost, hsteps⟩ | ⟨q, B, X', hpost, hsteps⟩
  · exact Or.inl ⟨v, vm₁, B, X₁.warmed, X', hpost, fun target h => hstep₁ _ fun acts => by rw [doInvoke_state]; exact hsteps.trans h⟩
  · exact Or.inr ⟨q, vm₁, B, X₁.warmed, X', hpost, hstep₁ _ fun acts => by rw [doInvoke_state]; exact hsteps⟩
theorem vx_runVN {y : MethodName} {bytes cc : ByteArray} {maxL nL mc ms n index : Nat} {ret : Option FieldType} {ws : List Cond} {rm : Room} {Pc : Array Value → State → Prop} {Qc : Array Value → State → Outcome → State → Prop} {XC : String → State → State → Prop} {free : Addr → Prop} {Ts : List Cond} {own C host : String} {b : Addr} {As rest : List Value} {g : JFrame}
    (S : CallFix p m c cc nL s args Ts own) (hM : vx_Met l y ws rm Pc Qc XC mc ms free) (cw : va_CN R s args own index y host bytes maxL ret ws rm mc ms n ∧ (Cond.instanceMethod y).before args s = true ∧ (Cond.selects C y y).before args s = true) (hp : PreV s H C b Pc As)
    (hg : g.method = m) (hn : As.length = n) (hsize : g.locals.size = nL) (hstack : g.stack = As.reverse ++ .ref b :: rest) (hW : 2 * g.monitorRoom + (rest.map fun v => v.category).sum ≤ 8) (hdg : decode cc g.pc = .ok (.invokevirtual index, 3)) (hf : cells + mc ≤ R.cells ∧ slots + ms ≤ R.slots) :
    vx_Run p l e R s m args below meth c H locs cells slots mc ms g rest (Qc (Value.ref b :: As).toArray) XC free := by
  obtain ⟨⟨⟨hrc, hrs, hfr, hlo, hws, hcw⟩, hcode, hini, hy, hlen, hl⟩, hx1, hx2⟩ := cw
  have hK : vx_Back l R p e below s args y 3 8 (PreOf R mc ms Pc) (PostOf Qc mc ms free) (vx_Post XC mc ms free) := vx_back (bytes := bytes) (maxL := maxL) (ret := ret) hM hp.1 hrc hrs hfr hlo hws hcw (fun a' U hW => word_at hW (Or.inl (by first | rfl | simp [Cond.onTables, Cond.keeps, Cond.steady])) hini)
  obtain ⟨hx, hb, hml, ho, -⟩ := S
  obtain ⟨-, ⟨cellB, hcB, hoB, hclB⟩, hPc⟩ := hp
  intro T hT X
  rcases vx_callVN X hx (C := C) (bytes := bytes) (maxL := maxL) (ret := ret) ho hl hx1 hx2 hcode hy hK (by rw [hT]; exact hcB) hoB hclB hg (hsize.trans hml.symm) (argsL := As) (rest := rest) (fun sig h => hn.trans (hlen sig h)) hstack hW (by rw [hb]; exact hdg)
    (fun vm₁ hW₁ => ⟨hf.1, hf.2, hPc (T.setVm vm₁) hT hW₁⟩) with ⟨v, vm₁, ⟨U', l2, c2, s2⟩, hW₁, X', ⟨g', mk, t, L, e1, e2, hq, h1, hL, h2, h3⟩, st⟩ | ⟨q, vm₁, ⟨U', l2, c2, s2⟩, hW₁, X', ⟨g', mk, t, L, E, ce, e1, e2, hq, hce, hcv, hcl, h1, hL, h2, h3⟩, st⟩
  · dsimp only [Pt.U, Pt.locs, Pt.cells, Pt.slots] at X' e1 e2 h1 h2 h3 st
    subst h1; subst h2; subst h3
    exact Or.inl ⟨v, (T.setVm vm₁).calling g' mk (Value.ref b :: As).toArray, t, U', L, hT, X', hL, e1, e2, hq, st⟩
  · dsimp only [Pt.U, Pt.locs, Pt.cells, Pt.slots] at X' e1 e2 h1 h2 h3 st hcl
    subst h1; subst h2; subst h3
    exact Or.inr ⟨q, (T.setVm vm₁).calling g' mk (Value.ref b :: As).toArray, t, U', L, E, ce, hT, X', hL, e1, e2, hq, hce, hcv, vx_cls hW₁ hcl, st⟩
theorem vx_runSN {y : MethodName} {bytes cc : ByteArray} {maxL nL mc ms n index : Nat} {ret : Option FieldType} {ws : List Cond} {rm : Room} {Pc : Array Value → State → Prop} {Qc : Array Value → State → Outcome → State → Prop} {XC : String → State → State → Prop} {free : Addr → Prop} {Ts : List Cond} {own host : String} {As rest : List Value} {g : JFrame}
    (S : CallFix p m c cc nL s args Ts own) (hM : vx_Met l y ws rm Pc Qc XC mc ms free) (cw : va_CN R s args own index y host bytes maxL ret ws rm mc ms n ∧ (Cond.static y).before args s = true ∧ True) (hp : PreS s H Pc As)
    (hg : g.method = m) (hn : As.length = n) (hsize : g.locals.size = nL) (hstack : g.stack = As.reverse ++ rest) (hW : 2 * g.monitorRoom + (rest.map fun v => v.category).sum ≤ 8) (hdg : decode cc g.pc = .ok (.invokestatic index, 3)) (hf : cells + mc ≤ R.cells ∧ slots + ms ≤ R.slots) :
    vx_Run p l e R s m args below meth c H locs cells slots mc ms g rest (Qc As.toArray) XC free := by
  obtain ⟨⟨⟨hrc, hrs, hfr, hlo, hws, hcw⟩, hcode, hini, hy, hlen, hl⟩, hx1, hx2⟩ := cw
  have hK : vx_Back l R p e below s args y 3 8 (PreOf R mc ms Pc) (PostOf Qc mc ms free) (vx_Post XC mc ms free) := vx_back (bytes := bytes) (maxL := maxL) (ret := ret) hM hp.1 hrc hrs hfr hlo hws hcw (fun a' U hW => word_at hW (Or.inl (by first | rfl | simp [Cond.onTables, Cond.keeps, Cond.steady])) hini)
  obtain ⟨hx, hb, hml, ho, -⟩ := S
  have hPc := hp.2
  intro T hT X
  rcases vx_callSN X hx (bytes := bytes) (maxL := maxL) (ret := ret) ho hl hx1 hini hcode hy hK hg (hsize.trans hml.symm) (argsL := As) (rest := rest) (fun sig h => hn.trans (hlen sig h)) hstack hW (by rw [hb]; exact hdg)
    (fun vm₁ hW₁ => ⟨hf.1, hf.2, hPc (T.setVm vm₁) hT hW₁⟩) with ⟨v, vm₁, ⟨U', l2, c2, s2⟩, hW₁, X', ⟨g', mk, t, L, e1, e2, hq, h1, hL, h2, h3⟩, st⟩ | ⟨q, vm₁, ⟨U', l2, c2, s2⟩, hW₁, X', ⟨g', mk, t, L, E, ce, e1, e2, hq, hce, hcv, hcl, h1, hL, h2, h3⟩, st⟩
  · dsimp only [Pt.U, Pt.locs, Pt.cells, Pt.slots] at X' e1 e2 h1 h2 h3 st
    subst h1; subst h2; subst h3
    exact Or.inl ⟨v, (T.setVm vm₁).calling g' mk As.toArray, t, U', L, hT, X', hL, e1, e2, hq, st⟩
  · dsimp only [Pt.U, Pt.locs, Pt.cells, Pt.slots] at X' e1 e2 h1 h2 h3 st hcl
    subst h1; subst h2; subst h3
    exact Or.inr ⟨q, (T.setVm vm₁).calling g' mk As.toArray, t, U', L, E, ce, hT, X', hL, e1, e2, hq, hce, hcv, vx_cls hW₁ hcl, st⟩
end
/-! ===== END ===== -/
/-! ===== BEGIN calls by an interface of methods that may throw (vx_callIF, vx_runF follow va_callIF, va_runF of this kit) ===== -/
section
variable {p : Program} {l : Launch} {e : Env} {R : Room} {s : State} {m : MethodId} {args : Array Value} {below : List Frame} {meth : Method} {c : Code} {H : Heap} {locs : List Loc} {cells slots : Nat} {Q : State → Prop}
variable {mc ms : Nat} {free : Addr → Prop} {A0 A1 : Nat → Prop} {H0 : Heap} {a : Array Value} {pc : Nat} {ls : Array Slot} {st0 rest : List Value}
def vx_Run5 (p : Program) (l : Launch) (e : Env) (R : Room) (s : State) (m : MethodId) (args : Array Value) (below : List Frame) (meth : Method) (c : Code) (H : Heap) (locs : List Loc) (cells slots mc ms : Nat) (g : JFrame) (rest : List Value) (Qa : State → Outcome → State → Prop) (XC : String → State → State → Prop) (free : Addr → Prop) : Prop :=
  ∀ T : State, T.heap = H → Stand p l e R s m args below meth c T locs cells slots →
    (∃ (v : Option Value) (st₀ t T' : State) (L : List Loc), st₀.heap = H ∧ Stand p l e R s m args below meth c T' (locs ++ L) (cells + mc) (slots + ms) ∧ (∀ q ∈ L, free q.base) ∧ T'.heap = t.heap ∧ T'.vm = t.vm ∧ Qa st₀ (.returned v) t ∧
      Goes p e below T g T' { g with pc := g.pc + 5, stack := v.toList ++ rest }) ∨
    (∃ (q : Addr) (st₀ t T' : State) (L : List Loc) (E : String) (ce : Cell), st₀.heap = H ∧ Stand p l e R s m args below meth c T' (locs ++ L) (cells + mc) (slots + ms) ∧ (∀ z ∈ L, free z.base) ∧ T'.heap = t.heap ∧ T'.vm = t.vm ∧ XC E st₀ t ∧ t.heap[q]? = some ce ∧ ce.vm = .none ∧ s.vm.findClass E = some ce.cls ∧
      Steps p.tables e below (T.setTop g) ((T'.setTop { g with stack := rest }).pushFrame (.throwing q)))
theorem vx_callIF {T : State} (X : Stand p l e R s m args below meth c T locs cells slots) (hexec : p.tables.exec = Jvm.exec) {own C : String} {index count : Nat} {x y : MethodName} {bytes : ByteArray} {maxL : Nat} {ret : Option FieldType}
    (hown : s.vm.findClass own = some m.cls) (hlink : (Cond.methodLink own index x).before args s = true) (hdecl : (Cond.declares x).before args s = true) (hface : (Cond.interfaceMethod x.cls x.cls x.name x.desc).before args s = true)
    (hsel : (Cond.selects C x y).before args s = true) (hinst : (Cond.instanceMethod y).before args s = true) (hpub : (Cond.publicMethod y).before args s = true) (hunh : (Cond.unhidden C x.name x.desc).before args s = true)
    (hcast : (Cond.castable C x.cls).before args s = true) (hcode : (Cond.code y bytes maxL ret).before args s = true) (hx : x.cls ≠ "java/lang/invoke/MethodHandle" ∧ x.cls ≠ "java/lang/invoke/VarHandle")
    {W9 : Nat} {Pre : Pt → Array Value → Prop} {Post : Pt → Array Value → Option Value → Pt → Prop} {PostX : Pt → Array Value → Addr → Pt → Prop} (hK : vx_Back l R p e below s args y 5 W9 Pre Post PostX)
    {b : Addr} {cellB : Cell} {kB : Class} (hcell : T.heap[b]? = some cellB) (hobj : cellB.vm.isStatics = false) (hcls : s.vm.findClass C = some cellB.cls) (hkB : s.vm.classes[cellB.cls]? = some kB)
    {g : JFrame} (hg : g.method = m) (hsize : g.locals.size = c.maxLocals) {argsL rest : List Value} (hlen : ∀ sig, parseMethodDescriptor x.desc = some sig → argsL.length = sig.parameters.length)
    (hstack : g.stack = argsL.reverse ++ .ref b :: rest) (hW : 2 * g.monitorRoom + (rest.map fun v => v.category).sum ≤ W9) (hdg : decode c.code g.pc = .ok (.invokeinterface index count, 5))
    (hpre : ∀ vm₁, s.WarmedH vm₁ → Pre ⟨T.setVm vm₁, locs, cells, slots⟩ (Value.ref b :: argsL).toArray) :
    (∃ (v : Option Value) (vm₁ : Vm) (B : Pt), s.WarmedH vm₁ ∧ Stand p l e R s m args below meth c B.U B.locs B.cells B.slots ∧ Post ⟨T.setVm vm₁, locs, cells, slots⟩ (Value.ref b :: argsL).toArray v B ∧
      ∀ target, Steps p.tables e below (B.U.setTop { g with pc := g.pc + 5, stack := v.toList ++ rest }) target → Steps p.tables e below (T.setTop g) target) ∨
    (∃ (q : Addr) (vm₁ : Vm) (B : Pt), s.WarmedH vm₁ ∧ Stand p l e R s m args below meth c B.U B.locs B.cells B.slots ∧ PostX ⟨T.setVm vm₁, locs, cells, slots⟩ (Value.ref b :: argsL).toArray q B ∧
      Steps p.tables e below (T.setTop g) ((B.U.setTop { g with stack := rest }).pushFrame (.throwing q))) := by
  obtain ⟨r0, r, hn, hrm, hstR, hsigR⟩ := Cond.declares_spec hdecl
  obtain ⟨cL, kL, r1, hcL, hkL, hiL, hfoundL, hn1⟩ := Cond.interfaceMethod_spec hface
  cases hn.symm.trans hn1
  have hr0cls : r0.cls = cL := Option.some.inj ((findClass_of_methodNamed hn).symm.trans hcL)
  obtain ⟨hnameR, hdescR⟩ := name_of_methodNamed hn hrm
  obtain ⟨mk, methM, hnamed, hmethM, -, habM⟩ := Cond.instanceMethod_spec hinst
  obtain ⟨c2, r2, m2, q1, q2, q3, q4, -⟩ := Cond.selects_spec hsel
  cases hcls.symm.trans q1
  cases hfoundL.symm.trans q2
  cases hnamed.symm.trans q3
  have hselP : selectMethod e.platform s.vm cellB.cls r0 = .method mk := by rw [Launch.admits_selectMethod X.admits]; exact q4
  have hpubM : hasFlag methM.accessFlags Acc.public_ = true := Cond.publicMethod_spec hnamed hmethM hpub
  have hway : ((cellB.cls :: s.vm.superclasses cellB.cls).any fun k => (declaredIn s.vm r.name r.desc k).any fun (_, z) => z.isPrivate || z.isStatic) = false := by
    rw [hnameR, hdescR]; exact Cond.unhidden_spec hcls hunh
  obtain ⟨c3, t3, w1, w2, w3⟩ := Cond.castable_spec hcast
  cases hcls.symm.trans w1
  cases hcL.symm.trans w2
  obtain ⟨vm₁, X₁, hstep₁⟩ := X.invokeinterface hexec hown hlink hn hrm hstR (by rw [hr0cls]; exact hkL) hiL hx (a := b) (cell := cellB) (kcell := kB) hcell
    (fun z h => by rw [h] at hobj; cases hobj) hkB (by rw [hr0cls]; exact w3) hselP hmethM hway hpubM habM (g := g) hg (argsL := argsL) (rest := rest) (hlen _ hsigR) hstack hdg
  rcases hK m meth c ⟨T.setVm vm₁, locs, cells, slots⟩ { g with stack := rest } (.invokeinterface index count) mk (Value.ref b :: argsL).toArray X₁ hg hsize hdg hW (X₁.named hnamed) (hpre vm₁ X₁.warmed) with ⟨v, B, X', hpost, hsteps⟩ | ⟨q, B, X', hpost, hsteps⟩
  · exact Or.inl ⟨v, vm₁, B, X₁.warmed, X', hpost, fun target h => hstep₁ _ fun acts => by rw [doInvoke_state]; exact hsteps.trans h⟩
  · exact Or.inr ⟨q, vm₁, B, X₁.warmed, X', hpost, hstep₁ _ fun acts => by rw [doInvoke_state]; exact hsteps⟩
theorem vx_runF {x y : MethodName} {bytes cc : ByteArray} {maxL nL mc ms n index count : Nat} {ret : Option FieldType} {ws : List Cond} {rm : Room} {Pc : Array Value → State → Prop} {Qc : Array Value → State → Outcome → State → Prop} {XC : String → State → State → Prop} {free : Addr → Prop} {Ts : List Cond} {own C : String} {cC : ClassId} {b : Addr} {As rest : List Value} {g : JFrame}
    (hat : ClassAt s C cC) (S : CallFix p m c cc nL s args Ts own) (hM : vx_Met l y ws rm Pc Qc XC mc ms free) (cw : va_CI R s args own C index x y bytes maxL ret ws rm mc ms n) (hp : PreV s H C b Pc As)
    (hg : g.method = m) (hn : As.length = n) (hsize : g.locals.size = nL) (hstack : g.stack = As.reverse ++ .ref b :: rest) (hW : 2 * g.monitorRoom + (rest.map fun v => v.category).sum ≤ 8) (hdg : decode cc g.pc = .ok (.invokeinterface index count, 5)) (hf : cells + mc ≤ R.cells ∧ slots + ms ≤ R.slots) :
    vx_Run5 p l e R s m args below meth c H locs cells slots mc ms g rest (Qc (Value.ref b :: As).toArray) XC free := by
  obtain ⟨hrc, hrs, hfr, hlo, hws, hcw⟩ := cw.back
  have hini := cw.init
  have hK : vx_Back l R p e below s args y 5 8 (PreOf R mc ms Pc) (PostOf Qc mc ms free) (vx_Post XC mc ms free) := vx_back (bytes := bytes) (maxL := maxL) (ret := ret) hM hp.1 hrc hrs hfr hlo hws hcw (fun a' U hW => word_at hW (Or.inl (by first | rfl | simp [Cond.onTables, Cond.keeps, Cond.steady])) hini)
  obtain ⟨hx, hb, hml, ho, -⟩ := S
  obtain ⟨-, ⟨cellB, hcB, hoB, hclB⟩, hPc⟩ := hp
  obtain ⟨hfc, kB, hkB, -⟩ := hat
  cases hfc.symm.trans hclB
  intro T hT X
  rcases vx_callIF X hx (C := C) (bytes := bytes) (maxL := maxL) (ret := ret) ho cw.link cw.decl cw.face cw.sel cw.inst cw.pub cw.unh cw.cast cw.code cw.notMH hK (by rw [hT]; exact hcB) hoB hclB hkB hg (hsize.trans hml.symm) (argsL := As) (rest := rest) (fun sig h => hn.trans (cw.len sig h)) hstack hW (by rw [hb]; exact hdg)
    (fun vm₁ hW₁ => ⟨hf.1, hf.2, hPc (T.setVm vm₁) hT hW₁⟩) with ⟨v, vm₁, ⟨U', l2, c2, s2⟩, hW₁, X', ⟨g', mk, t, L, e1, e2, hq, h1, hL, h2, h3⟩, st⟩ | ⟨q, vm₁, ⟨U', l2, c2, s2⟩, hW₁, X', ⟨g', mk, t, L, E, ce, e1, e2, hq, hce, hcv, hcl, h1, hL, h2, h3⟩, st⟩
  · dsimp only [Pt.U, Pt.locs, Pt.cells, Pt.slots] at X' e1 e2 h1 h2 h3 st
    subst h1; subst h2; subst h3
    exact Or.inl ⟨v, (T.setVm vm₁).calling g' mk (Value.ref b :: As).toArray, t, U', L, hT, X', hL, e1, e2, hq, st⟩
  · dsimp only [Pt.U, Pt.locs, Pt.cells, Pt.slots] at X' e1 e2 h1 h2 h3 st hcl
    subst h1; subst h2; subst h3
    exact Or.inr ⟨q, (T.setVm vm₁).calling g' mk (Value.ref b :: As).toArray, t, U', L, E, ce, hT, X', hL, e1, e2, hq, hce, hcv, vx_cls hW₁ hcl, st⟩
theorem vx_callFv {S SX : Type} {post : S → Prop} {px : SX → Prop} {B : S → State → Prop} {BX : String → SX → State → Prop} {AX : Nat → Prop} (hr : vx_Run5 p l e R s m args below meth c H locs cells slots mc ms (F0 m pc ls st0) rest (va_Qv post B A1 a) (vx_X px BX AX) free) (hS : va_S A0 H0 H locs) (hA : ∀ q, q < H.size → A1 q → A0 q) (hf : ∀ q, free q → A0 q) (hAX : ∀ q, q < H.size → AX q → A0 q)
    (kx : ∀ (E : String) (ce : Cell) (q9 : Addr) (u : SX) (t : State) (H1 : Heap) (locs1 : List Loc), t.heap = H1 → s.vm.Alike t.vm → px u → BX E u t → H.size ≤ H1.size → (∀ q : Nat, q < H.size → ¬ AX q → H1[q]? = H[q]?) → va_S A0 H0 H1 locs1 → H1[q9]? = some ce → ce.vm = .none → s.vm.findClass E = some ce.cls → vx_W p l e R s m args below meth c H1 locs1 (cells + mc) (slots + ms) Q (F0 m pc ls rest) q9)
    (kk : ∀ (u : S) (t : State) (H1 : Heap) (locs1 : List Loc), t.heap = H1 → s.vm.Alike t.vm → post u → B u t → H.size ≤ H1.size → (∀ q : Nat, q < H.size → ¬ A1 q → H1[q]? = H[q]?) → va_S A0 H0 H1 locs1 → W p l e R s m args below meth c H1 locs1 (cells + mc) (slots + ms) Q (F0 m (pc + 5) ls (rest))) : W p l e R s m args below meth c H locs cells slots Q (F0 m pc ls st0) := by
  intro T hT X
  rcases hr T hT X with ⟨v, st₀, t, T', L, h0, X', hL, e1, e2, ⟨⟨u, hv, hp, hb⟩, hF⟩, st⟩ | ⟨q, st₀, t, T', L, E, ce, h0, X', hL, e1, e2, ⟨u, hp, hb, hF⟩, hce, hcv, hcl, st⟩
  · cases hv
    obtain ⟨k1, k2, k3⟩ := vx_keep h0 e1 hS hA hf hL hF
    obtain ⟨t2, a1, b1⟩ := kk u t T'.heap (locs ++ L) e1.symm (by rw [← e2]; exact X'.warmed.alike) hp hb k1 k2 k3 T' rfl X'
    exact ⟨t2, st t2 a1, b1⟩
  · obtain ⟨k1, k2, k3⟩ := vx_keep h0 e1 hS hAX hf hL hF
    obtain ⟨t2, a1, b1⟩ := kx E ce q u t T'.heap (locs ++ L) e1.symm (by rw [← e2]; exact X'.warmed.alike) hp hb k1 k2 k3 (by rw [e1]; exact hce) hcv hcl T' rfl X'
    exact ⟨t2, st.trans a1, b1⟩
theorem vx_callFi {S SX : Type} {post : Int32 → S → Prop} {px : SX → Prop} {B : S → State → Prop} {BX : String → SX → State → Prop} {AX : Nat → Prop} (hr : vx_Run5 p l e R s m args below meth c H locs cells slots mc ms (F0 m pc ls st0) rest (va_Qi post B A1 a) (vx_X px BX AX) free) (hS : va_S A0 H0 H locs) (hA : ∀ q, q < H.size → A1 q → A0 q) (hf : ∀ q, free q → A0 q) (hAX : ∀ q, q < H.size → AX q → A0 q)
    (kx : ∀ (E : String) (ce : Cell) (q9 : Addr) (u : SX) (t : State) (H1 : Heap) (locs1 : List Loc), t.heap = H1 → s.vm.Alike t.vm → px u → BX E u t → H.size ≤ H1.size → (∀ q : Nat, q < H.size → ¬ AX q → H1[q]? = H[q]?) → va_S A0 H0 H1 locs1 → H1[q9]? = some ce → ce.vm = .none → s.vm.findClass E = some ce.cls → vx_W p l e R s m args below meth c H1 locs1 (cells + mc) (slots + ms) Q (F0 m pc ls rest) q9)
    (kk : ∀ (r : Int32) (u : S) (t : State) (H1 : Heap) (locs1 : List Loc), t.heap = H1 → s.vm.Alike t.vm → post r u → B u t → H.size ≤ H1.size → (∀ q : Nat, q < H.size → ¬ A1 q → H1[q]? = H[q]?) → va_S A0 H0 H1 locs1 → W p l e R s m args below meth c H1 locs1 (cells + mc) (slots + ms) Q (F0 m (pc + 5) ls (.int r :: rest))) : W p l e R s m args below meth c H locs cells slots Q (F0 m pc ls st0) := by
  intro T hT X
  rcases hr T hT X with ⟨v, st₀, t, T', L, h0, X', hL, e1, e2, ⟨⟨r, u, hv, hp, hb⟩, hF⟩, st⟩ | ⟨q, st₀, t, T', L, E, ce, h0, X', hL, e1, e2, ⟨u, hp, hb, hF⟩, hce, hcv, hcl, st⟩
  · cases hv
    obtain ⟨k1, k2, k3⟩ := vx_keep h0 e1 hS hA hf hL hF
    obtain ⟨t2, a1, b1⟩ := kk r u t T'.heap (locs ++ L) e1.symm (by rw [← e2]; exact X'.warmed.alike) hp hb k1 k2 k3 T' rfl X'
    exact ⟨t2, st t2 a1, b1⟩
  · obtain ⟨k1, k2, k3⟩ := vx_keep h0 e1 hS hAX hf hL hF
    obtain ⟨t2, a1, b1⟩ := kx E ce q u t T'.heap (locs ++ L) e1.symm (by rw [← e2]; exact X'.warmed.alike) hp hb k1 k2 k3 (by rw [e1]; exact hce) hcv hcl T' rfl X'
    exact ⟨t2, st.trans a1, b1⟩
theorem vx_callFl {S SX : Type} {post : Int64 → S → Prop} {px : SX → Prop} {B : S → State → Prop} {BX : String → SX → State → Prop} {AX : Nat → Prop} (hr : vx_Run5 p l e R s m args below meth c H locs cells slots mc ms (F0 m pc ls st0) rest (va_Ql post B A1 a) (vx_X px BX AX) free) (hS : va_S A0 H0 H locs) (hA : ∀ q, q < H.size → A1 q → A0 q) (hf : ∀ q, free q → A0 q) (hAX : ∀ q, q < H.size → AX q → A0 q)
    (kx : ∀ (E : String) (ce : Cell) (q9 : Addr) (u : SX) (t : State) (H1 : Heap) (locs1 : List Loc), t.heap = H1 → s.vm.Alike t.vm → px u → BX E u t → H.size ≤ H1.size → (∀ q : Nat, q < H.size → ¬ AX q → H1[q]? = H[q]?) → va_S A0 H0 H1 locs1 → H1[q9]? = some ce → ce.vm = .none → s.vm.findClass E = some ce.cls → vx_W p l e R s m args below meth c H1 locs1 (cells + mc) (slots + ms) Q (F0 m pc ls rest) q9)
    (kk : ∀ (r : Int64) (u : S) (t : State) (H1 : Heap) (locs1 : List Loc), t.heap = H1 → s.vm.Alike t.vm → post r u → B u t → H.size ≤ H1.size → (∀ q : Nat, q < H.size → ¬ A1 q → H1[q]? = H[q]?) → va_S A0 H0 H1 locs1 → W p l e R s m args below meth c H1 locs1 (cells + mc) (slots + ms) Q (F0 m (pc + 5) ls (.long r :: rest))) : W p l e R s m args below meth c H locs cells slots Q (F0 m pc ls st0) := by
  intro T hT X
  rcases hr T hT X with ⟨v, st₀, t, T', L, h0, X', hL, e1, e2, ⟨⟨r, u, hv, hp, hb⟩, hF⟩, st⟩ | ⟨q, st₀, t, T', L, E, ce, h0, X', hL, e1, e2, ⟨u, hp, hb, hF⟩, hce, hcv, hcl, st⟩
  · cases hv
    obtain ⟨k1, k2, k3⟩ := vx_keep h0 e1 hS hA hf hL hF
    obtain ⟨t2, a1, b1⟩ := kk r u t T'.heap (locs ++ L) e1.symm (by rw [← e2]; exact X'.warmed.alike) hp hb k1 k2 k3 T' rfl X'
    exact ⟨t2, st t2 a1, b1⟩
  · obtain ⟨k1, k2, k3⟩ := vx_keep h0 e1 hS hAX hf hL hF
    obtain ⟨t2, a1, b1⟩ := kx E ce q u t T'.heap (locs ++ L) e1.symm (by rw [← e2]; exact X'.warmed.alike) hp hb k1 k2 k3 (by rw [e1]; exact hce) hcv hcl T' rfl X'
    exact ⟨t2, st.trans a1, b1⟩
theorem vx_callFf {S SX : Type} {post : UInt32 → S → Prop} {px : SX → Prop} {B : S → State → Prop} {BX : String → SX → State → Prop} {AX : Nat → Prop} (hr : vx_Run5 p l e R s m args below meth c H locs cells slots mc ms (F0 m pc ls st0) rest (va_Qf post B A1 a) (vx_X px BX AX) free) (hS : va_S A0 H0 H locs) (hA : ∀ q, q < H.size → A1 q → A0 q) (hf : ∀ q, free q → A0 q) (hAX : ∀ q, q < H.size → AX q → A0 q)
    (kx : ∀ (E : String) (ce : Cell) (q9 : Addr) (u : SX) (t : State) (H1 : Heap) (locs1 : List Loc), t.heap = H1 → s.vm.Alike t.vm → px u → BX E u t → H.size ≤ H1.size → (∀ q : Nat, q < H.size → ¬ AX q → H1[q]? = H[q]?) → va_S A0 H0 H1 locs1 → H1[q9]? = some ce → ce.vm = .none → s.vm.findClass E = some ce.cls → vx_W p l e R s m args below meth c H1 locs1 (cells + mc) (slots + ms) Q (F0 m pc ls rest) q9)
    (kk : ∀ (r : UInt32) (u : S) (t : State) (H1 : Heap) (locs1 : List Loc), t.heap = H1 → s.vm.Alike t.vm → post r u → B u t → H.size ≤ H1.size → (∀ q : Nat, q < H.size → ¬ A1 q → H1[q]? = H[q]?) → va_S A0 H0 H1 locs1 → W p l e R s m args below meth c H1 locs1 (cells + mc) (slots + ms) Q (F0 m (pc + 5) ls (.float r :: rest))) : W p l e R s m args below meth c H locs cells slots Q (F0 m pc ls st0) := by
  intro T hT X
  rcases hr T hT X with ⟨v, st₀, t, T', L, h0, X', hL, e1, e2, ⟨⟨r, u, hv, hp, hb⟩, hF⟩, st⟩ | ⟨q, st₀, t, T', L, E, ce, h0, X', hL, e1, e2, ⟨u, hp, hb, hF⟩, hce, hcv, hcl, st⟩
  · cases hv
    obtain ⟨k1, k2, k3⟩ := vx_keep h0 e1 hS hA hf hL hF
    obtain ⟨t2, a1, b1⟩ := kk r u t T'.heap (locs ++ L) e1.symm (by rw [← e2]; exact X'.warmed.alike) hp hb k1 k2 k3 T' rfl X'
    exact ⟨t2, st t2 a1, b1⟩
  · obtain ⟨k1, k2, k3⟩ := vx_keep h0 e1 hS hAX hf hL hF
    obtain ⟨t2, a1, b1⟩ := kx E ce q u t T'.heap (locs ++ L) e1.symm (by rw [← e2]; exact X'.warmed.alike) hp hb k1 k2 k3 (by rw [e1]; exact hce) hcv hcl T' rfl X'
    exact ⟨t2, st.trans a1, b1⟩
theorem vx_callFd {S SX : Type} {post : UInt64 → S → Prop} {px : SX → Prop} {B : S → State → Prop} {BX : String → SX → State → Prop} {AX : Nat → Prop} (hr : vx_Run5 p l e R s m args below meth c H locs cells slots mc ms (F0 m pc ls st0) rest (va_Qd post B A1 a) (vx_X px BX AX) free) (hS : va_S A0 H0 H locs) (hA : ∀ q, q < H.size → A1 q → A0 q) (hf : ∀ q, free q → A0 q) (hAX : ∀ q, q < H.size → AX q → A0 q)
    (kx : ∀ (E : String) (ce : Cell) (q9 : Addr) (u : SX) (t : State) (H1 : Heap) (locs1 : List Loc), t.heap = H1 → s.vm.Alike t.vm → px u → BX E u t → H.size ≤ H1.size → (∀ q : Nat, q < H.size → ¬ AX q → H1[q]? = H[q]?) → va_S A0 H0 H1 locs1 → H1[q9]? = some ce → ce.vm = .none → s.vm.findClass E = some ce.cls → vx_W p l e R s m args below meth c H1 locs1 (cells + mc) (slots + ms) Q (F0 m pc ls rest) q9)
    (kk : ∀ (r : UInt64) (u : S) (t : State) (H1 : Heap) (locs1 : List Loc), t.heap = H1 → s.vm.Alike t.vm → post r u → B u t → H.size ≤ H1.size → (∀ q : Nat, q < H.size → ¬ A1 q → H1[q]? = H[q]?) → va_S A0 H0 H1 locs1 → W p l e R s m args below meth c H1 locs1 (cells + mc) (slots + ms) Q (F0 m (pc + 5) ls (.double r :: rest))) : W p l e R s m args below meth c H locs cells slots Q (F0 m pc ls st0) := by
  intro T hT X
  rcases hr T hT X with ⟨v, st₀, t, T', L, h0, X', hL, e1, e2, ⟨⟨r, u, hv, hp, hb⟩, hF⟩, st⟩ | ⟨q, st₀, t, T', L, E, ce, h0, X', hL, e1, e2, ⟨u, hp, hb, hF⟩, hce, hcv, hcl, st⟩
  · cases hv
    obtain ⟨k1, k2, k3⟩ := vx_keep h0 e1 hS hA hf hL hF
    obtain ⟨t2, a1, b1⟩ := kk r u t T'.heap (locs ++ L) e1.symm (by rw [← e2]; exact X'.warmed.alike) hp hb k1 k2 k3 T' rfl X'
    exact ⟨t2, st t2 a1, b1⟩
  · obtain ⟨k1, k2, k3⟩ := vx_keep h0 e1 hS hAX hf hL hF
    obtain ⟨t2, a1, b1⟩ := kx E ce q u t T'.heap (locs ++ L) e1.symm (by rw [← e2]; exact X'.warmed.alike) hp hb k1 k2 k3 (by rw [e1]; exact hce) hcv hcl T' rfl X'
    exact ⟨t2, st.trans a1, b1⟩
end
/-! ===== END ===== -/
/-! ===== BEGIN by an interface, a method with a table of its own that may throw (follows va_callIFW, va_runFW) ===== -/
section
variable {p : Program} {l : Launch} {e : Env} {R : Room} {s : State} {m : MethodId} {args : Array Value} {below : List Frame} {meth : Method} {c : Code} {H : Heap} {locs : List Loc} {cells slots : Nat}
theorem vx_callIFW {T : State} (X : Stand p l e R s m args below meth c T locs cells slots) (hexec : p.tables.exec = Jvm.exec) {own C : String} {index count : Nat} {x y : MethodName} {bytes : ByteArray} {maxL : Nat} {ret : Option FieldType} {hh : List (Nat × Nat × Nat × Nat)}
    (hown : s.vm.findClass own = some m.cls) (hlink : (Cond.methodLink own index x).before args s = true) (hdecl : (Cond.declares x).before args s = true) (hface : (Cond.interfaceMethod x.cls x.cls x.name x.desc).before args s = true)
    (hsel : (Cond.selects C x y).before args s = true) (hinst : (Cond.instanceMethod y).before args s = true) (hpub : (Cond.publicMethod y).before args s = true) (hunh : (Cond.unhidden C x.name x.desc).before args s = true)
    (hcast : (Cond.castable C x.cls).before args s = true) (hcode : (Cond.codeWith y bytes maxL ret hh).before args s = true) (hx : x.cls ≠ "java/lang/invoke/MethodHandle" ∧ x.cls ≠ "java/lang/invoke/VarHandle")
    {W : Nat} {Pre : Pt → Array Value → Prop} {Post : Pt → Array Value → Option Value → Pt → Prop} {PostX : Pt → Array Value → Addr → Pt → Prop} (hK : vx_Back l R p e below s args y 5 W Pre Post PostX)
    {b : Addr} {cellB : Cell} {kB : Class} (hcell : T.heap[b]? = some cellB) (hobj : cellB.vm.isStatics = false) (hcls : s.vm.findClass C = some cellB.cls) (hkB : s.vm.classes[cellB.cls]? = some kB)
    {g : JFrame} (hg : g.method = m) (hsize : g.locals.size = c.maxLocals) {argsL rest : List Value} (hlen : ∀ sig, parseMethodDescriptor x.desc = some sig → argsL.length = sig.parameters.length)
    (hstack : g.stack = argsL.reverse ++ .ref b :: rest) (hW : 2 * g.monitorRoom + (rest.map fun v => v.category).sum ≤ W) (hdg : decode c.code g.pc = .ok (.invokeinterface index count, 5))
    (hpre : ∀ vm₁, s.WarmedH vm₁ → Pre ⟨T.setVm vm₁, locs, cells, slots⟩ (Value.ref b :: argsL).toArray) :
    (∃ (v : Option Value) (vm₁ : Vm) (B : Pt), s.WarmedH vm₁ ∧ Stand p l e R s m args below meth c B.U B.locs B.cells B.slots ∧ Post ⟨T.setVm vm₁, locs, cells, slots⟩ (Value.ref b :: argsL).toArray v B ∧
      ∀ target, Steps p.tables e below (B.U.setTop { g with pc := g.pc + 5, stack := v.toList ++ rest }) target → Steps p.tables e below (T.setTop g) target) ∨
    (∃ (q : Addr) (vm₁ : Vm) (B : Pt), s.WarmedH vm₁ ∧ Stand p l e R s m args below meth c B.U B.locs B.cells B.slots ∧ PostX ⟨T.setVm vm₁, locs, cells, slots⟩ (Value.ref b :: argsL).toArray q B ∧
      Steps p.tables e below (T.setTop g) ((B.U.setTop { g with stack := rest }).pushFrame (.throwing q))) := by
  obtain ⟨r0, r, hn, hrm, hstR, hsigR⟩ := Cond.declares_spec hdecl
  obtain ⟨cL, kL, r1, hcL, hkL, hiL, hfoundL, hn1⟩ := Cond.interfaceMethod_spec hface
  cases hn.symm.trans hn1
  have hr0cls : r0.cls = cL := Option.some.inj ((findClass_of_methodNamed hn).symm.trans hcL)
  obtain ⟨hnameR, hdescR⟩ := name_of_methodNamed hn hrm
  obtain ⟨mk, methM, hnamed, hmethM, -, habM⟩ := Cond.instanceMethod_spec hinst
  obtain ⟨c2, r2, m2, q1, q2, q3, q4, -⟩ := Cond.selects_spec hsel
  cases hcls.symm.trans q1
  cases hfoundL.symm.trans q2
  cases hnamed.symm.trans q3
  have hselP : selectMethod e.platform s.vm cellB.cls r0 = .method mk := by rw [Launch.admits_selectMethod X.admits]; exact q4
  have hpubM : hasFlag methM.accessFlags Acc.public_ = true := Cond.publicMethod_spec hnamed hmethM hpub
  have hway : ((cellB.cls :: s.vm.superclasses cellB.cls).any fun k => (declaredIn s.vm r.name r.desc k).any fun (_, z) => z.isPrivate || z.isStatic) = false := by
    rw [hnameR, hdescR]; exact Cond.unhidden_spec hcls hunh
  obtain ⟨c3, t3, w1, w2, w3⟩ := Cond.castable_spec hcast
  cases hcls.symm.trans w1
  cases hcL.symm.trans w2
  obtain ⟨vm₁, X₁, hstep₁⟩ := X.invokeinterface hexec hown hlink hn hrm hstR (by rw [hr0cls]; exact hkL) hiL hx (a := b) (cell := cellB) (kcell := kB) hcell
    (fun z h => by rw [h] at hobj; cases hobj) hkB (by rw [hr0cls]; exact w3) hselP hmethM hway hpubM habM (g := g) hg (argsL := argsL) (rest := rest) (hlen _ hsigR) hstack hdg
  rcases hK m meth c ⟨T.setVm vm₁, locs, cells, slots⟩ { g with stack := rest } (.invokeinterface index count) mk (Value.ref b :: argsL).toArray X₁ hg hsize hdg hW (X₁.named hnamed) (hpre vm₁ X₁.warmed) with ⟨v, B, X', hpost, hsteps⟩ | ⟨q, B, X', hpost, hsteps⟩
  · exact Or.inl ⟨v, vm₁, B, X₁.warmed, X', hpost, fun target h => hstep₁ _ fun acts => by rw [doInvoke_state]; exact hsteps.trans h⟩
  · exact Or.inr ⟨q, vm₁, B, X₁.warmed, X', hpost, hstep₁ _ fun acts => by rw [doInvoke_state]; exact hsteps⟩
theorem vx_runFW {x y : MethodName} {bytes cc : ByteArray} {maxL nL mc ms n index count : Nat} {ret : Option FieldType} {hh : List (Nat × Nat × Nat × Nat)} {ws : List Cond} {rm : Room} {Pc : Array Value → State → Prop} {Qc : Array Value → State → Outcome → State → Prop} {XC : String → State → State → Prop} {free : Addr → Prop} {Ts : List Cond} {own C : String} {cC : ClassId} {b : Addr} {As rest : List Value} {g : JFrame}
    (hat : ClassAt s C cC) (S : CallFix p m c cc nL s args Ts own) (hM : vx_Met l y ws rm Pc Qc XC mc ms free) (cw : va_CIW R s args own C index x y bytes maxL ret hh ws rm mc ms n) (hp : PreV s H C b Pc As)
    (hg : g.method = m) (hn : As.length = n) (hsize : g.locals.size = nL) (hstack : g.stack = As.reverse ++ .ref b :: rest) (hW : 2 * g.monitorRoom + (rest.map fun v => v.category).sum ≤ 8) (hdg : decode cc g.pc = .ok (.invokeinterface index count, 5)) (hf : cells + mc ≤ R.cells ∧ slots + ms ≤ R.slots) :
    vx_Run5 p l e R s m args below meth c H locs cells slots mc ms g rest (Qc (Value.ref b :: As).toArray) XC free := by
  obtain ⟨hrc, hrs, hfr, hlo, hws, hcw⟩ := cw.back
  have hini := cw.init
  have hK : vx_Back l R p e below s args y 5 8 (PreOf R mc ms Pc) (PostOf Qc mc ms free) (vx_Post XC mc ms free) := vx_backW (hh := hh) (bytes := bytes) (maxL := maxL) (ret := ret) hM hp.1 hrc hrs hfr hlo hws hcw (fun a' U hW => word_at hW (Or.inl (by first | rfl | simp [Cond.onTables, Cond.keeps, Cond.steady])) hini)
  obtain ⟨hx, hb, hml, ho, -⟩ := S
  obtain ⟨-, ⟨cellB, hcB, hoB, hclB⟩, hPc⟩ := hp
  obtain ⟨hfc, kB, hkB, -⟩ := hat
  cases hfc.symm.trans hclB
  intro T hT X
  rcases vx_callIFW X hx (C := C) (hh := hh) (bytes := bytes) (maxL := maxL) (ret := ret) ho cw.link cw.decl cw.face cw.sel cw.inst cw.pub cw.unh cw.cast cw.code cw.notMH hK (by rw [hT]; exact hcB) hoB hclB hkB hg (hsize.trans hml.symm) (argsL := As) (rest := rest) (fun sig h => hn.trans (cw.len sig h)) hstack hW (by rw [hb]; exact hdg)
    (fun vm₁ hW₁ => ⟨hf.1, hf.2, hPc (T.setVm vm₁) hT hW₁⟩) with ⟨v, vm₁, ⟨U', l2, c2, s2⟩, hW₁, X', ⟨g', mk, t, L, e1, e2, hq, h1, hL, h2, h3⟩, st⟩ | ⟨q, vm₁, ⟨U', l2, c2, s2⟩, hW₁, X', ⟨g', mk, t, L, E, ce, e1, e2, hq, hce, hcv, hcl, h1, hL, h2, h3⟩, st⟩
  · dsimp only [Pt.U, Pt.locs, Pt.cells, Pt.slots] at X' e1 e2 h1 h2 h3 st
    subst h1; subst h2; subst h3
    exact Or.inl ⟨v, (T.setVm vm₁).calling g' mk (Value.ref b :: As).toArray, t, U', L, hT, X', hL, e1, e2, hq, st⟩
  · dsimp only [Pt.U, Pt.locs, Pt.cells, Pt.slots] at X' e1 e2 h1 h2 h3 st hcl
    subst h1; subst h2; subst h3
    exact Or.inr ⟨q, (T.setVm vm₁).calling g' mk (Value.ref b :: As).toArray, t, U', L, E, ce, hT, X', hL, e1, e2, hq, hce, hcv, vx_cls hW₁ hcl, st⟩
end
/-! ===== END ===== -/
/-! ===== BEGIN .. of methods that hand back an object of the pool ===== -/
section
variable {p : Program} {l : Launch} {e : Env} {R : Room} {s : State} {m : MethodId} {args : Array Value} {below : List Frame} {meth : Method} {c : Code} {H : Heap} {locs : List Loc} {cells slots : Nat} {Q : State → Prop}
variable {mc ms : Nat} {free : Addr → Prop} {A0 A1 : Nat → Prop} {H0 : Heap} {a : Array Value} {pc : Nat} {ls : Array Slot} {st0 rest : List Value}
theorem vx_callq {S SX : Type} {post : Option Nat → S → Prop} {px : SX → Prop} {B : S → State → Prop} {BX : String → SX → State → Prop} {AX : Nat → Prop} (hr : vx_Run p l e R s m args below meth c H locs cells slots mc ms (F0 m pc ls st0) rest (va_Qq post B A1 a) (vx_X px BX AX) free) (hS : va_S A0 H0 H locs) (hA : ∀ q, q < H.size → A1 q → A0 q) (hf : ∀ q, free q → A0 q) (hAX : ∀ q, q < H.size → AX q → A0 q)
    (kx : ∀ (E : String) (ce : Cell) (q9 : Addr) (u : SX) (t : State) (H1 : Heap) (locs1 : List Loc), t.heap = H1 → s.vm.Alike t.vm → px u → BX E u t → H.size ≤ H1.size → (∀ q : Nat, q < H.size → ¬ AX q → H1[q]? = H[q]?) → va_S A0 H0 H1 locs1 → H1[q9]? = some ce → ce.vm = .none → s.vm.findClass E = some ce.cls → vx_W p l e R s m args below meth c H1 locs1 (cells + mc) (slots + ms) Q (F0 m pc ls rest) q9)
    (kk : ∀ (r : Option Nat) (u : S) (t : State) (H1 : Heap) (locs1 : List Loc), t.heap = H1 → s.vm.Alike t.vm → post r u → B u t → H.size ≤ H1.size → (∀ q : Nat, q < H.size → ¬ A1 q → H1[q]? = H[q]?) → va_S A0 H0 H1 locs1 → W p l e R s m args below meth c H1 locs1 (cells + mc) (slots + ms) Q (F0 m (pc + 3) ls (va_rf r :: rest))) : W p l e R s m args below meth c H locs cells slots Q (F0 m pc ls st0) := by
  intro T hT X
  rcases hr T hT X with ⟨v, st₀, t, T', L, h0, X', hL, e1, e2, ⟨⟨r, u, hv, hp, hb⟩, hF⟩, st⟩ | ⟨q, st₀, t, T', L, E, ce, h0, X', hL, e1, e2, ⟨u, hp, hb, hF⟩, hce, hcv, hcl, st⟩
  · cases hv
    obtain ⟨k1, k2, k3⟩ := vx_keep h0 e1 hS hA hf hL hF
    obtain ⟨t2, a1, b1⟩ := kk r u t T'.heap (locs ++ L) e1.symm (by rw [← e2]; exact X'.warmed.alike) hp hb k1 k2 k3 T' rfl X'
    exact ⟨t2, st t2 a1, b1⟩
  · obtain ⟨k1, k2, k3⟩ := vx_keep h0 e1 hS hAX hf hL hF
    obtain ⟨t2, a1, b1⟩ := kx E ce q u t T'.heap (locs ++ L) e1.symm (by rw [← e2]; exact X'.warmed.alike) hp hb k1 k2 k3 (by rw [e1]; exact hce) hcv hcl T' rfl X'
    exact ⟨t2, st.trans a1, b1⟩
end
/-! ===== END ===== -/
/-! ===== BEGIN .. a constant ===== -/
section
variable {p : Program} {l : Launch} {e : Env} {R : Room} {s : State} {m : MethodId} {args : Array Value} {below : List Frame} {meth : Method} {c : Code} {H : Heap} {locs : List Loc} {cells slots : Nat} {Q : State → Prop}
variable {mc ms : Nat} {free : Addr → Prop} {A0 A1 : Nat → Prop} {H0 : Heap} {a : Array Value} {pc : Nat} {ls : Array Slot} {st0 rest : List Value}
theorem vx_calle {ad : Nat → Nat} {S SX : Type} {post : Option Nat → S → Prop} {px : SX → Prop} {B : S → State → Prop} {BX : String → SX → State → Prop} {AX : Nat → Prop} (hr : vx_Run p l e R s m args below meth c H locs cells slots mc ms (F0 m pc ls st0) rest (va_Qe ad post B A1 a) (vx_X px BX AX) free) (hS : va_S A0 H0 H locs) (hA : ∀ q, q < H.size → A1 q → A0 q) (hf : ∀ q, free q → A0 q) (hAX : ∀ q, q < H.size → AX q → A0 q)
    (kx : ∀ (E : String) (ce : Cell) (q9 : Addr) (u : SX) (t : State) (H1 : Heap) (locs1 : List Loc), t.heap = H1 → s.vm.Alike t.vm → px u → BX E u t → H.size ≤ H1.size → (∀ q : Nat, q < H.size → ¬ AX q → H1[q]? = H[q]?) → va_S A0 H0 H1 locs1 → H1[q9]? = some ce → ce.vm = .none → s.vm.findClass E = some ce.cls → vx_W p l e R s m args below meth c H1 locs1 (cells + mc) (slots + ms) Q (F0 m pc ls rest) q9)
    (kk : ∀ (r : Option Nat) (u : S) (t : State) (H1 : Heap) (locs1 : List Loc), t.heap = H1 → s.vm.Alike t.vm → post r u → B u t → H.size ≤ H1.size → (∀ q : Nat, q < H.size → ¬ A1 q → H1[q]? = H[q]?) → va_S A0 H0 H1 locs1 → W p l e R s m args below meth c H1 locs1 (cells + mc) (slots + ms) Q (F0 m (pc + 3) ls (va_re ad r :: rest))) : W p l e R s m args below meth c H locs cells slots Q (F0 m pc ls st0) := by
  intro T hT X
  rcases hr T hT X with ⟨v, st₀, t, T', L, h0, X', hL, e1, e2, ⟨⟨r, u, hv, hp, hb⟩, hF⟩, st⟩ | ⟨q, st₀, t, T', L, E, ce, h0, X', hL, e1, e2, ⟨u, hp, hb, hF⟩, hce, hcv, hcl, st⟩
  · cases hv
    obtain ⟨k1, k2, k3⟩ := vx_keep h0 e1 hS hA hf hL hF
    obtain ⟨t2, a1, b1⟩ := kk r u t T'.heap (locs ++ L) e1.symm (by rw [← e2]; exact X'.warmed.alike) hp hb k1 k2 k3 T' rfl X'
    exact ⟨t2, st t2 a1, b1⟩
  · obtain ⟨k1, k2, k3⟩ := vx_keep h0 e1 hS hAX hf hL hF
    obtain ⟨t2, a1, b1⟩ := kx E ce q u t T'.heap (locs ++ L) e1.symm (by rw [← e2]; exact X'.warmed.alike) hp hb k1 k2 k3 (by rw [e1]; exact hce) hcv hcl T' rfl X'
    exact ⟨t2, st.trans a1, b1⟩
end
/-! ===== END ===== -/
/-! ===== BEGIN .. by an interface, an object ===== -/
section
variable {p : Program} {l : Launch} {e : Env} {R : Room} {s : State} {m : MethodId} {args : Array Value} {below : List Frame} {meth : Method} {c : Code} {H : Heap} {locs : List Loc} {cells slots : Nat} {Q : State → Prop}
variable {mc ms : Nat} {free : Addr → Prop} {A0 A1 : Nat → Prop} {H0 : Heap} {a : Array Value} {pc : Nat} {ls : Array Slot} {st0 rest : List Value}
theorem vx_callFq {S SX : Type} {post : Option Nat → S → Prop} {px : SX → Prop} {B : S → State → Prop} {BX : String → SX → State → Prop} {AX : Nat → Prop} (hr : vx_Run5 p l e R s m args below meth c H locs cells slots mc ms (F0 m pc ls st0) rest (va_Qq post B A1 a) (vx_X px BX AX) free) (hS : va_S A0 H0 H locs) (hA : ∀ q, q < H.size → A1 q → A0 q) (hf : ∀ q, free q → A0 q) (hAX : ∀ q, q < H.size → AX q → A0 q)
    (kx : ∀ (E : String) (ce : Cell) (q9 : Addr) (u : SX) (t : State) (H1 : Heap) (locs1 : List Loc), t.heap = H1 → s.vm.Alike t.vm → px u → BX E u t → H.size ≤ H1.size → (∀ q : Nat, q < H.size → ¬ AX q → H1[q]? = H[q]?) → va_S A0 H0 H1 locs1 → H1[q9]? = some ce → ce.vm = .none → s.vm.findClass E = some ce.cls → vx_W p l e R s m args below meth c H1 locs1 (cells + mc) (slots + ms) Q (F0 m pc ls rest) q9)
    (kk : ∀ (r : Option Nat) (u : S) (t : State) (H1 : Heap) (locs1 : List Loc), t.heap = H1 → s.vm.Alike t.vm → post r u → B u t → H.size ≤ H1.size → (∀ q : Nat, q < H.size → ¬ A1 q → H1[q]? = H[q]?) → va_S A0 H0 H1 locs1 → W p l e R s m args below meth c H1 locs1 (cells + mc) (slots + ms) Q (F0 m (pc + 5) ls (va_rf r :: rest))) : W p l e R s m args below meth c H locs cells slots Q (F0 m pc ls st0) := by
  intro T hT X
  rcases hr T hT X with ⟨v, st₀, t, T', L, h0, X', hL, e1, e2, ⟨⟨r, u, hv, hp, hb⟩, hF⟩, st⟩ | ⟨q, st₀, t, T', L, E, ce, h0, X', hL, e1, e2, ⟨u, hp, hb, hF⟩, hce, hcv, hcl, st⟩
  · cases hv
    obtain ⟨k1, k2, k3⟩ := vx_keep h0 e1 hS hA hf hL hF
    obtain ⟨t2, a1, b1⟩ := kk r u t T'.heap (locs ++ L) e1.symm (by rw [← e2]; exact X'.warmed.alike) hp hb k1 k2 k3 T' rfl X'
    exact ⟨t2, st t2 a1, b1⟩
  · obtain ⟨k1, k2, k3⟩ := vx_keep h0 e1 hS hAX hf hL hF
    obtain ⟨t2, a1, b1⟩ := kx E ce q u t T'.heap (locs ++ L) e1.symm (by rw [← e2]; exact X'.warmed.alike) hp hb k1 k2 k3 (by rw [e1]; exact hce) hcv hcl T' rfl X'
    exact ⟨t2, st.trans a1, b1⟩
end
/-! ===== END ===== -/
/-! ===== BEGIN .. by an interface, a constant ===== -/
section
variable {p : Program} {l : Launch} {e : Env} {R : Room} {s : State} {m : MethodId} {args : Array Value} {below : List Frame} {meth : Method} {c : Code} {H : Heap} {locs : List Loc} {cells slots : Nat} {Q : State → Prop}
variable {mc ms : Nat} {free : Addr → Prop} {A0 A1 : Nat → Prop} {H0 : Heap} {a : Array Value} {pc : Nat} {ls : Array Slot} {st0 rest : List Value}
theorem vx_callFe {ad : Nat → Nat} {S SX : Type} {post : Option Nat → S → Prop} {px : SX → Prop} {B : S → State → Prop} {BX : String → SX → State → Prop} {AX : Nat → Prop} (hr : vx_Run5 p l e R s m args below meth c H locs cells slots mc ms (F0 m pc ls st0) rest (va_Qe ad post B A1 a) (vx_X px BX AX) free) (hS : va_S A0 H0 H locs) (hA : ∀ q, q < H.size → A1 q → A0 q) (hf : ∀ q, free q → A0 q) (hAX : ∀ q, q < H.size → AX q → A0 q)
    (kx : ∀ (E : String) (ce : Cell) (q9 : Addr) (u : SX) (t : State) (H1 : Heap) (locs1 : List Loc), t.heap = H1 → s.vm.Alike t.vm → px u → BX E u t → H.size ≤ H1.size → (∀ q : Nat, q < H.size → ¬ AX q → H1[q]? = H[q]?) → va_S A0 H0 H1 locs1 → H1[q9]? = some ce → ce.vm = .none → s.vm.findClass E = some ce.cls → vx_W p l e R s m args below meth c H1 locs1 (cells + mc) (slots + ms) Q (F0 m pc ls rest) q9)
    (kk : ∀ (r : Option Nat) (u : S) (t : State) (H1 : Heap) (locs1 : List Loc), t.heap = H1 → s.vm.Alike t.vm → post r u → B u t → H.size ≤ H1.size → (∀ q : Nat, q < H.size → ¬ A1 q → H1[q]? = H[q]?) → va_S A0 H0 H1 locs1 → W p l e R s m args below meth c H1 locs1 (cells + mc) (slots + ms) Q (F0 m (pc + 5) ls (va_re ad r :: rest))) : W p l e R s m args below meth c H locs cells slots Q (F0 m pc ls st0) := by
  intro T hT X
  rcases hr T hT X with ⟨v, st₀, t, T', L, h0, X', hL, e1, e2, ⟨⟨r, u, hv, hp, hb⟩, hF⟩, st⟩ | ⟨q, st₀, t, T', L, E, ce, h0, X', hL, e1, e2, ⟨u, hp, hb, hF⟩, hce, hcv, hcl, st⟩
  · cases hv
    obtain ⟨k1, k2, k3⟩ := vx_keep h0 e1 hS hA hf hL hF
    obtain ⟨t2, a1, b1⟩ := kk r u t T'.heap (locs ++ L) e1.symm (by rw [← e2]; exact X'.warmed.alike) hp hb k1 k2 k3 T' rfl X'
    exact ⟨t2, st t2 a1, b1⟩
  · obtain ⟨k1, k2, k3⟩ := vx_keep h0 e1 hS hAX hf hL hF
    obtain ⟨t2, a1, b1⟩ := kx E ce q u t T'.heap (locs ++ L) e1.symm (by rw [← e2]; exact X'.warmed.alike) hp hb k1 k2 k3 (by rw [e1]; exact hce) hcv hcl T' rfl X'
    exact ⟨t2, st.trans a1, b1⟩
end
/-! ===== END ===== -/
/-! ===== BEGIN what the machine throws by itself: null at a field, at athrow ===== -/
section VXM2
variable {p : Program} {l : Launch} {e : Env} {R : Room} {s : State} {m : MethodId} {args : Array Value} {below : List Frame} {meth : Method} {c : Code} {H : Heap} {locs : List Loc} {cells slots : Nat}
variable {Q : State → Prop} {cc : ByteArray} {pc : Nat} {ls : Array Slot} {rest : List Value}
theorem vx_getfN {D cl tys} {own ref C : String} {T : u_T} {N ci index : Nat} {Ts : List Cond} (hexec : p.tables.exec = Jvm.exec) (hb : c.code = cc) (hts : ∀ w ∈ Ts, w.before args s = true) (hin : ∀ w ∈ u_ws C T N, w ∈ Ts) (hown : s.vm.findClass own = some m.cls) (hK : va_K D cl tys s) (hc : cl[ci]? = some (C, T, N)) (k : Nat) (hk : k < N) (hlink : (Cond.fieldLink own index ref (T k).2.1 (T k).2.2.1).before args s = true) (hsame : ∀ x, s.fieldFound? (T k).1 (T k).2.1 (T k).2.2.1 = some x → s.fieldFound? ref (T k).2.1 (T k).2.2.1 = some x) (hdg : decode cc pc = .ok (.getfield index, 3)) (kk : vx_NoteN p l e R s m args below meth c H locs cells slots Q (F0 m pc ls rest)) : W p l e R s m args below meth c H locs cells slots Q (F0 m pc ls (.null :: rest)) := by
  obtain ⟨hS, hfc, kC, hkC, -⟩ := hK.1 ci _ hc
  obtain ⟨cf, kf, fi, f, hi, -⟩ := hS k hk
  intro U hU X
  obtain ⟨vm', X1, st1⟩ := X.getfieldNull hexec hown hlink (hsame _ hi) (u_facts hfc hkC (u_lays hts hin hk) hi).1 (g := F0 m pc ls (.null :: rest)) rfl (rest := rest) rfl (by rw [hb]; exact hdg)
  obtain ⟨t, st, q⟩ := kk (U.setVm vm') hU X1
  exact ⟨t, st1 t st, q⟩
theorem vx_getfNN {D cl tys} {own ref C host : String} {T : u_T} {N ci index : Nat} {Ts : List Cond} (hexec : p.tables.exec = Jvm.exec) (hb : c.code = cc) (hts : ∀ w ∈ Ts, w.before args s = true) (hin : ∀ w ∈ u_ws C T N, w ∈ Ts) (hown : s.vm.findClass own = some m.cls) (hK : va_K D cl tys s) (hc : cl[ci]? = some (C, T, N)) (k : Nat) (hk : k < N) (hlink : (Cond.fieldLinkNest own index ref (T k).2.1 (T k).2.2.1 host).before args s = true) (hsame : ∀ x, s.fieldFound? (T k).1 (T k).2.1 (T k).2.2.1 = some x → s.fieldFound? ref (T k).2.1 (T k).2.2.1 = some x) (hdg : decode cc pc = .ok (.getfield index, 3)) (kk : vx_NoteN p l e R s m args below meth c H locs cells slots Q (F0 m pc ls rest)) : W p l e R s m args below meth c H locs cells slots Q (F0 m pc ls (.null :: rest)) := by
  obtain ⟨hS, hfc, kC, hkC, -⟩ := hK.1 ci _ hc
  obtain ⟨cf, kf, fi, f, hi, -⟩ := hS k hk
  intro U hU X
  obtain ⟨vm', X1, st1⟩ := X.getfieldNullNest hexec hown hlink (hsame _ hi) (u_facts hfc hkC (u_lays hts hin hk) hi).1 (g := F0 m pc ls (.null :: rest)) rfl (rest := rest) rfl (by rw [hb]; exact hdg)
  obtain ⟨t, st, q⟩ := kk (U.setVm vm') hU X1
  exact ⟨t, st1 t st, q⟩
theorem vx_putfN {D cl tys} {own ref C : String} {T : u_T} {N ci index : Nat} {Ts : List Cond} (hexec : p.tables.exec = Jvm.exec) (hb : c.code = cc) (hts : ∀ w ∈ Ts, w.before args s = true) (hin : ∀ w ∈ u_ws C T N, w ∈ Ts) (hown : s.vm.findClass own = some m.cls) (hK : va_K D cl tys s) (hc : cl[ci]? = some (C, T, N)) (k : Nat) (hk : k < N) (hlink : (Cond.fieldLink own index ref (T k).2.1 (T k).2.2.1).before args s = true) (hsame : ∀ x, s.fieldFound? (T k).1 (T k).2.1 (T k).2.2.1 = some x → s.fieldFound? ref (T k).2.1 (T k).2.2.1 = some x) (hfin : (T k).2.2.2 = false) {v : Value} (hdg : decode cc pc = .ok (.putfield index, 3)) (kk : vx_NoteN p l e R s m args below meth c H locs cells slots Q (F0 m pc ls rest)) : W p l e R s m args below meth c H locs cells slots Q (F0 m pc ls (v :: .null :: rest)) := by
  obtain ⟨hS, hfc, kC, hkC, -⟩ := hK.1 ci _ hc
  obtain ⟨cf, kf, fi, f, hi, -⟩ := hS k hk
  have hlay := hts _ (hin _ (u_in_lay hk))
  unfold u_lay at hlay
  rw [if_neg (by rw [hfin]; decide)] at hlay
  obtain ⟨c9, k9, cf9, kf9, fi9, f9, -, -, hi9, hst9, hnf9, -⟩ := Cond.lays_spec hlay
  cases hi.symm.trans hi9
  intro U hU X
  obtain ⟨vm', X1, st1⟩ := X.putfieldNull hexec hown hlink (hsame _ hi) hst9 hnf9 (g := F0 m pc ls (v :: .null :: rest)) rfl (v := v) (rest := rest) rfl (by rw [hb]; exact hdg)
  obtain ⟨t, st, q⟩ := kk (U.setVm vm') hU X1
  exact ⟨t, st1 t st, q⟩
theorem vx_putfNN {D cl tys} {own ref C host : String} {T : u_T} {N ci index : Nat} {Ts : List Cond} (hexec : p.tables.exec = Jvm.exec) (hb : c.code = cc) (hts : ∀ w ∈ Ts, w.before args s = true) (hin : ∀ w ∈ u_ws C T N, w ∈ Ts) (hown : s.vm.findClass own = some m.cls) (hK : va_K D cl tys s) (hc : cl[ci]? = some (C, T, N)) (k : Nat) (hk : k < N) (hlink : (Cond.fieldLinkNest own index ref (T k).2.1 (T k).2.2.1 host).before args s = true) (hsame : ∀ x, s.fieldFound? (T k).1 (T k).2.1 (T k).2.2.1 = some x → s.fieldFound? ref (T k).2.1 (T k).2.2.1 = some x) (hfin : (T k).2.2.2 = false) {v : Value} (hdg : decode cc pc = .ok (.putfield index, 3)) (kk : vx_NoteN p l e R s m args below meth c H locs cells slots Q (F0 m pc ls rest)) : W p l e R s m args below meth c H locs cells slots Q (F0 m pc ls (v :: .null :: rest)) := by
  obtain ⟨hS, hfc, kC, hkC, -⟩ := hK.1 ci _ hc
  obtain ⟨cf, kf, fi, f, hi, -⟩ := hS k hk
  have hlay := hts _ (hin _ (u_in_lay hk))
  unfold u_lay at hlay
  rw [if_neg (by rw [hfin]; decide)] at hlay
  obtain ⟨c9, k9, cf9, kf9, fi9, f9, -, -, hi9, hst9, hnf9, -⟩ := Cond.lays_spec hlay
  cases hi.symm.trans hi9
  intro U hU X
  obtain ⟨vm', X1, st1⟩ := X.putfieldNullNest hexec hown hlink (hsame _ hi) hst9 hnf9 (g := F0 m pc ls (v :: .null :: rest)) rfl (v := v) (rest := rest) rfl (by rw [hb]; exact hdg)
  obtain ⟨t, st, q⟩ := kk (U.setVm vm') hU X1
  exact ⟨t, st1 t st, q⟩
theorem vx_athrowN (hexec : p.tables.exec = Jvm.exec) (hb : c.code = cc) (hdg : decode cc pc = .ok (.athrow, 1)) (k : vx_NoteN p l e R s m args below meth c H locs cells slots Q (F0 m pc ls rest)) : W p l e R s m args below meth c H locs cells slots Q (F0 m pc ls (.null :: rest)) := by
  intro T hT X
  obtain ⟨t, st, q⟩ := k T hT X
  exact ⟨t, X.athrowNull hexec (g := F0 m pc ls (.null :: rest)) rfl (rest := rest) rfl (by rw [hb]; exact hdg) t st, q⟩
end VXM2
/-! ===== END ===== -/
end
section
/-! ===== BEGIN printed: names, fields, word lists, decode rows ===== -/
def RX0 : String := "TrigramReaders$Bytes"
def TX0 : u_T := fun k => match k with
  | 0 => ("TrigramReaders$Bytes", "row", "[I", true)
  | _ => ("TrigramReaders$Bytes", "length", "I", false)
def tyX0 : Nat → FieldType := fun k => match k with
  | 0 => .array .int
  | _ => .int
abbrev wsX00 : List Cond := u_ws RX0 TX0 2
theorem nmX0 : ∀ a, a < 2 → ∀ b, b < 2 → a ≠ b → (TX0 a).2.1 ≠ (TX0 b).2.1 := by decide +kernel
theorem tyX0_ok : ∀ k, k < 2 → parseFieldDescriptor (TX0 k).2.2.1 = some (tyX0 k) := by decide +kernel
abbrev cX0_init : ByteArray := prog_2_method_1_code
def yX0_init : MethodName := ⟨RX0, "<init>", "()V"⟩
abbrev cX0_clear : ByteArray := prog_2_method_2_code
def yX0_clear : MethodName := ⟨RX0, "clear", "()V"⟩
abbrev cX0_append : ByteArray := prog_2_method_3_code
def yX0_append : MethodName := ⟨RX0, "append", "(I)V"⟩
abbrev cX0_appendFour : ByteArray := prog_2_method_4_code
def yX0_appendFour : MethodName := ⟨RX0, "appendFour", "(I)V"⟩
abbrev cX0_at : ByteArray := prog_2_method_6_code
def yX0_at : MethodName := ⟨RX0, "at", "(I)I"⟩
abbrev cX0_isName : ByteArray := prog_2_method_7_code
def yX0_isName : MethodName := ⟨RX0, "isName", "(II)Z"⟩
abbrev cX0_isDocument : ByteArray := prog_2_method_8_code
def yX0_isDocument : MethodName := ⟨RX0, "isDocument", "(II)Z"⟩
def RX1 : String := "TrigramReaders$Chance"
def TX1 : u_T := fun k => match k with
  | 0 => ("TrigramReaders$Chance", "top", "J", false)
  | 1 => ("TrigramReaders$Chance", "bottom", "J", false)
  | 2 => ("TrigramReaders$Chance", "escapeFactors", "I", false)
  | _ => ("TrigramReaders$Chance", "excluded", "I", false)
def tyX1 : Nat → FieldType := fun k => match k with
  | 0 => .long
  | 1 => .long
  | 2 => .int
  | _ => .int
abbrev wsX10 : List Cond := u_ws RX1 TX1 4
theorem nmX1 : ∀ a, a < 4 → ∀ b, b < 4 → a ≠ b → (TX1 a).2.1 ≠ (TX1 b).2.1 := by decide +kernel
theorem tyX1_ok : ∀ k, k < 4 → parseFieldDescriptor (TX1 k).2.2.1 = some (tyX1 k) := by decide +kernel
abbrev cX1_init : ByteArray := prog_3_method_1_code
def yX1_init : MethodName := ⟨RX1, "<init>", "()V"⟩
abbrev cX1_find : ByteArray := prog_3_method_2_code
def yX1_find : MethodName := ⟨RX1, "find", "(LTrigramReaders$Reader;III)V"⟩
abbrev cX1_visit : ByteArray := prog_3_method_3_code
def yX1_visit : MethodName := ⟨RX1, "visit", "(LTrigramReaders$Counts;III)Z"⟩
abbrev cX1_divisorFor : ByteArray := prog_3_method_4_code
def yX1_divisorFor : MethodName := ⟨RX1, "divisorFor", "(III)I"⟩
abbrev cX1_reduce : ByteArray := prog_3_method_5_code
def yX1_reduce : MethodName := ⟨RX1, "reduce", "()V"⟩
abbrev cX1_bits : ByteArray := prog_3_method_6_code
def yX1_bits : MethodName := ⟨RX1, "bits", "()I"⟩
def RX2 : String := "TrigramReaders$Counts"
def TX2 : u_T := fun k => match k with
  | 0 => ("TrigramReaders$Counts", "keys", "[I", true)
  | 1 => ("TrigramReaders$Counts", "values", "[I", true)
  | _ => ("TrigramReaders$Counts", "size", "I", false)
def tyX2 : Nat → FieldType := fun k => match k with
  | 0 => .array .int
  | 1 => .array .int
  | _ => .int
abbrev wsX20 : List Cond := u_ws RX2 TX2 3
theorem nmX2 : ∀ a, a < 3 → ∀ b, b < 3 → a ≠ b → (TX2 a).2.1 ≠ (TX2 b).2.1 := by decide +kernel
theorem tyX2_ok : ∀ k, k < 3 → parseFieldDescriptor (TX2 k).2.2.1 = some (tyX2 k) := by decide +kernel
abbrev cX2_init : ByteArray := prog_4_method_1_code
def yX2_init : MethodName := ⟨RX2, "<init>", "()V"⟩
abbrev cX2_copyFrom : ByteArray := prog_4_method_2_code
def yX2_copyFrom : MethodName := ⟨RX2, "copyFrom", "(LTrigramReaders$Counts;)V"⟩
abbrev cX2_placeOf : ByteArray := prog_4_method_3_code
def yX2_placeOf : MethodName := ⟨RX2, "placeOf", "(I)I"⟩
abbrev cX2_valueOf : ByteArray := prog_4_method_4_code
def yX2_valueOf : MethodName := ⟨RX2, "valueOf", "(I)I"⟩
abbrev cX2_add : ByteArray := prog_4_method_5_code
def yX2_add : MethodName := ⟨RX2, "add", "(II)V"⟩
abbrev cX2_addAll : ByteArray := prog_4_method_6_code
def yX2_addAll : MethodName := ⟨RX2, "addAll", "(LTrigramReaders$Counts;)V"⟩
abbrev cX2_countPosition : ByteArray := prog_4_method_7_code
def yX2_countPosition : MethodName := ⟨RX2, "countPosition", "(LTrigramReaders$Document;I)V"⟩
abbrev cX2_countDocument : ByteArray := prog_4_method_8_code
def yX2_countDocument : MethodName := ⟨RX2, "countDocument", "(LTrigramReaders$Document;)V"⟩
abbrev cX2_halve : ByteArray := prog_4_method_9_code
def yX2_halve : MethodName := ⟨RX2, "halve", "()V"⟩
abbrev cX2_symbolsIn : ByteArray := prog_4_method_10_code
def yX2_symbolsIn : MethodName := ⟨RX2, "symbolsIn", "(I)I"⟩
abbrev cX2_sumIn : ByteArray := prog_4_method_11_code
def yX2_sumIn : MethodName := ⟨RX2, "sumIn", "(I)I"⟩
def RX3 : String := "TrigramReaders$Document"
def TX3 : u_T := fun k => match k with
  | 0 => ("TrigramReaders$Document", "symbols", "[I", true)
  | 1 => ("TrigramReaders$Document", "length", "I", false)
  | _ => ("TrigramReaders$Document", "yearAdded", "I", false)
def tyX3 : Nat → FieldType := fun k => match k with
  | 0 => .array .int
  | 1 => .int
  | _ => .int
abbrev wsX30 : List Cond := u_ws RX3 TX3 3
theorem nmX3 : ∀ a, a < 3 → ∀ b, b < 3 → a ≠ b → (TX3 a).2.1 ≠ (TX3 b).2.1 := by decide +kernel
theorem tyX3_ok : ∀ k, k < 3 → parseFieldDescriptor (TX3 k).2.2.1 = some (tyX3 k) := by decide +kernel
abbrev cX3_init : ByteArray := prog_5_method_1_code
def yX3_init : MethodName := ⟨RX3, "<init>", "()V"⟩
abbrev cX3_copyFrom : ByteArray := prog_5_method_2_code
def yX3_copyFrom : MethodName := ⟨RX3, "copyFrom", "(LTrigramReaders$Document;)V"⟩
abbrev cX3_take : ByteArray := prog_5_method_3_code
def yX3_take : MethodName := ⟨RX3, "take", "(LTrigramReaders$Bytes;III)V"⟩
abbrev cX3_symbolAt : ByteArray := prog_5_method_4_code
def yX3_symbolAt : MethodName := ⟨RX3, "symbolAt", "(I)I"⟩
def RX4 : String := "TrigramReaders$Parser"
def TX4 : u_T := fun k => match k with
  | 0 => ("TrigramReaders$Parser", "text", "LTrigramReaders$Bytes;", true)
  | 1 => ("TrigramReaders$Parser", "target", "LTrigramReaders$State;", true)
  | 2 => ("TrigramReaders$Parser", "kind", "I", false)
  | 3 => ("TrigramReaders$Parser", "tokenStart", "I", false)
  | 4 => ("TrigramReaders$Parser", "tokenEnd", "I", false)
  | 5 => ("TrigramReaders$Parser", "errorCode", "I", false)
  | _ => ("TrigramReaders$Parser", "errorPosition", "I", false)
def tyX4 : Nat → FieldType := fun k => match k with
  | 0 => .object "TrigramReaders$Bytes"
  | 1 => .object "TrigramReaders$State"
  | 2 => .int
  | 3 => .int
  | 4 => .int
  | 5 => .int
  | _ => .int
abbrev wsX40 : List Cond := u_ws RX4 TX4 7
theorem nmX4 : ∀ a, a < 7 → ∀ b, b < 7 → a ≠ b → (TX4 a).2.1 ≠ (TX4 b).2.1 := by decide +kernel
theorem tyX4_ok : ∀ k, k < 7 → parseFieldDescriptor (TX4 k).2.2.1 = some (tyX4 k) := by decide +kernel
abbrev cX4_init : ByteArray := prog_6_method_1_code
def yX4_init : MethodName := ⟨RX4, "<init>", "(LTrigramReaders$Bytes;LTrigramReaders$State;)V"⟩
abbrev cX4_parseAll : ByteArray := prog_6_method_2_code
def yX4_parseAll : MethodName := ⟨RX4, "parseAll", "()Z"⟩
abbrev cX4_parseReader : ByteArray := prog_6_method_3_code
def yX4_parseReader : MethodName := ⟨RX4, "parseReader", "()Z"⟩
abbrev cX4_parseDocument : ByteArray := prog_6_method_4_code
def yX4_parseDocument : MethodName := ⟨RX4, "parseDocument", "()Z"⟩
abbrev cX4_parseTrain : ByteArray := prog_6_method_5_code
def yX4_parseTrain : MethodName := ⟨RX4, "parseTrain", "()Z"⟩
abbrev cX4_parseYear : ByteArray := prog_6_method_6_code
def yX4_parseYear : MethodName := ⟨RX4, "parseYear", "()Z"⟩
abbrev cX4_parseSemicolon : ByteArray := prog_6_method_7_code
def yX4_parseSemicolon : MethodName := ⟨RX4, "parseSemicolon", "()Z"⟩
abbrev cX4_fail : ByteArray := prog_6_method_8_code
def yX4_fail : MethodName := ⟨RX4, "fail", "(I)Z"⟩
abbrev cX4_next : ByteArray := prog_6_method_9_code
def yX4_next : MethodName := ⟨RX4, "next", "()V"⟩
abbrev cX4_isBlank : ByteArray := prog_6_method_10_code
def yX4_isBlank : MethodName := ⟨RX4, "isBlank", "(I)Z"⟩
abbrev cX4_kindOf : ByteArray := prog_6_method_11_code
def yX4_kindOf : MethodName := ⟨RX4, "kindOf", "(I)I"⟩
abbrev cX4_isWord : ByteArray := prog_6_method_12_code
def yX4_isWord : MethodName := ⟨RX4, "isWord", "(Ljava/lang/String;)Z"⟩
abbrev cX4_methodWord : ByteArray := prog_6_method_13_code
def yX4_methodWord : MethodName := ⟨RX4, "methodWord", "()I"⟩
abbrev cX4_numberValue : ByteArray := prog_6_method_14_code
def yX4_numberValue : MethodName := ⟨RX4, "numberValue", "()I"⟩
def RX5 : String := "TrigramReaders$Ranking"
def TX5 : u_T := fun k => match k with
  | 0 => ("TrigramReaders$Ranking", "symbols", "[I", true)
  | 1 => ("TrigramReaders$Ranking", "weights", "[I", true)
  | 2 => ("TrigramReaders$Ranking", "size", "I", false)
  | _ => ("TrigramReaders$Ranking", "placed", "I", false)
def tyX5 : Nat → FieldType := fun k => match k with
  | 0 => .array .int
  | 1 => .array .int
  | 2 => .int
  | _ => .int
abbrev wsX50 : List Cond := u_ws RX5 TX5 4
theorem nmX5 : ∀ a, a < 4 → ∀ b, b < 4 → a ≠ b → (TX5 a).2.1 ≠ (TX5 b).2.1 := by decide +kernel
theorem tyX5_ok : ∀ k, k < 4 → parseFieldDescriptor (TX5 k).2.2.1 = some (tyX5 k) := by decide +kernel
abbrev cX5_init : ByteArray := prog_7_method_1_code
def yX5_init : MethodName := ⟨RX5, "<init>", "()V"⟩
abbrev cX5_fill : ByteArray := prog_7_method_2_code
def yX5_fill : MethodName := ⟨RX5, "fill", "(LTrigramReaders$Counts;II)V"⟩
abbrev cX5_appendOrder : ByteArray := prog_7_method_3_code
def yX5_appendOrder : MethodName := ⟨RX5, "appendOrder", "(LTrigramReaders$Counts;I)V"⟩
abbrev cX5_insert : ByteArray := prog_7_method_4_code
def yX5_insert : MethodName := ⟨RX5, "insert", "(III)V"⟩
abbrev cX5_guess : ByteArray := prog_7_method_5_code
def yX5_guess : MethodName := ⟨RX5, "guess", "(I)I"⟩
abbrev cX5_guessesUntil : ByteArray := prog_7_method_6_code
def yX5_guessesUntil : MethodName := ⟨RX5, "guessesUntil", "(I)I"⟩
def RX6 : String := "TrigramReaders$Reader"
def TX6 : u_T := fun k => match k with
  | 0 => ("TrigramReaders$Reader", "name", "[I", true)
  | 1 => ("TrigramReaders$Reader", "nameLength", "I", false)
  | 2 => ("TrigramReaders$Reader", "method", "I", false)
  | 3 => ("TrigramReaders$Reader", "counts", "LTrigramReaders$Counts;", true)
  | 4 => ("TrigramReaders$Reader", "symbolsTrained", "I", false)
  | _ => ("TrigramReaders$Reader", "trainings", "[I", true)
def tyX6 : Nat → FieldType := fun k => match k with
  | 0 => .array .int
  | 1 => .int
  | 2 => .int
  | 3 => .object "TrigramReaders$Counts"
  | 4 => .int
  | _ => .array .int
abbrev wsX60 : List Cond := u_ws RX6 TX6 6
theorem nmX6 : ∀ a, a < 6 → ∀ b, b < 6 → a ≠ b → (TX6 a).2.1 ≠ (TX6 b).2.1 := by decide +kernel
theorem tyX6_ok : ∀ k, k < 6 → parseFieldDescriptor (TX6 k).2.2.1 = some (tyX6 k) := by decide +kernel
abbrev cX6_init : ByteArray := prog_8_method_1_code
def yX6_init : MethodName := ⟨RX6, "<init>", "()V"⟩
abbrev cX6_copyFrom : ByteArray := prog_8_method_2_code
def yX6_copyFrom : MethodName := ⟨RX6, "copyFrom", "(LTrigramReaders$Reader;)V"⟩
abbrev cX6_begin : ByteArray := prog_8_method_3_code
def yX6_begin : MethodName := ⟨RX6, "begin", "(LTrigramReaders$Bytes;III)V"⟩
abbrev cX6_clearTrainings : ByteArray := prog_8_method_4_code
def yX6_clearTrainings : MethodName := ⟨RX6, "clearTrainings", "()V"⟩
abbrev cX6_nameAt : ByteArray := prog_8_method_5_code
def yX6_nameAt : MethodName := ⟨RX6, "nameAt", "(I)I"⟩
abbrev cX6_isNamed : ByteArray := prog_8_method_6_code
def yX6_isNamed : MethodName := ⟨RX6, "isNamed", "(LTrigramReaders$Bytes;II)Z"⟩
abbrev cX6_trainingsOn : ByteArray := prog_8_method_7_code
def yX6_trainingsOn : MethodName := ⟨RX6, "trainingsOn", "(I)I"⟩
abbrev cX6_recordTraining : ByteArray := prog_8_method_8_code
def yX6_recordTraining : MethodName := ⟨RX6, "recordTraining", "(II)V"⟩
abbrev cX6_takeIn : ByteArray := prog_8_method_9_code
def yX6_takeIn : MethodName := ⟨RX6, "takeIn", "(LTrigramReaders$Reader;)V"⟩
def RX7 : String := "TrigramReaders$State"
def TX7 : u_T := fun k => match k with
  | 0 => ("TrigramReaders$State", "readers", "[LTrigramReaders$Reader;", true)
  | 1 => ("TrigramReaders$State", "readersUsed", "I", false)
  | 2 => ("TrigramReaders$State", "documents", "[LTrigramReaders$Document;", true)
  | 3 => ("TrigramReaders$State", "documentsUsed", "I", false)
  | _ => ("TrigramReaders$State", "currentYear", "I", false)
def tyX7 : Nat → FieldType := fun k => match k with
  | 0 => .array (.object "TrigramReaders$Reader")
  | 1 => .int
  | 2 => .array (.object "TrigramReaders$Document")
  | 3 => .int
  | _ => .int
abbrev wsX70 : List Cond := u_ws RX7 TX7 5
theorem nmX7 : ∀ a, a < 5 → ∀ b, b < 5 → a ≠ b → (TX7 a).2.1 ≠ (TX7 b).2.1 := by decide +kernel
theorem tyX7_ok : ∀ k, k < 5 → parseFieldDescriptor (TX7 k).2.2.1 = some (tyX7 k) := by decide +kernel
abbrev cX7_init : ByteArray := prog_9_method_1_code
def yX7_init : MethodName := ⟨RX7, "<init>", "()V"⟩
abbrev cX7_copyFrom : ByteArray := prog_9_method_2_code
def yX7_copyFrom : MethodName := ⟨RX7, "copyFrom", "(LTrigramReaders$State;)V"⟩
abbrev cX7_clear : ByteArray := prog_9_method_3_code
def yX7_clear : MethodName := ⟨RX7, "clear", "()V"⟩
abbrev cX7_readerNamed : ByteArray := prog_9_method_4_code
def yX7_readerNamed : MethodName := ⟨RX7, "readerNamed", "(LTrigramReaders$Bytes;II)LTrigramReaders$Reader;"⟩
abbrev cX7_readerAt : ByteArray := prog_9_method_5_code
def yX7_readerAt : MethodName := ⟨RX7, "readerAt", "(I)LTrigramReaders$Reader;"⟩
abbrev cX7_documentAt : ByteArray := prog_9_method_6_code
def yX7_documentAt : MethodName := ⟨RX7, "documentAt", "(I)LTrigramReaders$Document;"⟩
abbrev cX7_putReader : ByteArray := prog_9_method_7_code
def yX7_putReader : MethodName := ⟨RX7, "putReader", "(LTrigramReaders$Bytes;III)V"⟩
abbrev cX7_putDocument : ByteArray := prog_9_method_8_code
def yX7_putDocument : MethodName := ⟨RX7, "putDocument", "(LTrigramReaders$Bytes;II)V"⟩
abbrev cX7_passYear : ByteArray := prog_9_method_9_code
def yX7_passYear : MethodName := ⟨RX7, "passYear", "()V"⟩
def RX8 : String := "TrigramReaders"
def TX8 : u_T := fun k => match k with
  | 0 => ("TrigramReaders", "state", "LTrigramReaders$State;", true)
  | 1 => ("TrigramReaders", "loaded", "LTrigramReaders$State;", true)
  | 2 => ("TrigramReaders", "past", "[LTrigramReaders$State;", true)
  | 3 => ("TrigramReaders", "pastNext", "I", false)
  | 4 => ("TrigramReaders", "pastCount", "I", false)
  | 5 => ("TrigramReaders", "slots", "[LTrigramReaders$State;", true)
  | 6 => ("TrigramReaders", "slotUsed", "[Z", true)
  | 7 => ("TrigramReaders", "input", "LTrigramReaders$Bytes;", true)
  | 8 => ("TrigramReaders", "output", "LTrigramReaders$Bytes;", true)
  | 9 => ("TrigramReaders", "loadErrorCode", "I", false)
  | 10 => ("TrigramReaders", "loadErrorPosition", "I", false)
  | 11 => ("TrigramReaders", "trial", "LTrigramReaders$Counts;", true)
  | 12 => ("TrigramReaders", "ranking", "LTrigramReaders$Ranking;", true)
  | 13 => ("TrigramReaders", "chance", "LTrigramReaders$Chance;", true)
  | _ => ("TrigramReaders", "decodedRanks", "[I", true)
def tyX8 : Nat → FieldType := fun k => match k with
  | 0 => .object "TrigramReaders$State"
  | 1 => .object "TrigramReaders$State"
  | 2 => .array (.object "TrigramReaders$State")
  | 3 => .int
  | 4 => .int
  | 5 => .array (.object "TrigramReaders$State")
  | 6 => .array .boolean
  | 7 => .object "TrigramReaders$Bytes"
  | 8 => .object "TrigramReaders$Bytes"
  | 9 => .int
  | 10 => .int
  | 11 => .object "TrigramReaders$Counts"
  | 12 => .object "TrigramReaders$Ranking"
  | 13 => .object "TrigramReaders$Chance"
  | _ => .array .int
abbrev wsX80 : List Cond := u_ws RX8 TX8 15
theorem nmX8 : ∀ a, a < 15 → ∀ b, b < 15 → a ≠ b → (TX8 a).2.1 ≠ (TX8 b).2.1 := by decide +kernel
theorem tyX8_ok : ∀ k, k < 15 → parseFieldDescriptor (TX8 k).2.2.1 = some (tyX8 k) := by decide +kernel
abbrev cX8_init : ByteArray := prog_1_method_1_code
def yX8_init : MethodName := ⟨RX8, "<init>", "()V"⟩
abbrev cX8_firstState : ByteArray := prog_1_method_2_code
def yX8_firstState : MethodName := ⟨RX8, "firstState", "()LTrigramReaders$State;"⟩
abbrev cX8_appendInput : ByteArray := prog_1_method_3_code
def yX8_appendInput : MethodName := ⟨RX8, "appendInput", "(IIIII)I"⟩
abbrev cX8_truncateInput : ByteArray := prog_1_method_4_code
def yX8_truncateInput : MethodName := ⟨RX8, "truncateInput", "(I)I"⟩
abbrev cX8_load : ByteArray := prog_1_method_5_code
def yX8_load : MethodName := ⟨RX8, "load", "()I"⟩
abbrev cX8_errorCode : ByteArray := prog_1_method_6_code
def yX8_errorCode : MethodName := ⟨RX8, "errorCode", "()I"⟩
abbrev cX8_readerCount : ByteArray := prog_1_method_9_code
def yX8_readerCount : MethodName := ⟨RX8, "readerCount", "()I"⟩
abbrev cX8_escapeMethod : ByteArray := prog_1_method_11_code
def yX8_escapeMethod : MethodName := ⟨RX8, "escapeMethod", "(I)I"⟩
abbrev cX8_documentCount : ByteArray := prog_1_method_12_code
def yX8_documentCount : MethodName := ⟨RX8, "documentCount", "()I"⟩
abbrev cX8_documentLength : ByteArray := prog_1_method_13_code
def yX8_documentLength : MethodName := ⟨RX8, "documentLength", "(I)I"⟩
abbrev cX8_documentSymbol : ByteArray := prog_1_method_14_code
def yX8_documentSymbol : MethodName := ⟨RX8, "documentSymbol", "(II)I"⟩
abbrev cX8_countOrder0 : ByteArray := prog_1_method_16_code
def yX8_countOrder0 : MethodName := ⟨RX8, "countOrder0", "(II)I"⟩
abbrev cX8_countOrder1 : ByteArray := prog_1_method_17_code
def yX8_countOrder1 : MethodName := ⟨RX8, "countOrder1", "(III)I"⟩
abbrev cX8_countOrder2 : ByteArray := prog_1_method_18_code
def yX8_countOrder2 : MethodName := ⟨RX8, "countOrder2", "(IIII)I"⟩
abbrev cX8_contextTotal : ByteArray := prog_1_method_19_code
def yX8_contextTotal : MethodName := ⟨RX8, "contextTotal", "(III)I"⟩
abbrev cX8_contextSymbols : ByteArray := prog_1_method_20_code
def yX8_contextSymbols : MethodName := ⟨RX8, "contextSymbols", "(III)I"⟩
abbrev cX8_positiveCounts : ByteArray := prog_1_method_22_code
def yX8_positiveCounts : MethodName := ⟨RX8, "positiveCounts", "(I)I"⟩
abbrev cX8_timesTrained : ByteArray := prog_1_method_23_code
def yX8_timesTrained : MethodName := ⟨RX8, "timesTrained", "(II)I"⟩
abbrev cX8_trainedSymbols : ByteArray := prog_1_method_24_code
def yX8_trainedSymbols : MethodName := ⟨RX8, "trainedSymbols", "(I)I"⟩
abbrev cX8_trainingGap : ByteArray := prog_1_method_25_code
def yX8_trainingGap : MethodName := ⟨RX8, "trainingGap", "(I)I"⟩
abbrev cX8_symbolAtRank : ByteArray := prog_1_method_26_code
def yX8_symbolAtRank : MethodName := ⟨RX8, "symbolAtRank", "(IIII)I"⟩
abbrev cX8_rank : ByteArray := prog_1_method_27_code
def yX8_rank : MethodName := ⟨RX8, "rank", "(IIII)I"⟩
abbrev cX8_foundOrder : ByteArray := prog_1_method_28_code
def yX8_foundOrder : MethodName := ⟨RX8, "foundOrder", "(IIII)I"⟩
abbrev cX8_escapes : ByteArray := prog_1_method_29_code
def yX8_escapes : MethodName := ⟨RX8, "escapes", "(IIII)I"⟩
abbrev cX8_numerator : ByteArray := prog_1_method_30_code
def yX8_numerator : MethodName := ⟨RX8, "numerator", "(IIII)J"⟩
abbrev cX8_denominator : ByteArray := prog_1_method_31_code
def yX8_denominator : MethodName := ⟨RX8, "denominator", "(IIII)J"⟩
abbrev cX8_probability : ByteArray := prog_1_method_32_code
def yX8_probability : MethodName := ⟨RX8, "probability", "(IIII)D"⟩
abbrev cX8_codeLength : ByteArray := prog_1_method_33_code
def yX8_codeLength : MethodName := ⟨RX8, "codeLength", "(IIII)I"⟩
abbrev cX8_train : ByteArray := prog_1_method_51_code
def yX8_train : MethodName := ⟨RX8, "train", "(II)I"⟩
abbrev cX8_learn : ByteArray := prog_1_method_52_code
def yX8_learn : MethodName := ⟨RX8, "learn", "(II)I"⟩
abbrev cX8_forget : ByteArray := prog_1_method_53_code
def yX8_forget : MethodName := ⟨RX8, "forget", "(I)I"⟩
abbrev cX8_setEscapeMethod : ByteArray := prog_1_method_54_code
def yX8_setEscapeMethod : MethodName := ⟨RX8, "setEscapeMethod", "(II)I"⟩
abbrev cX8_endYear : ByteArray := prog_1_method_55_code
def yX8_endYear : MethodName := ⟨RX8, "endYear", "()I"⟩
abbrev cX8_merge : ByteArray := prog_1_method_56_code
def yX8_merge : MethodName := ⟨RX8, "merge", "(II)I"⟩
abbrev cX8_remember : ByteArray := prog_1_method_65_code
def yX8_remember : MethodName := ⟨RX8, "remember", "()V"⟩
abbrev cX8_existingReader : ByteArray := prog_1_method_66_code
def yX8_existingReader : MethodName := ⟨RX8, "existingReader", "(I)LTrigramReaders$Reader;"⟩
abbrev cX8_existingDocument : ByteArray := prog_1_method_67_code
def yX8_existingDocument : MethodName := ⟨RX8, "existingDocument", "(I)LTrigramReaders$Document;"⟩
abbrev cX8_requireMethod : ByteArray := prog_1_method_69_code
def yX8_requireMethod : MethodName := ⟨RX8, "requireMethod", "(I)V"⟩
abbrev cX8_requireSymbol : ByteArray := prog_1_method_70_code
def yX8_requireSymbol : MethodName := ⟨RX8, "requireSymbol", "(I)V"⟩
abbrev cX8_requireContext : ByteArray := prog_1_method_71_code
def yX8_requireContext : MethodName := ⟨RX8, "requireContext", "(II)V"⟩
abbrev cX8_isSymbol : ByteArray := prog_1_method_72_code
def yX8_isSymbol : MethodName := ⟨RX8, "isSymbol", "(I)Z"⟩
abbrev cX8_firstOrder : ByteArray := prog_1_method_73_code
def yX8_firstOrder : MethodName := ⟨RX8, "firstOrder", "(II)I"⟩
abbrev cX8_contextStart : ByteArray := prog_1_method_74_code
def yX8_contextStart : MethodName := ⟨RX8, "contextStart", "(III)I"⟩
abbrev cX8_chanceOf : ByteArray := prog_1_method_75_code
def yX8_chanceOf : MethodName := ⟨RX8, "chanceOf", "(IIII)LTrigramReaders$Chance;"⟩
abbrev cX8_guessIn : ByteArray := prog_1_method_76_code
def yX8_guessIn : MethodName := ⟨RX8, "guessIn", "(LTrigramReaders$Counts;III)I"⟩
abbrev cX8_rankIn : ByteArray := prog_1_method_77_code
def yX8_rankIn : MethodName := ⟨RX8, "rankIn", "(LTrigramReaders$Counts;III)I"⟩
abbrev cX8_orderOf : ByteArray := prog_1_method_78_code
def yX8_orderOf : MethodName := ⟨RX8, "orderOf", "(LTrigramReaders$Counts;III)I"⟩
abbrev cX8_rankOfPosition : ByteArray := prog_1_method_80_code
def yX8_rankOfPosition : MethodName := ⟨RX8, "rankOfPosition", "(LTrigramReaders$Counts;LTrigramReaders$Document;I)I"⟩
abbrev cX8_guessesFor : ByteArray := prog_1_method_81_code
def yX8_guessesFor : MethodName := ⟨RX8, "guessesFor", "(LTrigramReaders$Counts;LTrigramReaders$Document;)I"⟩
abbrev cX8_guessesWhileLearning : ByteArray := prog_1_method_82_code
def yX8_guessesWhileLearning : MethodName := ⟨RX8, "guessesWhileLearning", "(LTrigramReaders$Counts;LTrigramReaders$Document;)I"⟩
abbrev cX8_isDigit : ByteArray := prog_1_method_86_code
def yX8_isDigit : MethodName := ⟨RX8, "isDigit", "(I)Z"⟩
abbrev cX8_isLetter : ByteArray := prog_1_method_87_code
def yX8_isLetter : MethodName := ⟨RX8, "isLetter", "(I)Z"⟩
abbrev cX8_withDigit : ByteArray := prog_1_method_88_code
def yX8_withDigit : MethodName := ⟨RX8, "withDigit", "(II)I"⟩
def RX9 : String := "TrigramReadersModel"
def TX9 : u_T := fun k => match k with
  | _ => ("", "", "", false)
def tyX9 : Nat → FieldType := fun k => match k with
  | _ => .int
abbrev wsX90 : List Cond := u_ws RX9 TX9 0
theorem nmX9 : ∀ a, a < 0 → ∀ b, b < 0 → a ≠ b → (TX9 a).2.1 ≠ (TX9 b).2.1 := by decide +kernel
theorem tyX9_ok : ∀ k, k < 0 → parseFieldDescriptor (TX9 k).2.2.1 = some (tyX9 k) := by decide +kernel
def RJx145de : String := "java/io/Serializable"
def TJx145de : u_T := fun k => match k with
  | _ => ("", "", "", false)
def tyJx145de : Nat → FieldType := fun k => match k with
  | _ => .int
abbrev wsJx145de0 : List Cond := u_ws RJx145de TJx145de 0
theorem nmJx145de : ∀ a, a < 0 → ∀ b, b < 0 → a ≠ b → (TJx145de a).2.1 ≠ (TJx145de b).2.1 := by decide +kernel
theorem tyJx145de_ok : ∀ k, k < 0 → parseFieldDescriptor (TJx145de k).2.2.1 = some (tyJx145de k) := by decide +kernel
def RJ5 : String := "java/lang/AbstractStringBuilder"
def TJ5 : u_T := fun k => match k with
  | _ => ("", "", "", false)
def tyJ5 : Nat → FieldType := fun k => match k with
  | _ => .int
abbrev wsJ50 : List Cond := u_ws RJ5 TJ5 0
theorem nmJ5 : ∀ a, a < 0 → ∀ b, b < 0 → a ≠ b → (TJ5 a).2.1 ≠ (TJ5 b).2.1 := by decide +kernel
theorem tyJ5_ok : ∀ k, k < 0 → parseFieldDescriptor (TJ5 k).2.2.1 = some (tyJ5 k) := by decide +kernel
abbrev cJ5_init_d00df : ByteArray := prog_13_method_2_code
def yJ5_init_d00df : MethodName := ⟨RJ5, "<init>", "(I)V"⟩
abbrev cJ5_length_8abf5 : ByteArray := prog_13_method_6_code
def yJ5_length_8abf5 : MethodName := ⟨RJ5, "length", "()I"⟩
abbrev cJ5_ensureCapacityInternal_d00df : ByteArray := prog_13_method_9_code
def yJ5_ensureCapacityInternal_d00df : MethodName := ⟨RJ5, "ensureCapacityInternal", "(I)V"⟩
abbrev cJ5_newCapacity_0f7a4 : ByteArray := prog_13_method_10_code
def yJ5_newCapacity_0f7a4 : MethodName := ⟨RJ5, "newCapacity", "(I)I"⟩
abbrev cJ5_inflate_da8c8 : ByteArray := prog_13_method_11_code
def yJ5_inflate_da8c8 : MethodName := ⟨RJ5, "inflate", "()V"⟩
abbrev cJ5_append_cf1ce : ByteArray := prog_13_method_22_code
def yJ5_append_cf1ce : MethodName := ⟨RJ5, "append", "(Ljava/lang/String;)Ljava/lang/AbstractStringBuilder;"⟩
abbrev cJ5_appendNull_278bc : ByteArray := prog_13_method_26_code
def yJ5_appendNull_278bc : MethodName := ⟨RJ5, "appendNull", "()Ljava/lang/AbstractStringBuilder;"⟩
abbrev cJ5_append_3fe6f : ByteArray := prog_13_method_31_code
def yJ5_append_3fe6f : MethodName := ⟨RJ5, "append", "(C)Ljava/lang/AbstractStringBuilder;"⟩
abbrev cJ5_append_c97b9 : ByteArray := prog_13_method_32_code
def yJ5_append_c97b9 : MethodName := ⟨RJ5, "append", "(I)Ljava/lang/AbstractStringBuilder;"⟩
abbrev cJ5_getValue_6d5f1 : ByteArray := prog_13_method_64_code
def yJ5_getValue_6d5f1 : MethodName := ⟨RJ5, "getValue", "()[B"⟩
abbrev cJ5_isLatin1_aae02 : ByteArray := prog_13_method_68_code
def yJ5_isLatin1_aae02 : MethodName := ⟨RJ5, "isLatin1", "()Z"⟩
abbrev cJ5_inflateIfNeededFor_a7421 : ByteArray := prog_13_method_71_code
def yJ5_inflateIfNeededFor_a7421 : MethodName := ⟨RJ5, "inflateIfNeededFor", "(Ljava/lang/String;)V"⟩
abbrev cJ5_putStringAt_47b60 : ByteArray := prog_13_method_73_code
def yJ5_putStringAt_47b60 : MethodName := ⟨RJ5, "putStringAt", "(ILjava/lang/String;)V"⟩
def RJx2cfe8 : String := "java/lang/Appendable"
def TJx2cfe8 : u_T := fun k => match k with
  | _ => ("", "", "", false)
def tyJx2cfe8 : Nat → FieldType := fun k => match k with
  | _ => .int
abbrev wsJx2cfe80 : List Cond := u_ws RJx2cfe8 TJx2cfe8 0
theorem nmJx2cfe8 : ∀ a, a < 0 → ∀ b, b < 0 → a ≠ b → (TJx2cfe8 a).2.1 ≠ (TJx2cfe8 b).2.1 := by decide +kernel
theorem tyJx2cfe8_ok : ∀ k, k < 0 → parseFieldDescriptor (TJx2cfe8 k).2.2.1 = some (tyJx2cfe8 k) := by decide +kernel
def RJx9f9b0 : String := "java/lang/CharSequence"
def TJx9f9b0 : u_T := fun k => match k with
  | _ => ("", "", "", false)
def tyJx9f9b0 : Nat → FieldType := fun k => match k with
  | _ => .int
abbrev wsJx9f9b00 : List Cond := u_ws RJx9f9b0 TJx9f9b0 0
theorem nmJx9f9b0 : ∀ a, a < 0 → ∀ b, b < 0 → a ≠ b → (TJx9f9b0 a).2.1 ≠ (TJx9f9b0 b).2.1 := by decide +kernel
theorem tyJx9f9b0_ok : ∀ k, k < 0 → parseFieldDescriptor (TJx9f9b0 k).2.2.1 = some (tyJx9f9b0 k) := by decide +kernel
def RJx8e188 : String := "java/lang/Cloneable"
def TJx8e188 : u_T := fun k => match k with
  | _ => ("", "", "", false)
def tyJx8e188 : Nat → FieldType := fun k => match k with
  | _ => .int
abbrev wsJx8e1880 : List Cond := u_ws RJx8e188 TJx8e188 0
theorem nmJx8e188 : ∀ a, a < 0 → ∀ b, b < 0 → a ≠ b → (TJx8e188 a).2.1 ≠ (TJx8e188 b).2.1 := by decide +kernel
theorem tyJx8e188_ok : ∀ k, k < 0 → parseFieldDescriptor (TJx8e188 k).2.2.1 = some (tyJx8e188 k) := by decide +kernel
def RJxb160c : String := "java/lang/Comparable"
def TJxb160c : u_T := fun k => match k with
  | _ => ("", "", "", false)
def tyJxb160c : Nat → FieldType := fun k => match k with
  | _ => .int
abbrev wsJxb160c0 : List Cond := u_ws RJxb160c TJxb160c 0
theorem nmJxb160c : ∀ a, a < 0 → ∀ b, b < 0 → a ≠ b → (TJxb160c a).2.1 ≠ (TJxb160c b).2.1 := by decide +kernel
theorem tyJxb160c_ok : ∀ k, k < 0 → parseFieldDescriptor (TJxb160c k).2.2.1 = some (tyJxb160c k) := by decide +kernel
def RJ6 : String := "java/lang/Integer"
def TJ6 : u_T := fun k => match k with
  | _ => ("", "", "", false)
def tyJ6 : Nat → FieldType := fun k => match k with
  | _ => .int
abbrev wsJ60 : List Cond := u_ws RJ6 TJ6 0
theorem nmJ6 : ∀ a, a < 0 → ∀ b, b < 0 → a ≠ b → (TJ6 a).2.1 ≠ (TJ6 b).2.1 := by decide +kernel
theorem tyJ6_ok : ∀ k, k < 0 → parseFieldDescriptor (TJ6 k).2.2.1 = some (tyJ6 k) := by decide +kernel
abbrev cJ6_getChars_ba4f3 : ByteArray := prog_22_method_12_code
def yJ6_getChars_ba4f3 : MethodName := ⟨RJ6, "getChars", "(II[B)I"⟩
abbrev cJ6_stringSize_0f7a4 : ByteArray := prog_22_method_13_code
def yJ6_stringSize_0f7a4 : MethodName := ⟨RJ6, "stringSize", "(I)I"⟩
abbrev cJ6_bitCount_0f7a4 : ByteArray := prog_22_method_49_code
def yJ6_bitCount_0f7a4 : MethodName := ⟨RJ6, "bitCount", "(I)I"⟩
def RJ9 : String := "java/lang/Math"
def TJ9 : u_T := fun k => match k with
  | _ => ("", "", "", false)
def tyJ9 : Nat → FieldType := fun k => match k with
  | _ => .int
abbrev wsJ90 : List Cond := u_ws RJ9 TJ9 0
theorem nmJ9 : ∀ a, a < 0 → ∀ b, b < 0 → a ≠ b → (TJ9 a).2.1 ≠ (TJ9 b).2.1 := by decide +kernel
theorem tyJ9_ok : ∀ k, k < 0 → parseFieldDescriptor (TJ9 k).2.2.1 = some (tyJ9 k) := by decide +kernel
abbrev cJ9_max_7cf53 : ByteArray := prog_23_method_65_code
def yJ9_max_7cf53 : MethodName := ⟨RJ9, "max", "(II)I"⟩
abbrev cJ9_min_7cf53 : ByteArray := prog_23_method_69_code
def yJ9_min_7cf53 : MethodName := ⟨RJ9, "min", "(II)I"⟩
def RJxd2413 : String := "java/lang/Number"
def TJxd2413 : u_T := fun k => match k with
  | _ => ("", "", "", false)
def tyJxd2413 : Nat → FieldType := fun k => match k with
  | _ => .int
abbrev wsJxd24130 : List Cond := u_ws RJxd2413 TJxd2413 0
theorem nmJxd2413 : ∀ a, a < 0 → ∀ b, b < 0 → a ≠ b → (TJxd2413 a).2.1 ≠ (TJxd2413 b).2.1 := by decide +kernel
theorem tyJxd2413_ok : ∀ k, k < 0 → parseFieldDescriptor (TJxd2413 k).2.2.1 = some (tyJxd2413 k) := by decide +kernel
def RJ0 : String := "java/lang/String"
def TJ0 : u_T := fun k => match k with
  | 0 => ("java/lang/String", "value", "[B", true)
  | 1 => ("java/lang/String", "coder", "B", true)
  | 2 => ("java/lang/String", "hash", "I", false)
  | _ => ("java/lang/String", "hashIsZero", "Z", false)
def tyJ0 : Nat → FieldType := fun k => match k with
  | 0 => .array .byte
  | 1 => .byte
  | 2 => .int
  | _ => .boolean
abbrev wsJ00 : List Cond := u_ws RJ0 TJ0 4
theorem nmJ0 : ∀ a, a < 4 → ∀ b, b < 4 → a ≠ b → (TJ0 a).2.1 ≠ (TJ0 b).2.1 := by decide +kernel
theorem tyJ0_ok : ∀ k, k < 4 → parseFieldDescriptor (TJ0 k).2.2.1 = some (tyJ0 k) := by decide +kernel
abbrev cJ0_init_81219 : ByteArray := prog_26_method_53_code
def yJ0_init_81219 : MethodName := ⟨RJ0, "<init>", "(Ljava/lang/StringBuilder;)V"⟩
abbrev cJ0_length_8abf5 : ByteArray := prog_26_method_54_code
def yJ0_length_8abf5 : MethodName := ⟨RJ0, "length", "()I"⟩
abbrev cJ0_charAt_5068e : ByteArray := prog_26_method_56_code
def yJ0_charAt_5068e : MethodName := ⟨RJ0, "charAt", "(I)C"⟩
abbrev cJ0_getBytes_840e7 : ByteArray := prog_26_method_147_code
def yJ0_getBytes_840e7 : MethodName := ⟨RJ0, "getBytes", "([BIB)V"⟩
abbrev cJ0_init_db425 : ByteArray := prog_26_method_150_code
def yJ0_init_db425 : MethodName := ⟨RJ0, "<init>", "(Ljava/lang/AbstractStringBuilder;Ljava/lang/Void;)V"⟩
abbrev cJ0_coder_7d493 : ByteArray := prog_26_method_152_code
def yJ0_coder_7d493 : MethodName := ⟨RJ0, "coder", "()B"⟩
abbrev cJ0_isLatin1_aae02 : ByteArray := prog_26_method_154_code
def yJ0_isLatin1_aae02 : MethodName := ⟨RJ0, "isLatin1", "()Z"⟩
abbrev cJ0_checkIndex_df160 : ByteArray := prog_26_method_155_code
def yJ0_checkIndex_df160 : MethodName := ⟨RJ0, "checkIndex", "(II)V"⟩
abbrev cJ0_checkBoundsOffCount_cabcc : ByteArray := prog_26_method_157_code
def yJ0_checkBoundsOffCount_cabcc : MethodName := ⟨RJ0, "checkBoundsOffCount", "(III)I"⟩
abbrev cJ0_checkBoundsBeginEnd_23922 : ByteArray := prog_26_method_158_code
def yJ0_checkBoundsBeginEnd_23922 : MethodName := ⟨RJ0, "checkBoundsBeginEnd", "(III)V"⟩
def RJ4 : String := "java/lang/StringBuilder"
def TJ4 : u_T := fun k => match k with
  | 0 => ("java/lang/AbstractStringBuilder", "value", "[B", false)
  | 1 => ("java/lang/AbstractStringBuilder", "coder", "B", false)
  | 2 => ("java/lang/AbstractStringBuilder", "maybeLatin1", "Z", false)
  | _ => ("java/lang/AbstractStringBuilder", "count", "I", false)
def tyJ4 : Nat → FieldType := fun k => match k with
  | 0 => .array .byte
  | 1 => .byte
  | 2 => .boolean
  | _ => .int
abbrev wsJ40 : List Cond := u_ws RJ4 TJ4 4
theorem nmJ4 : ∀ a, a < 4 → ∀ b, b < 4 → a ≠ b → (TJ4 a).2.1 ≠ (TJ4 b).2.1 := by decide +kernel
theorem tyJ4_ok : ∀ k, k < 4 → parseFieldDescriptor (TJ4 k).2.2.1 = some (tyJ4 k) := by decide +kernel
abbrev cJ4_init_da8c8 : ByteArray := prog_27_method_1_code
def yJ4_init_da8c8 : MethodName := ⟨RJ4, "<init>", "()V"⟩
abbrev cJ4_append_15ec4 : ByteArray := prog_27_method_7_code
def yJ4_append_15ec4 : MethodName := ⟨RJ4, "append", "(Ljava/lang/String;)Ljava/lang/StringBuilder;"⟩
abbrev cJ4_append_cf468 : ByteArray := prog_27_method_14_code
def yJ4_append_cf468 : MethodName := ⟨RJ4, "append", "(C)Ljava/lang/StringBuilder;"⟩
abbrev cJ4_append_bf812 : ByteArray := prog_27_method_15_code
def yJ4_append_bf812 : MethodName := ⟨RJ4, "append", "(I)Ljava/lang/StringBuilder;"⟩
abbrev cJ4_toString_0e30d : ByteArray := prog_27_method_42_code
def yJ4_toString_0e30d : MethodName := ⟨RJ4, "toString", "()Ljava/lang/String;"⟩
abbrev cJ4_length_8abf5 : ByteArray := prog_27_method_93_code
def yJ4_length_8abf5 : MethodName := ⟨RJ4, "length", "()I"⟩
def RJ1 : String := "java/lang/StringLatin1"
def TJ1 : u_T := fun k => match k with
  | _ => ("", "", "", false)
def tyJ1 : Nat → FieldType := fun k => match k with
  | _ => .int
abbrev wsJ10 : List Cond := u_ws RJ1 TJ1 0
theorem nmJ1 : ∀ a, a < 0 → ∀ b, b < 0 → a ≠ b → (TJ1 a).2.1 ≠ (TJ1 b).2.1 := by decide +kernel
theorem tyJ1_ok : ∀ k, k < 0 → parseFieldDescriptor (TJ1 k).2.2.1 = some (tyJ1 k) := by decide +kernel
abbrev cJ1_charAt_3b067 : ByteArray := prog_28_method_2_code
def yJ1_charAt_3b067 : MethodName := ⟨RJ1, "charAt", "([BI)C"⟩
abbrev cJ1_canEncode_fc78d : ByteArray := prog_28_method_3_code
def yJ1_canEncode_fc78d : MethodName := ⟨RJ1, "canEncode", "(C)Z"⟩
abbrev cJ1_inflate_0e8fd : ByteArray := prog_28_method_50_code
def yJ1_inflate_0e8fd : MethodName := ⟨RJ1, "inflate", "([BI[BII)V"⟩
def RJ2 : String := "java/lang/StringUTF16"
def TJ2 : u_T := fun k => match k with
  | _ => ("", "", "", false)
def tyJ2 : Nat → FieldType := fun k => match k with
  | _ => .int
abbrev wsJ20 : List Cond := u_ws RJ2 TJ2 0
theorem nmJ2 : ∀ a, a < 0 → ∀ b, b < 0 → a ≠ b → (TJ2 a).2.1 ≠ (TJ2 b).2.1 := by decide +kernel
theorem tyJ2_ok : ∀ k, k < 0 → parseFieldDescriptor (TJ2 k).2.2.1 = some (tyJ2 k) := by decide +kernel
abbrev cJ2_newBytesFor_77867 : ByteArray := prog_29_method_2_code
def yJ2_newBytesFor_77867 : MethodName := ⟨RJ2, "newBytesFor", "(I)[B"⟩
abbrev cJ2_newBytesLength_0f7a4 : ByteArray := prog_29_method_3_code
def yJ2_newBytesLength_0f7a4 : MethodName := ⟨RJ2, "newBytesLength", "(I)I"⟩
abbrev cJ2_putChar_b72d1 : ByteArray := prog_29_method_4_code
def yJ2_putChar_b72d1 : MethodName := ⟨RJ2, "putChar", "([BII)V"⟩
abbrev cJ2_getChar_3b067 : ByteArray := prog_29_method_5_code
def yJ2_getChar_3b067 : MethodName := ⟨RJ2, "getChar", "([BI)C"⟩
abbrev cJ2_length_9d52b : ByteArray := prog_29_method_6_code
def yJ2_length_9d52b : MethodName := ⟨RJ2, "length", "([B)I"⟩
abbrev cJ2_coderFromArrayLen_85cad : ByteArray := prog_29_method_15_code
def yJ2_coderFromArrayLen_85cad : MethodName := ⟨RJ2, "coderFromArrayLen", "([BI)B"⟩
abbrev cJ2_compress_39247 : ByteArray := prog_29_method_17_code
def yJ2_compress_39247 : MethodName := ⟨RJ2, "compress", "([BII)[B"⟩
abbrev cJ2_compress_5af95 : ByteArray := prog_29_method_22_code
def yJ2_compress_5af95 : MethodName := ⟨RJ2, "compress", "([BI[BII)I"⟩
abbrev cJ2_putCharSB_b72d1 : ByteArray := prog_29_method_71_code
def yJ2_putCharSB_b72d1 : MethodName := ⟨RJ2, "putCharSB", "([BII)V"⟩
abbrev cJ2_getChars_46870 : ByteArray := prog_29_method_77_code
def yJ2_getChars_46870 : MethodName := ⟨RJ2, "getChars", "(III[B)I"⟩
abbrev cJ2_putCharsAt_cd4e5 : ByteArray := prog_29_method_81_code
def yJ2_putCharsAt_cd4e5 : MethodName := ⟨RJ2, "putCharsAt", "([BICCCC)I"⟩
abbrev cJ2_charAt_3b067 : ByteArray := prog_29_method_83_code
def yJ2_charAt_3b067 : MethodName := ⟨RJ2, "charAt", "([BI)C"⟩
abbrev cJ2_inflate_0e8fd : ByteArray := prog_29_method_86_code
def yJ2_inflate_0e8fd : MethodName := ⟨RJ2, "inflate", "([BI[BII)V"⟩
abbrev cJ2_getChars_ba4f3 : ByteArray := prog_29_method_89_code
def yJ2_getChars_ba4f3 : MethodName := ⟨RJ2, "getChars", "(II[B)I"⟩
abbrev cJ2_checkIndex_2214a : ByteArray := prog_29_method_91_code
def yJ2_checkIndex_2214a : MethodName := ⟨RJ2, "checkIndex", "(I[B)V"⟩
abbrev cJ2_checkBoundsBeginEnd_d044e : ByteArray := prog_29_method_93_code
def yJ2_checkBoundsBeginEnd_d044e : MethodName := ⟨RJ2, "checkBoundsBeginEnd", "(II[B)V"⟩
abbrev cJ2_checkBoundsOffCount_d044e : ByteArray := prog_29_method_94_code
def yJ2_checkBoundsOffCount_d044e : MethodName := ⟨RJ2, "checkBoundsOffCount", "(II[B)V"⟩
def RJ10 : String := "java/lang/System"
def TJ10 : u_T := fun k => match k with
  | _ => ("", "", "", false)
def tyJ10 : Nat → FieldType := fun k => match k with
  | _ => .int
abbrev wsJ100 : List Cond := u_ws RJ10 TJ10 0
theorem nmJ10 : ∀ a, a < 0 → ∀ b, b < 0 → a ≠ b → (TJ10 a).2.1 ≠ (TJ10 b).2.1 := by decide +kernel
theorem tyJ10_ok : ∀ k, k < 0 → parseFieldDescriptor (TJ10 k).2.2.1 = some (tyJ10 k) := by decide +kernel
def RJxfd54e : String := "java/lang/constant/Constable"
def TJxfd54e : u_T := fun k => match k with
  | _ => ("", "", "", false)
def tyJxfd54e : Nat → FieldType := fun k => match k with
  | _ => .int
abbrev wsJxfd54e0 : List Cond := u_ws RJxfd54e TJxfd54e 0
theorem nmJxfd54e : ∀ a, a < 0 → ∀ b, b < 0 → a ≠ b → (TJxfd54e a).2.1 ≠ (TJxfd54e b).2.1 := by decide +kernel
theorem tyJxfd54e_ok : ∀ k, k < 0 → parseFieldDescriptor (TJxfd54e k).2.2.1 = some (tyJxfd54e k) := by decide +kernel
def RJx3cf43 : String := "java/lang/constant/ConstantDesc"
def TJx3cf43 : u_T := fun k => match k with
  | _ => ("", "", "", false)
def tyJx3cf43 : Nat → FieldType := fun k => match k with
  | _ => .int
abbrev wsJx3cf430 : List Cond := u_ws RJx3cf43 TJx3cf43 0
theorem nmJx3cf43 : ∀ a, a < 0 → ∀ b, b < 0 → a ≠ b → (TJx3cf43 a).2.1 ≠ (TJx3cf43 b).2.1 := by decide +kernel
theorem tyJx3cf43_ok : ∀ k, k < 0 → parseFieldDescriptor (TJx3cf43 k).2.2.1 = some (tyJx3cf43 k) := by decide +kernel
def RJ7 : String := "java/util/Arrays"
def TJ7 : u_T := fun k => match k with
  | _ => ("", "", "", false)
def tyJ7 : Nat → FieldType := fun k => match k with
  | _ => .int
abbrev wsJ70 : List Cond := u_ws RJ7 TJ7 0
theorem nmJ7 : ∀ a, a < 0 → ∀ b, b < 0 → a ≠ b → (TJ7 a).2.1 ≠ (TJ7 b).2.1 := by decide +kernel
theorem tyJ7_ok : ∀ k, k < 0 → parseFieldDescriptor (TJ7 k).2.2.1 = some (tyJ7 k) := by decide +kernel
abbrev cJ7_copyOf_9075b : ByteArray := prog_34_method_121_code
def yJ7_copyOf_9075b : MethodName := ⟨RJ7, "copyOf", "([BI)[B"⟩
abbrev cJ7_checkLength_df160 : ByteArray := prog_34_method_131_code
def yJ7_checkLength_df160 : MethodName := ⟨RJ7, "checkLength", "(II)V"⟩
abbrev cJ7_copyOfRange_39247 : ByteArray := prog_34_method_132_code
def yJ7_copyOfRange_39247 : MethodName := ⟨RJ7, "copyOfRange", "([BII)[B"⟩
abbrev cJ7_copyOfRangeByte_39247 : ByteArray := prog_34_method_133_code
def yJ7_copyOfRangeByte_39247 : MethodName := ⟨RJ7, "copyOfRangeByte", "([BII)[B"⟩
def RJ8 : String := "jdk/internal/util/ArraysSupport"
def TJ8 : u_T := fun k => match k with
  | _ => ("", "", "", false)
def tyJ8 : Nat → FieldType := fun k => match k with
  | _ => .int
abbrev wsJ80 : List Cond := u_ws RJ8 TJ8 0
theorem nmJ8 : ∀ a, a < 0 → ∀ b, b < 0 → a ≠ b → (TJ8 a).2.1 ≠ (TJ8 b).2.1 := by decide +kernel
theorem tyJ8_ok : ∀ k, k < 0 → parseFieldDescriptor (TJ8 k).2.2.1 = some (tyJ8 k) := by decide +kernel
abbrev cJ8_newLength_cabcc : ByteArray := prog_36_method_27_code
def yJ8_newLength_cabcc : MethodName := ⟨RJ8, "newLength", "(III)I"⟩
abbrev cJ8_hugeLength_7cf53 : ByteArray := prog_36_method_28_code
def yJ8_hugeLength_7cf53 : MethodName := ⟨RJ8, "hugeLength", "(II)I"⟩
def RJ3 : String := "jdk/internal/util/Preconditions"
def TJ3 : u_T := fun k => match k with
  | _ => ("", "", "", false)
def tyJ3 : Nat → FieldType := fun k => match k with
  | _ => .int
abbrev wsJ30 : List Cond := u_ws RJ3 TJ3 0
theorem nmJ3 : ∀ a, a < 0 → ∀ b, b < 0 → a ≠ b → (TJ3 a).2.1 ≠ (TJ3 b).2.1 := by decide +kernel
theorem tyJ3_ok : ∀ k, k < 0 → parseFieldDescriptor (TJ3 k).2.2.1 = some (tyJ3 k) := by decide +kernel
abbrev cJ3_checkIndex_8e157 : ByteArray := prog_37_method_11_code
def yJ3_checkIndex_8e157 : MethodName := ⟨RJ3, "checkIndex", "(IILjava/util/function/BiFunction;)I"⟩
abbrev cJ3_checkFromToIndex_8c36e : ByteArray := prog_37_method_12_code
def yJ3_checkFromToIndex_8c36e : MethodName := ⟨RJ3, "checkFromToIndex", "(IIILjava/util/function/BiFunction;)I"⟩
abbrev cJ3_checkFromIndexSize_8c36e : ByteArray := prog_37_method_13_code
def yJ3_checkFromIndexSize_8c36e : MethodName := ⟨RJ3, "checkFromIndexSize", "(IIILjava/util/function/BiFunction;)I"⟩
def RL : String := "TrigramReadersLaw"
abbrev cL_cell : ByteArray := method_2_code
def yL_cell : MethodName := ⟨RL, "cell", "([II)I"⟩
abbrev cL_says : ByteArray := method_3_code
def yL_says : MethodName := ⟨RL, "says", "(LTrigramReaders;Ljava/lang/String;)V"⟩
abbrev cL_loaded : ByteArray := method_4_code
def yL_loaded : MethodName := ⟨RL, "loaded", "(LTrigramReaders;)I"⟩
abbrev cL_document : ByteArray := method_5_code
def yL_document : MethodName := ⟨RL, "document", "(II)[I"⟩
abbrev cL_word : ByteArray := method_6_code
def yL_word : MethodName := ⟨RL, "word", "([I)Ljava/lang/String;"⟩
abbrev cL_text : ByteArray := method_7_code
def yL_text : MethodName := ⟨RL, "text", "([I)Ljava/lang/String;"⟩
abbrev cL_acts : ByteArray := method_8_code
def yL_acts : MethodName := ⟨RL, "acts", "(LTrigramReaders;I)I"⟩
abbrev cL_law : ByteArray := code
def yL_law : MethodName := ⟨RL, "law", "([I)Z"⟩
abbrev cL_counts : ByteArray := method_10_code
def yL_counts : MethodName := ⟨RL, "counts", "(LTrigramReaders;II)[I"⟩
abbrev cL_times : ByteArray := method_11_code
def yL_times : MethodName := ⟨RL, "times", "(LTrigramReaders;III)I"⟩
abbrev cL_isTold : ByteArray := method_12_code
def yL_isTold : MethodName := ⟨RL, "isTold", "(LTrigramReaders;I)Z"⟩
abbrev cL_count : ByteArray := method_13_code
def yL_count : MethodName := ⟨RL, "count", "(LTrigramReaders;IIIII)I"⟩
abbrev cL_divisor : ByteArray := method_14_code
def yL_divisor : MethodName := ⟨RL, "divisor", "(JJ)J"⟩
abbrev cL_isRanked : ByteArray := method_15_code
def yL_isRanked : MethodName := ⟨RL, "isRanked", "(LTrigramReaders;I)Z"⟩
abbrev cL_isFraction : ByteArray := method_16_code
def yL_isFraction : MethodName := ⟨RL, "isFraction", "(LTrigramReaders;IIII)Z"⟩
abbrev vwCl : List vw_C := [(RX0, TX0, 2), (RX1, TX1, 4), (RX2, TX2, 3), (RX3, TX3, 3), (RX4, TX4, 7), (RX5, TX5, 4), (RX6, TX6, 6), (RX7, TX7, 5), (RX8, TX8, 15), (RJ4, TJ4, 4), (RJ0, TJ0, 4)]
/-! ===== END names ===== -/
def LW : List Cond := lw_tbl.filter goodWord
theorem LW_mem {w : Cond} (h : w ∈ lw_tbl) (g : goodWord w = true) : w ∈ LW := List.mem_filter.mpr ⟨h, g⟩
theorem LW_tbl {w : Cond} (h : w ∈ LW) : w ∈ lw_tbl := (List.mem_filter.mp h).1
theorem mt_t {w : Cond} (h : w ∈ tables_1) : w ∈ lw_tbl := List.mem_append_right _ h
theorem mt_1 {w : Cond} (h : w ∈ tables_1_1) : w ∈ lw_tbl := mt_t (show w ∈ tables_1_1 ++ (tables_1_2 ++ (tables_1_3 ++ (tables_1_4 ++ (tables_1_5 ++ (tables_1_6))))) from List.mem_append_left _ h)
theorem mt_2 {w : Cond} (h : w ∈ tables_1_2) : w ∈ lw_tbl := mt_t (show w ∈ tables_1_1 ++ (tables_1_2 ++ (tables_1_3 ++ (tables_1_4 ++ (tables_1_5 ++ (tables_1_6))))) from List.mem_append_right _ (List.mem_append_left _ h))
theorem mt_3 {w : Cond} (h : w ∈ tables_1_3) : w ∈ lw_tbl := mt_t (show w ∈ tables_1_1 ++ (tables_1_2 ++ (tables_1_3 ++ (tables_1_4 ++ (tables_1_5 ++ (tables_1_6))))) from List.mem_append_right _ (List.mem_append_right _ (List.mem_append_left _ h)))
theorem mt_4 {w : Cond} (h : w ∈ tables_1_4) : w ∈ lw_tbl := mt_t (show w ∈ tables_1_1 ++ (tables_1_2 ++ (tables_1_3 ++ (tables_1_4 ++ (tables_1_5 ++ (tables_1_6))))) from List.mem_append_right _ (List.mem_append_right _ (List.mem_append_right _ (List.mem_append_left _ h))))
theorem mt_5 {w : Cond} (h : w ∈ tables_1_5) : w ∈ lw_tbl := mt_t (show w ∈ tables_1_1 ++ (tables_1_2 ++ (tables_1_3 ++ (tables_1_4 ++ (tables_1_5 ++ (tables_1_6))))) from List.mem_append_right _ (List.mem_append_right _ (List.mem_append_right _ (List.mem_append_right _ (List.mem_append_left _ h)))))
theorem mt_6 {w : Cond} (h : w ∈ tables_1_6) : w ∈ lw_tbl := mt_t (show w ∈ tables_1_1 ++ (tables_1_2 ++ (tables_1_3 ++ (tables_1_4 ++ (tables_1_5 ++ (tables_1_6))))) from List.mem_append_right _ (List.mem_append_right _ (List.mem_append_right _ (List.mem_append_right _ (List.mem_append_right _ (h))))))
theorem t1_0 : (Jvm.Cond.initialized "TrigramReadersLaw") ∈ LW := LW_mem (mt_1 (List.mem_of_getElem? (i := 0) rfl)) rfl
theorem t1_1 : (Jvm.Cond.initialized "TrigramReaders") ∈ LW := LW_mem (mt_1 (List.mem_of_getElem? (i := 1) rfl)) rfl
theorem t1_2 : (Jvm.Cond.initialized "TrigramReaders$Bytes") ∈ LW := LW_mem (mt_1 (List.mem_of_getElem? (i := 2) rfl)) rfl
theorem t1_3 : (Jvm.Cond.initialized "java/lang/String") ∈ LW := LW_mem (mt_1 (List.mem_of_getElem? (i := 3) rfl)) rfl
theorem t1_4 : (Jvm.Cond.initialized "java/lang/StringLatin1") ∈ LW := LW_mem (mt_1 (List.mem_of_getElem? (i := 4) rfl)) rfl
theorem t1_5 : (Jvm.Cond.initialized "jdk/internal/util/Preconditions") ∈ LW := LW_mem (mt_1 (List.mem_of_getElem? (i := 5) rfl)) rfl
theorem t1_6 : (Jvm.Cond.initialized "java/lang/StringUTF16") ∈ LW := LW_mem (mt_1 (List.mem_of_getElem? (i := 6) rfl)) rfl
theorem t1_7 : (Jvm.Cond.initialized "TrigramReaders$State") ∈ LW := LW_mem (mt_1 (List.mem_of_getElem? (i := 7) rfl)) rfl
theorem t1_8 : (Jvm.Cond.initialized "TrigramReaders$Reader") ∈ LW := LW_mem (mt_1 (List.mem_of_getElem? (i := 8) rfl)) rfl
theorem t1_9 : (Jvm.Cond.initialized "TrigramReaders$Counts") ∈ LW := LW_mem (mt_1 (List.mem_of_getElem? (i := 9) rfl)) rfl
theorem t1_10 : (Jvm.Cond.initialized "TrigramReaders$Document") ∈ LW := LW_mem (mt_1 (List.mem_of_getElem? (i := 10) rfl)) rfl
theorem t1_11 : (Jvm.Cond.initialized "TrigramReaders$Parser") ∈ LW := LW_mem (mt_1 (List.mem_of_getElem? (i := 11) rfl)) rfl
theorem t1_12 : (Jvm.Cond.initialized "java/lang/Math") ∈ LW := LW_mem (mt_1 (List.mem_of_getElem? (i := 12) rfl)) rfl
theorem t1_13 : (Jvm.Cond.initialized "java/lang/System") ∈ LW := LW_mem (mt_1 (List.mem_of_getElem? (i := 13) rfl)) rfl
theorem t1_14 : (Jvm.Cond.initialized "TrigramReaders$Ranking") ∈ LW := LW_mem (mt_1 (List.mem_of_getElem? (i := 14) rfl)) rfl
theorem t1_15 : (Jvm.Cond.initialized "TrigramReaders$Chance") ∈ LW := LW_mem (mt_1 (List.mem_of_getElem? (i := 15) rfl)) rfl
theorem t1_16 : (Jvm.Cond.initialized "java/lang/AbstractStringBuilder") ∈ LW := LW_mem (mt_1 (List.mem_of_getElem? (i := 16) rfl)) rfl
theorem t1_17 : (Jvm.Cond.initialized "java/lang/StringBuilder") ∈ LW := LW_mem (mt_1 (List.mem_of_getElem? (i := 17) rfl)) rfl
theorem t1_18 : (Jvm.Cond.initialized "jdk/internal/util/ArraysSupport") ∈ LW := LW_mem (mt_1 (List.mem_of_getElem? (i := 18) rfl)) rfl
theorem t1_19 : (Jvm.Cond.initialized "java/util/Arrays") ∈ LW := LW_mem (mt_1 (List.mem_of_getElem? (i := 19) rfl)) rfl
theorem t1_20 : (Jvm.Cond.initialized "java/lang/Throwable") ∈ LW := LW_mem (mt_1 (List.mem_of_getElem? (i := 20) rfl)) rfl
theorem t1_21 : (Jvm.Cond.initialized "java/lang/Exception") ∈ LW := LW_mem (mt_1 (List.mem_of_getElem? (i := 21) rfl)) rfl
theorem t1_22 : (Jvm.Cond.initialized "java/lang/RuntimeException") ∈ LW := LW_mem (mt_1 (List.mem_of_getElem? (i := 22) rfl)) rfl
theorem t1_23 : (Jvm.Cond.initialized "java/lang/IllegalArgumentException") ∈ LW := LW_mem (mt_1 (List.mem_of_getElem? (i := 23) rfl)) rfl
theorem t1_24 : (Jvm.Cond.initialized "java/lang/Number") ∈ LW := LW_mem (mt_1 (List.mem_of_getElem? (i := 24) rfl)) rfl
theorem t1_25 : (Jvm.Cond.initialized "java/lang/Integer") ∈ LW := LW_mem (mt_1 (List.mem_of_getElem? (i := 25) rfl)) rfl
theorem t1_26 : (Jvm.Cond.initialized "java/lang/IllegalStateException") ∈ LW := LW_mem (mt_1 (List.mem_of_getElem? (i := 26) rfl)) rfl
theorem t1_27 : (Jvm.Cond.initialized "java/lang/IndexOutOfBoundsException") ∈ LW := LW_mem (mt_1 (List.mem_of_getElem? (i := 27) rfl)) rfl
theorem t1_28 : (Jvm.Cond.initialized "java/util/NoSuchElementException") ∈ LW := LW_mem (mt_1 (List.mem_of_getElem? (i := 28) rfl)) rfl
theorem t1_29 : (Jvm.Cond.classLink "TrigramReadersLaw" (19 : Nat) "TrigramReaders") ∈ LW := LW_mem (mt_1 (List.mem_of_getElem? (i := 29) rfl)) rfl
theorem t1_30 : (Jvm.Cond.instantiable "TrigramReaders" (15 : Nat)) ∈ LW := LW_mem (mt_1 (List.mem_of_getElem? (i := 30) rfl)) rfl
theorem t1_31 : (Jvm.Cond.methodLink "TrigramReadersLaw" (103 : Nat) ({ cls := "TrigramReaders", name := "<init>", desc := "()V" } : Jvm.MethodName)) ∈ LW := LW_mem (mt_1 (List.mem_of_getElem? (i := 31) rfl)) rfl
theorem t1_32 : (Jvm.Cond.instanceMethod ({ cls := "TrigramReaders", name := "<init>", desc := "()V" } : Jvm.MethodName)) ∈ LW := LW_mem (mt_1 (List.mem_of_getElem? (i := 32) rfl)) rfl
theorem t1_33 : (Jvm.Cond.code ({ cls := "TrigramReaders", name := "<init>", desc := "()V" } : Jvm.MethodName) prog_1_method_1_code (2 : Nat) (Option.none : Option Jvm.ClassFile.FieldType)) ∈ LW := LW_mem (mt_1 (List.mem_of_getElem? (i := 33) rfl)) rfl
theorem t1_34 : (Jvm.Cond.methodLink "TrigramReaders" (3 : Nat) ({ cls := "java/lang/Object", name := "<init>", desc := "()V" } : Jvm.MethodName)) ∈ LW := LW_mem (mt_1 (List.mem_of_getElem? (i := 34) rfl)) rfl
theorem t1_35 : (Jvm.Cond.instanceMethod ({ cls := "java/lang/Object", name := "<init>", desc := "()V" } : Jvm.MethodName)) ∈ LW := LW_mem (mt_1 (List.mem_of_getElem? (i := 35) rfl)) rfl
theorem t1_36 : (Jvm.Cond.code ({ cls := "java/lang/Object", name := "<init>", desc := "()V" } : Jvm.MethodName) object_method_1_code (1 : Nat) (Option.none : Option Jvm.ClassFile.FieldType)) ∈ LW := LW_mem (mt_1 (List.mem_of_getElem? (i := 36) rfl)) rfl
theorem t1_37 : (Jvm.Cond.methodLink "TrigramReaders" (9 : Nat) ({ cls := "TrigramReaders", name := "firstState", desc := "()LTrigramReaders$State;" } : Jvm.MethodName)) ∈ LW := LW_mem (mt_1 (List.mem_of_getElem? (i := 37) rfl)) rfl
theorem t1_38 : (Jvm.Cond.static ({ cls := "TrigramReaders", name := "firstState", desc := "()LTrigramReaders$State;" } : Jvm.MethodName)) ∈ LW := LW_mem (mt_1 (List.mem_of_getElem? (i := 38) rfl)) rfl
theorem t1_39 : (Jvm.Cond.code ({ cls := "TrigramReaders", name := "firstState", desc := "()LTrigramReaders$State;" } : Jvm.MethodName) prog_1_method_2_code (3 : Nat) (Option.some (Jvm.ClassFile.FieldType.object "TrigramReaders$State"))) ∈ LW := LW_mem (mt_1 (List.mem_of_getElem? (i := 39) rfl)) rfl
theorem t1_40 : (Jvm.Cond.classLink "TrigramReaders" (41 : Nat) "TrigramReaders$Bytes") ∈ LW := LW_mem (mt_1 (List.mem_of_getElem? (i := 40) rfl)) rfl
theorem t1_41 : (Jvm.Cond.instantiable "TrigramReaders$Bytes" (2 : Nat)) ∈ LW := LW_mem (mt_1 (List.mem_of_getElem? (i := 41) rfl)) rfl
theorem t1_43 : (Jvm.Cond.instanceMethod ({ cls := "TrigramReaders$Bytes", name := "<init>", desc := "()V" } : Jvm.MethodName)) ∈ LW := LW_mem (mt_1 (List.mem_of_getElem? (i := 43) rfl)) rfl
theorem t1_44 : (Jvm.Cond.code ({ cls := "TrigramReaders$Bytes", name := "<init>", desc := "()V" } : Jvm.MethodName) prog_2_method_1_code (1 : Nat) (Option.none : Option Jvm.ClassFile.FieldType)) ∈ LW := LW_mem (mt_1 (List.mem_of_getElem? (i := 44) rfl)) rfl
theorem t1_45 : (Jvm.Cond.methodLink "TrigramReaders$Bytes" (3 : Nat) ({ cls := "java/lang/Object", name := "<init>", desc := "()V" } : Jvm.MethodName)) ∈ LW := LW_mem (mt_1 (List.mem_of_getElem? (i := 45) rfl)) rfl
theorem t1_46 : (Jvm.Cond.fieldLink "TrigramReaders$Bytes" (9 : Nat) "TrigramReaders$Bytes" "row" "[I") ∈ LW := LW_mem (mt_1 (List.mem_of_getElem? (i := 46) rfl)) rfl
theorem t1_47 : (Jvm.Cond.fieldLink "TrigramReaders$Bytes" (15 : Nat) "TrigramReaders$Bytes" "length" "I") ∈ LW := LW_mem (mt_1 (List.mem_of_getElem? (i := 47) rfl)) rfl
theorem t1_48 : (Jvm.Cond.fieldLink "TrigramReaders" (107 : Nat) "TrigramReaders$Bytes" "length" "I") ∈ LW := LW_mem (mt_1 (List.mem_of_getElem? (i := 48) rfl)) rfl
theorem t1_49 : (Jvm.Cond.fieldLink "TrigramReaders$Parser" (138 : Nat) "TrigramReaders$Bytes" "length" "I") ∈ LW := LW_mem (mt_1 (List.mem_of_getElem? (i := 49) rfl)) rfl
theorem t1_50 : (Jvm.Cond.laysFinal "TrigramReaders$Bytes" "TrigramReaders$Bytes" "row" "[I") ∈ LW := LW_mem (mt_1 (List.mem_of_getElem? (i := 50) rfl)) rfl
theorem t1_52 : (Jvm.Cond.lays "TrigramReaders$Bytes" "TrigramReaders$Bytes" "length" "I") ∈ LW := LW_mem (mt_1 (List.mem_of_getElem? (i := 52) rfl)) rfl
theorem t1_55 : (Jvm.Cond.arrayClass Jvm.ClassFile.FieldType.int) ∈ LW := LW_mem (mt_1 (List.mem_of_getElem? (i := 55) rfl)) rfl
theorem t1_57 : (Jvm.Cond.methodLink "TrigramReaders" (84 : Nat) ({ cls := "java/lang/String", name := "length", desc := "()I" } : Jvm.MethodName)) ∈ LW := LW_mem (mt_1 (List.mem_of_getElem? (i := 57) rfl)) rfl
theorem t1_58 : (Jvm.Cond.instanceMethod ({ cls := "java/lang/String", name := "length", desc := "()I" } : Jvm.MethodName)) ∈ LW := LW_mem (mt_1 (List.mem_of_getElem? (i := 58) rfl)) rfl
theorem t1_59 : (Jvm.Cond.selects "java/lang/String" ({ cls := "java/lang/String", name := "length", desc := "()I" } : Jvm.MethodName) ({ cls := "java/lang/String", name := "length", desc := "()I" } : Jvm.MethodName)) ∈ LW := LW_mem (mt_1 (List.mem_of_getElem? (i := 59) rfl)) rfl
theorem t1_60 : (Jvm.Cond.code ({ cls := "java/lang/String", name := "length", desc := "()I" } : Jvm.MethodName) prog_26_method_54_code (1 : Nat) (Option.some Jvm.ClassFile.FieldType.int)) ∈ LW := LW_mem (mt_1 (List.mem_of_getElem? (i := 60) rfl)) rfl
theorem t1_61 : (Jvm.Cond.methodLink "java/lang/String" (335 : Nat) ({ cls := "java/lang/String", name := "coder", desc := "()B" } : Jvm.MethodName)) ∈ LW := LW_mem (mt_1 (List.mem_of_getElem? (i := 61) rfl)) rfl
theorem t1_62 : (Jvm.Cond.instanceMethod ({ cls := "java/lang/String", name := "coder", desc := "()B" } : Jvm.MethodName)) ∈ LW := LW_mem (mt_1 (List.mem_of_getElem? (i := 62) rfl)) rfl
theorem t1_63 : (Jvm.Cond.selects "java/lang/String" ({ cls := "java/lang/String", name := "coder", desc := "()B" } : Jvm.MethodName) ({ cls := "java/lang/String", name := "coder", desc := "()B" } : Jvm.MethodName)) ∈ LW := LW_mem (mt_1 (List.mem_of_getElem? (i := 63) rfl)) rfl
theorem t1_64 : (Jvm.Cond.code ({ cls := "java/lang/String", name := "coder", desc := "()B" } : Jvm.MethodName) prog_26_method_152_code (1 : Nat) (Option.some Jvm.ClassFile.FieldType.byte)) ∈ LW := LW_mem (mt_1 (List.mem_of_getElem? (i := 64) rfl)) rfl
theorem t1_65 : (Jvm.Cond.fieldLink "java/lang/String" (38 : Nat) "java/lang/String" "COMPACT_STRINGS" "Z") ∈ LW := LW_mem (mt_1 (List.mem_of_getElem? (i := 65) rfl)) rfl
theorem t1_67 : (Jvm.Cond.methodLink "TrigramReaders" (90 : Nat) ({ cls := "java/lang/String", name := "charAt", desc := "(I)C" } : Jvm.MethodName)) ∈ LW := LW_mem (mt_1 (List.mem_of_getElem? (i := 67) rfl)) rfl
theorem t1_68 : (Jvm.Cond.instanceMethod ({ cls := "java/lang/String", name := "charAt", desc := "(I)C" } : Jvm.MethodName)) ∈ LW := LW_mem (mt_1 (List.mem_of_getElem? (i := 68) rfl)) rfl
theorem t1_69 : (Jvm.Cond.selects "java/lang/String" ({ cls := "java/lang/String", name := "charAt", desc := "(I)C" } : Jvm.MethodName) ({ cls := "java/lang/String", name := "charAt", desc := "(I)C" } : Jvm.MethodName)) ∈ LW := LW_mem (mt_1 (List.mem_of_getElem? (i := 69) rfl)) rfl
theorem t1_70 : (Jvm.Cond.code ({ cls := "java/lang/String", name := "charAt", desc := "(I)C" } : Jvm.MethodName) prog_26_method_56_code (2 : Nat) (Option.some Jvm.ClassFile.FieldType.char)) ∈ LW := LW_mem (mt_1 (List.mem_of_getElem? (i := 70) rfl)) rfl
theorem t1_71 : (Jvm.Cond.methodLink "java/lang/String" (492 : Nat) ({ cls := "java/lang/String", name := "isLatin1", desc := "()Z" } : Jvm.MethodName)) ∈ LW := LW_mem (mt_1 (List.mem_of_getElem? (i := 71) rfl)) rfl
theorem t1_72 : (Jvm.Cond.instanceMethod ({ cls := "java/lang/String", name := "isLatin1", desc := "()Z" } : Jvm.MethodName)) ∈ LW := LW_mem (mt_1 (List.mem_of_getElem? (i := 72) rfl)) rfl
theorem t1_73 : (Jvm.Cond.selects "java/lang/String" ({ cls := "java/lang/String", name := "isLatin1", desc := "()Z" } : Jvm.MethodName) ({ cls := "java/lang/String", name := "isLatin1", desc := "()Z" } : Jvm.MethodName)) ∈ LW := LW_mem (mt_1 (List.mem_of_getElem? (i := 73) rfl)) rfl
theorem t1_74 : (Jvm.Cond.code ({ cls := "java/lang/String", name := "isLatin1", desc := "()Z" } : Jvm.MethodName) prog_26_method_154_code (1 : Nat) (Option.some Jvm.ClassFile.FieldType.boolean)) ∈ LW := LW_mem (mt_1 (List.mem_of_getElem? (i := 74) rfl)) rfl
theorem t1_75 : (Jvm.Cond.methodLink "java/lang/String" (495 : Nat) ({ cls := "java/lang/StringLatin1", name := "charAt", desc := "([BI)C" } : Jvm.MethodName)) ∈ LW := LW_mem (mt_1 (List.mem_of_getElem? (i := 75) rfl)) rfl
theorem t1_76 : (Jvm.Cond.static ({ cls := "java/lang/StringLatin1", name := "charAt", desc := "([BI)C" } : Jvm.MethodName)) ∈ LW := LW_mem (mt_1 (List.mem_of_getElem? (i := 76) rfl)) rfl
theorem t1_77 : (Jvm.Cond.code ({ cls := "java/lang/StringLatin1", name := "charAt", desc := "([BI)C" } : Jvm.MethodName) prog_28_method_2_code (2 : Nat) (Option.some Jvm.ClassFile.FieldType.char)) ∈ LW := LW_mem (mt_1 (List.mem_of_getElem? (i := 77) rfl)) rfl
theorem t1_78 : (Jvm.Cond.methodLink "java/lang/StringLatin1" (9 : Nat) ({ cls := "java/lang/String", name := "checkIndex", desc := "(II)V" } : Jvm.MethodName)) ∈ LW := LW_mem (mt_1 (List.mem_of_getElem? (i := 78) rfl)) rfl
theorem t1_79 : (Jvm.Cond.static ({ cls := "java/lang/String", name := "checkIndex", desc := "(II)V" } : Jvm.MethodName)) ∈ LW := LW_mem (mt_1 (List.mem_of_getElem? (i := 79) rfl)) rfl
theorem t1_80 : (Jvm.Cond.code ({ cls := "java/lang/String", name := "checkIndex", desc := "(II)V" } : Jvm.MethodName) prog_26_method_155_code (2 : Nat) (Option.none : Option Jvm.ClassFile.FieldType)) ∈ LW := LW_mem (mt_1 (List.mem_of_getElem? (i := 80) rfl)) rfl
theorem t1_81 : (Jvm.Cond.fieldLink "java/lang/String" (1053 : Nat) "jdk/internal/util/Preconditions" "SIOOBE_FORMATTER" "Ljava/util/function/BiFunction;") ∈ LW := LW_mem (mt_1 (List.mem_of_getElem? (i := 81) rfl)) rfl
theorem t1_83 : (Jvm.Cond.methodLink "java/lang/String" (1059 : Nat) ({ cls := "jdk/internal/util/Preconditions", name := "checkIndex", desc := "(IILjava/util/function/BiFunction;)I" } : Jvm.MethodName)) ∈ LW := LW_mem (mt_1 (List.mem_of_getElem? (i := 83) rfl)) rfl
theorem t1_84 : (Jvm.Cond.static ({ cls := "jdk/internal/util/Preconditions", name := "checkIndex", desc := "(IILjava/util/function/BiFunction;)I" } : Jvm.MethodName)) ∈ LW := LW_mem (mt_1 (List.mem_of_getElem? (i := 84) rfl)) rfl
theorem t1_85 : (Jvm.Cond.code ({ cls := "jdk/internal/util/Preconditions", name := "checkIndex", desc := "(IILjava/util/function/BiFunction;)I" } : Jvm.MethodName) prog_37_method_11_code (3 : Nat) (Option.some Jvm.ClassFile.FieldType.int)) ∈ LW := LW_mem (mt_1 (List.mem_of_getElem? (i := 85) rfl)) rfl
theorem t1_86 : (Jvm.Cond.methodLink "java/lang/String" (498 : Nat) ({ cls := "java/lang/StringUTF16", name := "charAt", desc := "([BI)C" } : Jvm.MethodName)) ∈ LW := LW_mem (mt_1 (List.mem_of_getElem? (i := 86) rfl)) rfl
theorem t1_87 : (Jvm.Cond.static ({ cls := "java/lang/StringUTF16", name := "charAt", desc := "([BI)C" } : Jvm.MethodName)) ∈ LW := LW_mem (mt_1 (List.mem_of_getElem? (i := 87) rfl)) rfl
theorem t1_88 : (Jvm.Cond.code ({ cls := "java/lang/StringUTF16", name := "charAt", desc := "([BI)C" } : Jvm.MethodName) prog_29_method_83_code (2 : Nat) (Option.some Jvm.ClassFile.FieldType.char)) ∈ LW := LW_mem (mt_1 (List.mem_of_getElem? (i := 88) rfl)) rfl
theorem t1_89 : (Jvm.Cond.methodLink "java/lang/StringUTF16" (67 : Nat) ({ cls := "java/lang/StringUTF16", name := "checkIndex", desc := "(I[B)V" } : Jvm.MethodName)) ∈ LW := LW_mem (mt_1 (List.mem_of_getElem? (i := 89) rfl)) rfl
theorem t1_90 : (Jvm.Cond.static ({ cls := "java/lang/StringUTF16", name := "checkIndex", desc := "(I[B)V" } : Jvm.MethodName)) ∈ LW := LW_mem (mt_1 (List.mem_of_getElem? (i := 90) rfl)) rfl
theorem t1_91 : (Jvm.Cond.code ({ cls := "java/lang/StringUTF16", name := "checkIndex", desc := "(I[B)V" } : Jvm.MethodName) prog_29_method_91_code (2 : Nat) (Option.none : Option Jvm.ClassFile.FieldType)) ∈ LW := LW_mem (mt_1 (List.mem_of_getElem? (i := 91) rfl)) rfl
theorem t1_92 : (Jvm.Cond.methodLink "java/lang/StringUTF16" (48 : Nat) ({ cls := "java/lang/StringUTF16", name := "length", desc := "([B)I" } : Jvm.MethodName)) ∈ LW := LW_mem (mt_1 (List.mem_of_getElem? (i := 92) rfl)) rfl
theorem t1_93 : (Jvm.Cond.static ({ cls := "java/lang/StringUTF16", name := "length", desc := "([B)I" } : Jvm.MethodName)) ∈ LW := LW_mem (mt_1 (List.mem_of_getElem? (i := 93) rfl)) rfl
theorem t1_94 : (Jvm.Cond.code ({ cls := "java/lang/StringUTF16", name := "length", desc := "([B)I" } : Jvm.MethodName) prog_29_method_6_code (1 : Nat) (Option.some Jvm.ClassFile.FieldType.int)) ∈ LW := LW_mem (mt_1 (List.mem_of_getElem? (i := 94) rfl)) rfl
theorem t1_95 : (Jvm.Cond.methodLink "java/lang/StringUTF16" (414 : Nat) ({ cls := "java/lang/String", name := "checkIndex", desc := "(II)V" } : Jvm.MethodName)) ∈ LW := LW_mem (mt_1 (List.mem_of_getElem? (i := 95) rfl)) rfl
theorem t1_96 : (Jvm.Cond.methodLink "java/lang/StringUTF16" (71 : Nat) ({ cls := "java/lang/StringUTF16", name := "getChar", desc := "([BI)C" } : Jvm.MethodName)) ∈ LW := LW_mem (mt_1 (List.mem_of_getElem? (i := 96) rfl)) rfl
theorem t1_97 : (Jvm.Cond.static ({ cls := "java/lang/StringUTF16", name := "getChar", desc := "([BI)C" } : Jvm.MethodName)) ∈ LW := LW_mem (mt_1 (List.mem_of_getElem? (i := 97) rfl)) rfl
theorem t1_98 : (Jvm.Cond.code ({ cls := "java/lang/StringUTF16", name := "getChar", desc := "([BI)C" } : Jvm.MethodName) prog_29_method_5_code (2 : Nat) (Option.some Jvm.ClassFile.FieldType.char)) ∈ LW := LW_mem (mt_1 (List.mem_of_getElem? (i := 98) rfl)) rfl
theorem t1_99 : (Jvm.Cond.fieldLink "java/lang/StringUTF16" (44 : Nat) "java/lang/StringUTF16" "$assertionsDisabled" "Z") ∈ LW := LW_mem (mt_1 (List.mem_of_getElem? (i := 99) rfl)) rfl
theorem t1_101 : (Jvm.Cond.fieldLink "java/lang/StringUTF16" (59 : Nat) "java/lang/StringUTF16" "HI_BYTE_SHIFT" "I") ∈ LW := LW_mem (mt_1 (List.mem_of_getElem? (i := 101) rfl)) rfl
theorem t1_103 : (Jvm.Cond.fieldLink "java/lang/StringUTF16" (63 : Nat) "java/lang/StringUTF16" "LO_BYTE_SHIFT" "I") ∈ LW := LW_mem (mt_1 (List.mem_of_getElem? (i := 103) rfl)) rfl
theorem t1_105 : (Jvm.Cond.methodLink "TrigramReaders" (94 : Nat) ({ cls := "TrigramReaders$Bytes", name := "append", desc := "(I)V" } : Jvm.MethodName)) ∈ LW := LW_mem (mt_1 (List.mem_of_getElem? (i := 105) rfl)) rfl
theorem t1_106 : (Jvm.Cond.instanceMethod ({ cls := "TrigramReaders$Bytes", name := "append", desc := "(I)V" } : Jvm.MethodName)) ∈ LW := LW_mem (mt_1 (List.mem_of_getElem? (i := 106) rfl)) rfl
theorem t1_107 : (Jvm.Cond.selects "TrigramReaders$Bytes" ({ cls := "TrigramReaders$Bytes", name := "append", desc := "(I)V" } : Jvm.MethodName) ({ cls := "TrigramReaders$Bytes", name := "append", desc := "(I)V" } : Jvm.MethodName)) ∈ LW := LW_mem (mt_1 (List.mem_of_getElem? (i := 107) rfl)) rfl
theorem t1_108 : (Jvm.Cond.code ({ cls := "TrigramReaders$Bytes", name := "append", desc := "(I)V" } : Jvm.MethodName) prog_2_method_3_code (2 : Nat) (Option.none : Option Jvm.ClassFile.FieldType)) ∈ LW := LW_mem (mt_1 (List.mem_of_getElem? (i := 108) rfl)) rfl
theorem t1_109 : (Jvm.Cond.classLink "TrigramReaders" (17 : Nat) "TrigramReaders$State") ∈ LW := LW_mem (mt_1 (List.mem_of_getElem? (i := 109) rfl)) rfl
theorem t1_110 : (Jvm.Cond.instantiable "TrigramReaders$State" (5 : Nat)) ∈ LW := LW_mem (mt_1 (List.mem_of_getElem? (i := 110) rfl)) rfl
theorem t1_111 : (Jvm.Cond.methodLink "TrigramReaders" (19 : Nat) ({ cls := "TrigramReaders$State", name := "<init>", desc := "()V" } : Jvm.MethodName)) ∈ LW := LW_mem (mt_1 (List.mem_of_getElem? (i := 111) rfl)) rfl
theorem t1_112 : (Jvm.Cond.instanceMethod ({ cls := "TrigramReaders$State", name := "<init>", desc := "()V" } : Jvm.MethodName)) ∈ LW := LW_mem (mt_1 (List.mem_of_getElem? (i := 112) rfl)) rfl
theorem t1_113 : (Jvm.Cond.code ({ cls := "TrigramReaders$State", name := "<init>", desc := "()V" } : Jvm.MethodName) prog_9_method_1_code (2 : Nat) (Option.none : Option Jvm.ClassFile.FieldType)) ∈ LW := LW_mem (mt_1 (List.mem_of_getElem? (i := 113) rfl)) rfl
theorem t1_114 : (Jvm.Cond.methodLink "TrigramReaders$State" (3 : Nat) ({ cls := "java/lang/Object", name := "<init>", desc := "()V" } : Jvm.MethodName)) ∈ LW := LW_mem (mt_1 (List.mem_of_getElem? (i := 114) rfl)) rfl
theorem t1_115 : (Jvm.Cond.classLink "TrigramReaders$State" (9 : Nat) "TrigramReaders$Reader") ∈ LW := LW_mem (mt_1 (List.mem_of_getElem? (i := 115) rfl)) rfl
theorem t1_117 : (Jvm.Cond.classLink "TrigramReaders$State" (21 : Nat) "TrigramReaders$Document") ∈ LW := LW_mem (mt_1 (List.mem_of_getElem? (i := 117) rfl)) rfl
theorem t1_119 : (Jvm.Cond.instantiable "TrigramReaders$Reader" (6 : Nat)) ∈ LW := LW_mem (mt_1 (List.mem_of_getElem? (i := 119) rfl)) rfl
theorem t1_121 : (Jvm.Cond.instanceMethod ({ cls := "TrigramReaders$Reader", name := "<init>", desc := "()V" } : Jvm.MethodName)) ∈ LW := LW_mem (mt_1 (List.mem_of_getElem? (i := 121) rfl)) rfl
theorem t1_122 : (Jvm.Cond.code ({ cls := "TrigramReaders$Reader", name := "<init>", desc := "()V" } : Jvm.MethodName) prog_8_method_1_code (1 : Nat) (Option.none : Option Jvm.ClassFile.FieldType)) ∈ LW := LW_mem (mt_1 (List.mem_of_getElem? (i := 122) rfl)) rfl
theorem t1_123 : (Jvm.Cond.methodLink "TrigramReaders$Reader" (3 : Nat) ({ cls := "java/lang/Object", name := "<init>", desc := "()V" } : Jvm.MethodName)) ∈ LW := LW_mem (mt_1 (List.mem_of_getElem? (i := 123) rfl)) rfl
theorem t1_124 : (Jvm.Cond.classLink "TrigramReaders$Reader" (22 : Nat) "TrigramReaders$Counts") ∈ LW := LW_mem (mt_1 (List.mem_of_getElem? (i := 124) rfl)) rfl
theorem t1_125 : (Jvm.Cond.instantiable "TrigramReaders$Counts" (3 : Nat)) ∈ LW := LW_mem (mt_1 (List.mem_of_getElem? (i := 125) rfl)) rfl
theorem t1_127 : (Jvm.Cond.instanceMethod ({ cls := "TrigramReaders$Counts", name := "<init>", desc := "()V" } : Jvm.MethodName)) ∈ LW := LW_mem (mt_1 (List.mem_of_getElem? (i := 127) rfl)) rfl
theorem t1_128 : (Jvm.Cond.code ({ cls := "TrigramReaders$Counts", name := "<init>", desc := "()V" } : Jvm.MethodName) prog_4_method_1_code (1 : Nat) (Option.none : Option Jvm.ClassFile.FieldType)) ∈ LW := LW_mem (mt_1 (List.mem_of_getElem? (i := 128) rfl)) rfl
theorem t1_129 : (Jvm.Cond.methodLink "TrigramReaders$Counts" (3 : Nat) ({ cls := "java/lang/Object", name := "<init>", desc := "()V" } : Jvm.MethodName)) ∈ LW := LW_mem (mt_1 (List.mem_of_getElem? (i := 129) rfl)) rfl
theorem t1_130 : (Jvm.Cond.fieldLink "TrigramReaders$Counts" (9 : Nat) "TrigramReaders$Counts" "keys" "[I") ∈ LW := LW_mem (mt_1 (List.mem_of_getElem? (i := 130) rfl)) rfl
theorem t1_131 : (Jvm.Cond.fieldLink "TrigramReaders$Ranking" (48 : Nat) "TrigramReaders$Counts" "keys" "[I") ∈ LW := LW_mem (mt_1 (List.mem_of_getElem? (i := 131) rfl)) rfl
theorem t1_132 : (Jvm.Cond.fieldLink "TrigramReaders$Chance" (63 : Nat) "TrigramReaders$Counts" "keys" "[I") ∈ LW := LW_mem (mt_1 (List.mem_of_getElem? (i := 132) rfl)) rfl
theorem t1_133 : (Jvm.Cond.fieldLink "TrigramReaders$Counts" (15 : Nat) "TrigramReaders$Counts" "values" "[I") ∈ LW := LW_mem (mt_1 (List.mem_of_getElem? (i := 133) rfl)) rfl
theorem t1_134 : (Jvm.Cond.fieldLink "TrigramReaders$Ranking" (51 : Nat) "TrigramReaders$Counts" "values" "[I") ∈ LW := LW_mem (mt_1 (List.mem_of_getElem? (i := 134) rfl)) rfl
theorem t1_135 : (Jvm.Cond.fieldLink "TrigramReaders$Chance" (67 : Nat) "TrigramReaders$Counts" "values" "[I") ∈ LW := LW_mem (mt_1 (List.mem_of_getElem? (i := 135) rfl)) rfl
theorem t1_136 : (Jvm.Cond.fieldLink "TrigramReaders$Counts" (18 : Nat) "TrigramReaders$Counts" "size" "I") ∈ LW := LW_mem (mt_1 (List.mem_of_getElem? (i := 136) rfl)) rfl
theorem t1_137 : (Jvm.Cond.fieldLink "TrigramReaders$Ranking" (47 : Nat) "TrigramReaders$Counts" "size" "I") ∈ LW := LW_mem (mt_1 (List.mem_of_getElem? (i := 137) rfl)) rfl
theorem t1_138 : (Jvm.Cond.fieldLink "TrigramReaders$Chance" (60 : Nat) "TrigramReaders$Counts" "size" "I") ∈ LW := LW_mem (mt_1 (List.mem_of_getElem? (i := 138) rfl)) rfl
theorem t1_139 : (Jvm.Cond.fieldLink "TrigramReaders$Reader" (54 : Nat) "TrigramReaders$Counts" "size" "I") ∈ LW := LW_mem (mt_1 (List.mem_of_getElem? (i := 139) rfl)) rfl
theorem t1_140 : (Jvm.Cond.fieldLink "TrigramReaders" (215 : Nat) "TrigramReaders$Counts" "size" "I") ∈ LW := LW_mem (mt_1 (List.mem_of_getElem? (i := 140) rfl)) rfl
theorem t1_141 : (Jvm.Cond.laysFinal "TrigramReaders$Counts" "TrigramReaders$Counts" "keys" "[I") ∈ LW := LW_mem (mt_1 (List.mem_of_getElem? (i := 141) rfl)) rfl
theorem t1_143 : (Jvm.Cond.laysFinal "TrigramReaders$Counts" "TrigramReaders$Counts" "values" "[I") ∈ LW := LW_mem (mt_1 (List.mem_of_getElem? (i := 143) rfl)) rfl
theorem t1_145 : (Jvm.Cond.lays "TrigramReaders$Counts" "TrigramReaders$Counts" "size" "I") ∈ LW := LW_mem (mt_1 (List.mem_of_getElem? (i := 145) rfl)) rfl
theorem t1_148 : (Jvm.Cond.arrayClass Jvm.ClassFile.FieldType.byte) ∈ LW := LW_mem (mt_1 (List.mem_of_getElem? (i := 148) rfl)) rfl
theorem t1_149 : (Jvm.Cond.fieldLink "TrigramReaders$Reader" (9 : Nat) "TrigramReaders$Reader" "name" "[I") ∈ LW := LW_mem (mt_1 (List.mem_of_getElem? (i := 149) rfl)) rfl
theorem t1_150 : (Jvm.Cond.fieldLink "TrigramReaders$Reader" (15 : Nat) "TrigramReaders$Reader" "nameLength" "I") ∈ LW := LW_mem (mt_1 (List.mem_of_getElem? (i := 150) rfl)) rfl
theorem t1_151 : (Jvm.Cond.fieldLink "TrigramReaders$Reader" (19 : Nat) "TrigramReaders$Reader" "method" "I") ∈ LW := LW_mem (mt_1 (List.mem_of_getElem? (i := 151) rfl)) rfl
theorem t1_152 : (Jvm.Cond.fieldLink "TrigramReaders$Chance" (35 : Nat) "TrigramReaders$Reader" "method" "I") ∈ LW := LW_mem (mt_1 (List.mem_of_getElem? (i := 152) rfl)) rfl
theorem t1_153 : (Jvm.Cond.fieldLink "TrigramReaders" (164 : Nat) "TrigramReaders$Reader" "method" "I") ∈ LW := LW_mem (mt_1 (List.mem_of_getElem? (i := 153) rfl)) rfl
theorem t1_154 : (Jvm.Cond.fieldLink "TrigramReaders$Reader" (25 : Nat) "TrigramReaders$Reader" "counts" "LTrigramReaders$Counts;") ∈ LW := LW_mem (mt_1 (List.mem_of_getElem? (i := 154) rfl)) rfl
theorem t1_155 : (Jvm.Cond.fieldLink "TrigramReaders$Chance" (29 : Nat) "TrigramReaders$Reader" "counts" "LTrigramReaders$Counts;") ∈ LW := LW_mem (mt_1 (List.mem_of_getElem? (i := 155) rfl)) rfl
theorem t1_156 : (Jvm.Cond.fieldLink "TrigramReaders$Parser" (110 : Nat) "TrigramReaders$Reader" "counts" "LTrigramReaders$Counts;") ∈ LW := LW_mem (mt_1 (List.mem_of_getElem? (i := 156) rfl)) rfl
theorem t1_157 : (Jvm.Cond.fieldLink "TrigramReaders$State" (53 : Nat) "TrigramReaders$Reader" "counts" "LTrigramReaders$Counts;") ∈ LW := LW_mem (mt_1 (List.mem_of_getElem? (i := 157) rfl)) rfl
theorem t1_158 : (Jvm.Cond.fieldLink "TrigramReaders" (188 : Nat) "TrigramReaders$Reader" "counts" "LTrigramReaders$Counts;") ∈ LW := LW_mem (mt_1 (List.mem_of_getElem? (i := 158) rfl)) rfl
theorem t1_159 : (Jvm.Cond.fieldLink "TrigramReaders$Reader" (29 : Nat) "TrigramReaders$Reader" "symbolsTrained" "I") ∈ LW := LW_mem (mt_1 (List.mem_of_getElem? (i := 159) rfl)) rfl
theorem t1_160 : (Jvm.Cond.fieldLink "TrigramReaders" (221 : Nat) "TrigramReaders$Reader" "symbolsTrained" "I") ∈ LW := LW_mem (mt_1 (List.mem_of_getElem? (i := 160) rfl)) rfl
theorem t1_161 : (Jvm.Cond.fieldLink "TrigramReaders$Reader" (32 : Nat) "TrigramReaders$Reader" "trainings" "[I") ∈ LW := LW_mem (mt_1 (List.mem_of_getElem? (i := 161) rfl)) rfl
theorem t1_162 : (Jvm.Cond.laysFinal "TrigramReaders$Reader" "TrigramReaders$Reader" "name" "[I") ∈ LW := LW_mem (mt_1 (List.mem_of_getElem? (i := 162) rfl)) rfl
theorem t1_164 : (Jvm.Cond.lays "TrigramReaders$Reader" "TrigramReaders$Reader" "nameLength" "I") ∈ LW := LW_mem (mt_1 (List.mem_of_getElem? (i := 164) rfl)) rfl
theorem t1_166 : (Jvm.Cond.lays "TrigramReaders$Reader" "TrigramReaders$Reader" "method" "I") ∈ LW := LW_mem (mt_1 (List.mem_of_getElem? (i := 166) rfl)) rfl
theorem t1_168 : (Jvm.Cond.laysFinal "TrigramReaders$Reader" "TrigramReaders$Reader" "counts" "LTrigramReaders$Counts;") ∈ LW := LW_mem (mt_1 (List.mem_of_getElem? (i := 168) rfl)) rfl
theorem t1_170 : (Jvm.Cond.lays "TrigramReaders$Reader" "TrigramReaders$Reader" "symbolsTrained" "I") ∈ LW := LW_mem (mt_1 (List.mem_of_getElem? (i := 170) rfl)) rfl
theorem t1_172 : (Jvm.Cond.laysFinal "TrigramReaders$Reader" "TrigramReaders$Reader" "trainings" "[I") ∈ LW := LW_mem (mt_1 (List.mem_of_getElem? (i := 172) rfl)) rfl
theorem t1_175 : (Jvm.Cond.instantiable "TrigramReaders$Document" (3 : Nat)) ∈ LW := LW_mem (mt_1 (List.mem_of_getElem? (i := 175) rfl)) rfl
theorem t1_177 : (Jvm.Cond.instanceMethod ({ cls := "TrigramReaders$Document", name := "<init>", desc := "()V" } : Jvm.MethodName)) ∈ LW := LW_mem (mt_1 (List.mem_of_getElem? (i := 177) rfl)) rfl
theorem t1_178 : (Jvm.Cond.code ({ cls := "TrigramReaders$Document", name := "<init>", desc := "()V" } : Jvm.MethodName) prog_5_method_1_code (1 : Nat) (Option.none : Option Jvm.ClassFile.FieldType)) ∈ LW := LW_mem (mt_1 (List.mem_of_getElem? (i := 178) rfl)) rfl
theorem t1_179 : (Jvm.Cond.methodLink "TrigramReaders$Document" (3 : Nat) ({ cls := "java/lang/Object", name := "<init>", desc := "()V" } : Jvm.MethodName)) ∈ LW := LW_mem (mt_1 (List.mem_of_getElem? (i := 179) rfl)) rfl
theorem t1_180 : (Jvm.Cond.fieldLink "TrigramReaders$Document" (9 : Nat) "TrigramReaders$Document" "symbols" "[I") ∈ LW := LW_mem (mt_1 (List.mem_of_getElem? (i := 180) rfl)) rfl
theorem t1_181 : (Jvm.Cond.fieldLink "TrigramReaders$Document" (15 : Nat) "TrigramReaders$Document" "length" "I") ∈ LW := LW_mem (mt_1 (List.mem_of_getElem? (i := 181) rfl)) rfl
theorem t1_182 : (Jvm.Cond.fieldLink "TrigramReaders$Parser" (122 : Nat) "TrigramReaders$Document" "length" "I") ∈ LW := LW_mem (mt_1 (List.mem_of_getElem? (i := 182) rfl)) rfl
theorem t1_183 : (Jvm.Cond.fieldLink "TrigramReaders$Counts" (54 : Nat) "TrigramReaders$Document" "length" "I") ∈ LW := LW_mem (mt_1 (List.mem_of_getElem? (i := 183) rfl)) rfl
theorem t1_184 : (Jvm.Cond.fieldLink "TrigramReaders" (174 : Nat) "TrigramReaders$Document" "length" "I") ∈ LW := LW_mem (mt_1 (List.mem_of_getElem? (i := 184) rfl)) rfl
theorem t1_185 : (Jvm.Cond.fieldLink "TrigramReaders$Document" (19 : Nat) "TrigramReaders$Document" "yearAdded" "I") ∈ LW := LW_mem (mt_1 (List.mem_of_getElem? (i := 185) rfl)) rfl
theorem t1_186 : (Jvm.Cond.laysFinal "TrigramReaders$Document" "TrigramReaders$Document" "symbols" "[I") ∈ LW := LW_mem (mt_1 (List.mem_of_getElem? (i := 186) rfl)) rfl
theorem t1_188 : (Jvm.Cond.lays "TrigramReaders$Document" "TrigramReaders$Document" "length" "I") ∈ LW := LW_mem (mt_1 (List.mem_of_getElem? (i := 188) rfl)) rfl
theorem t1_190 : (Jvm.Cond.lays "TrigramReaders$Document" "TrigramReaders$Document" "yearAdded" "I") ∈ LW := LW_mem (mt_1 (List.mem_of_getElem? (i := 190) rfl)) rfl
theorem t1_193 : (Jvm.Cond.fieldLink "TrigramReaders$State" (11 : Nat) "TrigramReaders$State" "readers" "[LTrigramReaders$Reader;") ∈ LW := LW_mem (mt_1 (List.mem_of_getElem? (i := 193) rfl)) rfl
theorem t1_194 : (Jvm.Cond.fieldLink "TrigramReaders$State" (17 : Nat) "TrigramReaders$State" "readersUsed" "I") ∈ LW := LW_mem (mt_1 (List.mem_of_getElem? (i := 194) rfl)) rfl
theorem t1_195 : (Jvm.Cond.fieldLink "TrigramReaders$Parser" (67 : Nat) "TrigramReaders$State" "readersUsed" "I") ∈ LW := LW_mem (mt_1 (List.mem_of_getElem? (i := 195) rfl)) rfl
theorem t1_196 : (Jvm.Cond.fieldLink "TrigramReaders" (143 : Nat) "TrigramReaders$State" "readersUsed" "I") ∈ LW := LW_mem (mt_1 (List.mem_of_getElem? (i := 196) rfl)) rfl
theorem t1_197 : (Jvm.Cond.fieldLink "TrigramReaders$State" (23 : Nat) "TrigramReaders$State" "documents" "[LTrigramReaders$Document;") ∈ LW := LW_mem (mt_1 (List.mem_of_getElem? (i := 197) rfl)) rfl
theorem t1_198 : (Jvm.Cond.fieldLink "TrigramReaders$State" (27 : Nat) "TrigramReaders$State" "documentsUsed" "I") ∈ LW := LW_mem (mt_1 (List.mem_of_getElem? (i := 198) rfl)) rfl
theorem t1_199 : (Jvm.Cond.fieldLink "TrigramReaders$Parser" (93 : Nat) "TrigramReaders$State" "documentsUsed" "I") ∈ LW := LW_mem (mt_1 (List.mem_of_getElem? (i := 199) rfl)) rfl
theorem t1_200 : (Jvm.Cond.fieldLink "TrigramReaders" (167 : Nat) "TrigramReaders$State" "documentsUsed" "I") ∈ LW := LW_mem (mt_1 (List.mem_of_getElem? (i := 200) rfl)) rfl
theorem t1_201 : (Jvm.Cond.fieldLink "TrigramReaders$State" (30 : Nat) "TrigramReaders$State" "currentYear" "I") ∈ LW := LW_mem (mt_1 (List.mem_of_getElem? (i := 201) rfl)) rfl
theorem t1_202 : (Jvm.Cond.fieldLink "TrigramReaders" (146 : Nat) "TrigramReaders$State" "currentYear" "I") ∈ LW := LW_mem (mt_1 (List.mem_of_getElem? (i := 202) rfl)) rfl
theorem t1_203 : (Jvm.Cond.laysFinal "TrigramReaders$State" "TrigramReaders$State" "readers" "[LTrigramReaders$Reader;") ∈ LW := LW_mem (mt_1 (List.mem_of_getElem? (i := 203) rfl)) rfl
theorem t1_205 : (Jvm.Cond.lays "TrigramReaders$State" "TrigramReaders$State" "readersUsed" "I") ∈ LW := LW_mem (mt_1 (List.mem_of_getElem? (i := 205) rfl)) rfl
theorem t1_207 : (Jvm.Cond.laysFinal "TrigramReaders$State" "TrigramReaders$State" "documents" "[LTrigramReaders$Document;") ∈ LW := LW_mem (mt_1 (List.mem_of_getElem? (i := 207) rfl)) rfl
theorem t1_209 : (Jvm.Cond.lays "TrigramReaders$State" "TrigramReaders$State" "documentsUsed" "I") ∈ LW := LW_mem (mt_1 (List.mem_of_getElem? (i := 209) rfl)) rfl
theorem t1_211 : (Jvm.Cond.lays "TrigramReaders$State" "TrigramReaders$State" "currentYear" "I") ∈ LW := LW_mem (mt_1 (List.mem_of_getElem? (i := 211) rfl)) rfl
theorem t1_214 : (Jvm.Cond.classLink "TrigramReaders" (98 : Nat) "TrigramReaders$Parser") ∈ LW := LW_mem (mt_1 (List.mem_of_getElem? (i := 214) rfl)) rfl
theorem t1_215 : (Jvm.Cond.instantiable "TrigramReaders$Parser" (7 : Nat)) ∈ LW := LW_mem (mt_1 (List.mem_of_getElem? (i := 215) rfl)) rfl
theorem t1_216 : (Jvm.Cond.methodLink "TrigramReaders" (100 : Nat) ({ cls := "TrigramReaders$Parser", name := "<init>", desc := "(LTrigramReaders$Bytes;LTrigramReaders$State;)V" } : Jvm.MethodName)) ∈ LW := LW_mem (mt_1 (List.mem_of_getElem? (i := 216) rfl)) rfl
theorem t1_217 : (Jvm.Cond.instanceMethod ({ cls := "TrigramReaders$Parser", name := "<init>", desc := "(LTrigramReaders$Bytes;LTrigramReaders$State;)V" } : Jvm.MethodName)) ∈ LW := LW_mem (mt_1 (List.mem_of_getElem? (i := 217) rfl)) rfl
theorem t1_218 : (Jvm.Cond.code ({ cls := "TrigramReaders$Parser", name := "<init>", desc := "(LTrigramReaders$Bytes;LTrigramReaders$State;)V" } : Jvm.MethodName) prog_6_method_1_code (3 : Nat) (Option.none : Option Jvm.ClassFile.FieldType)) ∈ LW := LW_mem (mt_1 (List.mem_of_getElem? (i := 218) rfl)) rfl
theorem t1_219 : (Jvm.Cond.methodLink "TrigramReaders$Parser" (3 : Nat) ({ cls := "java/lang/Object", name := "<init>", desc := "()V" } : Jvm.MethodName)) ∈ LW := LW_mem (mt_1 (List.mem_of_getElem? (i := 219) rfl)) rfl
theorem t1_220 : (Jvm.Cond.fieldLink "TrigramReaders$Parser" (27 : Nat) "TrigramReaders$Parser" "text" "LTrigramReaders$Bytes;") ∈ LW := LW_mem (mt_1 (List.mem_of_getElem? (i := 220) rfl)) rfl
theorem t1_221 : (Jvm.Cond.fieldLink "TrigramReaders$Parser" (31 : Nat) "TrigramReaders$Parser" "target" "LTrigramReaders$State;") ∈ LW := LW_mem (mt_1 (List.mem_of_getElem? (i := 221) rfl)) rfl
theorem t1_222 : (Jvm.Cond.fieldLink "TrigramReaders$Parser" (11 : Nat) "TrigramReaders$Parser" "kind" "I") ∈ LW := LW_mem (mt_1 (List.mem_of_getElem? (i := 222) rfl)) rfl
theorem t1_223 : (Jvm.Cond.fieldLink "TrigramReaders$Parser" (15 : Nat) "TrigramReaders$Parser" "tokenStart" "I") ∈ LW := LW_mem (mt_1 (List.mem_of_getElem? (i := 223) rfl)) rfl
theorem t1_224 : (Jvm.Cond.fieldLink "TrigramReaders$Parser" (18 : Nat) "TrigramReaders$Parser" "tokenEnd" "I") ∈ LW := LW_mem (mt_1 (List.mem_of_getElem? (i := 224) rfl)) rfl
theorem t1_225 : (Jvm.Cond.fieldLink "TrigramReaders$Parser" (21 : Nat) "TrigramReaders$Parser" "errorCode" "I") ∈ LW := LW_mem (mt_1 (List.mem_of_getElem? (i := 225) rfl)) rfl
theorem t1_226 : (Jvm.Cond.fieldLink "TrigramReaders" (128 : Nat) "TrigramReaders$Parser" "errorCode" "I") ∈ LW := LW_mem (mt_1 (List.mem_of_getElem? (i := 226) rfl)) rfl
theorem t1_227 : (Jvm.Cond.fieldLink "TrigramReaders$Parser" (24 : Nat) "TrigramReaders$Parser" "errorPosition" "I") ∈ LW := LW_mem (mt_1 (List.mem_of_getElem? (i := 227) rfl)) rfl
theorem t1_228 : (Jvm.Cond.fieldLink "TrigramReaders" (131 : Nat) "TrigramReaders$Parser" "errorPosition" "I") ∈ LW := LW_mem (mt_1 (List.mem_of_getElem? (i := 228) rfl)) rfl
theorem t1_229 : (Jvm.Cond.laysFinal "TrigramReaders$Parser" "TrigramReaders$Parser" "text" "LTrigramReaders$Bytes;") ∈ LW := LW_mem (mt_1 (List.mem_of_getElem? (i := 229) rfl)) rfl
theorem t1_231 : (Jvm.Cond.laysFinal "TrigramReaders$Parser" "TrigramReaders$Parser" "target" "LTrigramReaders$State;") ∈ LW := LW_mem (mt_1 (List.mem_of_getElem? (i := 231) rfl)) rfl
theorem t1_233 : (Jvm.Cond.lays "TrigramReaders$Parser" "TrigramReaders$Parser" "kind" "I") ∈ LW := LW_mem (mt_1 (List.mem_of_getElem? (i := 233) rfl)) rfl
theorem t1_235 : (Jvm.Cond.lays "TrigramReaders$Parser" "TrigramReaders$Parser" "tokenStart" "I") ∈ LW := LW_mem (mt_1 (List.mem_of_getElem? (i := 235) rfl)) rfl
theorem t1_237 : (Jvm.Cond.lays "TrigramReaders$Parser" "TrigramReaders$Parser" "tokenEnd" "I") ∈ LW := LW_mem (mt_1 (List.mem_of_getElem? (i := 237) rfl)) rfl
theorem t1_239 : (Jvm.Cond.lays "TrigramReaders$Parser" "TrigramReaders$Parser" "errorCode" "I") ∈ LW := LW_mem (mt_1 (List.mem_of_getElem? (i := 239) rfl)) rfl
theorem t2_1 : (Jvm.Cond.lays "TrigramReaders$Parser" "TrigramReaders$Parser" "errorPosition" "I") ∈ LW := LW_mem (mt_2 (List.mem_of_getElem? (i := 1) rfl)) rfl
theorem t2_4 : (Jvm.Cond.methodLink "TrigramReaders" (103 : Nat) ({ cls := "TrigramReaders$Parser", name := "parseAll", desc := "()Z" } : Jvm.MethodName)) ∈ LW := LW_mem (mt_2 (List.mem_of_getElem? (i := 4) rfl)) rfl
theorem t2_5 : (Jvm.Cond.instanceMethod ({ cls := "TrigramReaders$Parser", name := "parseAll", desc := "()Z" } : Jvm.MethodName)) ∈ LW := LW_mem (mt_2 (List.mem_of_getElem? (i := 5) rfl)) rfl
theorem t2_6 : (Jvm.Cond.selects "TrigramReaders$Parser" ({ cls := "TrigramReaders$Parser", name := "parseAll", desc := "()Z" } : Jvm.MethodName) ({ cls := "TrigramReaders$Parser", name := "parseAll", desc := "()Z" } : Jvm.MethodName)) ∈ LW := LW_mem (mt_2 (List.mem_of_getElem? (i := 6) rfl)) rfl
theorem t2_7 : (Jvm.Cond.code ({ cls := "TrigramReaders$Parser", name := "parseAll", desc := "()Z" } : Jvm.MethodName) prog_6_method_2_code (3 : Nat) (Option.some Jvm.ClassFile.FieldType.boolean)) ∈ LW := LW_mem (mt_2 (List.mem_of_getElem? (i := 7) rfl)) rfl
theorem t2_8 : (Jvm.Cond.methodLink "TrigramReaders$Parser" (35 : Nat) ({ cls := "TrigramReaders$Parser", name := "next", desc := "()V" } : Jvm.MethodName)) ∈ LW := LW_mem (mt_2 (List.mem_of_getElem? (i := 8) rfl)) rfl
theorem t2_10 : (Jvm.Cond.instanceMethod ({ cls := "TrigramReaders$Parser", name := "next", desc := "()V" } : Jvm.MethodName)) ∈ LW := LW_mem (mt_2 (List.mem_of_getElem? (i := 10) rfl)) rfl
theorem t2_11 : (Jvm.Cond.code ({ cls := "TrigramReaders$Parser", name := "next", desc := "()V" } : Jvm.MethodName) prog_6_method_9_code (2 : Nat) (Option.none : Option Jvm.ClassFile.FieldType)) ∈ LW := LW_mem (mt_2 (List.mem_of_getElem? (i := 11) rfl)) rfl
theorem t2_12 : (Jvm.Cond.methodLink "TrigramReaders$Parser" (134 : Nat) ({ cls := "TrigramReaders$Bytes", name := "at", desc := "(I)I" } : Jvm.MethodName)) ∈ LW := LW_mem (mt_2 (List.mem_of_getElem? (i := 12) rfl)) rfl
theorem t2_13 : (Jvm.Cond.instanceMethod ({ cls := "TrigramReaders$Bytes", name := "at", desc := "(I)I" } : Jvm.MethodName)) ∈ LW := LW_mem (mt_2 (List.mem_of_getElem? (i := 13) rfl)) rfl
theorem t2_14 : (Jvm.Cond.selects "TrigramReaders$Bytes" ({ cls := "TrigramReaders$Bytes", name := "at", desc := "(I)I" } : Jvm.MethodName) ({ cls := "TrigramReaders$Bytes", name := "at", desc := "(I)I" } : Jvm.MethodName)) ∈ LW := LW_mem (mt_2 (List.mem_of_getElem? (i := 14) rfl)) rfl
theorem t2_15 : (Jvm.Cond.code ({ cls := "TrigramReaders$Bytes", name := "at", desc := "(I)I" } : Jvm.MethodName) prog_2_method_6_code (2 : Nat) (Option.some Jvm.ClassFile.FieldType.int)) ∈ LW := LW_mem (mt_2 (List.mem_of_getElem? (i := 15) rfl)) rfl
theorem t2_16 : (Jvm.Cond.methodLink "TrigramReaders$Parser" (139 : Nat) ({ cls := "TrigramReaders$Parser", name := "isBlank", desc := "(I)Z" } : Jvm.MethodName)) ∈ LW := LW_mem (mt_2 (List.mem_of_getElem? (i := 16) rfl)) rfl
theorem t2_17 : (Jvm.Cond.static ({ cls := "TrigramReaders$Parser", name := "isBlank", desc := "(I)Z" } : Jvm.MethodName)) ∈ LW := LW_mem (mt_2 (List.mem_of_getElem? (i := 17) rfl)) rfl
theorem t2_18 : (Jvm.Cond.code ({ cls := "TrigramReaders$Parser", name := "isBlank", desc := "(I)Z" } : Jvm.MethodName) prog_6_method_10_code (1 : Nat) (Option.some Jvm.ClassFile.FieldType.boolean)) ∈ LW := LW_mem (mt_2 (List.mem_of_getElem? (i := 18) rfl)) rfl
theorem t2_19 : (Jvm.Cond.methodLink "TrigramReaders$Parser" (142 : Nat) ({ cls := "TrigramReaders$Parser", name := "kindOf", desc := "(I)I" } : Jvm.MethodName)) ∈ LW := LW_mem (mt_2 (List.mem_of_getElem? (i := 19) rfl)) rfl
theorem t2_20 : (Jvm.Cond.static ({ cls := "TrigramReaders$Parser", name := "kindOf", desc := "(I)I" } : Jvm.MethodName)) ∈ LW := LW_mem (mt_2 (List.mem_of_getElem? (i := 20) rfl)) rfl
theorem t2_21 : (Jvm.Cond.code ({ cls := "TrigramReaders$Parser", name := "kindOf", desc := "(I)I" } : Jvm.MethodName) prog_6_method_11_code (1 : Nat) (Option.some Jvm.ClassFile.FieldType.int)) ∈ LW := LW_mem (mt_2 (List.mem_of_getElem? (i := 21) rfl)) rfl
theorem t2_23 : (Jvm.Cond.static ({ cls := "TrigramReaders", name := "isLetter", desc := "(I)Z" } : Jvm.MethodName)) ∈ LW := LW_mem (mt_2 (List.mem_of_getElem? (i := 23) rfl)) rfl
theorem t2_24 : (Jvm.Cond.code ({ cls := "TrigramReaders", name := "isLetter", desc := "(I)Z" } : Jvm.MethodName) prog_1_method_87_code (1 : Nat) (Option.some Jvm.ClassFile.FieldType.boolean)) ∈ LW := LW_mem (mt_2 (List.mem_of_getElem? (i := 24) rfl)) rfl
theorem t2_26 : (Jvm.Cond.static ({ cls := "TrigramReaders", name := "isDigit", desc := "(I)Z" } : Jvm.MethodName)) ∈ LW := LW_mem (mt_2 (List.mem_of_getElem? (i := 26) rfl)) rfl
theorem t2_27 : (Jvm.Cond.code ({ cls := "TrigramReaders", name := "isDigit", desc := "(I)Z" } : Jvm.MethodName) prog_1_method_86_code (1 : Nat) (Option.some Jvm.ClassFile.FieldType.boolean)) ∈ LW := LW_mem (mt_2 (List.mem_of_getElem? (i := 27) rfl)) rfl
theorem t2_29 : (Jvm.Cond.methodLink "TrigramReaders$Parser" (40 : Nat) ({ cls := "TrigramReaders$Parser", name := "isWord", desc := "(Ljava/lang/String;)Z" } : Jvm.MethodName)) ∈ LW := LW_mem (mt_2 (List.mem_of_getElem? (i := 29) rfl)) rfl
theorem t2_31 : (Jvm.Cond.instanceMethod ({ cls := "TrigramReaders$Parser", name := "isWord", desc := "(Ljava/lang/String;)Z" } : Jvm.MethodName)) ∈ LW := LW_mem (mt_2 (List.mem_of_getElem? (i := 31) rfl)) rfl
theorem t2_32 : (Jvm.Cond.code ({ cls := "TrigramReaders$Parser", name := "isWord", desc := "(Ljava/lang/String;)Z" } : Jvm.MethodName) prog_6_method_12_code (4 : Nat) (Option.some Jvm.ClassFile.FieldType.boolean)) ∈ LW := LW_mem (mt_2 (List.mem_of_getElem? (i := 32) rfl)) rfl
theorem t2_33 : (Jvm.Cond.methodLink "TrigramReaders$Parser" (151 : Nat) ({ cls := "java/lang/String", name := "length", desc := "()I" } : Jvm.MethodName)) ∈ LW := LW_mem (mt_2 (List.mem_of_getElem? (i := 33) rfl)) rfl
theorem t2_34 : (Jvm.Cond.methodLink "TrigramReaders$Parser" (155 : Nat) ({ cls := "java/lang/String", name := "charAt", desc := "(I)C" } : Jvm.MethodName)) ∈ LW := LW_mem (mt_2 (List.mem_of_getElem? (i := 34) rfl)) rfl
theorem t2_35 : (Jvm.Cond.methodLink "TrigramReaders$Parser" (44 : Nat) ({ cls := "TrigramReaders$Parser", name := "parseReader", desc := "()Z" } : Jvm.MethodName)) ∈ LW := LW_mem (mt_2 (List.mem_of_getElem? (i := 35) rfl)) rfl
theorem t2_37 : (Jvm.Cond.instanceMethod ({ cls := "TrigramReaders$Parser", name := "parseReader", desc := "()Z" } : Jvm.MethodName)) ∈ LW := LW_mem (mt_2 (List.mem_of_getElem? (i := 37) rfl)) rfl
theorem t2_38 : (Jvm.Cond.code ({ cls := "TrigramReaders$Parser", name := "parseReader", desc := "()Z" } : Jvm.MethodName) prog_6_method_3_code (4 : Nat) (Option.some Jvm.ClassFile.FieldType.boolean)) ∈ LW := LW_mem (mt_2 (List.mem_of_getElem? (i := 38) rfl)) rfl
theorem t2_39 : (Jvm.Cond.methodLink "TrigramReaders$Parser" (63 : Nat) ({ cls := "TrigramReaders$Parser", name := "fail", desc := "(I)Z" } : Jvm.MethodName)) ∈ LW := LW_mem (mt_2 (List.mem_of_getElem? (i := 39) rfl)) rfl
theorem t2_41 : (Jvm.Cond.instanceMethod ({ cls := "TrigramReaders$Parser", name := "fail", desc := "(I)Z" } : Jvm.MethodName)) ∈ LW := LW_mem (mt_2 (List.mem_of_getElem? (i := 41) rfl)) rfl
theorem t2_42 : (Jvm.Cond.code ({ cls := "TrigramReaders$Parser", name := "fail", desc := "(I)Z" } : Jvm.MethodName) prog_6_method_8_code (2 : Nat) (Option.some Jvm.ClassFile.FieldType.boolean)) ∈ LW := LW_mem (mt_2 (List.mem_of_getElem? (i := 42) rfl)) rfl
theorem t2_43 : (Jvm.Cond.methodLink "TrigramReaders$Parser" (72 : Nat) ({ cls := "TrigramReaders$Bytes", name := "isName", desc := "(II)Z" } : Jvm.MethodName)) ∈ LW := LW_mem (mt_2 (List.mem_of_getElem? (i := 43) rfl)) rfl
theorem t2_44 : (Jvm.Cond.instanceMethod ({ cls := "TrigramReaders$Bytes", name := "isName", desc := "(II)Z" } : Jvm.MethodName)) ∈ LW := LW_mem (mt_2 (List.mem_of_getElem? (i := 44) rfl)) rfl
theorem t2_45 : (Jvm.Cond.selects "TrigramReaders$Bytes" ({ cls := "TrigramReaders$Bytes", name := "isName", desc := "(II)Z" } : Jvm.MethodName) ({ cls := "TrigramReaders$Bytes", name := "isName", desc := "(II)Z" } : Jvm.MethodName)) ∈ LW := LW_mem (mt_2 (List.mem_of_getElem? (i := 45) rfl)) rfl
theorem t2_46 : (Jvm.Cond.code ({ cls := "TrigramReaders$Bytes", name := "isName", desc := "(II)Z" } : Jvm.MethodName) prog_2_method_7_code (5 : Nat) (Option.some Jvm.ClassFile.FieldType.boolean)) ∈ LW := LW_mem (mt_2 (List.mem_of_getElem? (i := 46) rfl)) rfl
theorem t2_47 : (Jvm.Cond.methodLink "TrigramReaders$Bytes" (23 : Nat) ({ cls := "TrigramReaders$Bytes", name := "at", desc := "(I)I" } : Jvm.MethodName)) ∈ LW := LW_mem (mt_2 (List.mem_of_getElem? (i := 47) rfl)) rfl
theorem t2_49 : (Jvm.Cond.methodLink "TrigramReaders$Parser" (78 : Nat) ({ cls := "TrigramReaders$State", name := "readerNamed", desc := "(LTrigramReaders$Bytes;II)LTrigramReaders$Reader;" } : Jvm.MethodName)) ∈ LW := LW_mem (mt_2 (List.mem_of_getElem? (i := 49) rfl)) rfl
theorem t2_50 : (Jvm.Cond.instanceMethod ({ cls := "TrigramReaders$State", name := "readerNamed", desc := "(LTrigramReaders$Bytes;II)LTrigramReaders$Reader;" } : Jvm.MethodName)) ∈ LW := LW_mem (mt_2 (List.mem_of_getElem? (i := 50) rfl)) rfl
theorem t2_51 : (Jvm.Cond.selects "TrigramReaders$State" ({ cls := "TrigramReaders$State", name := "readerNamed", desc := "(LTrigramReaders$Bytes;II)LTrigramReaders$Reader;" } : Jvm.MethodName) ({ cls := "TrigramReaders$State", name := "readerNamed", desc := "(LTrigramReaders$Bytes;II)LTrigramReaders$Reader;" } : Jvm.MethodName)) ∈ LW := LW_mem (mt_2 (List.mem_of_getElem? (i := 51) rfl)) rfl
theorem t2_52 : (Jvm.Cond.code ({ cls := "TrigramReaders$State", name := "readerNamed", desc := "(LTrigramReaders$Bytes;II)LTrigramReaders$Reader;" } : Jvm.MethodName) prog_9_method_4_code (5 : Nat) (Option.some (Jvm.ClassFile.FieldType.object "TrigramReaders$Reader"))) ∈ LW := LW_mem (mt_2 (List.mem_of_getElem? (i := 52) rfl)) rfl
theorem t2_53 : (Jvm.Cond.methodLink "TrigramReaders$State" (42 : Nat) ({ cls := "TrigramReaders$Reader", name := "isNamed", desc := "(LTrigramReaders$Bytes;II)Z" } : Jvm.MethodName)) ∈ LW := LW_mem (mt_2 (List.mem_of_getElem? (i := 53) rfl)) rfl
theorem t2_54 : (Jvm.Cond.instanceMethod ({ cls := "TrigramReaders$Reader", name := "isNamed", desc := "(LTrigramReaders$Bytes;II)Z" } : Jvm.MethodName)) ∈ LW := LW_mem (mt_2 (List.mem_of_getElem? (i := 54) rfl)) rfl
theorem t2_55 : (Jvm.Cond.selects "TrigramReaders$Reader" ({ cls := "TrigramReaders$Reader", name := "isNamed", desc := "(LTrigramReaders$Bytes;II)Z" } : Jvm.MethodName) ({ cls := "TrigramReaders$Reader", name := "isNamed", desc := "(LTrigramReaders$Bytes;II)Z" } : Jvm.MethodName)) ∈ LW := LW_mem (mt_2 (List.mem_of_getElem? (i := 55) rfl)) rfl
theorem t2_56 : (Jvm.Cond.code ({ cls := "TrigramReaders$Reader", name := "isNamed", desc := "(LTrigramReaders$Bytes;II)Z" } : Jvm.MethodName) prog_8_method_6_code (6 : Nat) (Option.some Jvm.ClassFile.FieldType.boolean)) ∈ LW := LW_mem (mt_2 (List.mem_of_getElem? (i := 56) rfl)) rfl
theorem t2_57 : (Jvm.Cond.methodLink "TrigramReaders$Reader" (57 : Nat) ({ cls := "TrigramReaders$Reader", name := "nameAt", desc := "(I)I" } : Jvm.MethodName)) ∈ LW := LW_mem (mt_2 (List.mem_of_getElem? (i := 57) rfl)) rfl
theorem t2_58 : (Jvm.Cond.instanceMethod ({ cls := "TrigramReaders$Reader", name := "nameAt", desc := "(I)I" } : Jvm.MethodName)) ∈ LW := LW_mem (mt_2 (List.mem_of_getElem? (i := 58) rfl)) rfl
theorem t2_59 : (Jvm.Cond.selects "TrigramReaders$Reader" ({ cls := "TrigramReaders$Reader", name := "nameAt", desc := "(I)I" } : Jvm.MethodName) ({ cls := "TrigramReaders$Reader", name := "nameAt", desc := "(I)I" } : Jvm.MethodName)) ∈ LW := LW_mem (mt_2 (List.mem_of_getElem? (i := 59) rfl)) rfl
theorem t2_60 : (Jvm.Cond.code ({ cls := "TrigramReaders$Reader", name := "nameAt", desc := "(I)I" } : Jvm.MethodName) prog_8_method_5_code (2 : Nat) (Option.some Jvm.ClassFile.FieldType.int)) ∈ LW := LW_mem (mt_2 (List.mem_of_getElem? (i := 60) rfl)) rfl
theorem t2_61 : (Jvm.Cond.methodLink "TrigramReaders$Reader" (45 : Nat) ({ cls := "TrigramReaders$Bytes", name := "at", desc := "(I)I" } : Jvm.MethodName)) ∈ LW := LW_mem (mt_2 (List.mem_of_getElem? (i := 61) rfl)) rfl
theorem t2_62 : (Jvm.Cond.methodLink "TrigramReaders$Parser" (82 : Nat) ({ cls := "TrigramReaders$Parser", name := "methodWord", desc := "()I" } : Jvm.MethodName)) ∈ LW := LW_mem (mt_2 (List.mem_of_getElem? (i := 62) rfl)) rfl
theorem t2_64 : (Jvm.Cond.instanceMethod ({ cls := "TrigramReaders$Parser", name := "methodWord", desc := "()I" } : Jvm.MethodName)) ∈ LW := LW_mem (mt_2 (List.mem_of_getElem? (i := 64) rfl)) rfl
theorem t2_65 : (Jvm.Cond.code ({ cls := "TrigramReaders$Parser", name := "methodWord", desc := "()I" } : Jvm.MethodName) prog_6_method_13_code (1 : Nat) (Option.some Jvm.ClassFile.FieldType.int)) ∈ LW := LW_mem (mt_2 (List.mem_of_getElem? (i := 65) rfl)) rfl
theorem t2_69 : (Jvm.Cond.methodLink "TrigramReaders$Parser" (86 : Nat) ({ cls := "TrigramReaders$Parser", name := "parseSemicolon", desc := "()Z" } : Jvm.MethodName)) ∈ LW := LW_mem (mt_2 (List.mem_of_getElem? (i := 69) rfl)) rfl
theorem t2_71 : (Jvm.Cond.instanceMethod ({ cls := "TrigramReaders$Parser", name := "parseSemicolon", desc := "()Z" } : Jvm.MethodName)) ∈ LW := LW_mem (mt_2 (List.mem_of_getElem? (i := 71) rfl)) rfl
theorem t2_72 : (Jvm.Cond.code ({ cls := "TrigramReaders$Parser", name := "parseSemicolon", desc := "()Z" } : Jvm.MethodName) prog_6_method_7_code (1 : Nat) (Option.some Jvm.ClassFile.FieldType.boolean)) ∈ LW := LW_mem (mt_2 (List.mem_of_getElem? (i := 72) rfl)) rfl
theorem t2_73 : (Jvm.Cond.methodLink "TrigramReaders$Parser" (89 : Nat) ({ cls := "TrigramReaders$State", name := "putReader", desc := "(LTrigramReaders$Bytes;III)V" } : Jvm.MethodName)) ∈ LW := LW_mem (mt_2 (List.mem_of_getElem? (i := 73) rfl)) rfl
theorem t2_74 : (Jvm.Cond.instanceMethod ({ cls := "TrigramReaders$State", name := "putReader", desc := "(LTrigramReaders$Bytes;III)V" } : Jvm.MethodName)) ∈ LW := LW_mem (mt_2 (List.mem_of_getElem? (i := 74) rfl)) rfl
theorem t2_75 : (Jvm.Cond.selects "TrigramReaders$State" ({ cls := "TrigramReaders$State", name := "putReader", desc := "(LTrigramReaders$Bytes;III)V" } : Jvm.MethodName) ({ cls := "TrigramReaders$State", name := "putReader", desc := "(LTrigramReaders$Bytes;III)V" } : Jvm.MethodName)) ∈ LW := LW_mem (mt_2 (List.mem_of_getElem? (i := 75) rfl)) rfl
theorem t2_76 : (Jvm.Cond.code ({ cls := "TrigramReaders$State", name := "putReader", desc := "(LTrigramReaders$Bytes;III)V" } : Jvm.MethodName) prog_9_method_7_code (5 : Nat) (Option.none : Option Jvm.ClassFile.FieldType)) ∈ LW := LW_mem (mt_2 (List.mem_of_getElem? (i := 76) rfl)) rfl
theorem t2_77 : (Jvm.Cond.methodLink "TrigramReaders$State" (46 : Nat) ({ cls := "TrigramReaders$Reader", name := "begin", desc := "(LTrigramReaders$Bytes;III)V" } : Jvm.MethodName)) ∈ LW := LW_mem (mt_2 (List.mem_of_getElem? (i := 77) rfl)) rfl
theorem t2_78 : (Jvm.Cond.instanceMethod ({ cls := "TrigramReaders$Reader", name := "begin", desc := "(LTrigramReaders$Bytes;III)V" } : Jvm.MethodName)) ∈ LW := LW_mem (mt_2 (List.mem_of_getElem? (i := 78) rfl)) rfl
theorem t2_79 : (Jvm.Cond.selects "TrigramReaders$Reader" ({ cls := "TrigramReaders$Reader", name := "begin", desc := "(LTrigramReaders$Bytes;III)V" } : Jvm.MethodName) ({ cls := "TrigramReaders$Reader", name := "begin", desc := "(LTrigramReaders$Bytes;III)V" } : Jvm.MethodName)) ∈ LW := LW_mem (mt_2 (List.mem_of_getElem? (i := 79) rfl)) rfl
theorem t2_80 : (Jvm.Cond.code ({ cls := "TrigramReaders$Reader", name := "begin", desc := "(LTrigramReaders$Bytes;III)V" } : Jvm.MethodName) prog_8_method_3_code (6 : Nat) (Option.none : Option Jvm.ClassFile.FieldType)) ∈ LW := LW_mem (mt_2 (List.mem_of_getElem? (i := 80) rfl)) rfl
theorem t2_81 : (Jvm.Cond.methodLink "TrigramReaders$Reader" (51 : Nat) ({ cls := "TrigramReaders$Reader", name := "clearTrainings", desc := "()V" } : Jvm.MethodName)) ∈ LW := LW_mem (mt_2 (List.mem_of_getElem? (i := 81) rfl)) rfl
theorem t2_82 : (Jvm.Cond.instanceMethod ({ cls := "TrigramReaders$Reader", name := "clearTrainings", desc := "()V" } : Jvm.MethodName)) ∈ LW := LW_mem (mt_2 (List.mem_of_getElem? (i := 82) rfl)) rfl
theorem t2_83 : (Jvm.Cond.selects "TrigramReaders$Reader" ({ cls := "TrigramReaders$Reader", name := "clearTrainings", desc := "()V" } : Jvm.MethodName) ({ cls := "TrigramReaders$Reader", name := "clearTrainings", desc := "()V" } : Jvm.MethodName)) ∈ LW := LW_mem (mt_2 (List.mem_of_getElem? (i := 83) rfl)) rfl
theorem t2_84 : (Jvm.Cond.code ({ cls := "TrigramReaders$Reader", name := "clearTrainings", desc := "()V" } : Jvm.MethodName) prog_8_method_4_code (2 : Nat) (Option.none : Option Jvm.ClassFile.FieldType)) ∈ LW := LW_mem (mt_2 (List.mem_of_getElem? (i := 84) rfl)) rfl
theorem t2_86 : (Jvm.Cond.methodLink "TrigramReaders$Parser" (50 : Nat) ({ cls := "TrigramReaders$Parser", name := "parseDocument", desc := "()Z" } : Jvm.MethodName)) ∈ LW := LW_mem (mt_2 (List.mem_of_getElem? (i := 86) rfl)) rfl
theorem t2_88 : (Jvm.Cond.instanceMethod ({ cls := "TrigramReaders$Parser", name := "parseDocument", desc := "()Z" } : Jvm.MethodName)) ∈ LW := LW_mem (mt_2 (List.mem_of_getElem? (i := 88) rfl)) rfl
theorem t2_89 : (Jvm.Cond.code ({ cls := "TrigramReaders$Parser", name := "parseDocument", desc := "()Z" } : Jvm.MethodName) prog_6_method_4_code (3 : Nat) (Option.some Jvm.ClassFile.FieldType.boolean)) ∈ LW := LW_mem (mt_2 (List.mem_of_getElem? (i := 89) rfl)) rfl
theorem t2_90 : (Jvm.Cond.methodLink "TrigramReaders$Parser" (96 : Nat) ({ cls := "TrigramReaders$Bytes", name := "isDocument", desc := "(II)Z" } : Jvm.MethodName)) ∈ LW := LW_mem (mt_2 (List.mem_of_getElem? (i := 90) rfl)) rfl
theorem t2_91 : (Jvm.Cond.instanceMethod ({ cls := "TrigramReaders$Bytes", name := "isDocument", desc := "(II)Z" } : Jvm.MethodName)) ∈ LW := LW_mem (mt_2 (List.mem_of_getElem? (i := 91) rfl)) rfl
theorem t2_92 : (Jvm.Cond.selects "TrigramReaders$Bytes" ({ cls := "TrigramReaders$Bytes", name := "isDocument", desc := "(II)Z" } : Jvm.MethodName) ({ cls := "TrigramReaders$Bytes", name := "isDocument", desc := "(II)Z" } : Jvm.MethodName)) ∈ LW := LW_mem (mt_2 (List.mem_of_getElem? (i := 92) rfl)) rfl
theorem t2_93 : (Jvm.Cond.code ({ cls := "TrigramReaders$Bytes", name := "isDocument", desc := "(II)Z" } : Jvm.MethodName) prog_2_method_8_code (5 : Nat) (Option.some Jvm.ClassFile.FieldType.boolean)) ∈ LW := LW_mem (mt_2 (List.mem_of_getElem? (i := 93) rfl)) rfl
theorem t2_94 : (Jvm.Cond.methodLink "TrigramReaders$Parser" (99 : Nat) ({ cls := "TrigramReaders$State", name := "putDocument", desc := "(LTrigramReaders$Bytes;II)V" } : Jvm.MethodName)) ∈ LW := LW_mem (mt_2 (List.mem_of_getElem? (i := 94) rfl)) rfl
theorem t2_95 : (Jvm.Cond.instanceMethod ({ cls := "TrigramReaders$State", name := "putDocument", desc := "(LTrigramReaders$Bytes;II)V" } : Jvm.MethodName)) ∈ LW := LW_mem (mt_2 (List.mem_of_getElem? (i := 95) rfl)) rfl
theorem t2_96 : (Jvm.Cond.selects "TrigramReaders$State" ({ cls := "TrigramReaders$State", name := "putDocument", desc := "(LTrigramReaders$Bytes;II)V" } : Jvm.MethodName) ({ cls := "TrigramReaders$State", name := "putDocument", desc := "(LTrigramReaders$Bytes;II)V" } : Jvm.MethodName)) ∈ LW := LW_mem (mt_2 (List.mem_of_getElem? (i := 96) rfl)) rfl
theorem t2_97 : (Jvm.Cond.code ({ cls := "TrigramReaders$State", name := "putDocument", desc := "(LTrigramReaders$Bytes;II)V" } : Jvm.MethodName) prog_9_method_8_code (4 : Nat) (Option.none : Option Jvm.ClassFile.FieldType)) ∈ LW := LW_mem (mt_2 (List.mem_of_getElem? (i := 97) rfl)) rfl
theorem t2_98 : (Jvm.Cond.methodLink "TrigramReaders$State" (50 : Nat) ({ cls := "TrigramReaders$Document", name := "take", desc := "(LTrigramReaders$Bytes;III)V" } : Jvm.MethodName)) ∈ LW := LW_mem (mt_2 (List.mem_of_getElem? (i := 98) rfl)) rfl
theorem t2_99 : (Jvm.Cond.instanceMethod ({ cls := "TrigramReaders$Document", name := "take", desc := "(LTrigramReaders$Bytes;III)V" } : Jvm.MethodName)) ∈ LW := LW_mem (mt_2 (List.mem_of_getElem? (i := 99) rfl)) rfl
theorem t2_100 : (Jvm.Cond.selects "TrigramReaders$Document" ({ cls := "TrigramReaders$Document", name := "take", desc := "(LTrigramReaders$Bytes;III)V" } : Jvm.MethodName) ({ cls := "TrigramReaders$Document", name := "take", desc := "(LTrigramReaders$Bytes;III)V" } : Jvm.MethodName)) ∈ LW := LW_mem (mt_2 (List.mem_of_getElem? (i := 100) rfl)) rfl
theorem t2_101 : (Jvm.Cond.code ({ cls := "TrigramReaders$Document", name := "take", desc := "(LTrigramReaders$Bytes;III)V" } : Jvm.MethodName) prog_5_method_3_code (7 : Nat) (Option.none : Option Jvm.ClassFile.FieldType)) ∈ LW := LW_mem (mt_2 (List.mem_of_getElem? (i := 101) rfl)) rfl
theorem t2_102 : (Jvm.Cond.methodLink "TrigramReaders$Document" (28 : Nat) ({ cls := "TrigramReaders$Bytes", name := "at", desc := "(I)I" } : Jvm.MethodName)) ∈ LW := LW_mem (mt_2 (List.mem_of_getElem? (i := 102) rfl)) rfl
theorem t2_105 : (Jvm.Cond.methodLink "TrigramReaders$Parser" (55 : Nat) ({ cls := "TrigramReaders$Parser", name := "parseTrain", desc := "()Z" } : Jvm.MethodName)) ∈ LW := LW_mem (mt_2 (List.mem_of_getElem? (i := 105) rfl)) rfl
theorem t2_107 : (Jvm.Cond.instanceMethod ({ cls := "TrigramReaders$Parser", name := "parseTrain", desc := "()Z" } : Jvm.MethodName)) ∈ LW := LW_mem (mt_2 (List.mem_of_getElem? (i := 107) rfl)) rfl
theorem t2_108 : (Jvm.Cond.code ({ cls := "TrigramReaders$Parser", name := "parseTrain", desc := "()Z" } : Jvm.MethodName) prog_6_method_5_code (4 : Nat) (Option.some Jvm.ClassFile.FieldType.boolean)) ∈ LW := LW_mem (mt_2 (List.mem_of_getElem? (i := 108) rfl)) rfl
theorem t2_109 : (Jvm.Cond.methodLink "TrigramReaders$Parser" (103 : Nat) ({ cls := "TrigramReaders$Parser", name := "numberValue", desc := "()I" } : Jvm.MethodName)) ∈ LW := LW_mem (mt_2 (List.mem_of_getElem? (i := 109) rfl)) rfl
theorem t2_111 : (Jvm.Cond.instanceMethod ({ cls := "TrigramReaders$Parser", name := "numberValue", desc := "()I" } : Jvm.MethodName)) ∈ LW := LW_mem (mt_2 (List.mem_of_getElem? (i := 111) rfl)) rfl
theorem t2_112 : (Jvm.Cond.code ({ cls := "TrigramReaders$Parser", name := "numberValue", desc := "()I" } : Jvm.MethodName) prog_6_method_14_code (3 : Nat) (Option.some Jvm.ClassFile.FieldType.int)) ∈ LW := LW_mem (mt_2 (List.mem_of_getElem? (i := 112) rfl)) rfl
theorem t2_114 : (Jvm.Cond.static ({ cls := "TrigramReaders", name := "withDigit", desc := "(II)I" } : Jvm.MethodName)) ∈ LW := LW_mem (mt_2 (List.mem_of_getElem? (i := 114) rfl)) rfl
theorem t2_115 : (Jvm.Cond.code ({ cls := "TrigramReaders", name := "withDigit", desc := "(II)I" } : Jvm.MethodName) prog_1_method_88_code (2 : Nat) (Option.some Jvm.ClassFile.FieldType.int)) ∈ LW := LW_mem (mt_2 (List.mem_of_getElem? (i := 115) rfl)) rfl
theorem t2_116 : (Jvm.Cond.methodLink "TrigramReaders" (356 : Nat) ({ cls := "java/lang/Math", name := "min", desc := "(II)I" } : Jvm.MethodName)) ∈ LW := LW_mem (mt_2 (List.mem_of_getElem? (i := 116) rfl)) rfl
theorem t2_117 : (Jvm.Cond.static ({ cls := "java/lang/Math", name := "min", desc := "(II)I" } : Jvm.MethodName)) ∈ LW := LW_mem (mt_2 (List.mem_of_getElem? (i := 117) rfl)) rfl
theorem t2_118 : (Jvm.Cond.code ({ cls := "java/lang/Math", name := "min", desc := "(II)I" } : Jvm.MethodName) prog_23_method_69_code (2 : Nat) (Option.some Jvm.ClassFile.FieldType.int)) ∈ LW := LW_mem (mt_2 (List.mem_of_getElem? (i := 118) rfl)) rfl
theorem t2_119 : (Jvm.Cond.methodLink "TrigramReaders$Parser" (106 : Nat) ({ cls := "TrigramReaders$State", name := "documentAt", desc := "(I)LTrigramReaders$Document;" } : Jvm.MethodName)) ∈ LW := LW_mem (mt_2 (List.mem_of_getElem? (i := 119) rfl)) rfl
theorem t2_120 : (Jvm.Cond.instanceMethod ({ cls := "TrigramReaders$State", name := "documentAt", desc := "(I)LTrigramReaders$Document;" } : Jvm.MethodName)) ∈ LW := LW_mem (mt_2 (List.mem_of_getElem? (i := 120) rfl)) rfl
theorem t2_121 : (Jvm.Cond.selects "TrigramReaders$State" ({ cls := "TrigramReaders$State", name := "documentAt", desc := "(I)LTrigramReaders$Document;" } : Jvm.MethodName) ({ cls := "TrigramReaders$State", name := "documentAt", desc := "(I)LTrigramReaders$Document;" } : Jvm.MethodName)) ∈ LW := LW_mem (mt_2 (List.mem_of_getElem? (i := 121) rfl)) rfl
theorem t2_122 : (Jvm.Cond.code ({ cls := "TrigramReaders$State", name := "documentAt", desc := "(I)LTrigramReaders$Document;" } : Jvm.MethodName) prog_9_method_6_code (2 : Nat) (Option.some (Jvm.ClassFile.FieldType.object "TrigramReaders$Document"))) ∈ LW := LW_mem (mt_2 (List.mem_of_getElem? (i := 122) rfl)) rfl
theorem t2_123 : (Jvm.Cond.methodLink "TrigramReaders$Parser" (116 : Nat) ({ cls := "TrigramReaders$Counts", name := "countDocument", desc := "(LTrigramReaders$Document;)V" } : Jvm.MethodName)) ∈ LW := LW_mem (mt_2 (List.mem_of_getElem? (i := 123) rfl)) rfl
theorem t2_124 : (Jvm.Cond.instanceMethod ({ cls := "TrigramReaders$Counts", name := "countDocument", desc := "(LTrigramReaders$Document;)V" } : Jvm.MethodName)) ∈ LW := LW_mem (mt_2 (List.mem_of_getElem? (i := 124) rfl)) rfl
theorem t2_125 : (Jvm.Cond.selects "TrigramReaders$Counts" ({ cls := "TrigramReaders$Counts", name := "countDocument", desc := "(LTrigramReaders$Document;)V" } : Jvm.MethodName) ({ cls := "TrigramReaders$Counts", name := "countDocument", desc := "(LTrigramReaders$Document;)V" } : Jvm.MethodName)) ∈ LW := LW_mem (mt_2 (List.mem_of_getElem? (i := 125) rfl)) rfl
theorem t2_126 : (Jvm.Cond.code ({ cls := "TrigramReaders$Counts", name := "countDocument", desc := "(LTrigramReaders$Document;)V" } : Jvm.MethodName) prog_4_method_8_code (3 : Nat) (Option.none : Option Jvm.ClassFile.FieldType)) ∈ LW := LW_mem (mt_2 (List.mem_of_getElem? (i := 126) rfl)) rfl
theorem t2_127 : (Jvm.Cond.methodLink "TrigramReaders$Counts" (57 : Nat) ({ cls := "TrigramReaders$Counts", name := "countPosition", desc := "(LTrigramReaders$Document;I)V" } : Jvm.MethodName)) ∈ LW := LW_mem (mt_2 (List.mem_of_getElem? (i := 127) rfl)) rfl
theorem t2_128 : (Jvm.Cond.instanceMethod ({ cls := "TrigramReaders$Counts", name := "countPosition", desc := "(LTrigramReaders$Document;I)V" } : Jvm.MethodName)) ∈ LW := LW_mem (mt_2 (List.mem_of_getElem? (i := 128) rfl)) rfl
theorem t2_129 : (Jvm.Cond.selects "TrigramReaders$Counts" ({ cls := "TrigramReaders$Counts", name := "countPosition", desc := "(LTrigramReaders$Document;I)V" } : Jvm.MethodName) ({ cls := "TrigramReaders$Counts", name := "countPosition", desc := "(LTrigramReaders$Document;I)V" } : Jvm.MethodName)) ∈ LW := LW_mem (mt_2 (List.mem_of_getElem? (i := 129) rfl)) rfl
theorem t2_130 : (Jvm.Cond.code ({ cls := "TrigramReaders$Counts", name := "countPosition", desc := "(LTrigramReaders$Document;I)V" } : Jvm.MethodName) prog_4_method_7_code (6 : Nat) (Option.none : Option Jvm.ClassFile.FieldType)) ∈ LW := LW_mem (mt_2 (List.mem_of_getElem? (i := 130) rfl)) rfl
theorem t2_131 : (Jvm.Cond.methodLink "TrigramReaders$Counts" (42 : Nat) ({ cls := "TrigramReaders$Document", name := "symbolAt", desc := "(I)I" } : Jvm.MethodName)) ∈ LW := LW_mem (mt_2 (List.mem_of_getElem? (i := 131) rfl)) rfl
theorem t2_132 : (Jvm.Cond.instanceMethod ({ cls := "TrigramReaders$Document", name := "symbolAt", desc := "(I)I" } : Jvm.MethodName)) ∈ LW := LW_mem (mt_2 (List.mem_of_getElem? (i := 132) rfl)) rfl
theorem t2_133 : (Jvm.Cond.selects "TrigramReaders$Document" ({ cls := "TrigramReaders$Document", name := "symbolAt", desc := "(I)I" } : Jvm.MethodName) ({ cls := "TrigramReaders$Document", name := "symbolAt", desc := "(I)I" } : Jvm.MethodName)) ∈ LW := LW_mem (mt_2 (List.mem_of_getElem? (i := 133) rfl)) rfl
theorem t2_134 : (Jvm.Cond.code ({ cls := "TrigramReaders$Document", name := "symbolAt", desc := "(I)I" } : Jvm.MethodName) prog_5_method_4_code (2 : Nat) (Option.some Jvm.ClassFile.FieldType.int)) ∈ LW := LW_mem (mt_2 (List.mem_of_getElem? (i := 134) rfl)) rfl
theorem t2_136 : (Jvm.Cond.static ({ cls := "TrigramReaders", name := "firstOrder", desc := "(II)I" } : Jvm.MethodName)) ∈ LW := LW_mem (mt_2 (List.mem_of_getElem? (i := 136) rfl)) rfl
theorem t2_137 : (Jvm.Cond.code ({ cls := "TrigramReaders", name := "firstOrder", desc := "(II)I" } : Jvm.MethodName) prog_1_method_73_code (2 : Nat) (Option.some Jvm.ClassFile.FieldType.int)) ∈ LW := LW_mem (mt_2 (List.mem_of_getElem? (i := 137) rfl)) rfl
theorem t2_139 : (Jvm.Cond.static ({ cls := "TrigramReaders", name := "contextStart", desc := "(III)I" } : Jvm.MethodName)) ∈ LW := LW_mem (mt_2 (List.mem_of_getElem? (i := 139) rfl)) rfl
theorem t2_140 : (Jvm.Cond.code ({ cls := "TrigramReaders", name := "contextStart", desc := "(III)I" } : Jvm.MethodName) prog_1_method_74_code (3 : Nat) (Option.some Jvm.ClassFile.FieldType.int)) ∈ LW := LW_mem (mt_2 (List.mem_of_getElem? (i := 140) rfl)) rfl
theorem t2_141 : (Jvm.Cond.methodLink "TrigramReaders$Counts" (38 : Nat) ({ cls := "TrigramReaders$Counts", name := "add", desc := "(II)V" } : Jvm.MethodName)) ∈ LW := LW_mem (mt_2 (List.mem_of_getElem? (i := 141) rfl)) rfl
theorem t2_142 : (Jvm.Cond.instanceMethod ({ cls := "TrigramReaders$Counts", name := "add", desc := "(II)V" } : Jvm.MethodName)) ∈ LW := LW_mem (mt_2 (List.mem_of_getElem? (i := 142) rfl)) rfl
theorem t2_143 : (Jvm.Cond.selects "TrigramReaders$Counts" ({ cls := "TrigramReaders$Counts", name := "add", desc := "(II)V" } : Jvm.MethodName) ({ cls := "TrigramReaders$Counts", name := "add", desc := "(II)V" } : Jvm.MethodName)) ∈ LW := LW_mem (mt_2 (List.mem_of_getElem? (i := 143) rfl)) rfl
theorem t2_144 : (Jvm.Cond.code ({ cls := "TrigramReaders$Counts", name := "add", desc := "(II)V" } : Jvm.MethodName) prog_4_method_5_code (4 : Nat) (Option.none : Option Jvm.ClassFile.FieldType)) ∈ LW := LW_mem (mt_2 (List.mem_of_getElem? (i := 144) rfl)) rfl
theorem t2_145 : (Jvm.Cond.methodLink "TrigramReaders$Counts" (28 : Nat) ({ cls := "TrigramReaders$Counts", name := "placeOf", desc := "(I)I" } : Jvm.MethodName)) ∈ LW := LW_mem (mt_2 (List.mem_of_getElem? (i := 145) rfl)) rfl
theorem t2_146 : (Jvm.Cond.instanceMethod ({ cls := "TrigramReaders$Counts", name := "placeOf", desc := "(I)I" } : Jvm.MethodName)) ∈ LW := LW_mem (mt_2 (List.mem_of_getElem? (i := 146) rfl)) rfl
theorem t2_147 : (Jvm.Cond.selects "TrigramReaders$Counts" ({ cls := "TrigramReaders$Counts", name := "placeOf", desc := "(I)I" } : Jvm.MethodName) ({ cls := "TrigramReaders$Counts", name := "placeOf", desc := "(I)I" } : Jvm.MethodName)) ∈ LW := LW_mem (mt_2 (List.mem_of_getElem? (i := 147) rfl)) rfl
theorem t2_148 : (Jvm.Cond.code ({ cls := "TrigramReaders$Counts", name := "placeOf", desc := "(I)I" } : Jvm.MethodName) prog_4_method_3_code (5 : Nat) (Option.some Jvm.ClassFile.FieldType.int)) ∈ LW := LW_mem (mt_2 (List.mem_of_getElem? (i := 148) rfl)) rfl
theorem t2_149 : (Jvm.Cond.methodLink "TrigramReaders$Counts" (32 : Nat) ({ cls := "java/lang/Math", name := "min", desc := "(II)I" } : Jvm.MethodName)) ∈ LW := LW_mem (mt_2 (List.mem_of_getElem? (i := 149) rfl)) rfl
theorem t2_150 : (Jvm.Cond.methodLink "TrigramReaders$Counts" (22 : Nat) ({ cls := "java/lang/System", name := "arraycopy", desc := "(Ljava/lang/Object;ILjava/lang/Object;II)V" } : Jvm.MethodName)) ∈ LW := LW_mem (mt_2 (List.mem_of_getElem? (i := 150) rfl)) rfl
theorem t2_151 : (Jvm.Cond.static ({ cls := "java/lang/System", name := "arraycopy", desc := "(Ljava/lang/Object;ILjava/lang/Object;II)V" } : Jvm.MethodName)) ∈ LW := LW_mem (mt_2 (List.mem_of_getElem? (i := 151) rfl)) rfl
theorem t2_152 : (Jvm.Cond.native ({ cls := "java/lang/System", name := "arraycopy", desc := "(Ljava/lang/Object;ILjava/lang/Object;II)V" } : Jvm.MethodName)) ∈ LW := LW_mem (mt_2 (List.mem_of_getElem? (i := 152) rfl)) rfl
theorem t2_153 : (Jvm.Cond.methodLink "TrigramReaders$Parser" (127 : Nat) ({ cls := "TrigramReaders$Reader", name := "recordTraining", desc := "(II)V" } : Jvm.MethodName)) ∈ LW := LW_mem (mt_2 (List.mem_of_getElem? (i := 153) rfl)) rfl
theorem t2_154 : (Jvm.Cond.instanceMethod ({ cls := "TrigramReaders$Reader", name := "recordTraining", desc := "(II)V" } : Jvm.MethodName)) ∈ LW := LW_mem (mt_2 (List.mem_of_getElem? (i := 154) rfl)) rfl
theorem t2_155 : (Jvm.Cond.selects "TrigramReaders$Reader" ({ cls := "TrigramReaders$Reader", name := "recordTraining", desc := "(II)V" } : Jvm.MethodName) ({ cls := "TrigramReaders$Reader", name := "recordTraining", desc := "(II)V" } : Jvm.MethodName)) ∈ LW := LW_mem (mt_2 (List.mem_of_getElem? (i := 155) rfl)) rfl
theorem t2_156 : (Jvm.Cond.code ({ cls := "TrigramReaders$Reader", name := "recordTraining", desc := "(II)V" } : Jvm.MethodName) prog_8_method_8_code (3 : Nat) (Option.none : Option Jvm.ClassFile.FieldType)) ∈ LW := LW_mem (mt_2 (List.mem_of_getElem? (i := 156) rfl)) rfl
theorem t2_158 : (Jvm.Cond.methodLink "TrigramReaders$Parser" (60 : Nat) ({ cls := "TrigramReaders$Parser", name := "parseYear", desc := "()Z" } : Jvm.MethodName)) ∈ LW := LW_mem (mt_2 (List.mem_of_getElem? (i := 158) rfl)) rfl
theorem t2_160 : (Jvm.Cond.instanceMethod ({ cls := "TrigramReaders$Parser", name := "parseYear", desc := "()Z" } : Jvm.MethodName)) ∈ LW := LW_mem (mt_2 (List.mem_of_getElem? (i := 160) rfl)) rfl
theorem t2_161 : (Jvm.Cond.code ({ cls := "TrigramReaders$Parser", name := "parseYear", desc := "()Z" } : Jvm.MethodName) prog_6_method_6_code (1 : Nat) (Option.some Jvm.ClassFile.FieldType.boolean)) ∈ LW := LW_mem (mt_2 (List.mem_of_getElem? (i := 161) rfl)) rfl
theorem t2_162 : (Jvm.Cond.methodLink "TrigramReaders$Parser" (131 : Nat) ({ cls := "TrigramReaders$State", name := "passYear", desc := "()V" } : Jvm.MethodName)) ∈ LW := LW_mem (mt_2 (List.mem_of_getElem? (i := 162) rfl)) rfl
theorem t2_163 : (Jvm.Cond.instanceMethod ({ cls := "TrigramReaders$State", name := "passYear", desc := "()V" } : Jvm.MethodName)) ∈ LW := LW_mem (mt_2 (List.mem_of_getElem? (i := 163) rfl)) rfl
theorem t2_164 : (Jvm.Cond.selects "TrigramReaders$State" ({ cls := "TrigramReaders$State", name := "passYear", desc := "()V" } : Jvm.MethodName) ({ cls := "TrigramReaders$State", name := "passYear", desc := "()V" } : Jvm.MethodName)) ∈ LW := LW_mem (mt_2 (List.mem_of_getElem? (i := 164) rfl)) rfl
theorem t2_165 : (Jvm.Cond.code ({ cls := "TrigramReaders$State", name := "passYear", desc := "()V" } : Jvm.MethodName) prog_9_method_9_code (2 : Nat) (Option.none : Option Jvm.ClassFile.FieldType)) ∈ LW := LW_mem (mt_2 (List.mem_of_getElem? (i := 165) rfl)) rfl
theorem t2_166 : (Jvm.Cond.methodLink "TrigramReaders$State" (57 : Nat) ({ cls := "TrigramReaders$Counts", name := "halve", desc := "()V" } : Jvm.MethodName)) ∈ LW := LW_mem (mt_2 (List.mem_of_getElem? (i := 166) rfl)) rfl
theorem t2_167 : (Jvm.Cond.instanceMethod ({ cls := "TrigramReaders$Counts", name := "halve", desc := "()V" } : Jvm.MethodName)) ∈ LW := LW_mem (mt_2 (List.mem_of_getElem? (i := 167) rfl)) rfl
theorem t2_168 : (Jvm.Cond.selects "TrigramReaders$Counts" ({ cls := "TrigramReaders$Counts", name := "halve", desc := "()V" } : Jvm.MethodName) ({ cls := "TrigramReaders$Counts", name := "halve", desc := "()V" } : Jvm.MethodName)) ∈ LW := LW_mem (mt_2 (List.mem_of_getElem? (i := 168) rfl)) rfl
theorem t2_169 : (Jvm.Cond.code ({ cls := "TrigramReaders$Counts", name := "halve", desc := "()V" } : Jvm.MethodName) prog_4_method_9_code (4 : Nat) (Option.none : Option Jvm.ClassFile.FieldType)) ∈ LW := LW_mem (mt_2 (List.mem_of_getElem? (i := 169) rfl)) rfl
theorem t2_171 : (Jvm.Cond.classLink "TrigramReaders" (57 : Nat) "TrigramReaders$Counts") ∈ LW := LW_mem (mt_2 (List.mem_of_getElem? (i := 171) rfl)) rfl
theorem t2_173 : (Jvm.Cond.classLink "TrigramReaders" (64 : Nat) "TrigramReaders$Ranking") ∈ LW := LW_mem (mt_2 (List.mem_of_getElem? (i := 173) rfl)) rfl
theorem t2_174 : (Jvm.Cond.instantiable "TrigramReaders$Ranking" (4 : Nat)) ∈ LW := LW_mem (mt_2 (List.mem_of_getElem? (i := 174) rfl)) rfl
theorem t2_176 : (Jvm.Cond.instanceMethod ({ cls := "TrigramReaders$Ranking", name := "<init>", desc := "()V" } : Jvm.MethodName)) ∈ LW := LW_mem (mt_2 (List.mem_of_getElem? (i := 176) rfl)) rfl
theorem t2_177 : (Jvm.Cond.code ({ cls := "TrigramReaders$Ranking", name := "<init>", desc := "()V" } : Jvm.MethodName) prog_7_method_1_code (1 : Nat) (Option.none : Option Jvm.ClassFile.FieldType)) ∈ LW := LW_mem (mt_2 (List.mem_of_getElem? (i := 177) rfl)) rfl
theorem t2_178 : (Jvm.Cond.methodLink "TrigramReaders$Ranking" (3 : Nat) ({ cls := "java/lang/Object", name := "<init>", desc := "()V" } : Jvm.MethodName)) ∈ LW := LW_mem (mt_2 (List.mem_of_getElem? (i := 178) rfl)) rfl
theorem t2_179 : (Jvm.Cond.fieldLink "TrigramReaders$Ranking" (9 : Nat) "TrigramReaders$Ranking" "symbols" "[I") ∈ LW := LW_mem (mt_2 (List.mem_of_getElem? (i := 179) rfl)) rfl
theorem t2_180 : (Jvm.Cond.fieldLink "TrigramReaders$Ranking" (15 : Nat) "TrigramReaders$Ranking" "weights" "[I") ∈ LW := LW_mem (mt_2 (List.mem_of_getElem? (i := 180) rfl)) rfl
theorem t2_181 : (Jvm.Cond.fieldLink "TrigramReaders$Ranking" (18 : Nat) "TrigramReaders$Ranking" "size" "I") ∈ LW := LW_mem (mt_2 (List.mem_of_getElem? (i := 181) rfl)) rfl
theorem t2_182 : (Jvm.Cond.fieldLink "TrigramReaders$Ranking" (22 : Nat) "TrigramReaders$Ranking" "placed" "I") ∈ LW := LW_mem (mt_2 (List.mem_of_getElem? (i := 182) rfl)) rfl
theorem t2_183 : (Jvm.Cond.laysFinal "TrigramReaders$Ranking" "TrigramReaders$Ranking" "symbols" "[I") ∈ LW := LW_mem (mt_2 (List.mem_of_getElem? (i := 183) rfl)) rfl
theorem t2_185 : (Jvm.Cond.laysFinal "TrigramReaders$Ranking" "TrigramReaders$Ranking" "weights" "[I") ∈ LW := LW_mem (mt_2 (List.mem_of_getElem? (i := 185) rfl)) rfl
theorem t2_187 : (Jvm.Cond.lays "TrigramReaders$Ranking" "TrigramReaders$Ranking" "size" "I") ∈ LW := LW_mem (mt_2 (List.mem_of_getElem? (i := 187) rfl)) rfl
theorem t2_189 : (Jvm.Cond.lays "TrigramReaders$Ranking" "TrigramReaders$Ranking" "placed" "I") ∈ LW := LW_mem (mt_2 (List.mem_of_getElem? (i := 189) rfl)) rfl
theorem t2_192 : (Jvm.Cond.arrayClass Jvm.ClassFile.FieldType.boolean) ∈ LW := LW_mem (mt_2 (List.mem_of_getElem? (i := 192) rfl)) rfl
theorem t2_193 : (Jvm.Cond.classLink "TrigramReaders" (71 : Nat) "TrigramReaders$Chance") ∈ LW := LW_mem (mt_2 (List.mem_of_getElem? (i := 193) rfl)) rfl
theorem t2_194 : (Jvm.Cond.instantiable "TrigramReaders$Chance" (4 : Nat)) ∈ LW := LW_mem (mt_2 (List.mem_of_getElem? (i := 194) rfl)) rfl
theorem t2_196 : (Jvm.Cond.instanceMethod ({ cls := "TrigramReaders$Chance", name := "<init>", desc := "()V" } : Jvm.MethodName)) ∈ LW := LW_mem (mt_2 (List.mem_of_getElem? (i := 196) rfl)) rfl
theorem t2_197 : (Jvm.Cond.code ({ cls := "TrigramReaders$Chance", name := "<init>", desc := "()V" } : Jvm.MethodName) prog_3_method_1_code (1 : Nat) (Option.none : Option Jvm.ClassFile.FieldType)) ∈ LW := LW_mem (mt_2 (List.mem_of_getElem? (i := 197) rfl)) rfl
theorem t2_198 : (Jvm.Cond.methodLink "TrigramReaders$Chance" (3 : Nat) ({ cls := "java/lang/Object", name := "<init>", desc := "()V" } : Jvm.MethodName)) ∈ LW := LW_mem (mt_2 (List.mem_of_getElem? (i := 198) rfl)) rfl
theorem t2_199 : (Jvm.Cond.fieldLink "TrigramReaders$Chance" (9 : Nat) "TrigramReaders$Chance" "top" "J") ∈ LW := LW_mem (mt_2 (List.mem_of_getElem? (i := 199) rfl)) rfl
theorem t2_200 : (Jvm.Cond.fieldLink "TrigramReaders" (243 : Nat) "TrigramReaders$Chance" "top" "J") ∈ LW := LW_mem (mt_2 (List.mem_of_getElem? (i := 200) rfl)) rfl
theorem t2_201 : (Jvm.Cond.fieldLink "TrigramReaders$Chance" (15 : Nat) "TrigramReaders$Chance" "bottom" "J") ∈ LW := LW_mem (mt_2 (List.mem_of_getElem? (i := 201) rfl)) rfl
theorem t2_202 : (Jvm.Cond.fieldLink "TrigramReaders" (247 : Nat) "TrigramReaders$Chance" "bottom" "J") ∈ LW := LW_mem (mt_2 (List.mem_of_getElem? (i := 202) rfl)) rfl
theorem t2_203 : (Jvm.Cond.fieldLink "TrigramReaders$Chance" (18 : Nat) "TrigramReaders$Chance" "escapeFactors" "I") ∈ LW := LW_mem (mt_2 (List.mem_of_getElem? (i := 203) rfl)) rfl
theorem t2_204 : (Jvm.Cond.fieldLink "TrigramReaders" (240 : Nat) "TrigramReaders$Chance" "escapeFactors" "I") ∈ LW := LW_mem (mt_2 (List.mem_of_getElem? (i := 204) rfl)) rfl
theorem t2_205 : (Jvm.Cond.fieldLink "TrigramReaders$Chance" (22 : Nat) "TrigramReaders$Chance" "excluded" "I") ∈ LW := LW_mem (mt_2 (List.mem_of_getElem? (i := 205) rfl)) rfl
theorem t2_206 : (Jvm.Cond.lays "TrigramReaders$Chance" "TrigramReaders$Chance" "top" "J") ∈ LW := LW_mem (mt_2 (List.mem_of_getElem? (i := 206) rfl)) rfl
theorem t2_208 : (Jvm.Cond.lays "TrigramReaders$Chance" "TrigramReaders$Chance" "bottom" "J") ∈ LW := LW_mem (mt_2 (List.mem_of_getElem? (i := 208) rfl)) rfl
theorem t2_210 : (Jvm.Cond.lays "TrigramReaders$Chance" "TrigramReaders$Chance" "escapeFactors" "I") ∈ LW := LW_mem (mt_2 (List.mem_of_getElem? (i := 210) rfl)) rfl
theorem t2_212 : (Jvm.Cond.lays "TrigramReaders$Chance" "TrigramReaders$Chance" "excluded" "I") ∈ LW := LW_mem (mt_2 (List.mem_of_getElem? (i := 212) rfl)) rfl
theorem t2_215 : (Jvm.Cond.fieldLink "TrigramReaders" (13 : Nat) "TrigramReaders" "state" "LTrigramReaders$State;") ∈ LW := LW_mem (mt_2 (List.mem_of_getElem? (i := 215) rfl)) rfl
theorem t2_216 : (Jvm.Cond.fieldLink "TrigramReaders" (20 : Nat) "TrigramReaders" "loaded" "LTrigramReaders$State;") ∈ LW := LW_mem (mt_2 (List.mem_of_getElem? (i := 216) rfl)) rfl
theorem t2_217 : (Jvm.Cond.fieldLink "TrigramReaders" (23 : Nat) "TrigramReaders" "past" "[LTrigramReaders$State;") ∈ LW := LW_mem (mt_2 (List.mem_of_getElem? (i := 217) rfl)) rfl
theorem t2_218 : (Jvm.Cond.fieldLink "TrigramReaders" (27 : Nat) "TrigramReaders" "pastNext" "I") ∈ LW := LW_mem (mt_2 (List.mem_of_getElem? (i := 218) rfl)) rfl
theorem t2_219 : (Jvm.Cond.fieldLink "TrigramReaders" (31 : Nat) "TrigramReaders" "pastCount" "I") ∈ LW := LW_mem (mt_2 (List.mem_of_getElem? (i := 219) rfl)) rfl
theorem t2_220 : (Jvm.Cond.fieldLink "TrigramReaders" (34 : Nat) "TrigramReaders" "slots" "[LTrigramReaders$State;") ∈ LW := LW_mem (mt_2 (List.mem_of_getElem? (i := 220) rfl)) rfl
theorem t2_221 : (Jvm.Cond.fieldLink "TrigramReaders" (37 : Nat) "TrigramReaders" "slotUsed" "[Z") ∈ LW := LW_mem (mt_2 (List.mem_of_getElem? (i := 221) rfl)) rfl
theorem t2_222 : (Jvm.Cond.fieldLink "TrigramReaders" (44 : Nat) "TrigramReaders" "input" "LTrigramReaders$Bytes;") ∈ LW := LW_mem (mt_2 (List.mem_of_getElem? (i := 222) rfl)) rfl
theorem t2_223 : (Jvm.Cond.fieldLink "TrigramReaders" (48 : Nat) "TrigramReaders" "output" "LTrigramReaders$Bytes;") ∈ LW := LW_mem (mt_2 (List.mem_of_getElem? (i := 223) rfl)) rfl
theorem t2_224 : (Jvm.Cond.fieldLink "TrigramReaders" (51 : Nat) "TrigramReaders" "loadErrorCode" "I") ∈ LW := LW_mem (mt_2 (List.mem_of_getElem? (i := 224) rfl)) rfl
theorem t2_225 : (Jvm.Cond.fieldLink "TrigramReaders" (54 : Nat) "TrigramReaders" "loadErrorPosition" "I") ∈ LW := LW_mem (mt_2 (List.mem_of_getElem? (i := 225) rfl)) rfl
theorem t2_226 : (Jvm.Cond.fieldLink "TrigramReaders" (60 : Nat) "TrigramReaders" "trial" "LTrigramReaders$Counts;") ∈ LW := LW_mem (mt_2 (List.mem_of_getElem? (i := 226) rfl)) rfl
theorem t2_227 : (Jvm.Cond.fieldLink "TrigramReaders" (67 : Nat) "TrigramReaders" "ranking" "LTrigramReaders$Ranking;") ∈ LW := LW_mem (mt_2 (List.mem_of_getElem? (i := 227) rfl)) rfl
theorem t2_228 : (Jvm.Cond.fieldLink "TrigramReaders" (74 : Nat) "TrigramReaders" "chance" "LTrigramReaders$Chance;") ∈ LW := LW_mem (mt_2 (List.mem_of_getElem? (i := 228) rfl)) rfl
theorem t2_229 : (Jvm.Cond.fieldLink "TrigramReaders" (78 : Nat) "TrigramReaders" "decodedRanks" "[I") ∈ LW := LW_mem (mt_2 (List.mem_of_getElem? (i := 229) rfl)) rfl
theorem t2_230 : (Jvm.Cond.laysFinal "TrigramReaders" "TrigramReaders" "state" "LTrigramReaders$State;") ∈ LW := LW_mem (mt_2 (List.mem_of_getElem? (i := 230) rfl)) rfl
theorem t2_232 : (Jvm.Cond.laysFinal "TrigramReaders" "TrigramReaders" "loaded" "LTrigramReaders$State;") ∈ LW := LW_mem (mt_2 (List.mem_of_getElem? (i := 232) rfl)) rfl
theorem t2_234 : (Jvm.Cond.laysFinal "TrigramReaders" "TrigramReaders" "past" "[LTrigramReaders$State;") ∈ LW := LW_mem (mt_2 (List.mem_of_getElem? (i := 234) rfl)) rfl
theorem t2_236 : (Jvm.Cond.lays "TrigramReaders" "TrigramReaders" "pastNext" "I") ∈ LW := LW_mem (mt_2 (List.mem_of_getElem? (i := 236) rfl)) rfl
theorem t2_238 : (Jvm.Cond.lays "TrigramReaders" "TrigramReaders" "pastCount" "I") ∈ LW := LW_mem (mt_2 (List.mem_of_getElem? (i := 238) rfl)) rfl
theorem t3_0 : (Jvm.Cond.laysFinal "TrigramReaders" "TrigramReaders" "slots" "[LTrigramReaders$State;") ∈ LW := LW_mem (mt_3 (List.mem_of_getElem? (i := 0) rfl)) rfl
theorem t3_2 : (Jvm.Cond.laysFinal "TrigramReaders" "TrigramReaders" "slotUsed" "[Z") ∈ LW := LW_mem (mt_3 (List.mem_of_getElem? (i := 2) rfl)) rfl
theorem t3_4 : (Jvm.Cond.laysFinal "TrigramReaders" "TrigramReaders" "input" "LTrigramReaders$Bytes;") ∈ LW := LW_mem (mt_3 (List.mem_of_getElem? (i := 4) rfl)) rfl
theorem t3_6 : (Jvm.Cond.laysFinal "TrigramReaders" "TrigramReaders" "output" "LTrigramReaders$Bytes;") ∈ LW := LW_mem (mt_3 (List.mem_of_getElem? (i := 6) rfl)) rfl
theorem t3_8 : (Jvm.Cond.lays "TrigramReaders" "TrigramReaders" "loadErrorCode" "I") ∈ LW := LW_mem (mt_3 (List.mem_of_getElem? (i := 8) rfl)) rfl
theorem t3_10 : (Jvm.Cond.lays "TrigramReaders" "TrigramReaders" "loadErrorPosition" "I") ∈ LW := LW_mem (mt_3 (List.mem_of_getElem? (i := 10) rfl)) rfl
theorem t3_12 : (Jvm.Cond.laysFinal "TrigramReaders" "TrigramReaders" "trial" "LTrigramReaders$Counts;") ∈ LW := LW_mem (mt_3 (List.mem_of_getElem? (i := 12) rfl)) rfl
theorem t3_14 : (Jvm.Cond.laysFinal "TrigramReaders" "TrigramReaders" "ranking" "LTrigramReaders$Ranking;") ∈ LW := LW_mem (mt_3 (List.mem_of_getElem? (i := 14) rfl)) rfl
theorem t3_16 : (Jvm.Cond.laysFinal "TrigramReaders" "TrigramReaders" "chance" "LTrigramReaders$Chance;") ∈ LW := LW_mem (mt_3 (List.mem_of_getElem? (i := 16) rfl)) rfl
theorem t3_18 : (Jvm.Cond.laysFinal "TrigramReaders" "TrigramReaders" "decodedRanks" "[I") ∈ LW := LW_mem (mt_3 (List.mem_of_getElem? (i := 18) rfl)) rfl
theorem t3_21 : (Jvm.Cond.methodLink "TrigramReadersLaw" (115 : Nat) ({ cls := "TrigramReaders", name := "errorCode", desc := "()I" } : Jvm.MethodName)) ∈ LW := LW_mem (mt_3 (List.mem_of_getElem? (i := 21) rfl)) rfl
theorem t3_22 : (Jvm.Cond.instanceMethod ({ cls := "TrigramReaders", name := "errorCode", desc := "()I" } : Jvm.MethodName)) ∈ LW := LW_mem (mt_3 (List.mem_of_getElem? (i := 22) rfl)) rfl
theorem t3_23 : (Jvm.Cond.selects "TrigramReaders" ({ cls := "TrigramReaders", name := "errorCode", desc := "()I" } : Jvm.MethodName) ({ cls := "TrigramReaders", name := "errorCode", desc := "()I" } : Jvm.MethodName)) ∈ LW := LW_mem (mt_3 (List.mem_of_getElem? (i := 23) rfl)) rfl
theorem t3_24 : (Jvm.Cond.code ({ cls := "TrigramReaders", name := "errorCode", desc := "()I" } : Jvm.MethodName) prog_1_method_6_code (1 : Nat) (Option.some Jvm.ClassFile.FieldType.int)) ∈ LW := LW_mem (mt_3 (List.mem_of_getElem? (i := 24) rfl)) rfl
theorem t3_25 : (Jvm.Cond.methodLink "TrigramReadersLaw" (78 : Nat) ({ cls := "TrigramReaders", name := "readerCount", desc := "()I" } : Jvm.MethodName)) ∈ LW := LW_mem (mt_3 (List.mem_of_getElem? (i := 25) rfl)) rfl
theorem t3_26 : (Jvm.Cond.instanceMethod ({ cls := "TrigramReaders", name := "readerCount", desc := "()I" } : Jvm.MethodName)) ∈ LW := LW_mem (mt_3 (List.mem_of_getElem? (i := 26) rfl)) rfl
theorem t3_27 : (Jvm.Cond.selects "TrigramReaders" ({ cls := "TrigramReaders", name := "readerCount", desc := "()I" } : Jvm.MethodName) ({ cls := "TrigramReaders", name := "readerCount", desc := "()I" } : Jvm.MethodName)) ∈ LW := LW_mem (mt_3 (List.mem_of_getElem? (i := 27) rfl)) rfl
theorem t3_28 : (Jvm.Cond.code ({ cls := "TrigramReaders", name := "readerCount", desc := "()I" } : Jvm.MethodName) prog_1_method_9_code (1 : Nat) (Option.some Jvm.ClassFile.FieldType.int)) ∈ LW := LW_mem (mt_3 (List.mem_of_getElem? (i := 28) rfl)) rfl
theorem t3_29 : (Jvm.Cond.methodLink "TrigramReadersLaw" (122 : Nat) ({ cls := "TrigramReaders", name := "trainingGap", desc := "(I)I" } : Jvm.MethodName)) ∈ LW := LW_mem (mt_3 (List.mem_of_getElem? (i := 29) rfl)) rfl
theorem t3_30 : (Jvm.Cond.instanceMethod ({ cls := "TrigramReaders", name := "trainingGap", desc := "(I)I" } : Jvm.MethodName)) ∈ LW := LW_mem (mt_3 (List.mem_of_getElem? (i := 30) rfl)) rfl
theorem t3_31 : (Jvm.Cond.selects "TrigramReaders" ({ cls := "TrigramReaders", name := "trainingGap", desc := "(I)I" } : Jvm.MethodName) ({ cls := "TrigramReaders", name := "trainingGap", desc := "(I)I" } : Jvm.MethodName)) ∈ LW := LW_mem (mt_3 (List.mem_of_getElem? (i := 31) rfl)) rfl
theorem t3_32 : (Jvm.Cond.code ({ cls := "TrigramReaders", name := "trainingGap", desc := "(I)I" } : Jvm.MethodName) prog_1_method_25_code (5 : Nat) (Option.some Jvm.ClassFile.FieldType.int)) ∈ LW := LW_mem (mt_3 (List.mem_of_getElem? (i := 32) rfl)) rfl
theorem t3_33 : (Jvm.Cond.methodLink "TrigramReaders" (149 : Nat) ({ cls := "TrigramReaders", name := "existingReader", desc := "(I)LTrigramReaders$Reader;" } : Jvm.MethodName)) ∈ LW := LW_mem (mt_3 (List.mem_of_getElem? (i := 33) rfl)) rfl
theorem t3_35 : (Jvm.Cond.instanceMethod ({ cls := "TrigramReaders", name := "existingReader", desc := "(I)LTrigramReaders$Reader;" } : Jvm.MethodName)) ∈ LW := LW_mem (mt_3 (List.mem_of_getElem? (i := 35) rfl)) rfl
theorem t3_36 : (Jvm.Cond.code ({ cls := "TrigramReaders", name := "existingReader", desc := "(I)LTrigramReaders$Reader;" } : Jvm.MethodName) prog_1_method_66_code (3 : Nat) (Option.some (Jvm.ClassFile.FieldType.object "TrigramReaders$Reader"))) ∈ LW := LW_mem (mt_3 (List.mem_of_getElem? (i := 36) rfl)) rfl
theorem t3_37 : (Jvm.Cond.methodLink "TrigramReaders" (361 : Nat) ({ cls := "TrigramReaders$State", name := "readerAt", desc := "(I)LTrigramReaders$Reader;" } : Jvm.MethodName)) ∈ LW := LW_mem (mt_3 (List.mem_of_getElem? (i := 37) rfl)) rfl
theorem t3_38 : (Jvm.Cond.instanceMethod ({ cls := "TrigramReaders$State", name := "readerAt", desc := "(I)LTrigramReaders$Reader;" } : Jvm.MethodName)) ∈ LW := LW_mem (mt_3 (List.mem_of_getElem? (i := 38) rfl)) rfl
theorem t3_39 : (Jvm.Cond.selects "TrigramReaders$State" ({ cls := "TrigramReaders$State", name := "readerAt", desc := "(I)LTrigramReaders$Reader;" } : Jvm.MethodName) ({ cls := "TrigramReaders$State", name := "readerAt", desc := "(I)LTrigramReaders$Reader;" } : Jvm.MethodName)) ∈ LW := LW_mem (mt_3 (List.mem_of_getElem? (i := 39) rfl)) rfl
theorem t3_40 : (Jvm.Cond.code ({ cls := "TrigramReaders$State", name := "readerAt", desc := "(I)LTrigramReaders$Reader;" } : Jvm.MethodName) prog_9_method_5_code (2 : Nat) (Option.some (Jvm.ClassFile.FieldType.object "TrigramReaders$Reader"))) ∈ LW := LW_mem (mt_3 (List.mem_of_getElem? (i := 40) rfl)) rfl
theorem t3_41 : (Jvm.Cond.classLink "TrigramReaders" (364 : Nat) "java/lang/IndexOutOfBoundsException") ∈ LW := LW_mem (mt_3 (List.mem_of_getElem? (i := 41) rfl)) rfl
theorem t3_42 : (Jvm.Cond.instantiable "java/lang/IndexOutOfBoundsException" (6 : Nat)) ∈ LW := LW_mem (mt_3 (List.mem_of_getElem? (i := 42) rfl)) rfl
theorem t3_50 : (Jvm.Cond.selects "java/lang/IndexOutOfBoundsException" ({ cls := "java/lang/Throwable", name := "fillInStackTrace", desc := "(I)Ljava/lang/Throwable;" } : Jvm.MethodName) ({ cls := "java/lang/Throwable", name := "fillInStackTrace", desc := "(I)Ljava/lang/Throwable;" } : Jvm.MethodName)) ∈ LW := LW_mem (mt_3 (List.mem_of_getElem? (i := 50) rfl)) rfl
theorem t3_51 : (Jvm.Cond.selects "java/lang/IndexOutOfBoundsException" ({ cls := "java/lang/Throwable", name := "fillInStackTrace", desc := "()Ljava/lang/Throwable;" } : Jvm.MethodName) ({ cls := "java/lang/Throwable", name := "fillInStackTrace", desc := "()Ljava/lang/Throwable;" } : Jvm.MethodName)) ∈ LW := LW_mem (mt_3 (List.mem_of_getElem? (i := 51) rfl)) rfl
theorem t3_52 : (Jvm.Cond.lays "java/lang/IndexOutOfBoundsException" "java/lang/Throwable" "cause" "Ljava/lang/Throwable;") ∈ LW := LW_mem (mt_3 (List.mem_of_getElem? (i := 52) rfl)) rfl
theorem t3_53 : (Jvm.Cond.lays "java/lang/Throwable" "java/lang/Throwable" "cause" "Ljava/lang/Throwable;") ∈ LW := LW_mem (mt_3 (List.mem_of_getElem? (i := 53) rfl)) rfl
theorem t3_54 : (Jvm.Cond.lays "java/lang/IndexOutOfBoundsException" "java/lang/Throwable" "stackTrace" "[Ljava/lang/StackTraceElement;") ∈ LW := LW_mem (mt_3 (List.mem_of_getElem? (i := 54) rfl)) rfl
theorem t3_55 : (Jvm.Cond.lays "java/lang/Throwable" "java/lang/Throwable" "stackTrace" "[Ljava/lang/StackTraceElement;") ∈ LW := LW_mem (mt_3 (List.mem_of_getElem? (i := 55) rfl)) rfl
theorem t3_56 : (Jvm.Cond.lays "java/lang/IndexOutOfBoundsException" "java/lang/Throwable" "suppressedExceptions" "Ljava/util/List;") ∈ LW := LW_mem (mt_3 (List.mem_of_getElem? (i := 56) rfl)) rfl
theorem t3_57 : (Jvm.Cond.lays "java/lang/Throwable" "java/lang/Throwable" "suppressedExceptions" "Ljava/util/List;") ∈ LW := LW_mem (mt_3 (List.mem_of_getElem? (i := 57) rfl)) rfl
theorem t3_58 : (Jvm.Cond.lays "java/lang/IndexOutOfBoundsException" "java/lang/Throwable" "detailMessage" "Ljava/lang/String;") ∈ LW := LW_mem (mt_3 (List.mem_of_getElem? (i := 58) rfl)) rfl
theorem t3_59 : (Jvm.Cond.lays "java/lang/Throwable" "java/lang/Throwable" "detailMessage" "Ljava/lang/String;") ∈ LW := LW_mem (mt_3 (List.mem_of_getElem? (i := 59) rfl)) rfl
theorem t3_60 : (Jvm.Cond.lays "java/lang/IndexOutOfBoundsException" "java/lang/Throwable" "backtrace" "Ljava/lang/Object;") ∈ LW := LW_mem (mt_3 (List.mem_of_getElem? (i := 60) rfl)) rfl
theorem t3_61 : (Jvm.Cond.lays "java/lang/Throwable" "java/lang/Throwable" "backtrace" "Ljava/lang/Object;") ∈ LW := LW_mem (mt_3 (List.mem_of_getElem? (i := 61) rfl)) rfl
theorem t3_62 : (Jvm.Cond.fieldLink "java/lang/Throwable" (198 : Nat) "java/lang/Throwable" "backtrace" "Ljava/lang/Object;") ∈ LW := LW_mem (mt_3 (List.mem_of_getElem? (i := 62) rfl)) rfl
theorem t3_64 : (Jvm.Cond.instanceMethod ({ cls := "java/lang/Throwable", name := "<init>", desc := "()V" } : Jvm.MethodName)) ∈ LW := LW_mem (mt_3 (List.mem_of_getElem? (i := 64) rfl)) rfl
theorem t3_65 : (Jvm.Cond.code ({ cls := "java/lang/Throwable", name := "<init>", desc := "()V" } : Jvm.MethodName) prog_31_method_1_code (1 : Nat) (Option.none : Option Jvm.ClassFile.FieldType)) ∈ LW := LW_mem (mt_3 (List.mem_of_getElem? (i := 65) rfl)) rfl
theorem t3_66 : (Jvm.Cond.methodLink "java/lang/Throwable" (1 : Nat) ({ cls := "java/lang/Object", name := "<init>", desc := "()V" } : Jvm.MethodName)) ∈ LW := LW_mem (mt_3 (List.mem_of_getElem? (i := 66) rfl)) rfl
theorem t3_67 : (Jvm.Cond.fieldLink "java/lang/Throwable" (13 : Nat) "java/lang/Throwable" "UNASSIGNED_STACK" "[Ljava/lang/StackTraceElement;") ∈ LW := LW_mem (mt_3 (List.mem_of_getElem? (i := 67) rfl)) rfl
theorem t3_69 : (Jvm.Cond.fieldLink "java/lang/Throwable" (20 : Nat) "java/lang/Throwable" "SUPPRESSED_SENTINEL" "Ljava/util/List;") ∈ LW := LW_mem (mt_3 (List.mem_of_getElem? (i := 69) rfl)) rfl
theorem t3_71 : (Jvm.Cond.methodLink "java/lang/Throwable" (27 : Nat) ({ cls := "java/lang/Throwable", name := "fillInStackTrace", desc := "()Ljava/lang/Throwable;" } : Jvm.MethodName)) ∈ LW := LW_mem (mt_3 (List.mem_of_getElem? (i := 71) rfl)) rfl
theorem t3_72 : (Jvm.Cond.instanceMethod ({ cls := "java/lang/Throwable", name := "fillInStackTrace", desc := "()Ljava/lang/Throwable;" } : Jvm.MethodName)) ∈ LW := LW_mem (mt_3 (List.mem_of_getElem? (i := 72) rfl)) rfl
theorem t3_74 : (Jvm.Cond.selects "java/lang/IllegalArgumentException" ({ cls := "java/lang/Throwable", name := "fillInStackTrace", desc := "()Ljava/lang/Throwable;" } : Jvm.MethodName) ({ cls := "java/lang/Throwable", name := "fillInStackTrace", desc := "()Ljava/lang/Throwable;" } : Jvm.MethodName)) ∈ LW := LW_mem (mt_3 (List.mem_of_getElem? (i := 74) rfl)) rfl
theorem t3_75 : (Jvm.Cond.selects "java/lang/IllegalStateException" ({ cls := "java/lang/Throwable", name := "fillInStackTrace", desc := "()Ljava/lang/Throwable;" } : Jvm.MethodName) ({ cls := "java/lang/Throwable", name := "fillInStackTrace", desc := "()Ljava/lang/Throwable;" } : Jvm.MethodName)) ∈ LW := LW_mem (mt_3 (List.mem_of_getElem? (i := 75) rfl)) rfl
theorem t3_76 : (Jvm.Cond.selects "java/util/NoSuchElementException" ({ cls := "java/lang/Throwable", name := "fillInStackTrace", desc := "()Ljava/lang/Throwable;" } : Jvm.MethodName) ({ cls := "java/lang/Throwable", name := "fillInStackTrace", desc := "()Ljava/lang/Throwable;" } : Jvm.MethodName)) ∈ LW := LW_mem (mt_3 (List.mem_of_getElem? (i := 76) rfl)) rfl
theorem t3_78 : (Jvm.Cond.methodLink "java/lang/Throwable" (202 : Nat) ({ cls := "java/lang/Throwable", name := "fillInStackTrace", desc := "(I)Ljava/lang/Throwable;" } : Jvm.MethodName)) ∈ LW := LW_mem (mt_3 (List.mem_of_getElem? (i := 78) rfl)) rfl
theorem t3_80 : (Jvm.Cond.instanceMethod ({ cls := "java/lang/Throwable", name := "fillInStackTrace", desc := "(I)Ljava/lang/Throwable;" } : Jvm.MethodName)) ∈ LW := LW_mem (mt_3 (List.mem_of_getElem? (i := 80) rfl)) rfl
theorem t3_81 : (Jvm.Cond.instantiable "java/lang/Throwable" (6 : Nat)) ∈ LW := LW_mem (mt_3 (List.mem_of_getElem? (i := 81) rfl)) rfl
theorem t3_82 : (Jvm.Cond.native ({ cls := "java/lang/Throwable", name := "fillInStackTrace", desc := "(I)Ljava/lang/Throwable;" } : Jvm.MethodName)) ∈ LW := LW_mem (mt_3 (List.mem_of_getElem? (i := 82) rfl)) rfl
theorem t3_84 : (Jvm.Cond.methodLink "TrigramReaders" (368 : Nat) ({ cls := "java/lang/IndexOutOfBoundsException", name := "<init>", desc := "(Ljava/lang/String;)V" } : Jvm.MethodName)) ∈ LW := LW_mem (mt_3 (List.mem_of_getElem? (i := 84) rfl)) rfl
theorem t3_85 : (Jvm.Cond.instanceMethod ({ cls := "java/lang/IndexOutOfBoundsException", name := "<init>", desc := "(Ljava/lang/String;)V" } : Jvm.MethodName)) ∈ LW := LW_mem (mt_3 (List.mem_of_getElem? (i := 85) rfl)) rfl
theorem t3_86 : (Jvm.Cond.code ({ cls := "java/lang/IndexOutOfBoundsException", name := "<init>", desc := "(Ljava/lang/String;)V" } : Jvm.MethodName) prog_21_method_2_code (2 : Nat) (Option.none : Option Jvm.ClassFile.FieldType)) ∈ LW := LW_mem (mt_3 (List.mem_of_getElem? (i := 86) rfl)) rfl
theorem t3_87 : (Jvm.Cond.methodLink "java/lang/IndexOutOfBoundsException" (7 : Nat) ({ cls := "java/lang/RuntimeException", name := "<init>", desc := "(Ljava/lang/String;)V" } : Jvm.MethodName)) ∈ LW := LW_mem (mt_3 (List.mem_of_getElem? (i := 87) rfl)) rfl
theorem t3_88 : (Jvm.Cond.instanceMethod ({ cls := "java/lang/RuntimeException", name := "<init>", desc := "(Ljava/lang/String;)V" } : Jvm.MethodName)) ∈ LW := LW_mem (mt_3 (List.mem_of_getElem? (i := 88) rfl)) rfl
theorem t3_89 : (Jvm.Cond.code ({ cls := "java/lang/RuntimeException", name := "<init>", desc := "(Ljava/lang/String;)V" } : Jvm.MethodName) prog_25_method_2_code (2 : Nat) (Option.none : Option Jvm.ClassFile.FieldType)) ∈ LW := LW_mem (mt_3 (List.mem_of_getElem? (i := 89) rfl)) rfl
theorem t3_90 : (Jvm.Cond.methodLink "java/lang/RuntimeException" (7 : Nat) ({ cls := "java/lang/Exception", name := "<init>", desc := "(Ljava/lang/String;)V" } : Jvm.MethodName)) ∈ LW := LW_mem (mt_3 (List.mem_of_getElem? (i := 90) rfl)) rfl
theorem t3_91 : (Jvm.Cond.instanceMethod ({ cls := "java/lang/Exception", name := "<init>", desc := "(Ljava/lang/String;)V" } : Jvm.MethodName)) ∈ LW := LW_mem (mt_3 (List.mem_of_getElem? (i := 91) rfl)) rfl
theorem t3_92 : (Jvm.Cond.code ({ cls := "java/lang/Exception", name := "<init>", desc := "(Ljava/lang/String;)V" } : Jvm.MethodName) prog_18_method_2_code (2 : Nat) (Option.none : Option Jvm.ClassFile.FieldType)) ∈ LW := LW_mem (mt_3 (List.mem_of_getElem? (i := 92) rfl)) rfl
theorem t3_93 : (Jvm.Cond.methodLink "java/lang/Exception" (7 : Nat) ({ cls := "java/lang/Throwable", name := "<init>", desc := "(Ljava/lang/String;)V" } : Jvm.MethodName)) ∈ LW := LW_mem (mt_3 (List.mem_of_getElem? (i := 93) rfl)) rfl
theorem t3_94 : (Jvm.Cond.instanceMethod ({ cls := "java/lang/Throwable", name := "<init>", desc := "(Ljava/lang/String;)V" } : Jvm.MethodName)) ∈ LW := LW_mem (mt_3 (List.mem_of_getElem? (i := 94) rfl)) rfl
theorem t3_95 : (Jvm.Cond.code ({ cls := "java/lang/Throwable", name := "<init>", desc := "(Ljava/lang/String;)V" } : Jvm.MethodName) prog_31_method_2_code (2 : Nat) (Option.none : Option Jvm.ClassFile.FieldType)) ∈ LW := LW_mem (mt_3 (List.mem_of_getElem? (i := 95) rfl)) rfl
theorem t3_97 : (Jvm.Cond.fieldLink "java/lang/Throwable" (31 : Nat) "java/lang/Throwable" "detailMessage" "Ljava/lang/String;") ∈ LW := LW_mem (mt_3 (List.mem_of_getElem? (i := 97) rfl)) rfl
theorem t3_98 : (Jvm.Cond.fieldLink "java/lang/Throwable" (7 : Nat) "java/lang/Throwable" "cause" "Ljava/lang/Throwable;") ∈ LW := LW_mem (mt_3 (List.mem_of_getElem? (i := 98) rfl)) rfl
theorem t3_99 : (Jvm.Cond.fieldLink "java/lang/Throwable" (17 : Nat) "java/lang/Throwable" "stackTrace" "[Ljava/lang/StackTraceElement;") ∈ LW := LW_mem (mt_3 (List.mem_of_getElem? (i := 99) rfl)) rfl
theorem t3_100 : (Jvm.Cond.fieldLink "java/lang/Throwable" (24 : Nat) "java/lang/Throwable" "suppressedExceptions" "Ljava/util/List;") ∈ LW := LW_mem (mt_3 (List.mem_of_getElem? (i := 100) rfl)) rfl
theorem t3_105 : (Jvm.Cond.lays "java/lang/IndexOutOfBoundsException" "java/lang/Throwable" "depth" "I") ∈ LW := LW_mem (mt_3 (List.mem_of_getElem? (i := 105) rfl)) rfl
theorem t3_109 : (Jvm.Cond.methodLink "TrigramReaders" (218 : Nat) ({ cls := "TrigramReaders$Reader", name := "trainingsOn", desc := "(I)I" } : Jvm.MethodName)) ∈ LW := LW_mem (mt_3 (List.mem_of_getElem? (i := 109) rfl)) rfl
theorem t3_110 : (Jvm.Cond.instanceMethod ({ cls := "TrigramReaders$Reader", name := "trainingsOn", desc := "(I)I" } : Jvm.MethodName)) ∈ LW := LW_mem (mt_3 (List.mem_of_getElem? (i := 110) rfl)) rfl
theorem t3_111 : (Jvm.Cond.selects "TrigramReaders$Reader" ({ cls := "TrigramReaders$Reader", name := "trainingsOn", desc := "(I)I" } : Jvm.MethodName) ({ cls := "TrigramReaders$Reader", name := "trainingsOn", desc := "(I)I" } : Jvm.MethodName)) ∈ LW := LW_mem (mt_3 (List.mem_of_getElem? (i := 111) rfl)) rfl
theorem t3_112 : (Jvm.Cond.code ({ cls := "TrigramReaders$Reader", name := "trainingsOn", desc := "(I)I" } : Jvm.MethodName) prog_8_method_7_code (2 : Nat) (Option.some Jvm.ClassFile.FieldType.int)) ∈ LW := LW_mem (mt_3 (List.mem_of_getElem? (i := 112) rfl)) rfl
theorem t3_113 : (Jvm.Cond.methodLink "TrigramReaders" (170 : Nat) ({ cls := "TrigramReaders", name := "existingDocument", desc := "(I)LTrigramReaders$Document;" } : Jvm.MethodName)) ∈ LW := LW_mem (mt_3 (List.mem_of_getElem? (i := 113) rfl)) rfl
theorem t3_115 : (Jvm.Cond.instanceMethod ({ cls := "TrigramReaders", name := "existingDocument", desc := "(I)LTrigramReaders$Document;" } : Jvm.MethodName)) ∈ LW := LW_mem (mt_3 (List.mem_of_getElem? (i := 115) rfl)) rfl
theorem t3_116 : (Jvm.Cond.code ({ cls := "TrigramReaders", name := "existingDocument", desc := "(I)LTrigramReaders$Document;" } : Jvm.MethodName) prog_1_method_67_code (3 : Nat) (Option.some (Jvm.ClassFile.FieldType.object "TrigramReaders$Document"))) ∈ LW := LW_mem (mt_3 (List.mem_of_getElem? (i := 116) rfl)) rfl
theorem t3_117 : (Jvm.Cond.methodLink "TrigramReaders" (369 : Nat) ({ cls := "TrigramReaders$State", name := "documentAt", desc := "(I)LTrigramReaders$Document;" } : Jvm.MethodName)) ∈ LW := LW_mem (mt_3 (List.mem_of_getElem? (i := 117) rfl)) rfl
theorem t3_119 : (Jvm.Cond.methodLink "TrigramReadersLaw" (46 : Nat) ({ cls := "TrigramReadersLaw", name := "cell", desc := "([II)I" } : Jvm.MethodName)) ∈ LW := LW_mem (mt_3 (List.mem_of_getElem? (i := 119) rfl)) rfl
theorem t3_120 : (Jvm.Cond.static ({ cls := "TrigramReadersLaw", name := "cell", desc := "([II)I" } : Jvm.MethodName)) ∈ LW := LW_mem (mt_3 (List.mem_of_getElem? (i := 120) rfl)) rfl
theorem t3_121 : (Jvm.Cond.code ({ cls := "TrigramReadersLaw", name := "cell", desc := "([II)I" } : Jvm.MethodName) method_2_code (2 : Nat) (Option.some Jvm.ClassFile.FieldType.int)) ∈ LW := LW_mem (mt_3 (List.mem_of_getElem? (i := 121) rfl)) rfl
theorem t3_122 : (Jvm.Cond.constant "TrigramReadersLaw" (7 : Nat) (2147483647 : Int32)) ∈ LW := LW_mem (mt_3 (List.mem_of_getElem? (i := 122) rfl)) rfl
theorem t3_123 : (Jvm.Cond.methodLink "TrigramReadersLaw" (107 : Nat) ({ cls := "TrigramReadersLaw", name := "says", desc := "(LTrigramReaders;Ljava/lang/String;)V" } : Jvm.MethodName)) ∈ LW := LW_mem (mt_3 (List.mem_of_getElem? (i := 123) rfl)) rfl
theorem t3_124 : (Jvm.Cond.static ({ cls := "TrigramReadersLaw", name := "says", desc := "(LTrigramReaders;Ljava/lang/String;)V" } : Jvm.MethodName)) ∈ LW := LW_mem (mt_3 (List.mem_of_getElem? (i := 124) rfl)) rfl
theorem t3_125 : (Jvm.Cond.code ({ cls := "TrigramReadersLaw", name := "says", desc := "(LTrigramReaders;Ljava/lang/String;)V" } : Jvm.MethodName) method_3_code (5 : Nat) (Option.none : Option Jvm.ClassFile.FieldType)) ∈ LW := LW_mem (mt_3 (List.mem_of_getElem? (i := 125) rfl)) rfl
theorem t3_126 : (Jvm.Cond.methodLink "TrigramReadersLaw" (8 : Nat) ({ cls := "java/lang/String", name := "length", desc := "()I" } : Jvm.MethodName)) ∈ LW := LW_mem (mt_3 (List.mem_of_getElem? (i := 126) rfl)) rfl
theorem t3_127 : (Jvm.Cond.methodLink "TrigramReadersLaw" (14 : Nat) ({ cls := "java/lang/String", name := "charAt", desc := "(I)C" } : Jvm.MethodName)) ∈ LW := LW_mem (mt_3 (List.mem_of_getElem? (i := 127) rfl)) rfl
theorem t3_128 : (Jvm.Cond.methodLink "TrigramReadersLaw" (18 : Nat) ({ cls := "TrigramReaders", name := "appendInput", desc := "(IIIII)I" } : Jvm.MethodName)) ∈ LW := LW_mem (mt_3 (List.mem_of_getElem? (i := 128) rfl)) rfl
theorem t3_129 : (Jvm.Cond.instanceMethod ({ cls := "TrigramReaders", name := "appendInput", desc := "(IIIII)I" } : Jvm.MethodName)) ∈ LW := LW_mem (mt_3 (List.mem_of_getElem? (i := 129) rfl)) rfl
theorem t3_130 : (Jvm.Cond.selects "TrigramReaders" ({ cls := "TrigramReaders", name := "appendInput", desc := "(IIIII)I" } : Jvm.MethodName) ({ cls := "TrigramReaders", name := "appendInput", desc := "(IIIII)I" } : Jvm.MethodName)) ∈ LW := LW_mem (mt_3 (List.mem_of_getElem? (i := 130) rfl)) rfl
theorem t3_131 : (Jvm.Cond.code ({ cls := "TrigramReaders", name := "appendInput", desc := "(IIIII)I" } : Jvm.MethodName) prog_1_method_3_code (6 : Nat) (Option.some Jvm.ClassFile.FieldType.int)) ∈ LW := LW_mem (mt_3 (List.mem_of_getElem? (i := 131) rfl)) rfl
theorem t3_132 : (Jvm.Cond.classLink "TrigramReaders" (109 : Nat) "java/lang/IllegalStateException") ∈ LW := LW_mem (mt_3 (List.mem_of_getElem? (i := 132) rfl)) rfl
theorem t3_133 : (Jvm.Cond.instantiable "java/lang/IllegalStateException" (6 : Nat)) ∈ LW := LW_mem (mt_3 (List.mem_of_getElem? (i := 133) rfl)) rfl
theorem t3_135 : (Jvm.Cond.selects "java/lang/IllegalStateException" ({ cls := "java/lang/Throwable", name := "fillInStackTrace", desc := "(I)Ljava/lang/Throwable;" } : Jvm.MethodName) ({ cls := "java/lang/Throwable", name := "fillInStackTrace", desc := "(I)Ljava/lang/Throwable;" } : Jvm.MethodName)) ∈ LW := LW_mem (mt_3 (List.mem_of_getElem? (i := 135) rfl)) rfl
theorem t3_136 : (Jvm.Cond.lays "java/lang/IllegalStateException" "java/lang/Throwable" "cause" "Ljava/lang/Throwable;") ∈ LW := LW_mem (mt_3 (List.mem_of_getElem? (i := 136) rfl)) rfl
theorem t3_137 : (Jvm.Cond.lays "java/lang/IllegalStateException" "java/lang/Throwable" "stackTrace" "[Ljava/lang/StackTraceElement;") ∈ LW := LW_mem (mt_3 (List.mem_of_getElem? (i := 137) rfl)) rfl
theorem t3_138 : (Jvm.Cond.lays "java/lang/IllegalStateException" "java/lang/Throwable" "suppressedExceptions" "Ljava/util/List;") ∈ LW := LW_mem (mt_3 (List.mem_of_getElem? (i := 138) rfl)) rfl
theorem t3_139 : (Jvm.Cond.lays "java/lang/IllegalStateException" "java/lang/Throwable" "detailMessage" "Ljava/lang/String;") ∈ LW := LW_mem (mt_3 (List.mem_of_getElem? (i := 139) rfl)) rfl
theorem t3_140 : (Jvm.Cond.lays "java/lang/IllegalStateException" "java/lang/Throwable" "backtrace" "Ljava/lang/Object;") ∈ LW := LW_mem (mt_3 (List.mem_of_getElem? (i := 140) rfl)) rfl
theorem t3_142 : (Jvm.Cond.methodLink "TrigramReaders" (113 : Nat) ({ cls := "java/lang/IllegalStateException", name := "<init>", desc := "(Ljava/lang/String;)V" } : Jvm.MethodName)) ∈ LW := LW_mem (mt_3 (List.mem_of_getElem? (i := 142) rfl)) rfl
theorem t3_143 : (Jvm.Cond.instanceMethod ({ cls := "java/lang/IllegalStateException", name := "<init>", desc := "(Ljava/lang/String;)V" } : Jvm.MethodName)) ∈ LW := LW_mem (mt_3 (List.mem_of_getElem? (i := 143) rfl)) rfl
theorem t3_144 : (Jvm.Cond.code ({ cls := "java/lang/IllegalStateException", name := "<init>", desc := "(Ljava/lang/String;)V" } : Jvm.MethodName) prog_20_method_2_code (2 : Nat) (Option.none : Option Jvm.ClassFile.FieldType)) ∈ LW := LW_mem (mt_3 (List.mem_of_getElem? (i := 144) rfl)) rfl
theorem t3_145 : (Jvm.Cond.methodLink "java/lang/IllegalStateException" (7 : Nat) ({ cls := "java/lang/RuntimeException", name := "<init>", desc := "(Ljava/lang/String;)V" } : Jvm.MethodName)) ∈ LW := LW_mem (mt_3 (List.mem_of_getElem? (i := 145) rfl)) rfl
theorem t3_146 : (Jvm.Cond.lays "java/lang/IllegalStateException" "java/lang/Throwable" "depth" "I") ∈ LW := LW_mem (mt_3 (List.mem_of_getElem? (i := 146) rfl)) rfl
theorem t3_148 : (Jvm.Cond.methodLink "TrigramReaders" (116 : Nat) ({ cls := "TrigramReaders$Bytes", name := "appendFour", desc := "(I)V" } : Jvm.MethodName)) ∈ LW := LW_mem (mt_3 (List.mem_of_getElem? (i := 148) rfl)) rfl
theorem t3_149 : (Jvm.Cond.instanceMethod ({ cls := "TrigramReaders$Bytes", name := "appendFour", desc := "(I)V" } : Jvm.MethodName)) ∈ LW := LW_mem (mt_3 (List.mem_of_getElem? (i := 149) rfl)) rfl
theorem t3_150 : (Jvm.Cond.selects "TrigramReaders$Bytes" ({ cls := "TrigramReaders$Bytes", name := "appendFour", desc := "(I)V" } : Jvm.MethodName) ({ cls := "TrigramReaders$Bytes", name := "appendFour", desc := "(I)V" } : Jvm.MethodName)) ∈ LW := LW_mem (mt_3 (List.mem_of_getElem? (i := 150) rfl)) rfl
theorem t3_151 : (Jvm.Cond.code ({ cls := "TrigramReaders$Bytes", name := "appendFour", desc := "(I)V" } : Jvm.MethodName) prog_2_method_4_code (2 : Nat) (Option.none : Option Jvm.ClassFile.FieldType)) ∈ LW := LW_mem (mt_3 (List.mem_of_getElem? (i := 151) rfl)) rfl
theorem t3_152 : (Jvm.Cond.methodLink "TrigramReaders$Bytes" (19 : Nat) ({ cls := "TrigramReaders$Bytes", name := "append", desc := "(I)V" } : Jvm.MethodName)) ∈ LW := LW_mem (mt_3 (List.mem_of_getElem? (i := 152) rfl)) rfl
theorem t3_153 : (Jvm.Cond.methodLink "TrigramReadersLaw" (24 : Nat) ({ cls := "TrigramReaders", name := "truncateInput", desc := "(I)I" } : Jvm.MethodName)) ∈ LW := LW_mem (mt_3 (List.mem_of_getElem? (i := 153) rfl)) rfl
theorem t3_154 : (Jvm.Cond.instanceMethod ({ cls := "TrigramReaders", name := "truncateInput", desc := "(I)I" } : Jvm.MethodName)) ∈ LW := LW_mem (mt_3 (List.mem_of_getElem? (i := 154) rfl)) rfl
theorem t3_155 : (Jvm.Cond.selects "TrigramReaders" ({ cls := "TrigramReaders", name := "truncateInput", desc := "(I)I" } : Jvm.MethodName) ({ cls := "TrigramReaders", name := "truncateInput", desc := "(I)I" } : Jvm.MethodName)) ∈ LW := LW_mem (mt_3 (List.mem_of_getElem? (i := 155) rfl)) rfl
theorem t3_156 : (Jvm.Cond.code ({ cls := "TrigramReaders", name := "truncateInput", desc := "(I)I" } : Jvm.MethodName) prog_1_method_4_code (2 : Nat) (Option.some Jvm.ClassFile.FieldType.int)) ∈ LW := LW_mem (mt_3 (List.mem_of_getElem? (i := 156) rfl)) rfl
theorem t3_157 : (Jvm.Cond.classLink "TrigramReaders" (119 : Nat) "java/lang/IllegalArgumentException") ∈ LW := LW_mem (mt_3 (List.mem_of_getElem? (i := 157) rfl)) rfl
theorem t3_158 : (Jvm.Cond.instantiable "java/lang/IllegalArgumentException" (6 : Nat)) ∈ LW := LW_mem (mt_3 (List.mem_of_getElem? (i := 158) rfl)) rfl
theorem t3_160 : (Jvm.Cond.selects "java/lang/IllegalArgumentException" ({ cls := "java/lang/Throwable", name := "fillInStackTrace", desc := "(I)Ljava/lang/Throwable;" } : Jvm.MethodName) ({ cls := "java/lang/Throwable", name := "fillInStackTrace", desc := "(I)Ljava/lang/Throwable;" } : Jvm.MethodName)) ∈ LW := LW_mem (mt_3 (List.mem_of_getElem? (i := 160) rfl)) rfl
theorem t3_161 : (Jvm.Cond.lays "java/lang/IllegalArgumentException" "java/lang/Throwable" "cause" "Ljava/lang/Throwable;") ∈ LW := LW_mem (mt_3 (List.mem_of_getElem? (i := 161) rfl)) rfl
theorem t3_162 : (Jvm.Cond.lays "java/lang/IllegalArgumentException" "java/lang/Throwable" "stackTrace" "[Ljava/lang/StackTraceElement;") ∈ LW := LW_mem (mt_3 (List.mem_of_getElem? (i := 162) rfl)) rfl
theorem t3_163 : (Jvm.Cond.lays "java/lang/IllegalArgumentException" "java/lang/Throwable" "suppressedExceptions" "Ljava/util/List;") ∈ LW := LW_mem (mt_3 (List.mem_of_getElem? (i := 163) rfl)) rfl
theorem t3_164 : (Jvm.Cond.lays "java/lang/IllegalArgumentException" "java/lang/Throwable" "detailMessage" "Ljava/lang/String;") ∈ LW := LW_mem (mt_3 (List.mem_of_getElem? (i := 164) rfl)) rfl
theorem t3_165 : (Jvm.Cond.lays "java/lang/IllegalArgumentException" "java/lang/Throwable" "backtrace" "Ljava/lang/Object;") ∈ LW := LW_mem (mt_3 (List.mem_of_getElem? (i := 165) rfl)) rfl
theorem t3_167 : (Jvm.Cond.methodLink "TrigramReaders" (123 : Nat) ({ cls := "java/lang/IllegalArgumentException", name := "<init>", desc := "(Ljava/lang/String;)V" } : Jvm.MethodName)) ∈ LW := LW_mem (mt_3 (List.mem_of_getElem? (i := 167) rfl)) rfl
theorem t3_168 : (Jvm.Cond.instanceMethod ({ cls := "java/lang/IllegalArgumentException", name := "<init>", desc := "(Ljava/lang/String;)V" } : Jvm.MethodName)) ∈ LW := LW_mem (mt_3 (List.mem_of_getElem? (i := 168) rfl)) rfl
theorem t3_169 : (Jvm.Cond.code ({ cls := "java/lang/IllegalArgumentException", name := "<init>", desc := "(Ljava/lang/String;)V" } : Jvm.MethodName) prog_19_method_2_code (2 : Nat) (Option.none : Option Jvm.ClassFile.FieldType)) ∈ LW := LW_mem (mt_3 (List.mem_of_getElem? (i := 169) rfl)) rfl
theorem t3_170 : (Jvm.Cond.methodLink "java/lang/IllegalArgumentException" (7 : Nat) ({ cls := "java/lang/RuntimeException", name := "<init>", desc := "(Ljava/lang/String;)V" } : Jvm.MethodName)) ∈ LW := LW_mem (mt_3 (List.mem_of_getElem? (i := 170) rfl)) rfl
theorem t3_171 : (Jvm.Cond.lays "java/lang/IllegalArgumentException" "java/lang/Throwable" "depth" "I") ∈ LW := LW_mem (mt_3 (List.mem_of_getElem? (i := 171) rfl)) rfl
theorem t3_173 : (Jvm.Cond.methodLink "TrigramReadersLaw" (111 : Nat) ({ cls := "TrigramReadersLaw", name := "loaded", desc := "(LTrigramReaders;)I" } : Jvm.MethodName)) ∈ LW := LW_mem (mt_3 (List.mem_of_getElem? (i := 173) rfl)) rfl
theorem t3_174 : (Jvm.Cond.static ({ cls := "TrigramReadersLaw", name := "loaded", desc := "(LTrigramReaders;)I" } : Jvm.MethodName)) ∈ LW := LW_mem (mt_3 (List.mem_of_getElem? (i := 174) rfl)) rfl
theorem t3_175 : (Jvm.Cond.codeWith ({ cls := "TrigramReadersLaw", name := "loaded", desc := "(LTrigramReaders;)I" } : Jvm.MethodName) method_4_code (2 : Nat) (Option.some Jvm.ClassFile.FieldType.int) [((0 : Nat), (4 : Nat), (5 : Nat), (31 : Nat))]) ∈ LW := LW_mem (mt_3 (List.mem_of_getElem? (i := 175) rfl)) rfl
theorem t3_176 : (Jvm.Cond.classLink "TrigramReadersLaw" (31 : Nat) "java/lang/IllegalArgumentException") ∈ LW := LW_mem (mt_3 (List.mem_of_getElem? (i := 176) rfl)) rfl
theorem t3_177 : (Jvm.Cond.methodLink "TrigramReadersLaw" (28 : Nat) ({ cls := "TrigramReaders", name := "load", desc := "()I" } : Jvm.MethodName)) ∈ LW := LW_mem (mt_3 (List.mem_of_getElem? (i := 177) rfl)) rfl
theorem t3_178 : (Jvm.Cond.instanceMethod ({ cls := "TrigramReaders", name := "load", desc := "()I" } : Jvm.MethodName)) ∈ LW := LW_mem (mt_3 (List.mem_of_getElem? (i := 178) rfl)) rfl
theorem t3_179 : (Jvm.Cond.selects "TrigramReaders" ({ cls := "TrigramReaders", name := "load", desc := "()I" } : Jvm.MethodName) ({ cls := "TrigramReaders", name := "load", desc := "()I" } : Jvm.MethodName)) ∈ LW := LW_mem (mt_3 (List.mem_of_getElem? (i := 179) rfl)) rfl
theorem t3_180 : (Jvm.Cond.code ({ cls := "TrigramReaders", name := "load", desc := "()I" } : Jvm.MethodName) prog_1_method_5_code (3 : Nat) (Option.some Jvm.ClassFile.FieldType.int)) ∈ LW := LW_mem (mt_3 (List.mem_of_getElem? (i := 180) rfl)) rfl
theorem t3_181 : (Jvm.Cond.methodLink "TrigramReaders" (124 : Nat) ({ cls := "TrigramReaders$State", name := "clear", desc := "()V" } : Jvm.MethodName)) ∈ LW := LW_mem (mt_3 (List.mem_of_getElem? (i := 181) rfl)) rfl
theorem t3_182 : (Jvm.Cond.instanceMethod ({ cls := "TrigramReaders$State", name := "clear", desc := "()V" } : Jvm.MethodName)) ∈ LW := LW_mem (mt_3 (List.mem_of_getElem? (i := 182) rfl)) rfl
theorem t3_183 : (Jvm.Cond.selects "TrigramReaders$State" ({ cls := "TrigramReaders$State", name := "clear", desc := "()V" } : Jvm.MethodName) ({ cls := "TrigramReaders$State", name := "clear", desc := "()V" } : Jvm.MethodName)) ∈ LW := LW_mem (mt_3 (List.mem_of_getElem? (i := 183) rfl)) rfl
theorem t3_184 : (Jvm.Cond.code ({ cls := "TrigramReaders$State", name := "clear", desc := "()V" } : Jvm.MethodName) prog_9_method_3_code (1 : Nat) (Option.none : Option Jvm.ClassFile.FieldType)) ∈ LW := LW_mem (mt_3 (List.mem_of_getElem? (i := 184) rfl)) rfl
theorem t3_185 : (Jvm.Cond.methodLink "TrigramReaders" (127 : Nat) ({ cls := "TrigramReaders$Bytes", name := "clear", desc := "()V" } : Jvm.MethodName)) ∈ LW := LW_mem (mt_3 (List.mem_of_getElem? (i := 185) rfl)) rfl
theorem t3_186 : (Jvm.Cond.instanceMethod ({ cls := "TrigramReaders$Bytes", name := "clear", desc := "()V" } : Jvm.MethodName)) ∈ LW := LW_mem (mt_3 (List.mem_of_getElem? (i := 186) rfl)) rfl
theorem t3_187 : (Jvm.Cond.selects "TrigramReaders$Bytes" ({ cls := "TrigramReaders$Bytes", name := "clear", desc := "()V" } : Jvm.MethodName) ({ cls := "TrigramReaders$Bytes", name := "clear", desc := "()V" } : Jvm.MethodName)) ∈ LW := LW_mem (mt_3 (List.mem_of_getElem? (i := 187) rfl)) rfl
theorem t3_188 : (Jvm.Cond.code ({ cls := "TrigramReaders$Bytes", name := "clear", desc := "()V" } : Jvm.MethodName) prog_2_method_2_code (1 : Nat) (Option.none : Option Jvm.ClassFile.FieldType)) ∈ LW := LW_mem (mt_3 (List.mem_of_getElem? (i := 188) rfl)) rfl
theorem t3_190 : (Jvm.Cond.methodLink "TrigramReaders" (136 : Nat) ({ cls := "TrigramReaders", name := "remember", desc := "()V" } : Jvm.MethodName)) ∈ LW := LW_mem (mt_3 (List.mem_of_getElem? (i := 190) rfl)) rfl
theorem t3_192 : (Jvm.Cond.instanceMethod ({ cls := "TrigramReaders", name := "remember", desc := "()V" } : Jvm.MethodName)) ∈ LW := LW_mem (mt_3 (List.mem_of_getElem? (i := 192) rfl)) rfl
theorem t3_193 : (Jvm.Cond.code ({ cls := "TrigramReaders", name := "remember", desc := "()V" } : Jvm.MethodName) prog_1_method_65_code (1 : Nat) (Option.none : Option Jvm.ClassFile.FieldType)) ∈ LW := LW_mem (mt_3 (List.mem_of_getElem? (i := 193) rfl)) rfl
theorem t3_194 : (Jvm.Cond.methodLink "TrigramReaders" (139 : Nat) ({ cls := "TrigramReaders$State", name := "copyFrom", desc := "(LTrigramReaders$State;)V" } : Jvm.MethodName)) ∈ LW := LW_mem (mt_3 (List.mem_of_getElem? (i := 194) rfl)) rfl
theorem t3_195 : (Jvm.Cond.instanceMethod ({ cls := "TrigramReaders$State", name := "copyFrom", desc := "(LTrigramReaders$State;)V" } : Jvm.MethodName)) ∈ LW := LW_mem (mt_3 (List.mem_of_getElem? (i := 195) rfl)) rfl
theorem t3_196 : (Jvm.Cond.selects "TrigramReaders$State" ({ cls := "TrigramReaders$State", name := "copyFrom", desc := "(LTrigramReaders$State;)V" } : Jvm.MethodName) ({ cls := "TrigramReaders$State", name := "copyFrom", desc := "(LTrigramReaders$State;)V" } : Jvm.MethodName)) ∈ LW := LW_mem (mt_3 (List.mem_of_getElem? (i := 196) rfl)) rfl
theorem t3_197 : (Jvm.Cond.code ({ cls := "TrigramReaders$State", name := "copyFrom", desc := "(LTrigramReaders$State;)V" } : Jvm.MethodName) prog_9_method_2_code (3 : Nat) (Option.none : Option Jvm.ClassFile.FieldType)) ∈ LW := LW_mem (mt_3 (List.mem_of_getElem? (i := 197) rfl)) rfl
theorem t3_198 : (Jvm.Cond.methodLink "TrigramReaders$State" (35 : Nat) ({ cls := "TrigramReaders$Reader", name := "copyFrom", desc := "(LTrigramReaders$Reader;)V" } : Jvm.MethodName)) ∈ LW := LW_mem (mt_3 (List.mem_of_getElem? (i := 198) rfl)) rfl
theorem t3_199 : (Jvm.Cond.instanceMethod ({ cls := "TrigramReaders$Reader", name := "copyFrom", desc := "(LTrigramReaders$Reader;)V" } : Jvm.MethodName)) ∈ LW := LW_mem (mt_3 (List.mem_of_getElem? (i := 199) rfl)) rfl
theorem t3_200 : (Jvm.Cond.selects "TrigramReaders$Reader" ({ cls := "TrigramReaders$Reader", name := "copyFrom", desc := "(LTrigramReaders$Reader;)V" } : Jvm.MethodName) ({ cls := "TrigramReaders$Reader", name := "copyFrom", desc := "(LTrigramReaders$Reader;)V" } : Jvm.MethodName)) ∈ LW := LW_mem (mt_3 (List.mem_of_getElem? (i := 200) rfl)) rfl
theorem t3_201 : (Jvm.Cond.code ({ cls := "TrigramReaders$Reader", name := "copyFrom", desc := "(LTrigramReaders$Reader;)V" } : Jvm.MethodName) prog_8_method_2_code (2 : Nat) (Option.none : Option Jvm.ClassFile.FieldType)) ∈ LW := LW_mem (mt_3 (List.mem_of_getElem? (i := 201) rfl)) rfl
theorem t3_202 : (Jvm.Cond.methodLink "TrigramReaders$Reader" (35 : Nat) ({ cls := "java/lang/System", name := "arraycopy", desc := "(Ljava/lang/Object;ILjava/lang/Object;II)V" } : Jvm.MethodName)) ∈ LW := LW_mem (mt_3 (List.mem_of_getElem? (i := 202) rfl)) rfl
theorem t3_203 : (Jvm.Cond.methodLink "TrigramReaders$Reader" (41 : Nat) ({ cls := "TrigramReaders$Counts", name := "copyFrom", desc := "(LTrigramReaders$Counts;)V" } : Jvm.MethodName)) ∈ LW := LW_mem (mt_3 (List.mem_of_getElem? (i := 203) rfl)) rfl
theorem t3_204 : (Jvm.Cond.instanceMethod ({ cls := "TrigramReaders$Counts", name := "copyFrom", desc := "(LTrigramReaders$Counts;)V" } : Jvm.MethodName)) ∈ LW := LW_mem (mt_3 (List.mem_of_getElem? (i := 204) rfl)) rfl
theorem t3_205 : (Jvm.Cond.selects "TrigramReaders$Counts" ({ cls := "TrigramReaders$Counts", name := "copyFrom", desc := "(LTrigramReaders$Counts;)V" } : Jvm.MethodName) ({ cls := "TrigramReaders$Counts", name := "copyFrom", desc := "(LTrigramReaders$Counts;)V" } : Jvm.MethodName)) ∈ LW := LW_mem (mt_3 (List.mem_of_getElem? (i := 205) rfl)) rfl
theorem t3_206 : (Jvm.Cond.code ({ cls := "TrigramReaders$Counts", name := "copyFrom", desc := "(LTrigramReaders$Counts;)V" } : Jvm.MethodName) prog_4_method_2_code (2 : Nat) (Option.none : Option Jvm.ClassFile.FieldType)) ∈ LW := LW_mem (mt_3 (List.mem_of_getElem? (i := 206) rfl)) rfl
theorem t3_207 : (Jvm.Cond.methodLink "TrigramReaders$State" (39 : Nat) ({ cls := "TrigramReaders$Document", name := "copyFrom", desc := "(LTrigramReaders$Document;)V" } : Jvm.MethodName)) ∈ LW := LW_mem (mt_3 (List.mem_of_getElem? (i := 207) rfl)) rfl
theorem t3_208 : (Jvm.Cond.instanceMethod ({ cls := "TrigramReaders$Document", name := "copyFrom", desc := "(LTrigramReaders$Document;)V" } : Jvm.MethodName)) ∈ LW := LW_mem (mt_3 (List.mem_of_getElem? (i := 208) rfl)) rfl
theorem t3_209 : (Jvm.Cond.selects "TrigramReaders$Document" ({ cls := "TrigramReaders$Document", name := "copyFrom", desc := "(LTrigramReaders$Document;)V" } : Jvm.MethodName) ({ cls := "TrigramReaders$Document", name := "copyFrom", desc := "(LTrigramReaders$Document;)V" } : Jvm.MethodName)) ∈ LW := LW_mem (mt_3 (List.mem_of_getElem? (i := 209) rfl)) rfl
theorem t3_210 : (Jvm.Cond.code ({ cls := "TrigramReaders$Document", name := "copyFrom", desc := "(LTrigramReaders$Document;)V" } : Jvm.MethodName) prog_5_method_2_code (2 : Nat) (Option.none : Option Jvm.ClassFile.FieldType)) ∈ LW := LW_mem (mt_3 (List.mem_of_getElem? (i := 210) rfl)) rfl
theorem t3_211 : (Jvm.Cond.methodLink "TrigramReaders$Document" (22 : Nat) ({ cls := "java/lang/System", name := "arraycopy", desc := "(Ljava/lang/Object;ILjava/lang/Object;II)V" } : Jvm.MethodName)) ∈ LW := LW_mem (mt_3 (List.mem_of_getElem? (i := 211) rfl)) rfl
theorem t3_212 : (Jvm.Cond.methodLink "TrigramReadersLaw" (104 : Nat) ({ cls := "TrigramReadersLaw", name := "text", desc := "([I)Ljava/lang/String;" } : Jvm.MethodName)) ∈ LW := LW_mem (mt_3 (List.mem_of_getElem? (i := 212) rfl)) rfl
theorem t3_213 : (Jvm.Cond.static ({ cls := "TrigramReadersLaw", name := "text", desc := "([I)Ljava/lang/String;" } : Jvm.MethodName)) ∈ LW := LW_mem (mt_3 (List.mem_of_getElem? (i := 213) rfl)) rfl
theorem t3_214 : (Jvm.Cond.code ({ cls := "TrigramReadersLaw", name := "text", desc := "([I)Ljava/lang/String;" } : Jvm.MethodName) method_7_code (7 : Nat) (Option.some (Jvm.ClassFile.FieldType.object "java/lang/String"))) ∈ LW := LW_mem (mt_3 (List.mem_of_getElem? (i := 214) rfl)) rfl
theorem t3_215 : (Jvm.Cond.classLink "TrigramReadersLaw" (33 : Nat) "java/lang/StringBuilder") ∈ LW := LW_mem (mt_3 (List.mem_of_getElem? (i := 215) rfl)) rfl
theorem t3_216 : (Jvm.Cond.instantiable "java/lang/StringBuilder" (4 : Nat)) ∈ LW := LW_mem (mt_3 (List.mem_of_getElem? (i := 216) rfl)) rfl
theorem t3_217 : (Jvm.Cond.methodLink "TrigramReadersLaw" (35 : Nat) ({ cls := "java/lang/StringBuilder", name := "<init>", desc := "()V" } : Jvm.MethodName)) ∈ LW := LW_mem (mt_3 (List.mem_of_getElem? (i := 217) rfl)) rfl
theorem t3_218 : (Jvm.Cond.instanceMethod ({ cls := "java/lang/StringBuilder", name := "<init>", desc := "()V" } : Jvm.MethodName)) ∈ LW := LW_mem (mt_3 (List.mem_of_getElem? (i := 218) rfl)) rfl
theorem t3_219 : (Jvm.Cond.code ({ cls := "java/lang/StringBuilder", name := "<init>", desc := "()V" } : Jvm.MethodName) prog_27_method_1_code (1 : Nat) (Option.none : Option Jvm.ClassFile.FieldType)) ∈ LW := LW_mem (mt_3 (List.mem_of_getElem? (i := 219) rfl)) rfl
theorem t3_220 : (Jvm.Cond.methodLink "java/lang/StringBuilder" (1 : Nat) ({ cls := "java/lang/AbstractStringBuilder", name := "<init>", desc := "(I)V" } : Jvm.MethodName)) ∈ LW := LW_mem (mt_3 (List.mem_of_getElem? (i := 220) rfl)) rfl
theorem t3_221 : (Jvm.Cond.instanceMethod ({ cls := "java/lang/AbstractStringBuilder", name := "<init>", desc := "(I)V" } : Jvm.MethodName)) ∈ LW := LW_mem (mt_3 (List.mem_of_getElem? (i := 221) rfl)) rfl
theorem t3_222 : (Jvm.Cond.code ({ cls := "java/lang/AbstractStringBuilder", name := "<init>", desc := "(I)V" } : Jvm.MethodName) prog_13_method_2_code (2 : Nat) (Option.none : Option Jvm.ClassFile.FieldType)) ∈ LW := LW_mem (mt_3 (List.mem_of_getElem? (i := 222) rfl)) rfl
theorem t3_223 : (Jvm.Cond.methodLink "java/lang/AbstractStringBuilder" (3 : Nat) ({ cls := "java/lang/Object", name := "<init>", desc := "()V" } : Jvm.MethodName)) ∈ LW := LW_mem (mt_3 (List.mem_of_getElem? (i := 223) rfl)) rfl
theorem t3_224 : (Jvm.Cond.fieldLink "java/lang/AbstractStringBuilder" (18 : Nat) "java/lang/String" "COMPACT_STRINGS" "Z") ∈ LW := LW_mem (mt_3 (List.mem_of_getElem? (i := 224) rfl)) rfl
theorem t3_225 : (Jvm.Cond.methodLink "java/lang/AbstractStringBuilder" (26 : Nat) ({ cls := "java/lang/StringUTF16", name := "newBytesFor", desc := "(I)[B" } : Jvm.MethodName)) ∈ LW := LW_mem (mt_3 (List.mem_of_getElem? (i := 225) rfl)) rfl
theorem t3_226 : (Jvm.Cond.static ({ cls := "java/lang/StringUTF16", name := "newBytesFor", desc := "(I)[B" } : Jvm.MethodName)) ∈ LW := LW_mem (mt_3 (List.mem_of_getElem? (i := 226) rfl)) rfl
theorem t3_227 : (Jvm.Cond.code ({ cls := "java/lang/StringUTF16", name := "newBytesFor", desc := "(I)[B" } : Jvm.MethodName) prog_29_method_2_code (1 : Nat) (Option.some (Jvm.ClassFile.FieldType.array Jvm.ClassFile.FieldType.byte))) ∈ LW := LW_mem (mt_3 (List.mem_of_getElem? (i := 227) rfl)) rfl
theorem t3_228 : (Jvm.Cond.methodLink "java/lang/StringUTF16" (11 : Nat) ({ cls := "java/lang/StringUTF16", name := "newBytesLength", desc := "(I)I" } : Jvm.MethodName)) ∈ LW := LW_mem (mt_3 (List.mem_of_getElem? (i := 228) rfl)) rfl
theorem t3_229 : (Jvm.Cond.static ({ cls := "java/lang/StringUTF16", name := "newBytesLength", desc := "(I)I" } : Jvm.MethodName)) ∈ LW := LW_mem (mt_3 (List.mem_of_getElem? (i := 229) rfl)) rfl
theorem t3_230 : (Jvm.Cond.code ({ cls := "java/lang/StringUTF16", name := "newBytesLength", desc := "(I)I" } : Jvm.MethodName) prog_29_method_3_code (1 : Nat) (Option.some Jvm.ClassFile.FieldType.int)) ∈ LW := LW_mem (mt_3 (List.mem_of_getElem? (i := 230) rfl)) rfl
theorem t3_231 : (Jvm.Cond.constant "java/lang/StringUTF16" (20 : Nat) (1073741823 : Int32)) ∈ LW := LW_mem (mt_3 (List.mem_of_getElem? (i := 231) rfl)) rfl
theorem t3_232 : (Jvm.Cond.fieldLink "java/lang/AbstractStringBuilder" (15 : Nat) "java/lang/AbstractStringBuilder" "value" "[B") ∈ LW := LW_mem (mt_3 (List.mem_of_getElem? (i := 232) rfl)) rfl
theorem t3_233 : (Jvm.Cond.fieldLink "java/lang/AbstractStringBuilder" (22 : Nat) "java/lang/AbstractStringBuilder" "coder" "B") ∈ LW := LW_mem (mt_3 (List.mem_of_getElem? (i := 233) rfl)) rfl
theorem t3_234 : (Jvm.Cond.fieldLink "java/lang/String" (1048 : Nat) "java/lang/AbstractStringBuilder" "maybeLatin1" "Z") ∈ LW := LW_mem (mt_3 (List.mem_of_getElem? (i := 234) rfl)) rfl
theorem t3_235 : (Jvm.Cond.fieldLink "java/lang/AbstractStringBuilder" (79 : Nat) "java/lang/AbstractStringBuilder" "count" "I") ∈ LW := LW_mem (mt_3 (List.mem_of_getElem? (i := 235) rfl)) rfl
theorem t3_236 : (Jvm.Cond.lays "java/lang/StringBuilder" "java/lang/AbstractStringBuilder" "value" "[B") ∈ LW := LW_mem (mt_3 (List.mem_of_getElem? (i := 236) rfl)) rfl
theorem t3_238 : (Jvm.Cond.lays "java/lang/StringBuilder" "java/lang/AbstractStringBuilder" "coder" "B") ∈ LW := LW_mem (mt_3 (List.mem_of_getElem? (i := 238) rfl)) rfl
theorem t4_0 : (Jvm.Cond.lays "java/lang/StringBuilder" "java/lang/AbstractStringBuilder" "maybeLatin1" "Z") ∈ LW := LW_mem (mt_4 (List.mem_of_getElem? (i := 0) rfl)) rfl
theorem t4_2 : (Jvm.Cond.lays "java/lang/StringBuilder" "java/lang/AbstractStringBuilder" "count" "I") ∈ LW := LW_mem (mt_4 (List.mem_of_getElem? (i := 2) rfl)) rfl
theorem t4_6 : (Jvm.Cond.methodLink "TrigramReadersLaw" (54 : Nat) ({ cls := "java/lang/StringBuilder", name := "append", desc := "(Ljava/lang/String;)Ljava/lang/StringBuilder;" } : Jvm.MethodName)) ∈ LW := LW_mem (mt_4 (List.mem_of_getElem? (i := 6) rfl)) rfl
theorem t4_7 : (Jvm.Cond.instanceMethod ({ cls := "java/lang/StringBuilder", name := "append", desc := "(Ljava/lang/String;)Ljava/lang/StringBuilder;" } : Jvm.MethodName)) ∈ LW := LW_mem (mt_4 (List.mem_of_getElem? (i := 7) rfl)) rfl
theorem t4_8 : (Jvm.Cond.selects "java/lang/StringBuilder" ({ cls := "java/lang/StringBuilder", name := "append", desc := "(Ljava/lang/String;)Ljava/lang/StringBuilder;" } : Jvm.MethodName) ({ cls := "java/lang/StringBuilder", name := "append", desc := "(Ljava/lang/String;)Ljava/lang/StringBuilder;" } : Jvm.MethodName)) ∈ LW := LW_mem (mt_4 (List.mem_of_getElem? (i := 8) rfl)) rfl
theorem t4_9 : (Jvm.Cond.code ({ cls := "java/lang/StringBuilder", name := "append", desc := "(Ljava/lang/String;)Ljava/lang/StringBuilder;" } : Jvm.MethodName) prog_27_method_7_code (2 : Nat) (Option.some (Jvm.ClassFile.FieldType.object "java/lang/StringBuilder"))) ∈ LW := LW_mem (mt_4 (List.mem_of_getElem? (i := 9) rfl)) rfl
theorem t4_10 : (Jvm.Cond.methodLink "java/lang/StringBuilder" (29 : Nat) ({ cls := "java/lang/AbstractStringBuilder", name := "append", desc := "(Ljava/lang/String;)Ljava/lang/AbstractStringBuilder;" } : Jvm.MethodName)) ∈ LW := LW_mem (mt_4 (List.mem_of_getElem? (i := 10) rfl)) rfl
theorem t4_11 : (Jvm.Cond.instanceMethod ({ cls := "java/lang/AbstractStringBuilder", name := "append", desc := "(Ljava/lang/String;)Ljava/lang/AbstractStringBuilder;" } : Jvm.MethodName)) ∈ LW := LW_mem (mt_4 (List.mem_of_getElem? (i := 11) rfl)) rfl
theorem t4_12 : (Jvm.Cond.code ({ cls := "java/lang/AbstractStringBuilder", name := "append", desc := "(Ljava/lang/String;)Ljava/lang/AbstractStringBuilder;" } : Jvm.MethodName) prog_13_method_22_code (3 : Nat) (Option.some (Jvm.ClassFile.FieldType.object "java/lang/AbstractStringBuilder"))) ∈ LW := LW_mem (mt_4 (List.mem_of_getElem? (i := 12) rfl)) rfl
theorem t4_13 : (Jvm.Cond.methodLink "java/lang/AbstractStringBuilder" (204 : Nat) ({ cls := "java/lang/AbstractStringBuilder", name := "appendNull", desc := "()Ljava/lang/AbstractStringBuilder;" } : Jvm.MethodName)) ∈ LW := LW_mem (mt_4 (List.mem_of_getElem? (i := 13) rfl)) rfl
theorem t4_15 : (Jvm.Cond.instanceMethod ({ cls := "java/lang/AbstractStringBuilder", name := "appendNull", desc := "()Ljava/lang/AbstractStringBuilder;" } : Jvm.MethodName)) ∈ LW := LW_mem (mt_4 (List.mem_of_getElem? (i := 15) rfl)) rfl
theorem t4_16 : (Jvm.Cond.code ({ cls := "java/lang/AbstractStringBuilder", name := "appendNull", desc := "()Ljava/lang/AbstractStringBuilder;" } : Jvm.MethodName) prog_13_method_26_code (3 : Nat) (Option.some (Jvm.ClassFile.FieldType.object "java/lang/AbstractStringBuilder"))) ∈ LW := LW_mem (mt_4 (List.mem_of_getElem? (i := 16) rfl)) rfl
theorem t4_17 : (Jvm.Cond.methodLink "java/lang/AbstractStringBuilder" (100 : Nat) ({ cls := "java/lang/AbstractStringBuilder", name := "ensureCapacityInternal", desc := "(I)V" } : Jvm.MethodName)) ∈ LW := LW_mem (mt_4 (List.mem_of_getElem? (i := 17) rfl)) rfl
theorem t4_19 : (Jvm.Cond.instanceMethod ({ cls := "java/lang/AbstractStringBuilder", name := "ensureCapacityInternal", desc := "(I)V" } : Jvm.MethodName)) ∈ LW := LW_mem (mt_4 (List.mem_of_getElem? (i := 19) rfl)) rfl
theorem t4_20 : (Jvm.Cond.code ({ cls := "java/lang/AbstractStringBuilder", name := "ensureCapacityInternal", desc := "(I)V" } : Jvm.MethodName) prog_13_method_9_code (3 : Nat) (Option.none : Option Jvm.ClassFile.FieldType)) ∈ LW := LW_mem (mt_4 (List.mem_of_getElem? (i := 20) rfl)) rfl
theorem t4_21 : (Jvm.Cond.methodLink "java/lang/AbstractStringBuilder" (104 : Nat) ({ cls := "java/lang/AbstractStringBuilder", name := "newCapacity", desc := "(I)I" } : Jvm.MethodName)) ∈ LW := LW_mem (mt_4 (List.mem_of_getElem? (i := 21) rfl)) rfl
theorem t4_23 : (Jvm.Cond.instanceMethod ({ cls := "java/lang/AbstractStringBuilder", name := "newCapacity", desc := "(I)I" } : Jvm.MethodName)) ∈ LW := LW_mem (mt_4 (List.mem_of_getElem? (i := 23) rfl)) rfl
theorem t4_24 : (Jvm.Cond.code ({ cls := "java/lang/AbstractStringBuilder", name := "newCapacity", desc := "(I)I" } : Jvm.MethodName) prog_13_method_10_code (6 : Nat) (Option.some Jvm.ClassFile.FieldType.int)) ∈ LW := LW_mem (mt_4 (List.mem_of_getElem? (i := 24) rfl)) rfl
theorem t4_25 : (Jvm.Cond.methodLink "java/lang/AbstractStringBuilder" (114 : Nat) ({ cls := "jdk/internal/util/ArraysSupport", name := "newLength", desc := "(III)I" } : Jvm.MethodName)) ∈ LW := LW_mem (mt_4 (List.mem_of_getElem? (i := 25) rfl)) rfl
theorem t4_26 : (Jvm.Cond.static ({ cls := "jdk/internal/util/ArraysSupport", name := "newLength", desc := "(III)I" } : Jvm.MethodName)) ∈ LW := LW_mem (mt_4 (List.mem_of_getElem? (i := 26) rfl)) rfl
theorem t4_27 : (Jvm.Cond.code ({ cls := "jdk/internal/util/ArraysSupport", name := "newLength", desc := "(III)I" } : Jvm.MethodName) prog_36_method_27_code (4 : Nat) (Option.some Jvm.ClassFile.FieldType.int)) ∈ LW := LW_mem (mt_4 (List.mem_of_getElem? (i := 27) rfl)) rfl
theorem t4_28 : (Jvm.Cond.methodLink "jdk/internal/util/ArraysSupport" (194 : Nat) ({ cls := "java/lang/Math", name := "max", desc := "(II)I" } : Jvm.MethodName)) ∈ LW := LW_mem (mt_4 (List.mem_of_getElem? (i := 28) rfl)) rfl
theorem t4_29 : (Jvm.Cond.static ({ cls := "java/lang/Math", name := "max", desc := "(II)I" } : Jvm.MethodName)) ∈ LW := LW_mem (mt_4 (List.mem_of_getElem? (i := 29) rfl)) rfl
theorem t4_30 : (Jvm.Cond.code ({ cls := "java/lang/Math", name := "max", desc := "(II)I" } : Jvm.MethodName) prog_23_method_65_code (2 : Nat) (Option.some Jvm.ClassFile.FieldType.int)) ∈ LW := LW_mem (mt_4 (List.mem_of_getElem? (i := 30) rfl)) rfl
theorem t4_31 : (Jvm.Cond.constant "jdk/internal/util/ArraysSupport" (200 : Nat) (2147483639 : Int32)) ∈ LW := LW_mem (mt_4 (List.mem_of_getElem? (i := 31) rfl)) rfl
theorem t4_32 : (Jvm.Cond.methodLink "jdk/internal/util/ArraysSupport" (201 : Nat) ({ cls := "jdk/internal/util/ArraysSupport", name := "hugeLength", desc := "(II)I" } : Jvm.MethodName)) ∈ LW := LW_mem (mt_4 (List.mem_of_getElem? (i := 32) rfl)) rfl
theorem t4_33 : (Jvm.Cond.static ({ cls := "jdk/internal/util/ArraysSupport", name := "hugeLength", desc := "(II)I" } : Jvm.MethodName)) ∈ LW := LW_mem (mt_4 (List.mem_of_getElem? (i := 33) rfl)) rfl
theorem t4_34 : (Jvm.Cond.code ({ cls := "jdk/internal/util/ArraysSupport", name := "hugeLength", desc := "(II)I" } : Jvm.MethodName) prog_36_method_28_code (3 : Nat) (Option.some Jvm.ClassFile.FieldType.int)) ∈ LW := LW_mem (mt_4 (List.mem_of_getElem? (i := 34) rfl)) rfl
theorem t4_35 : (Jvm.Cond.constant "java/lang/AbstractStringBuilder" (39 : Nat) (2147483647 : Int32)) ∈ LW := LW_mem (mt_4 (List.mem_of_getElem? (i := 35) rfl)) rfl
theorem t4_36 : (Jvm.Cond.methodLink "java/lang/AbstractStringBuilder" (108 : Nat) ({ cls := "java/util/Arrays", name := "copyOf", desc := "([BI)[B" } : Jvm.MethodName)) ∈ LW := LW_mem (mt_4 (List.mem_of_getElem? (i := 36) rfl)) rfl
theorem t4_37 : (Jvm.Cond.static ({ cls := "java/util/Arrays", name := "copyOf", desc := "([BI)[B" } : Jvm.MethodName)) ∈ LW := LW_mem (mt_4 (List.mem_of_getElem? (i := 37) rfl)) rfl
theorem t4_38 : (Jvm.Cond.code ({ cls := "java/util/Arrays", name := "copyOf", desc := "([BI)[B" } : Jvm.MethodName) prog_34_method_121_code (3 : Nat) (Option.some (Jvm.ClassFile.FieldType.array Jvm.ClassFile.FieldType.byte))) ∈ LW := LW_mem (mt_4 (List.mem_of_getElem? (i := 38) rfl)) rfl
theorem t4_39 : (Jvm.Cond.methodLink "java/util/Arrays" (310 : Nat) ({ cls := "[B", name := "clone", desc := "()Ljava/lang/Object;" } : Jvm.MethodName)) ∈ LW := LW_mem (mt_4 (List.mem_of_getElem? (i := 39) rfl)) rfl
theorem t4_41 : (Jvm.Cond.native ({ cls := "java/lang/Object", name := "clone", desc := "()Ljava/lang/Object;" } : Jvm.MethodName)) ∈ LW := LW_mem (mt_4 (List.mem_of_getElem? (i := 41) rfl)) rfl
theorem t4_42 : (Jvm.Cond.instanceMethod ({ cls := "java/lang/Object", name := "clone", desc := "()Ljava/lang/Object;" } : Jvm.MethodName)) ∈ LW := LW_mem (mt_4 (List.mem_of_getElem? (i := 42) rfl)) rfl
theorem t4_43 : (Jvm.Cond.selects "[B" ({ cls := "[B", name := "clone", desc := "()Ljava/lang/Object;" } : Jvm.MethodName) ({ cls := "java/lang/Object", name := "clone", desc := "()Ljava/lang/Object;" } : Jvm.MethodName)) ∈ LW := LW_mem (mt_4 (List.mem_of_getElem? (i := 43) rfl)) rfl
theorem t4_45 : (Jvm.Cond.classLink "java/util/Arrays" (311 : Nat) "[B") ∈ LW := LW_mem (mt_4 (List.mem_of_getElem? (i := 45) rfl)) rfl
theorem t4_46 : (Jvm.Cond.methodLink "java/util/Arrays" (304 : Nat) ({ cls := "java/lang/Math", name := "min", desc := "(II)I" } : Jvm.MethodName)) ∈ LW := LW_mem (mt_4 (List.mem_of_getElem? (i := 46) rfl)) rfl
theorem t4_47 : (Jvm.Cond.methodLink "java/util/Arrays" (150 : Nat) ({ cls := "java/lang/System", name := "arraycopy", desc := "(Ljava/lang/Object;ILjava/lang/Object;II)V" } : Jvm.MethodName)) ∈ LW := LW_mem (mt_4 (List.mem_of_getElem? (i := 47) rfl)) rfl
theorem t4_48 : (Jvm.Cond.methodLink "java/lang/AbstractStringBuilder" (83 : Nat) ({ cls := "java/lang/AbstractStringBuilder", name := "isLatin1", desc := "()Z" } : Jvm.MethodName)) ∈ LW := LW_mem (mt_4 (List.mem_of_getElem? (i := 48) rfl)) rfl
theorem t4_49 : (Jvm.Cond.instanceMethod ({ cls := "java/lang/AbstractStringBuilder", name := "isLatin1", desc := "()Z" } : Jvm.MethodName)) ∈ LW := LW_mem (mt_4 (List.mem_of_getElem? (i := 49) rfl)) rfl
theorem t4_51 : (Jvm.Cond.selects "java/lang/StringBuilder" ({ cls := "java/lang/AbstractStringBuilder", name := "isLatin1", desc := "()Z" } : Jvm.MethodName) ({ cls := "java/lang/AbstractStringBuilder", name := "isLatin1", desc := "()Z" } : Jvm.MethodName)) ∈ LW := LW_mem (mt_4 (List.mem_of_getElem? (i := 51) rfl)) rfl
theorem t4_52 : (Jvm.Cond.code ({ cls := "java/lang/AbstractStringBuilder", name := "isLatin1", desc := "()Z" } : Jvm.MethodName) prog_13_method_68_code (1 : Nat) (Option.some Jvm.ClassFile.FieldType.boolean)) ∈ LW := LW_mem (mt_4 (List.mem_of_getElem? (i := 52) rfl)) rfl
theorem t4_53 : (Jvm.Cond.methodLink "java/lang/AbstractStringBuilder" (226 : Nat) ({ cls := "java/lang/StringUTF16", name := "putCharsAt", desc := "([BICCCC)I" } : Jvm.MethodName)) ∈ LW := LW_mem (mt_4 (List.mem_of_getElem? (i := 53) rfl)) rfl
theorem t4_54 : (Jvm.Cond.static ({ cls := "java/lang/StringUTF16", name := "putCharsAt", desc := "([BICCCC)I" } : Jvm.MethodName)) ∈ LW := LW_mem (mt_4 (List.mem_of_getElem? (i := 54) rfl)) rfl
theorem t4_55 : (Jvm.Cond.code ({ cls := "java/lang/StringUTF16", name := "putCharsAt", desc := "([BICCCC)I" } : Jvm.MethodName) prog_29_method_81_code (7 : Nat) (Option.some Jvm.ClassFile.FieldType.int)) ∈ LW := LW_mem (mt_4 (List.mem_of_getElem? (i := 55) rfl)) rfl
theorem t4_56 : (Jvm.Cond.methodLink "java/lang/StringUTF16" (96 : Nat) ({ cls := "java/lang/StringUTF16", name := "checkBoundsBeginEnd", desc := "(II[B)V" } : Jvm.MethodName)) ∈ LW := LW_mem (mt_4 (List.mem_of_getElem? (i := 56) rfl)) rfl
theorem t4_57 : (Jvm.Cond.static ({ cls := "java/lang/StringUTF16", name := "checkBoundsBeginEnd", desc := "(II[B)V" } : Jvm.MethodName)) ∈ LW := LW_mem (mt_4 (List.mem_of_getElem? (i := 57) rfl)) rfl
theorem t4_58 : (Jvm.Cond.code ({ cls := "java/lang/StringUTF16", name := "checkBoundsBeginEnd", desc := "(II[B)V" } : Jvm.MethodName) prog_29_method_93_code (3 : Nat) (Option.none : Option Jvm.ClassFile.FieldType)) ∈ LW := LW_mem (mt_4 (List.mem_of_getElem? (i := 58) rfl)) rfl
theorem t4_59 : (Jvm.Cond.methodLink "java/lang/StringUTF16" (241 : Nat) ({ cls := "java/lang/String", name := "checkBoundsBeginEnd", desc := "(III)V" } : Jvm.MethodName)) ∈ LW := LW_mem (mt_4 (List.mem_of_getElem? (i := 59) rfl)) rfl
theorem t4_60 : (Jvm.Cond.static ({ cls := "java/lang/String", name := "checkBoundsBeginEnd", desc := "(III)V" } : Jvm.MethodName)) ∈ LW := LW_mem (mt_4 (List.mem_of_getElem? (i := 60) rfl)) rfl
theorem t4_61 : (Jvm.Cond.code ({ cls := "java/lang/String", name := "checkBoundsBeginEnd", desc := "(III)V" } : Jvm.MethodName) prog_26_method_158_code (3 : Nat) (Option.none : Option Jvm.ClassFile.FieldType)) ∈ LW := LW_mem (mt_4 (List.mem_of_getElem? (i := 61) rfl)) rfl
theorem t4_62 : (Jvm.Cond.methodLink "java/lang/String" (1062 : Nat) ({ cls := "jdk/internal/util/Preconditions", name := "checkFromToIndex", desc := "(IIILjava/util/function/BiFunction;)I" } : Jvm.MethodName)) ∈ LW := LW_mem (mt_4 (List.mem_of_getElem? (i := 62) rfl)) rfl
theorem t4_63 : (Jvm.Cond.static ({ cls := "jdk/internal/util/Preconditions", name := "checkFromToIndex", desc := "(IIILjava/util/function/BiFunction;)I" } : Jvm.MethodName)) ∈ LW := LW_mem (mt_4 (List.mem_of_getElem? (i := 63) rfl)) rfl
theorem t4_64 : (Jvm.Cond.code ({ cls := "jdk/internal/util/Preconditions", name := "checkFromToIndex", desc := "(IIILjava/util/function/BiFunction;)I" } : Jvm.MethodName) prog_37_method_12_code (4 : Nat) (Option.some Jvm.ClassFile.FieldType.int)) ∈ LW := LW_mem (mt_4 (List.mem_of_getElem? (i := 64) rfl)) rfl
theorem t4_65 : (Jvm.Cond.methodLink "java/lang/StringUTF16" (111 : Nat) ({ cls := "java/lang/StringUTF16", name := "putChar", desc := "([BII)V" } : Jvm.MethodName)) ∈ LW := LW_mem (mt_4 (List.mem_of_getElem? (i := 65) rfl)) rfl
theorem t4_66 : (Jvm.Cond.static ({ cls := "java/lang/StringUTF16", name := "putChar", desc := "([BII)V" } : Jvm.MethodName)) ∈ LW := LW_mem (mt_4 (List.mem_of_getElem? (i := 66) rfl)) rfl
theorem t4_67 : (Jvm.Cond.code ({ cls := "java/lang/StringUTF16", name := "putChar", desc := "([BII)V" } : Jvm.MethodName) prog_29_method_4_code (3 : Nat) (Option.none : Option Jvm.ClassFile.FieldType)) ∈ LW := LW_mem (mt_4 (List.mem_of_getElem? (i := 67) rfl)) rfl
theorem t4_68 : (Jvm.Cond.methodLink "java/lang/AbstractStringBuilder" (32 : Nat) ({ cls := "java/lang/String", name := "length", desc := "()I" } : Jvm.MethodName)) ∈ LW := LW_mem (mt_4 (List.mem_of_getElem? (i := 68) rfl)) rfl
theorem t4_69 : (Jvm.Cond.methodLink "java/lang/AbstractStringBuilder" (208 : Nat) ({ cls := "java/lang/AbstractStringBuilder", name := "putStringAt", desc := "(ILjava/lang/String;)V" } : Jvm.MethodName)) ∈ LW := LW_mem (mt_4 (List.mem_of_getElem? (i := 69) rfl)) rfl
theorem t4_71 : (Jvm.Cond.instanceMethod ({ cls := "java/lang/AbstractStringBuilder", name := "putStringAt", desc := "(ILjava/lang/String;)V" } : Jvm.MethodName)) ∈ LW := LW_mem (mt_4 (List.mem_of_getElem? (i := 71) rfl)) rfl
theorem t4_72 : (Jvm.Cond.code ({ cls := "java/lang/AbstractStringBuilder", name := "putStringAt", desc := "(ILjava/lang/String;)V" } : Jvm.MethodName) prog_13_method_73_code (3 : Nat) (Option.none : Option Jvm.ClassFile.FieldType)) ∈ LW := LW_mem (mt_4 (List.mem_of_getElem? (i := 72) rfl)) rfl
theorem t4_73 : (Jvm.Cond.methodLink "java/lang/AbstractStringBuilder" (397 : Nat) ({ cls := "java/lang/AbstractStringBuilder", name := "inflateIfNeededFor", desc := "(Ljava/lang/String;)V" } : Jvm.MethodName)) ∈ LW := LW_mem (mt_4 (List.mem_of_getElem? (i := 73) rfl)) rfl
theorem t4_75 : (Jvm.Cond.instanceMethod ({ cls := "java/lang/AbstractStringBuilder", name := "inflateIfNeededFor", desc := "(Ljava/lang/String;)V" } : Jvm.MethodName)) ∈ LW := LW_mem (mt_4 (List.mem_of_getElem? (i := 75) rfl)) rfl
theorem t4_76 : (Jvm.Cond.code ({ cls := "java/lang/AbstractStringBuilder", name := "inflateIfNeededFor", desc := "(Ljava/lang/String;)V" } : Jvm.MethodName) prog_13_method_71_code (2 : Nat) (Option.none : Option Jvm.ClassFile.FieldType)) ∈ LW := LW_mem (mt_4 (List.mem_of_getElem? (i := 76) rfl)) rfl
theorem t4_77 : (Jvm.Cond.methodLink "java/lang/AbstractStringBuilder" (40 : Nat) ({ cls := "java/lang/String", name := "coder", desc := "()B" } : Jvm.MethodName)) ∈ LW := LW_mem (mt_4 (List.mem_of_getElem? (i := 77) rfl)) rfl
theorem t4_78 : (Jvm.Cond.methodLink "java/lang/AbstractStringBuilder" (195 : Nat) ({ cls := "java/lang/AbstractStringBuilder", name := "inflate", desc := "()V" } : Jvm.MethodName)) ∈ LW := LW_mem (mt_4 (List.mem_of_getElem? (i := 78) rfl)) rfl
theorem t4_80 : (Jvm.Cond.instanceMethod ({ cls := "java/lang/AbstractStringBuilder", name := "inflate", desc := "()V" } : Jvm.MethodName)) ∈ LW := LW_mem (mt_4 (List.mem_of_getElem? (i := 80) rfl)) rfl
theorem t4_81 : (Jvm.Cond.code ({ cls := "java/lang/AbstractStringBuilder", name := "inflate", desc := "()V" } : Jvm.MethodName) prog_13_method_11_code (2 : Nat) (Option.none : Option Jvm.ClassFile.FieldType)) ∈ LW := LW_mem (mt_4 (List.mem_of_getElem? (i := 81) rfl)) rfl
theorem t4_82 : (Jvm.Cond.methodLink "java/lang/AbstractStringBuilder" (125 : Nat) ({ cls := "java/lang/StringLatin1", name := "inflate", desc := "([BI[BII)V" } : Jvm.MethodName)) ∈ LW := LW_mem (mt_4 (List.mem_of_getElem? (i := 82) rfl)) rfl
theorem t4_83 : (Jvm.Cond.static ({ cls := "java/lang/StringLatin1", name := "inflate", desc := "([BI[BII)V" } : Jvm.MethodName)) ∈ LW := LW_mem (mt_4 (List.mem_of_getElem? (i := 83) rfl)) rfl
theorem t4_84 : (Jvm.Cond.code ({ cls := "java/lang/StringLatin1", name := "inflate", desc := "([BI[BII)V" } : Jvm.MethodName) prog_28_method_50_code (5 : Nat) (Option.none : Option Jvm.ClassFile.FieldType)) ∈ LW := LW_mem (mt_4 (List.mem_of_getElem? (i := 84) rfl)) rfl
theorem t4_85 : (Jvm.Cond.methodLink "java/lang/StringLatin1" (240 : Nat) ({ cls := "java/lang/StringUTF16", name := "inflate", desc := "([BI[BII)V" } : Jvm.MethodName)) ∈ LW := LW_mem (mt_4 (List.mem_of_getElem? (i := 85) rfl)) rfl
theorem t4_86 : (Jvm.Cond.static ({ cls := "java/lang/StringUTF16", name := "inflate", desc := "([BI[BII)V" } : Jvm.MethodName)) ∈ LW := LW_mem (mt_4 (List.mem_of_getElem? (i := 86) rfl)) rfl
theorem t4_87 : (Jvm.Cond.code ({ cls := "java/lang/StringUTF16", name := "inflate", desc := "([BI[BII)V" } : Jvm.MethodName) prog_29_method_86_code (6 : Nat) (Option.none : Option Jvm.ClassFile.FieldType)) ∈ LW := LW_mem (mt_4 (List.mem_of_getElem? (i := 87) rfl)) rfl
theorem t4_88 : (Jvm.Cond.methodLink "java/lang/StringUTF16" (173 : Nat) ({ cls := "java/lang/StringUTF16", name := "checkBoundsOffCount", desc := "(II[B)V" } : Jvm.MethodName)) ∈ LW := LW_mem (mt_4 (List.mem_of_getElem? (i := 88) rfl)) rfl
theorem t4_89 : (Jvm.Cond.static ({ cls := "java/lang/StringUTF16", name := "checkBoundsOffCount", desc := "(II[B)V" } : Jvm.MethodName)) ∈ LW := LW_mem (mt_4 (List.mem_of_getElem? (i := 89) rfl)) rfl
theorem t4_90 : (Jvm.Cond.code ({ cls := "java/lang/StringUTF16", name := "checkBoundsOffCount", desc := "(II[B)V" } : Jvm.MethodName) prog_29_method_94_code (3 : Nat) (Option.none : Option Jvm.ClassFile.FieldType)) ∈ LW := LW_mem (mt_4 (List.mem_of_getElem? (i := 90) rfl)) rfl
theorem t4_91 : (Jvm.Cond.methodLink "java/lang/StringUTF16" (419 : Nat) ({ cls := "java/lang/String", name := "checkBoundsOffCount", desc := "(III)I" } : Jvm.MethodName)) ∈ LW := LW_mem (mt_4 (List.mem_of_getElem? (i := 91) rfl)) rfl
theorem t4_92 : (Jvm.Cond.static ({ cls := "java/lang/String", name := "checkBoundsOffCount", desc := "(III)I" } : Jvm.MethodName)) ∈ LW := LW_mem (mt_4 (List.mem_of_getElem? (i := 92) rfl)) rfl
theorem t4_93 : (Jvm.Cond.code ({ cls := "java/lang/String", name := "checkBoundsOffCount", desc := "(III)I" } : Jvm.MethodName) prog_26_method_157_code (3 : Nat) (Option.some Jvm.ClassFile.FieldType.int)) ∈ LW := LW_mem (mt_4 (List.mem_of_getElem? (i := 93) rfl)) rfl
theorem t4_94 : (Jvm.Cond.methodLink "java/lang/String" (1065 : Nat) ({ cls := "jdk/internal/util/Preconditions", name := "checkFromIndexSize", desc := "(IIILjava/util/function/BiFunction;)I" } : Jvm.MethodName)) ∈ LW := LW_mem (mt_4 (List.mem_of_getElem? (i := 94) rfl)) rfl
theorem t4_95 : (Jvm.Cond.static ({ cls := "jdk/internal/util/Preconditions", name := "checkFromIndexSize", desc := "(IIILjava/util/function/BiFunction;)I" } : Jvm.MethodName)) ∈ LW := LW_mem (mt_4 (List.mem_of_getElem? (i := 95) rfl)) rfl
theorem t4_96 : (Jvm.Cond.code ({ cls := "jdk/internal/util/Preconditions", name := "checkFromIndexSize", desc := "(IIILjava/util/function/BiFunction;)I" } : Jvm.MethodName) prog_37_method_13_code (4 : Nat) (Option.some Jvm.ClassFile.FieldType.int)) ∈ LW := LW_mem (mt_4 (List.mem_of_getElem? (i := 96) rfl)) rfl
theorem t4_97 : (Jvm.Cond.methodLink "java/lang/AbstractStringBuilder" (399 : Nat) ({ cls := "java/lang/String", name := "getBytes", desc := "([BIB)V" } : Jvm.MethodName)) ∈ LW := LW_mem (mt_4 (List.mem_of_getElem? (i := 97) rfl)) rfl
theorem t4_98 : (Jvm.Cond.instanceMethod ({ cls := "java/lang/String", name := "getBytes", desc := "([BIB)V" } : Jvm.MethodName)) ∈ LW := LW_mem (mt_4 (List.mem_of_getElem? (i := 98) rfl)) rfl
theorem t4_99 : (Jvm.Cond.selects "java/lang/String" ({ cls := "java/lang/String", name := "getBytes", desc := "([BIB)V" } : Jvm.MethodName) ({ cls := "java/lang/String", name := "getBytes", desc := "([BIB)V" } : Jvm.MethodName)) ∈ LW := LW_mem (mt_4 (List.mem_of_getElem? (i := 99) rfl)) rfl
theorem t4_100 : (Jvm.Cond.code ({ cls := "java/lang/String", name := "getBytes", desc := "([BIB)V" } : Jvm.MethodName) prog_26_method_147_code (4 : Nat) (Option.none : Option Jvm.ClassFile.FieldType)) ∈ LW := LW_mem (mt_4 (List.mem_of_getElem? (i := 100) rfl)) rfl
theorem t4_101 : (Jvm.Cond.methodLink "java/lang/String" (212 : Nat) ({ cls := "java/lang/System", name := "arraycopy", desc := "(Ljava/lang/Object;ILjava/lang/Object;II)V" } : Jvm.MethodName)) ∈ LW := LW_mem (mt_4 (List.mem_of_getElem? (i := 101) rfl)) rfl
theorem t4_102 : (Jvm.Cond.methodLink "java/lang/String" (106 : Nat) ({ cls := "java/lang/StringLatin1", name := "inflate", desc := "([BI[BII)V" } : Jvm.MethodName)) ∈ LW := LW_mem (mt_4 (List.mem_of_getElem? (i := 102) rfl)) rfl
theorem t4_104 : (Jvm.Cond.methodLink "TrigramReadersLaw" (38 : Nat) ({ cls := "java/lang/StringBuilder", name := "append", desc := "(C)Ljava/lang/StringBuilder;" } : Jvm.MethodName)) ∈ LW := LW_mem (mt_4 (List.mem_of_getElem? (i := 104) rfl)) rfl
theorem t4_105 : (Jvm.Cond.instanceMethod ({ cls := "java/lang/StringBuilder", name := "append", desc := "(C)Ljava/lang/StringBuilder;" } : Jvm.MethodName)) ∈ LW := LW_mem (mt_4 (List.mem_of_getElem? (i := 105) rfl)) rfl
theorem t4_106 : (Jvm.Cond.selects "java/lang/StringBuilder" ({ cls := "java/lang/StringBuilder", name := "append", desc := "(C)Ljava/lang/StringBuilder;" } : Jvm.MethodName) ({ cls := "java/lang/StringBuilder", name := "append", desc := "(C)Ljava/lang/StringBuilder;" } : Jvm.MethodName)) ∈ LW := LW_mem (mt_4 (List.mem_of_getElem? (i := 106) rfl)) rfl
theorem t4_107 : (Jvm.Cond.code ({ cls := "java/lang/StringBuilder", name := "append", desc := "(C)Ljava/lang/StringBuilder;" } : Jvm.MethodName) prog_27_method_14_code (2 : Nat) (Option.some (Jvm.ClassFile.FieldType.object "java/lang/StringBuilder"))) ∈ LW := LW_mem (mt_4 (List.mem_of_getElem? (i := 107) rfl)) rfl
theorem t4_108 : (Jvm.Cond.methodLink "java/lang/StringBuilder" (50 : Nat) ({ cls := "java/lang/AbstractStringBuilder", name := "append", desc := "(C)Ljava/lang/AbstractStringBuilder;" } : Jvm.MethodName)) ∈ LW := LW_mem (mt_4 (List.mem_of_getElem? (i := 108) rfl)) rfl
theorem t4_109 : (Jvm.Cond.instanceMethod ({ cls := "java/lang/AbstractStringBuilder", name := "append", desc := "(C)Ljava/lang/AbstractStringBuilder;" } : Jvm.MethodName)) ∈ LW := LW_mem (mt_4 (List.mem_of_getElem? (i := 109) rfl)) rfl
theorem t4_110 : (Jvm.Cond.code ({ cls := "java/lang/AbstractStringBuilder", name := "append", desc := "(C)Ljava/lang/AbstractStringBuilder;" } : Jvm.MethodName) prog_13_method_31_code (2 : Nat) (Option.some (Jvm.ClassFile.FieldType.object "java/lang/AbstractStringBuilder"))) ∈ LW := LW_mem (mt_4 (List.mem_of_getElem? (i := 110) rfl)) rfl
theorem t4_111 : (Jvm.Cond.methodLink "java/lang/AbstractStringBuilder" (191 : Nat) ({ cls := "java/lang/StringLatin1", name := "canEncode", desc := "(C)Z" } : Jvm.MethodName)) ∈ LW := LW_mem (mt_4 (List.mem_of_getElem? (i := 111) rfl)) rfl
theorem t4_112 : (Jvm.Cond.static ({ cls := "java/lang/StringLatin1", name := "canEncode", desc := "(C)Z" } : Jvm.MethodName)) ∈ LW := LW_mem (mt_4 (List.mem_of_getElem? (i := 112) rfl)) rfl
theorem t4_113 : (Jvm.Cond.code ({ cls := "java/lang/StringLatin1", name := "canEncode", desc := "(C)Z" } : Jvm.MethodName) prog_28_method_3_code (1 : Nat) (Option.some Jvm.ClassFile.FieldType.boolean)) ∈ LW := LW_mem (mt_4 (List.mem_of_getElem? (i := 113) rfl)) rfl
theorem t4_114 : (Jvm.Cond.methodLink "java/lang/AbstractStringBuilder" (197 : Nat) ({ cls := "java/lang/StringUTF16", name := "putCharSB", desc := "([BII)V" } : Jvm.MethodName)) ∈ LW := LW_mem (mt_4 (List.mem_of_getElem? (i := 114) rfl)) rfl
theorem t4_115 : (Jvm.Cond.static ({ cls := "java/lang/StringUTF16", name := "putCharSB", desc := "([BII)V" } : Jvm.MethodName)) ∈ LW := LW_mem (mt_4 (List.mem_of_getElem? (i := 115) rfl)) rfl
theorem t4_116 : (Jvm.Cond.code ({ cls := "java/lang/StringUTF16", name := "putCharSB", desc := "([BII)V" } : Jvm.MethodName) prog_29_method_71_code (3 : Nat) (Option.none : Option Jvm.ClassFile.FieldType)) ∈ LW := LW_mem (mt_4 (List.mem_of_getElem? (i := 116) rfl)) rfl
theorem t4_119 : (Jvm.Cond.methodLink "TrigramReadersLaw" (63 : Nat) ({ cls := "TrigramReadersLaw", name := "document", desc := "(II)[I" } : Jvm.MethodName)) ∈ LW := LW_mem (mt_4 (List.mem_of_getElem? (i := 119) rfl)) rfl
theorem t4_120 : (Jvm.Cond.static ({ cls := "TrigramReadersLaw", name := "document", desc := "(II)[I" } : Jvm.MethodName)) ∈ LW := LW_mem (mt_4 (List.mem_of_getElem? (i := 120) rfl)) rfl
theorem t4_121 : (Jvm.Cond.code ({ cls := "TrigramReadersLaw", name := "document", desc := "(II)[I" } : Jvm.MethodName) method_5_code (5 : Nat) (Option.some (Jvm.ClassFile.FieldType.array Jvm.ClassFile.FieldType.int))) ∈ LW := LW_mem (mt_4 (List.mem_of_getElem? (i := 121) rfl)) rfl
theorem t4_122 : (Jvm.Cond.methodLink "TrigramReadersLaw" (67 : Nat) ({ cls := "TrigramReadersLaw", name := "word", desc := "([I)Ljava/lang/String;" } : Jvm.MethodName)) ∈ LW := LW_mem (mt_4 (List.mem_of_getElem? (i := 122) rfl)) rfl
theorem t4_123 : (Jvm.Cond.static ({ cls := "TrigramReadersLaw", name := "word", desc := "([I)Ljava/lang/String;" } : Jvm.MethodName)) ∈ LW := LW_mem (mt_4 (List.mem_of_getElem? (i := 123) rfl)) rfl
theorem t4_124 : (Jvm.Cond.code ({ cls := "TrigramReadersLaw", name := "word", desc := "([I)Ljava/lang/String;" } : Jvm.MethodName) method_6_code (3 : Nat) (Option.some (Jvm.ClassFile.FieldType.object "java/lang/String"))) ∈ LW := LW_mem (mt_4 (List.mem_of_getElem? (i := 124) rfl)) rfl
theorem t4_126 : (Jvm.Cond.methodLink "TrigramReadersLaw" (42 : Nat) ({ cls := "java/lang/StringBuilder", name := "toString", desc := "()Ljava/lang/String;" } : Jvm.MethodName)) ∈ LW := LW_mem (mt_4 (List.mem_of_getElem? (i := 126) rfl)) rfl
theorem t4_127 : (Jvm.Cond.instanceMethod ({ cls := "java/lang/StringBuilder", name := "toString", desc := "()Ljava/lang/String;" } : Jvm.MethodName)) ∈ LW := LW_mem (mt_4 (List.mem_of_getElem? (i := 127) rfl)) rfl
theorem t4_128 : (Jvm.Cond.selects "java/lang/StringBuilder" ({ cls := "java/lang/StringBuilder", name := "toString", desc := "()Ljava/lang/String;" } : Jvm.MethodName) ({ cls := "java/lang/StringBuilder", name := "toString", desc := "()Ljava/lang/String;" } : Jvm.MethodName)) ∈ LW := LW_mem (mt_4 (List.mem_of_getElem? (i := 128) rfl)) rfl
theorem t4_129 : (Jvm.Cond.code ({ cls := "java/lang/StringBuilder", name := "toString", desc := "()Ljava/lang/String;" } : Jvm.MethodName) prog_27_method_42_code (1 : Nat) (Option.some (Jvm.ClassFile.FieldType.object "java/lang/String"))) ∈ LW := LW_mem (mt_4 (List.mem_of_getElem? (i := 129) rfl)) rfl
theorem t4_130 : (Jvm.Cond.classLink "java/lang/StringBuilder" (18 : Nat) "java/lang/String") ∈ LW := LW_mem (mt_4 (List.mem_of_getElem? (i := 130) rfl)) rfl
theorem t4_131 : (Jvm.Cond.instantiable "java/lang/String" (4 : Nat)) ∈ LW := LW_mem (mt_4 (List.mem_of_getElem? (i := 131) rfl)) rfl
theorem t4_132 : (Jvm.Cond.methodLink "java/lang/StringBuilder" (137 : Nat) ({ cls := "java/lang/String", name := "<init>", desc := "(Ljava/lang/StringBuilder;)V" } : Jvm.MethodName)) ∈ LW := LW_mem (mt_4 (List.mem_of_getElem? (i := 132) rfl)) rfl
theorem t4_133 : (Jvm.Cond.instanceMethod ({ cls := "java/lang/String", name := "<init>", desc := "(Ljava/lang/StringBuilder;)V" } : Jvm.MethodName)) ∈ LW := LW_mem (mt_4 (List.mem_of_getElem? (i := 133) rfl)) rfl
theorem t4_134 : (Jvm.Cond.code ({ cls := "java/lang/String", name := "<init>", desc := "(Ljava/lang/StringBuilder;)V" } : Jvm.MethodName) prog_26_method_53_code (2 : Nat) (Option.none : Option Jvm.ClassFile.FieldType)) ∈ LW := LW_mem (mt_4 (List.mem_of_getElem? (i := 134) rfl)) rfl
theorem t4_135 : (Jvm.Cond.methodLink "java/lang/String" (489 : Nat) ({ cls := "java/lang/String", name := "<init>", desc := "(Ljava/lang/AbstractStringBuilder;Ljava/lang/Void;)V" } : Jvm.MethodName)) ∈ LW := LW_mem (mt_4 (List.mem_of_getElem? (i := 135) rfl)) rfl
theorem t4_136 : (Jvm.Cond.instanceMethod ({ cls := "java/lang/String", name := "<init>", desc := "(Ljava/lang/AbstractStringBuilder;Ljava/lang/Void;)V" } : Jvm.MethodName)) ∈ LW := LW_mem (mt_4 (List.mem_of_getElem? (i := 136) rfl)) rfl
theorem t4_137 : (Jvm.Cond.code ({ cls := "java/lang/String", name := "<init>", desc := "(Ljava/lang/AbstractStringBuilder;Ljava/lang/Void;)V" } : Jvm.MethodName) prog_26_method_150_code (5 : Nat) (Option.none : Option Jvm.ClassFile.FieldType)) ∈ LW := LW_mem (mt_4 (List.mem_of_getElem? (i := 137) rfl)) rfl
theorem t4_138 : (Jvm.Cond.methodLink "java/lang/String" (1 : Nat) ({ cls := "java/lang/Object", name := "<init>", desc := "()V" } : Jvm.MethodName)) ∈ LW := LW_mem (mt_4 (List.mem_of_getElem? (i := 138) rfl)) rfl
theorem t4_139 : (Jvm.Cond.methodLink "java/lang/String" (552 : Nat) ({ cls := "java/lang/AbstractStringBuilder", name := "getValue", desc := "()[B" } : Jvm.MethodName)) ∈ LW := LW_mem (mt_4 (List.mem_of_getElem? (i := 139) rfl)) rfl
theorem t4_140 : (Jvm.Cond.instanceMethod ({ cls := "java/lang/AbstractStringBuilder", name := "getValue", desc := "()[B" } : Jvm.MethodName)) ∈ LW := LW_mem (mt_4 (List.mem_of_getElem? (i := 140) rfl)) rfl
theorem t4_142 : (Jvm.Cond.selects "java/lang/StringBuilder" ({ cls := "java/lang/AbstractStringBuilder", name := "getValue", desc := "()[B" } : Jvm.MethodName) ({ cls := "java/lang/AbstractStringBuilder", name := "getValue", desc := "()[B" } : Jvm.MethodName)) ∈ LW := LW_mem (mt_4 (List.mem_of_getElem? (i := 142) rfl)) rfl
theorem t4_143 : (Jvm.Cond.code ({ cls := "java/lang/AbstractStringBuilder", name := "getValue", desc := "()[B" } : Jvm.MethodName) prog_13_method_64_code (1 : Nat) (Option.some (Jvm.ClassFile.FieldType.array Jvm.ClassFile.FieldType.byte))) ∈ LW := LW_mem (mt_4 (List.mem_of_getElem? (i := 143) rfl)) rfl
theorem t4_144 : (Jvm.Cond.methodLink "java/lang/String" (549 : Nat) ({ cls := "java/lang/AbstractStringBuilder", name := "length", desc := "()I" } : Jvm.MethodName)) ∈ LW := LW_mem (mt_4 (List.mem_of_getElem? (i := 144) rfl)) rfl
theorem t4_145 : (Jvm.Cond.instanceMethod ({ cls := "java/lang/AbstractStringBuilder", name := "length", desc := "()I" } : Jvm.MethodName)) ∈ LW := LW_mem (mt_4 (List.mem_of_getElem? (i := 145) rfl)) rfl
theorem t4_147 : (Jvm.Cond.selects "java/lang/StringBuilder" ({ cls := "java/lang/AbstractStringBuilder", name := "length", desc := "()I" } : Jvm.MethodName) ({ cls := "java/lang/StringBuilder", name := "length", desc := "()I" } : Jvm.MethodName)) ∈ LW := LW_mem (mt_4 (List.mem_of_getElem? (i := 147) rfl)) rfl
theorem t4_148 : (Jvm.Cond.instanceMethod ({ cls := "java/lang/StringBuilder", name := "length", desc := "()I" } : Jvm.MethodName)) ∈ LW := LW_mem (mt_4 (List.mem_of_getElem? (i := 148) rfl)) rfl
theorem t4_149 : (Jvm.Cond.code ({ cls := "java/lang/StringBuilder", name := "length", desc := "()I" } : Jvm.MethodName) prog_27_method_93_code (1 : Nat) (Option.some Jvm.ClassFile.FieldType.int)) ∈ LW := LW_mem (mt_4 (List.mem_of_getElem? (i := 149) rfl)) rfl
theorem t4_150 : (Jvm.Cond.methodLink "java/lang/StringBuilder" (343 : Nat) ({ cls := "java/lang/AbstractStringBuilder", name := "length", desc := "()I" } : Jvm.MethodName)) ∈ LW := LW_mem (mt_4 (List.mem_of_getElem? (i := 150) rfl)) rfl
theorem t4_151 : (Jvm.Cond.code ({ cls := "java/lang/AbstractStringBuilder", name := "length", desc := "()I" } : Jvm.MethodName) prog_13_method_6_code (1 : Nat) (Option.some Jvm.ClassFile.FieldType.int)) ∈ LW := LW_mem (mt_4 (List.mem_of_getElem? (i := 151) rfl)) rfl
theorem t4_152 : (Jvm.Cond.methodLink "java/lang/String" (1047 : Nat) ({ cls := "java/lang/AbstractStringBuilder", name := "isLatin1", desc := "()Z" } : Jvm.MethodName)) ∈ LW := LW_mem (mt_4 (List.mem_of_getElem? (i := 152) rfl)) rfl
theorem t4_153 : (Jvm.Cond.methodLink "java/lang/String" (54 : Nat) ({ cls := "java/util/Arrays", name := "copyOfRange", desc := "([BII)[B" } : Jvm.MethodName)) ∈ LW := LW_mem (mt_4 (List.mem_of_getElem? (i := 153) rfl)) rfl
theorem t4_154 : (Jvm.Cond.static ({ cls := "java/util/Arrays", name := "copyOfRange", desc := "([BII)[B" } : Jvm.MethodName)) ∈ LW := LW_mem (mt_4 (List.mem_of_getElem? (i := 154) rfl)) rfl
theorem t4_155 : (Jvm.Cond.code ({ cls := "java/util/Arrays", name := "copyOfRange", desc := "([BII)[B" } : Jvm.MethodName) prog_34_method_132_code (3 : Nat) (Option.some (Jvm.ClassFile.FieldType.array Jvm.ClassFile.FieldType.byte))) ∈ LW := LW_mem (mt_4 (List.mem_of_getElem? (i := 155) rfl)) rfl
theorem t4_156 : (Jvm.Cond.methodLink "java/util/Arrays" (339 : Nat) ({ cls := "java/util/Arrays", name := "copyOfRangeByte", desc := "([BII)[B" } : Jvm.MethodName)) ∈ LW := LW_mem (mt_4 (List.mem_of_getElem? (i := 156) rfl)) rfl
theorem t4_157 : (Jvm.Cond.static ({ cls := "java/util/Arrays", name := "copyOfRangeByte", desc := "([BII)[B" } : Jvm.MethodName)) ∈ LW := LW_mem (mt_4 (List.mem_of_getElem? (i := 157) rfl)) rfl
theorem t4_158 : (Jvm.Cond.code ({ cls := "java/util/Arrays", name := "copyOfRangeByte", desc := "([BII)[B" } : Jvm.MethodName) prog_34_method_133_code (5 : Nat) (Option.some (Jvm.ClassFile.FieldType.array Jvm.ClassFile.FieldType.byte))) ∈ LW := LW_mem (mt_4 (List.mem_of_getElem? (i := 158) rfl)) rfl
theorem t4_159 : (Jvm.Cond.methodLink "java/util/Arrays" (343 : Nat) ({ cls := "java/util/Arrays", name := "checkLength", desc := "(II)V" } : Jvm.MethodName)) ∈ LW := LW_mem (mt_4 (List.mem_of_getElem? (i := 159) rfl)) rfl
theorem t4_160 : (Jvm.Cond.static ({ cls := "java/util/Arrays", name := "checkLength", desc := "(II)V" } : Jvm.MethodName)) ∈ LW := LW_mem (mt_4 (List.mem_of_getElem? (i := 160) rfl)) rfl
theorem t4_161 : (Jvm.Cond.code ({ cls := "java/util/Arrays", name := "checkLength", desc := "(II)V" } : Jvm.MethodName) prog_34_method_131_code (2 : Nat) (Option.none : Option Jvm.ClassFile.FieldType)) ∈ LW := LW_mem (mt_4 (List.mem_of_getElem? (i := 161) rfl)) rfl
theorem t4_162 : (Jvm.Cond.classLink "java/util/Arrays" (43 : Nat) "java/lang/IllegalArgumentException") ∈ LW := LW_mem (mt_4 (List.mem_of_getElem? (i := 162) rfl)) rfl
theorem t4_163 : (Jvm.Cond.classLink "java/util/Arrays" (45 : Nat) "java/lang/StringBuilder") ∈ LW := LW_mem (mt_4 (List.mem_of_getElem? (i := 163) rfl)) rfl
theorem t4_164 : (Jvm.Cond.methodLink "java/util/Arrays" (47 : Nat) ({ cls := "java/lang/StringBuilder", name := "<init>", desc := "()V" } : Jvm.MethodName)) ∈ LW := LW_mem (mt_4 (List.mem_of_getElem? (i := 164) rfl)) rfl
theorem t4_165 : (Jvm.Cond.methodLink "java/util/Arrays" (54 : Nat) ({ cls := "java/lang/StringBuilder", name := "append", desc := "(I)Ljava/lang/StringBuilder;" } : Jvm.MethodName)) ∈ LW := LW_mem (mt_4 (List.mem_of_getElem? (i := 165) rfl)) rfl
theorem t4_166 : (Jvm.Cond.instanceMethod ({ cls := "java/lang/StringBuilder", name := "append", desc := "(I)Ljava/lang/StringBuilder;" } : Jvm.MethodName)) ∈ LW := LW_mem (mt_4 (List.mem_of_getElem? (i := 166) rfl)) rfl
theorem t4_167 : (Jvm.Cond.selects "java/lang/StringBuilder" ({ cls := "java/lang/StringBuilder", name := "append", desc := "(I)Ljava/lang/StringBuilder;" } : Jvm.MethodName) ({ cls := "java/lang/StringBuilder", name := "append", desc := "(I)Ljava/lang/StringBuilder;" } : Jvm.MethodName)) ∈ LW := LW_mem (mt_4 (List.mem_of_getElem? (i := 167) rfl)) rfl
theorem t4_168 : (Jvm.Cond.code ({ cls := "java/lang/StringBuilder", name := "append", desc := "(I)Ljava/lang/StringBuilder;" } : Jvm.MethodName) prog_27_method_15_code (2 : Nat) (Option.some (Jvm.ClassFile.FieldType.object "java/lang/StringBuilder"))) ∈ LW := LW_mem (mt_4 (List.mem_of_getElem? (i := 168) rfl)) rfl
theorem t4_169 : (Jvm.Cond.methodLink "java/lang/StringBuilder" (53 : Nat) ({ cls := "java/lang/AbstractStringBuilder", name := "append", desc := "(I)Ljava/lang/AbstractStringBuilder;" } : Jvm.MethodName)) ∈ LW := LW_mem (mt_4 (List.mem_of_getElem? (i := 169) rfl)) rfl
theorem t4_170 : (Jvm.Cond.instanceMethod ({ cls := "java/lang/AbstractStringBuilder", name := "append", desc := "(I)Ljava/lang/AbstractStringBuilder;" } : Jvm.MethodName)) ∈ LW := LW_mem (mt_4 (List.mem_of_getElem? (i := 170) rfl)) rfl
theorem t4_171 : (Jvm.Cond.code ({ cls := "java/lang/AbstractStringBuilder", name := "append", desc := "(I)Ljava/lang/AbstractStringBuilder;" } : Jvm.MethodName) prog_13_method_32_code (4 : Nat) (Option.some (Jvm.ClassFile.FieldType.object "java/lang/AbstractStringBuilder"))) ∈ LW := LW_mem (mt_4 (List.mem_of_getElem? (i := 171) rfl)) rfl
theorem t4_172 : (Jvm.Cond.methodLink "java/lang/AbstractStringBuilder" (245 : Nat) ({ cls := "java/lang/Integer", name := "stringSize", desc := "(I)I" } : Jvm.MethodName)) ∈ LW := LW_mem (mt_4 (List.mem_of_getElem? (i := 172) rfl)) rfl
theorem t4_173 : (Jvm.Cond.static ({ cls := "java/lang/Integer", name := "stringSize", desc := "(I)I" } : Jvm.MethodName)) ∈ LW := LW_mem (mt_4 (List.mem_of_getElem? (i := 173) rfl)) rfl
theorem t4_174 : (Jvm.Cond.code ({ cls := "java/lang/Integer", name := "stringSize", desc := "(I)I" } : Jvm.MethodName) prog_22_method_13_code (4 : Nat) (Option.some Jvm.ClassFile.FieldType.int)) ∈ LW := LW_mem (mt_4 (List.mem_of_getElem? (i := 174) rfl)) rfl
theorem t4_175 : (Jvm.Cond.methodLink "java/lang/AbstractStringBuilder" (248 : Nat) ({ cls := "java/lang/Integer", name := "getChars", desc := "(II[B)I" } : Jvm.MethodName)) ∈ LW := LW_mem (mt_4 (List.mem_of_getElem? (i := 175) rfl)) rfl
theorem t4_176 : (Jvm.Cond.static ({ cls := "java/lang/Integer", name := "getChars", desc := "(II[B)I" } : Jvm.MethodName)) ∈ LW := LW_mem (mt_4 (List.mem_of_getElem? (i := 176) rfl)) rfl
theorem t4_177 : (Jvm.Cond.code ({ cls := "java/lang/Integer", name := "getChars", desc := "(II[B)I" } : Jvm.MethodName) prog_22_method_12_code (7 : Nat) (Option.some Jvm.ClassFile.FieldType.int)) ∈ LW := LW_mem (mt_4 (List.mem_of_getElem? (i := 177) rfl)) rfl
theorem t4_178 : (Jvm.Cond.fieldLink "java/lang/Integer" (83 : Nat) "java/lang/Integer" "DigitOnes" "[B") ∈ LW := LW_mem (mt_4 (List.mem_of_getElem? (i := 178) rfl)) rfl
theorem t4_180 : (Jvm.Cond.fieldLink "java/lang/Integer" (87 : Nat) "java/lang/Integer" "DigitTens" "[B") ∈ LW := LW_mem (mt_4 (List.mem_of_getElem? (i := 180) rfl)) rfl
theorem t4_182 : (Jvm.Cond.methodLink "java/lang/AbstractStringBuilder" (251 : Nat) ({ cls := "java/lang/StringUTF16", name := "getChars", desc := "(III[B)I" } : Jvm.MethodName)) ∈ LW := LW_mem (mt_4 (List.mem_of_getElem? (i := 182) rfl)) rfl
theorem t4_183 : (Jvm.Cond.static ({ cls := "java/lang/StringUTF16", name := "getChars", desc := "(III[B)I" } : Jvm.MethodName)) ∈ LW := LW_mem (mt_4 (List.mem_of_getElem? (i := 183) rfl)) rfl
theorem t4_184 : (Jvm.Cond.code ({ cls := "java/lang/StringUTF16", name := "getChars", desc := "(III[B)I" } : Jvm.MethodName) prog_29_method_77_code (5 : Nat) (Option.some Jvm.ClassFile.FieldType.int)) ∈ LW := LW_mem (mt_4 (List.mem_of_getElem? (i := 184) rfl)) rfl
theorem t4_185 : (Jvm.Cond.methodLink "java/lang/StringUTF16" (393 : Nat) ({ cls := "java/lang/StringUTF16", name := "getChars", desc := "(II[B)I" } : Jvm.MethodName)) ∈ LW := LW_mem (mt_4 (List.mem_of_getElem? (i := 185) rfl)) rfl
theorem t4_186 : (Jvm.Cond.static ({ cls := "java/lang/StringUTF16", name := "getChars", desc := "(II[B)I" } : Jvm.MethodName)) ∈ LW := LW_mem (mt_4 (List.mem_of_getElem? (i := 186) rfl)) rfl
theorem t4_187 : (Jvm.Cond.code ({ cls := "java/lang/StringUTF16", name := "getChars", desc := "(II[B)I" } : Jvm.MethodName) prog_29_method_89_code (7 : Nat) (Option.some Jvm.ClassFile.FieldType.int)) ∈ LW := LW_mem (mt_4 (List.mem_of_getElem? (i := 187) rfl)) rfl
theorem t4_188 : (Jvm.Cond.fieldLink "java/lang/StringUTF16" (403 : Nat) "java/lang/Integer" "DigitOnes" "[B") ∈ LW := LW_mem (mt_4 (List.mem_of_getElem? (i := 188) rfl)) rfl
theorem t4_189 : (Jvm.Cond.fieldLink "java/lang/StringUTF16" (407 : Nat) "java/lang/Integer" "DigitTens" "[B") ∈ LW := LW_mem (mt_4 (List.mem_of_getElem? (i := 189) rfl)) rfl
theorem t4_191 : (Jvm.Cond.methodLink "java/util/Arrays" (50 : Nat) ({ cls := "java/lang/StringBuilder", name := "append", desc := "(Ljava/lang/String;)Ljava/lang/StringBuilder;" } : Jvm.MethodName)) ∈ LW := LW_mem (mt_4 (List.mem_of_getElem? (i := 191) rfl)) rfl
theorem t4_192 : (Jvm.Cond.methodLink "java/util/Arrays" (61 : Nat) ({ cls := "java/lang/StringBuilder", name := "toString", desc := "()Ljava/lang/String;" } : Jvm.MethodName)) ∈ LW := LW_mem (mt_4 (List.mem_of_getElem? (i := 192) rfl)) rfl
theorem t4_193 : (Jvm.Cond.methodLink "java/util/Arrays" (65 : Nat) ({ cls := "java/lang/IllegalArgumentException", name := "<init>", desc := "(Ljava/lang/String;)V" } : Jvm.MethodName)) ∈ LW := LW_mem (mt_4 (List.mem_of_getElem? (i := 193) rfl)) rfl
theorem t4_194 : (Jvm.Cond.methodLink "java/lang/String" (1051 : Nat) ({ cls := "java/lang/StringUTF16", name := "compress", desc := "([BII)[B" } : Jvm.MethodName)) ∈ LW := LW_mem (mt_4 (List.mem_of_getElem? (i := 194) rfl)) rfl
theorem t4_195 : (Jvm.Cond.static ({ cls := "java/lang/StringUTF16", name := "compress", desc := "([BII)[B" } : Jvm.MethodName)) ∈ LW := LW_mem (mt_4 (List.mem_of_getElem? (i := 195) rfl)) rfl
theorem t4_196 : (Jvm.Cond.code ({ cls := "java/lang/StringUTF16", name := "compress", desc := "([BII)[B" } : Jvm.MethodName) prog_29_method_17_code (6 : Nat) (Option.some (Jvm.ClassFile.FieldType.array Jvm.ClassFile.FieldType.byte))) ∈ LW := LW_mem (mt_4 (List.mem_of_getElem? (i := 196) rfl)) rfl
theorem t4_197 : (Jvm.Cond.methodLink "java/lang/StringUTF16" (123 : Nat) ({ cls := "java/lang/StringUTF16", name := "compress", desc := "([BI[BII)I" } : Jvm.MethodName)) ∈ LW := LW_mem (mt_4 (List.mem_of_getElem? (i := 197) rfl)) rfl
theorem t4_198 : (Jvm.Cond.static ({ cls := "java/lang/StringUTF16", name := "compress", desc := "([BI[BII)I" } : Jvm.MethodName)) ∈ LW := LW_mem (mt_4 (List.mem_of_getElem? (i := 198) rfl)) rfl
theorem t4_199 : (Jvm.Cond.code ({ cls := "java/lang/StringUTF16", name := "compress", desc := "([BI[BII)I" } : Jvm.MethodName) prog_29_method_22_code (7 : Nat) (Option.some Jvm.ClassFile.FieldType.int)) ∈ LW := LW_mem (mt_4 (List.mem_of_getElem? (i := 199) rfl)) rfl
theorem t4_200 : (Jvm.Cond.methodLink "java/lang/StringUTF16" (126 : Nat) ({ cls := "java/util/Arrays", name := "copyOfRange", desc := "([BII)[B" } : Jvm.MethodName)) ∈ LW := LW_mem (mt_4 (List.mem_of_getElem? (i := 200) rfl)) rfl
theorem t4_201 : (Jvm.Cond.methodLink "java/lang/String" (47 : Nat) ({ cls := "java/lang/StringUTF16", name := "coderFromArrayLen", desc := "([BI)B" } : Jvm.MethodName)) ∈ LW := LW_mem (mt_4 (List.mem_of_getElem? (i := 201) rfl)) rfl
theorem t4_202 : (Jvm.Cond.static ({ cls := "java/lang/StringUTF16", name := "coderFromArrayLen", desc := "([BI)B" } : Jvm.MethodName)) ∈ LW := LW_mem (mt_4 (List.mem_of_getElem? (i := 202) rfl)) rfl
theorem t4_203 : (Jvm.Cond.code ({ cls := "java/lang/StringUTF16", name := "coderFromArrayLen", desc := "([BI)B" } : Jvm.MethodName) prog_29_method_15_code (2 : Nat) (Option.some Jvm.ClassFile.FieldType.byte)) ∈ LW := LW_mem (mt_4 (List.mem_of_getElem? (i := 203) rfl)) rfl
theorem t4_204 : (Jvm.Cond.fieldLink "java/lang/String" (9 : Nat) "java/lang/String" "value" "[B") ∈ LW := LW_mem (mt_4 (List.mem_of_getElem? (i := 204) rfl)) rfl
theorem t4_205 : (Jvm.Cond.fieldLink "java/lang/String" (15 : Nat) "java/lang/String" "coder" "B") ∈ LW := LW_mem (mt_4 (List.mem_of_getElem? (i := 205) rfl)) rfl
theorem t4_206 : (Jvm.Cond.laysFinal "java/lang/String" "java/lang/String" "value" "[B") ∈ LW := LW_mem (mt_4 (List.mem_of_getElem? (i := 206) rfl)) rfl
theorem t4_208 : (Jvm.Cond.laysFinal "java/lang/String" "java/lang/String" "coder" "B") ∈ LW := LW_mem (mt_4 (List.mem_of_getElem? (i := 208) rfl)) rfl
theorem t4_210 : (Jvm.Cond.lays "java/lang/String" "java/lang/String" "hash" "I") ∈ LW := LW_mem (mt_4 (List.mem_of_getElem? (i := 210) rfl)) rfl
theorem t4_212 : (Jvm.Cond.lays "java/lang/String" "java/lang/String" "hashIsZero" "Z") ∈ LW := LW_mem (mt_4 (List.mem_of_getElem? (i := 212) rfl)) rfl
theorem t4_217 : (Jvm.Cond.methodLink "TrigramReadersLaw" (75 : Nat) ({ cls := "java/lang/StringBuilder", name := "append", desc := "(I)Ljava/lang/StringBuilder;" } : Jvm.MethodName)) ∈ LW := LW_mem (mt_4 (List.mem_of_getElem? (i := 217) rfl)) rfl
theorem t4_218 : (Jvm.Cond.methodLink "TrigramReadersLaw" (118 : Nat) ({ cls := "TrigramReadersLaw", name := "isTold", desc := "(LTrigramReaders;I)Z" } : Jvm.MethodName)) ∈ LW := LW_mem (mt_4 (List.mem_of_getElem? (i := 218) rfl)) rfl
theorem t4_219 : (Jvm.Cond.static ({ cls := "TrigramReadersLaw", name := "isTold", desc := "(LTrigramReaders;I)Z" } : Jvm.MethodName)) ∈ LW := LW_mem (mt_4 (List.mem_of_getElem? (i := 219) rfl)) rfl
theorem t4_220 : (Jvm.Cond.code ({ cls := "TrigramReadersLaw", name := "isTold", desc := "(LTrigramReaders;I)Z" } : Jvm.MethodName) method_12_code (22 : Nat) (Option.some Jvm.ClassFile.FieldType.boolean)) ∈ LW := LW_mem (mt_4 (List.mem_of_getElem? (i := 220) rfl)) rfl
theorem t4_221 : (Jvm.Cond.methodLink "TrigramReadersLaw" (81 : Nat) ({ cls := "TrigramReaders", name := "documentCount", desc := "()I" } : Jvm.MethodName)) ∈ LW := LW_mem (mt_4 (List.mem_of_getElem? (i := 221) rfl)) rfl
theorem t4_222 : (Jvm.Cond.instanceMethod ({ cls := "TrigramReaders", name := "documentCount", desc := "()I" } : Jvm.MethodName)) ∈ LW := LW_mem (mt_4 (List.mem_of_getElem? (i := 222) rfl)) rfl
theorem t4_223 : (Jvm.Cond.selects "TrigramReaders" ({ cls := "TrigramReaders", name := "documentCount", desc := "()I" } : Jvm.MethodName) ({ cls := "TrigramReaders", name := "documentCount", desc := "()I" } : Jvm.MethodName)) ∈ LW := LW_mem (mt_4 (List.mem_of_getElem? (i := 223) rfl)) rfl
theorem t4_224 : (Jvm.Cond.code ({ cls := "TrigramReaders", name := "documentCount", desc := "()I" } : Jvm.MethodName) prog_1_method_12_code (1 : Nat) (Option.some Jvm.ClassFile.FieldType.int)) ∈ LW := LW_mem (mt_4 (List.mem_of_getElem? (i := 224) rfl)) rfl
theorem t4_225 : (Jvm.Cond.methodLink "TrigramReadersLaw" (145 : Nat) ({ cls := "TrigramReaders", name := "trainedSymbols", desc := "(I)I" } : Jvm.MethodName)) ∈ LW := LW_mem (mt_4 (List.mem_of_getElem? (i := 225) rfl)) rfl
theorem t4_226 : (Jvm.Cond.instanceMethod ({ cls := "TrigramReaders", name := "trainedSymbols", desc := "(I)I" } : Jvm.MethodName)) ∈ LW := LW_mem (mt_4 (List.mem_of_getElem? (i := 226) rfl)) rfl
theorem t4_227 : (Jvm.Cond.selects "TrigramReaders" ({ cls := "TrigramReaders", name := "trainedSymbols", desc := "(I)I" } : Jvm.MethodName) ({ cls := "TrigramReaders", name := "trainedSymbols", desc := "(I)I" } : Jvm.MethodName)) ∈ LW := LW_mem (mt_4 (List.mem_of_getElem? (i := 227) rfl)) rfl
theorem t4_228 : (Jvm.Cond.code ({ cls := "TrigramReaders", name := "trainedSymbols", desc := "(I)I" } : Jvm.MethodName) prog_1_method_24_code (2 : Nat) (Option.some Jvm.ClassFile.FieldType.int)) ∈ LW := LW_mem (mt_4 (List.mem_of_getElem? (i := 228) rfl)) rfl
theorem t4_229 : (Jvm.Cond.methodLink "TrigramReadersLaw" (148 : Nat) ({ cls := "TrigramReaders", name := "timesTrained", desc := "(II)I" } : Jvm.MethodName)) ∈ LW := LW_mem (mt_4 (List.mem_of_getElem? (i := 229) rfl)) rfl
theorem t4_230 : (Jvm.Cond.instanceMethod ({ cls := "TrigramReaders", name := "timesTrained", desc := "(II)I" } : Jvm.MethodName)) ∈ LW := LW_mem (mt_4 (List.mem_of_getElem? (i := 230) rfl)) rfl
theorem t4_231 : (Jvm.Cond.selects "TrigramReaders" ({ cls := "TrigramReaders", name := "timesTrained", desc := "(II)I" } : Jvm.MethodName) ({ cls := "TrigramReaders", name := "timesTrained", desc := "(II)I" } : Jvm.MethodName)) ∈ LW := LW_mem (mt_4 (List.mem_of_getElem? (i := 231) rfl)) rfl
theorem t4_232 : (Jvm.Cond.code ({ cls := "TrigramReaders", name := "timesTrained", desc := "(II)I" } : Jvm.MethodName) prog_1_method_23_code (4 : Nat) (Option.some Jvm.ClassFile.FieldType.int)) ∈ LW := LW_mem (mt_4 (List.mem_of_getElem? (i := 232) rfl)) rfl
theorem t4_233 : (Jvm.Cond.methodLink "TrigramReadersLaw" (151 : Nat) ({ cls := "TrigramReadersLaw", name := "counts", desc := "(LTrigramReaders;II)[I" } : Jvm.MethodName)) ∈ LW := LW_mem (mt_4 (List.mem_of_getElem? (i := 233) rfl)) rfl
theorem t4_234 : (Jvm.Cond.static ({ cls := "TrigramReadersLaw", name := "counts", desc := "(LTrigramReaders;II)[I" } : Jvm.MethodName)) ∈ LW := LW_mem (mt_4 (List.mem_of_getElem? (i := 234) rfl)) rfl
theorem t4_235 : (Jvm.Cond.code ({ cls := "TrigramReadersLaw", name := "counts", desc := "(LTrigramReaders;II)[I" } : Jvm.MethodName) method_10_code (6 : Nat) (Option.some (Jvm.ClassFile.FieldType.array Jvm.ClassFile.FieldType.int))) ∈ LW := LW_mem (mt_4 (List.mem_of_getElem? (i := 235) rfl)) rfl
theorem t4_236 : (Jvm.Cond.methodLink "TrigramReadersLaw" (128 : Nat) ({ cls := "TrigramReaders", name := "documentLength", desc := "(I)I" } : Jvm.MethodName)) ∈ LW := LW_mem (mt_4 (List.mem_of_getElem? (i := 236) rfl)) rfl
theorem t4_237 : (Jvm.Cond.instanceMethod ({ cls := "TrigramReaders", name := "documentLength", desc := "(I)I" } : Jvm.MethodName)) ∈ LW := LW_mem (mt_4 (List.mem_of_getElem? (i := 237) rfl)) rfl
theorem t4_238 : (Jvm.Cond.selects "TrigramReaders" ({ cls := "TrigramReaders", name := "documentLength", desc := "(I)I" } : Jvm.MethodName) ({ cls := "TrigramReaders", name := "documentLength", desc := "(I)I" } : Jvm.MethodName)) ∈ LW := LW_mem (mt_4 (List.mem_of_getElem? (i := 238) rfl)) rfl
theorem t4_239 : (Jvm.Cond.code ({ cls := "TrigramReaders", name := "documentLength", desc := "(I)I" } : Jvm.MethodName) prog_1_method_13_code (2 : Nat) (Option.some Jvm.ClassFile.FieldType.int)) ∈ LW := LW_mem (mt_4 (List.mem_of_getElem? (i := 239) rfl)) rfl
theorem t5_0 : (Jvm.Cond.methodLink "TrigramReadersLaw" (131 : Nat) ({ cls := "TrigramReaders", name := "documentSymbol", desc := "(II)I" } : Jvm.MethodName)) ∈ LW := LW_mem (mt_5 (List.mem_of_getElem? (i := 0) rfl)) rfl
theorem t5_1 : (Jvm.Cond.instanceMethod ({ cls := "TrigramReaders", name := "documentSymbol", desc := "(II)I" } : Jvm.MethodName)) ∈ LW := LW_mem (mt_5 (List.mem_of_getElem? (i := 1) rfl)) rfl
theorem t5_2 : (Jvm.Cond.selects "TrigramReaders" ({ cls := "TrigramReaders", name := "documentSymbol", desc := "(II)I" } : Jvm.MethodName) ({ cls := "TrigramReaders", name := "documentSymbol", desc := "(II)I" } : Jvm.MethodName)) ∈ LW := LW_mem (mt_5 (List.mem_of_getElem? (i := 2) rfl)) rfl
theorem t5_3 : (Jvm.Cond.code ({ cls := "TrigramReaders", name := "documentSymbol", desc := "(II)I" } : Jvm.MethodName) prog_1_method_14_code (4 : Nat) (Option.some Jvm.ClassFile.FieldType.int)) ∈ LW := LW_mem (mt_5 (List.mem_of_getElem? (i := 3) rfl)) rfl
theorem t5_4 : (Jvm.Cond.methodLink "TrigramReaders" (177 : Nat) ({ cls := "TrigramReaders$Document", name := "symbolAt", desc := "(I)I" } : Jvm.MethodName)) ∈ LW := LW_mem (mt_5 (List.mem_of_getElem? (i := 4) rfl)) rfl
theorem t5_5 : (Jvm.Cond.classLink "TrigramReaders" (159 : Nat) "java/util/NoSuchElementException") ∈ LW := LW_mem (mt_5 (List.mem_of_getElem? (i := 5) rfl)) rfl
theorem t5_6 : (Jvm.Cond.instantiable "java/util/NoSuchElementException" (6 : Nat)) ∈ LW := LW_mem (mt_5 (List.mem_of_getElem? (i := 6) rfl)) rfl
theorem t5_8 : (Jvm.Cond.selects "java/util/NoSuchElementException" ({ cls := "java/lang/Throwable", name := "fillInStackTrace", desc := "(I)Ljava/lang/Throwable;" } : Jvm.MethodName) ({ cls := "java/lang/Throwable", name := "fillInStackTrace", desc := "(I)Ljava/lang/Throwable;" } : Jvm.MethodName)) ∈ LW := LW_mem (mt_5 (List.mem_of_getElem? (i := 8) rfl)) rfl
theorem t5_9 : (Jvm.Cond.lays "java/util/NoSuchElementException" "java/lang/Throwable" "cause" "Ljava/lang/Throwable;") ∈ LW := LW_mem (mt_5 (List.mem_of_getElem? (i := 9) rfl)) rfl
theorem t5_10 : (Jvm.Cond.lays "java/util/NoSuchElementException" "java/lang/Throwable" "stackTrace" "[Ljava/lang/StackTraceElement;") ∈ LW := LW_mem (mt_5 (List.mem_of_getElem? (i := 10) rfl)) rfl
theorem t5_11 : (Jvm.Cond.lays "java/util/NoSuchElementException" "java/lang/Throwable" "suppressedExceptions" "Ljava/util/List;") ∈ LW := LW_mem (mt_5 (List.mem_of_getElem? (i := 11) rfl)) rfl
theorem t5_12 : (Jvm.Cond.lays "java/util/NoSuchElementException" "java/lang/Throwable" "detailMessage" "Ljava/lang/String;") ∈ LW := LW_mem (mt_5 (List.mem_of_getElem? (i := 12) rfl)) rfl
theorem t5_13 : (Jvm.Cond.lays "java/util/NoSuchElementException" "java/lang/Throwable" "backtrace" "Ljava/lang/Object;") ∈ LW := LW_mem (mt_5 (List.mem_of_getElem? (i := 13) rfl)) rfl
theorem t5_15 : (Jvm.Cond.methodLink "TrigramReaders" (163 : Nat) ({ cls := "java/util/NoSuchElementException", name := "<init>", desc := "(Ljava/lang/String;)V" } : Jvm.MethodName)) ∈ LW := LW_mem (mt_5 (List.mem_of_getElem? (i := 15) rfl)) rfl
theorem t5_16 : (Jvm.Cond.instanceMethod ({ cls := "java/util/NoSuchElementException", name := "<init>", desc := "(Ljava/lang/String;)V" } : Jvm.MethodName)) ∈ LW := LW_mem (mt_5 (List.mem_of_getElem? (i := 16) rfl)) rfl
theorem t5_17 : (Jvm.Cond.code ({ cls := "java/util/NoSuchElementException", name := "<init>", desc := "(Ljava/lang/String;)V" } : Jvm.MethodName) prog_35_method_4_code (2 : Nat) (Option.none : Option Jvm.ClassFile.FieldType)) ∈ LW := LW_mem (mt_5 (List.mem_of_getElem? (i := 17) rfl)) rfl
theorem t5_18 : (Jvm.Cond.methodLink "java/util/NoSuchElementException" (13 : Nat) ({ cls := "java/lang/RuntimeException", name := "<init>", desc := "(Ljava/lang/String;)V" } : Jvm.MethodName)) ∈ LW := LW_mem (mt_5 (List.mem_of_getElem? (i := 18) rfl)) rfl
theorem t5_19 : (Jvm.Cond.lays "java/util/NoSuchElementException" "java/lang/Throwable" "depth" "I") ∈ LW := LW_mem (mt_5 (List.mem_of_getElem? (i := 19) rfl)) rfl
theorem t5_21 : (Jvm.Cond.methodLink "TrigramReadersLaw" (134 : Nat) ({ cls := "TrigramReaders", name := "countOrder0", desc := "(II)I" } : Jvm.MethodName)) ∈ LW := LW_mem (mt_5 (List.mem_of_getElem? (i := 21) rfl)) rfl
theorem t5_22 : (Jvm.Cond.instanceMethod ({ cls := "TrigramReaders", name := "countOrder0", desc := "(II)I" } : Jvm.MethodName)) ∈ LW := LW_mem (mt_5 (List.mem_of_getElem? (i := 22) rfl)) rfl
theorem t5_23 : (Jvm.Cond.selects "TrigramReaders" ({ cls := "TrigramReaders", name := "countOrder0", desc := "(II)I" } : Jvm.MethodName) ({ cls := "TrigramReaders", name := "countOrder0", desc := "(II)I" } : Jvm.MethodName)) ∈ LW := LW_mem (mt_5 (List.mem_of_getElem? (i := 23) rfl)) rfl
theorem t5_24 : (Jvm.Cond.code ({ cls := "TrigramReaders", name := "countOrder0", desc := "(II)I" } : Jvm.MethodName) prog_1_method_16_code (4 : Nat) (Option.some Jvm.ClassFile.FieldType.int)) ∈ LW := LW_mem (mt_5 (List.mem_of_getElem? (i := 24) rfl)) rfl
theorem t5_25 : (Jvm.Cond.methodLink "TrigramReaders" (185 : Nat) ({ cls := "TrigramReaders", name := "requireSymbol", desc := "(I)V" } : Jvm.MethodName)) ∈ LW := LW_mem (mt_5 (List.mem_of_getElem? (i := 25) rfl)) rfl
theorem t5_26 : (Jvm.Cond.static ({ cls := "TrigramReaders", name := "requireSymbol", desc := "(I)V" } : Jvm.MethodName)) ∈ LW := LW_mem (mt_5 (List.mem_of_getElem? (i := 26) rfl)) rfl
theorem t5_27 : (Jvm.Cond.code ({ cls := "TrigramReaders", name := "requireSymbol", desc := "(I)V" } : Jvm.MethodName) prog_1_method_70_code (1 : Nat) (Option.none : Option Jvm.ClassFile.FieldType)) ∈ LW := LW_mem (mt_5 (List.mem_of_getElem? (i := 27) rfl)) rfl
theorem t5_28 : (Jvm.Cond.methodLink "TrigramReaders" (378 : Nat) ({ cls := "TrigramReaders", name := "isSymbol", desc := "(I)Z" } : Jvm.MethodName)) ∈ LW := LW_mem (mt_5 (List.mem_of_getElem? (i := 28) rfl)) rfl
theorem t5_29 : (Jvm.Cond.static ({ cls := "TrigramReaders", name := "isSymbol", desc := "(I)Z" } : Jvm.MethodName)) ∈ LW := LW_mem (mt_5 (List.mem_of_getElem? (i := 29) rfl)) rfl
theorem t5_30 : (Jvm.Cond.code ({ cls := "TrigramReaders", name := "isSymbol", desc := "(I)Z" } : Jvm.MethodName) prog_1_method_72_code (1 : Nat) (Option.some Jvm.ClassFile.FieldType.boolean)) ∈ LW := LW_mem (mt_5 (List.mem_of_getElem? (i := 30) rfl)) rfl
theorem t5_32 : (Jvm.Cond.methodLink "TrigramReaders" (191 : Nat) ({ cls := "TrigramReaders", name := "contextStart", desc := "(III)I" } : Jvm.MethodName)) ∈ LW := LW_mem (mt_5 (List.mem_of_getElem? (i := 32) rfl)) rfl
theorem t5_33 : (Jvm.Cond.methodLink "TrigramReaders" (195 : Nat) ({ cls := "TrigramReaders$Counts", name := "valueOf", desc := "(I)I" } : Jvm.MethodName)) ∈ LW := LW_mem (mt_5 (List.mem_of_getElem? (i := 33) rfl)) rfl
theorem t5_34 : (Jvm.Cond.instanceMethod ({ cls := "TrigramReaders$Counts", name := "valueOf", desc := "(I)I" } : Jvm.MethodName)) ∈ LW := LW_mem (mt_5 (List.mem_of_getElem? (i := 34) rfl)) rfl
theorem t5_35 : (Jvm.Cond.selects "TrigramReaders$Counts" ({ cls := "TrigramReaders$Counts", name := "valueOf", desc := "(I)I" } : Jvm.MethodName) ({ cls := "TrigramReaders$Counts", name := "valueOf", desc := "(I)I" } : Jvm.MethodName)) ∈ LW := LW_mem (mt_5 (List.mem_of_getElem? (i := 35) rfl)) rfl
theorem t5_36 : (Jvm.Cond.code ({ cls := "TrigramReaders$Counts", name := "valueOf", desc := "(I)I" } : Jvm.MethodName) prog_4_method_4_code (3 : Nat) (Option.some Jvm.ClassFile.FieldType.int)) ∈ LW := LW_mem (mt_5 (List.mem_of_getElem? (i := 36) rfl)) rfl
theorem t5_37 : (Jvm.Cond.methodLink "TrigramReadersLaw" (137 : Nat) ({ cls := "TrigramReaders", name := "countOrder1", desc := "(III)I" } : Jvm.MethodName)) ∈ LW := LW_mem (mt_5 (List.mem_of_getElem? (i := 37) rfl)) rfl
theorem t5_38 : (Jvm.Cond.instanceMethod ({ cls := "TrigramReaders", name := "countOrder1", desc := "(III)I" } : Jvm.MethodName)) ∈ LW := LW_mem (mt_5 (List.mem_of_getElem? (i := 38) rfl)) rfl
theorem t5_39 : (Jvm.Cond.selects "TrigramReaders" ({ cls := "TrigramReaders", name := "countOrder1", desc := "(III)I" } : Jvm.MethodName) ({ cls := "TrigramReaders", name := "countOrder1", desc := "(III)I" } : Jvm.MethodName)) ∈ LW := LW_mem (mt_5 (List.mem_of_getElem? (i := 39) rfl)) rfl
theorem t5_40 : (Jvm.Cond.code ({ cls := "TrigramReaders", name := "countOrder1", desc := "(III)I" } : Jvm.MethodName) prog_1_method_17_code (5 : Nat) (Option.some Jvm.ClassFile.FieldType.int)) ∈ LW := LW_mem (mt_5 (List.mem_of_getElem? (i := 40) rfl)) rfl
theorem t5_41 : (Jvm.Cond.methodLink "TrigramReadersLaw" (141 : Nat) ({ cls := "TrigramReaders", name := "countOrder2", desc := "(IIII)I" } : Jvm.MethodName)) ∈ LW := LW_mem (mt_5 (List.mem_of_getElem? (i := 41) rfl)) rfl
theorem t5_42 : (Jvm.Cond.instanceMethod ({ cls := "TrigramReaders", name := "countOrder2", desc := "(IIII)I" } : Jvm.MethodName)) ∈ LW := LW_mem (mt_5 (List.mem_of_getElem? (i := 42) rfl)) rfl
theorem t5_43 : (Jvm.Cond.selects "TrigramReaders" ({ cls := "TrigramReaders", name := "countOrder2", desc := "(IIII)I" } : Jvm.MethodName) ({ cls := "TrigramReaders", name := "countOrder2", desc := "(IIII)I" } : Jvm.MethodName)) ∈ LW := LW_mem (mt_5 (List.mem_of_getElem? (i := 43) rfl)) rfl
theorem t5_44 : (Jvm.Cond.code ({ cls := "TrigramReaders", name := "countOrder2", desc := "(IIII)I" } : Jvm.MethodName) prog_1_method_18_code (6 : Nat) (Option.some Jvm.ClassFile.FieldType.int)) ∈ LW := LW_mem (mt_5 (List.mem_of_getElem? (i := 44) rfl)) rfl
theorem t5_45 : (Jvm.Cond.methodLink "TrigramReadersLaw" (155 : Nat) ({ cls := "TrigramReadersLaw", name := "acts", desc := "(LTrigramReaders;I)I" } : Jvm.MethodName)) ∈ LW := LW_mem (mt_5 (List.mem_of_getElem? (i := 45) rfl)) rfl
theorem t5_46 : (Jvm.Cond.static ({ cls := "TrigramReadersLaw", name := "acts", desc := "(LTrigramReaders;I)I" } : Jvm.MethodName)) ∈ LW := LW_mem (mt_5 (List.mem_of_getElem? (i := 46) rfl)) rfl
theorem t5_47 : (Jvm.Cond.code ({ cls := "TrigramReadersLaw", name := "acts", desc := "(LTrigramReaders;I)I" } : Jvm.MethodName) method_8_code (6 : Nat) (Option.some Jvm.ClassFile.FieldType.int)) ∈ LW := LW_mem (mt_5 (List.mem_of_getElem? (i := 47) rfl)) rfl
theorem t5_48 : (Jvm.Cond.methodLink "TrigramReadersLaw" (84 : Nat) ({ cls := "TrigramReaders", name := "endYear", desc := "()I" } : Jvm.MethodName)) ∈ LW := LW_mem (mt_5 (List.mem_of_getElem? (i := 48) rfl)) rfl
theorem t5_49 : (Jvm.Cond.instanceMethod ({ cls := "TrigramReaders", name := "endYear", desc := "()I" } : Jvm.MethodName)) ∈ LW := LW_mem (mt_5 (List.mem_of_getElem? (i := 49) rfl)) rfl
theorem t5_50 : (Jvm.Cond.selects "TrigramReaders" ({ cls := "TrigramReaders", name := "endYear", desc := "()I" } : Jvm.MethodName) ({ cls := "TrigramReaders", name := "endYear", desc := "()I" } : Jvm.MethodName)) ∈ LW := LW_mem (mt_5 (List.mem_of_getElem? (i := 50) rfl)) rfl
theorem t5_51 : (Jvm.Cond.code ({ cls := "TrigramReaders", name := "endYear", desc := "()I" } : Jvm.MethodName) prog_1_method_55_code (1 : Nat) (Option.some Jvm.ClassFile.FieldType.int)) ∈ LW := LW_mem (mt_5 (List.mem_of_getElem? (i := 51) rfl)) rfl
theorem t5_52 : (Jvm.Cond.methodLink "TrigramReaders" (325 : Nat) ({ cls := "TrigramReaders$State", name := "passYear", desc := "()V" } : Jvm.MethodName)) ∈ LW := LW_mem (mt_5 (List.mem_of_getElem? (i := 52) rfl)) rfl
theorem t5_53 : (Jvm.Cond.methodLink "TrigramReadersLaw" (87 : Nat) ({ cls := "TrigramReaders", name := "train", desc := "(II)I" } : Jvm.MethodName)) ∈ LW := LW_mem (mt_5 (List.mem_of_getElem? (i := 53) rfl)) rfl
theorem t5_54 : (Jvm.Cond.instanceMethod ({ cls := "TrigramReaders", name := "train", desc := "(II)I" } : Jvm.MethodName)) ∈ LW := LW_mem (mt_5 (List.mem_of_getElem? (i := 54) rfl)) rfl
theorem t5_55 : (Jvm.Cond.selects "TrigramReaders" ({ cls := "TrigramReaders", name := "train", desc := "(II)I" } : Jvm.MethodName) ({ cls := "TrigramReaders", name := "train", desc := "(II)I" } : Jvm.MethodName)) ∈ LW := LW_mem (mt_5 (List.mem_of_getElem? (i := 55) rfl)) rfl
theorem t5_56 : (Jvm.Cond.code ({ cls := "TrigramReaders", name := "train", desc := "(II)I" } : Jvm.MethodName) prog_1_method_51_code (5 : Nat) (Option.some Jvm.ClassFile.FieldType.int)) ∈ LW := LW_mem (mt_5 (List.mem_of_getElem? (i := 56) rfl)) rfl
theorem t5_57 : (Jvm.Cond.methodLink "TrigramReaders" (274 : Nat) ({ cls := "TrigramReaders$Counts", name := "countDocument", desc := "(LTrigramReaders$Document;)V" } : Jvm.MethodName)) ∈ LW := LW_mem (mt_5 (List.mem_of_getElem? (i := 57) rfl)) rfl
theorem t5_58 : (Jvm.Cond.methodLink "TrigramReaders" (319 : Nat) ({ cls := "TrigramReaders$Reader", name := "recordTraining", desc := "(II)V" } : Jvm.MethodName)) ∈ LW := LW_mem (mt_5 (List.mem_of_getElem? (i := 58) rfl)) rfl
theorem t5_59 : (Jvm.Cond.methodLink "TrigramReaders" (257 : Nat) ({ cls := "TrigramReaders", name := "guessesFor", desc := "(LTrigramReaders$Counts;LTrigramReaders$Document;)I" } : Jvm.MethodName)) ∈ LW := LW_mem (mt_5 (List.mem_of_getElem? (i := 59) rfl)) rfl
theorem t5_61 : (Jvm.Cond.instanceMethod ({ cls := "TrigramReaders", name := "guessesFor", desc := "(LTrigramReaders$Counts;LTrigramReaders$Document;)I" } : Jvm.MethodName)) ∈ LW := LW_mem (mt_5 (List.mem_of_getElem? (i := 61) rfl)) rfl
theorem t5_62 : (Jvm.Cond.code ({ cls := "TrigramReaders", name := "guessesFor", desc := "(LTrigramReaders$Counts;LTrigramReaders$Document;)I" } : Jvm.MethodName) prog_1_method_81_code (5 : Nat) (Option.some Jvm.ClassFile.FieldType.int)) ∈ LW := LW_mem (mt_5 (List.mem_of_getElem? (i := 62) rfl)) rfl
theorem t5_63 : (Jvm.Cond.methodLink "TrigramReaders" (253 : Nat) ({ cls := "TrigramReaders", name := "rankOfPosition", desc := "(LTrigramReaders$Counts;LTrigramReaders$Document;I)I" } : Jvm.MethodName)) ∈ LW := LW_mem (mt_5 (List.mem_of_getElem? (i := 63) rfl)) rfl
theorem t5_65 : (Jvm.Cond.instanceMethod ({ cls := "TrigramReaders", name := "rankOfPosition", desc := "(LTrigramReaders$Counts;LTrigramReaders$Document;I)I" } : Jvm.MethodName)) ∈ LW := LW_mem (mt_5 (List.mem_of_getElem? (i := 65) rfl)) rfl
theorem t5_66 : (Jvm.Cond.code ({ cls := "TrigramReaders", name := "rankOfPosition", desc := "(LTrigramReaders$Counts;LTrigramReaders$Document;I)I" } : Jvm.MethodName) prog_1_method_80_code (4 : Nat) (Option.some Jvm.ClassFile.FieldType.int)) ∈ LW := LW_mem (mt_5 (List.mem_of_getElem? (i := 66) rfl)) rfl
theorem t5_67 : (Jvm.Cond.methodLink "TrigramReaders" (230 : Nat) ({ cls := "TrigramReaders", name := "rankIn", desc := "(LTrigramReaders$Counts;III)I" } : Jvm.MethodName)) ∈ LW := LW_mem (mt_5 (List.mem_of_getElem? (i := 67) rfl)) rfl
theorem t5_69 : (Jvm.Cond.instanceMethod ({ cls := "TrigramReaders", name := "rankIn", desc := "(LTrigramReaders$Counts;III)I" } : Jvm.MethodName)) ∈ LW := LW_mem (mt_5 (List.mem_of_getElem? (i := 69) rfl)) rfl
theorem t5_70 : (Jvm.Cond.code ({ cls := "TrigramReaders", name := "rankIn", desc := "(LTrigramReaders$Counts;III)I" } : Jvm.MethodName) prog_1_method_77_code (5 : Nat) (Option.some Jvm.ClassFile.FieldType.int)) ∈ LW := LW_mem (mt_5 (List.mem_of_getElem? (i := 70) rfl)) rfl
theorem t5_71 : (Jvm.Cond.methodLink "TrigramReaders" (386 : Nat) ({ cls := "TrigramReaders$Ranking", name := "fill", desc := "(LTrigramReaders$Counts;II)V" } : Jvm.MethodName)) ∈ LW := LW_mem (mt_5 (List.mem_of_getElem? (i := 71) rfl)) rfl
theorem t5_72 : (Jvm.Cond.instanceMethod ({ cls := "TrigramReaders$Ranking", name := "fill", desc := "(LTrigramReaders$Counts;II)V" } : Jvm.MethodName)) ∈ LW := LW_mem (mt_5 (List.mem_of_getElem? (i := 72) rfl)) rfl
theorem t5_73 : (Jvm.Cond.selects "TrigramReaders$Ranking" ({ cls := "TrigramReaders$Ranking", name := "fill", desc := "(LTrigramReaders$Counts;II)V" } : Jvm.MethodName) ({ cls := "TrigramReaders$Ranking", name := "fill", desc := "(LTrigramReaders$Counts;II)V" } : Jvm.MethodName)) ∈ LW := LW_mem (mt_5 (List.mem_of_getElem? (i := 73) rfl)) rfl
theorem t5_74 : (Jvm.Cond.code ({ cls := "TrigramReaders$Ranking", name := "fill", desc := "(LTrigramReaders$Counts;II)V" } : Jvm.MethodName) prog_7_method_2_code (6 : Nat) (Option.none : Option Jvm.ClassFile.FieldType)) ∈ LW := LW_mem (mt_5 (List.mem_of_getElem? (i := 74) rfl)) rfl
theorem t5_77 : (Jvm.Cond.methodLink "TrigramReaders$Ranking" (33 : Nat) ({ cls := "TrigramReaders$Ranking", name := "appendOrder", desc := "(LTrigramReaders$Counts;I)V" } : Jvm.MethodName)) ∈ LW := LW_mem (mt_5 (List.mem_of_getElem? (i := 77) rfl)) rfl
theorem t5_79 : (Jvm.Cond.instanceMethod ({ cls := "TrigramReaders$Ranking", name := "appendOrder", desc := "(LTrigramReaders$Counts;I)V" } : Jvm.MethodName)) ∈ LW := LW_mem (mt_5 (List.mem_of_getElem? (i := 79) rfl)) rfl
theorem t5_80 : (Jvm.Cond.code ({ cls := "TrigramReaders$Ranking", name := "appendOrder", desc := "(LTrigramReaders$Counts;I)V" } : Jvm.MethodName) prog_7_method_3_code (5 : Nat) (Option.none : Option Jvm.ClassFile.FieldType)) ∈ LW := LW_mem (mt_5 (List.mem_of_getElem? (i := 80) rfl)) rfl
theorem t5_81 : (Jvm.Cond.methodLink "TrigramReaders$Ranking" (41 : Nat) ({ cls := "TrigramReaders$Counts", name := "placeOf", desc := "(I)I" } : Jvm.MethodName)) ∈ LW := LW_mem (mt_5 (List.mem_of_getElem? (i := 81) rfl)) rfl
theorem t5_82 : (Jvm.Cond.methodLink "TrigramReaders$Ranking" (37 : Nat) ({ cls := "TrigramReaders$Ranking", name := "insert", desc := "(III)V" } : Jvm.MethodName)) ∈ LW := LW_mem (mt_5 (List.mem_of_getElem? (i := 82) rfl)) rfl
theorem t5_84 : (Jvm.Cond.instanceMethod ({ cls := "TrigramReaders$Ranking", name := "insert", desc := "(III)V" } : Jvm.MethodName)) ∈ LW := LW_mem (mt_5 (List.mem_of_getElem? (i := 84) rfl)) rfl
theorem t5_85 : (Jvm.Cond.code ({ cls := "TrigramReaders$Ranking", name := "insert", desc := "(III)V" } : Jvm.MethodName) prog_7_method_4_code (6 : Nat) (Option.none : Option Jvm.ClassFile.FieldType)) ∈ LW := LW_mem (mt_5 (List.mem_of_getElem? (i := 85) rfl)) rfl
theorem t5_86 : (Jvm.Cond.methodLink "TrigramReaders" (393 : Nat) ({ cls := "TrigramReaders$Ranking", name := "guessesUntil", desc := "(I)I" } : Jvm.MethodName)) ∈ LW := LW_mem (mt_5 (List.mem_of_getElem? (i := 86) rfl)) rfl
theorem t5_87 : (Jvm.Cond.instanceMethod ({ cls := "TrigramReaders$Ranking", name := "guessesUntil", desc := "(I)I" } : Jvm.MethodName)) ∈ LW := LW_mem (mt_5 (List.mem_of_getElem? (i := 87) rfl)) rfl
theorem t5_88 : (Jvm.Cond.selects "TrigramReaders$Ranking" ({ cls := "TrigramReaders$Ranking", name := "guessesUntil", desc := "(I)I" } : Jvm.MethodName) ({ cls := "TrigramReaders$Ranking", name := "guessesUntil", desc := "(I)I" } : Jvm.MethodName)) ∈ LW := LW_mem (mt_5 (List.mem_of_getElem? (i := 88) rfl)) rfl
theorem t5_89 : (Jvm.Cond.code ({ cls := "TrigramReaders$Ranking", name := "guessesUntil", desc := "(I)I" } : Jvm.MethodName) prog_7_method_6_code (3 : Nat) (Option.some Jvm.ClassFile.FieldType.int)) ∈ LW := LW_mem (mt_5 (List.mem_of_getElem? (i := 89) rfl)) rfl
theorem t5_90 : (Jvm.Cond.methodLink "TrigramReadersLaw" (91 : Nat) ({ cls := "TrigramReaders", name := "forget", desc := "(I)I" } : Jvm.MethodName)) ∈ LW := LW_mem (mt_5 (List.mem_of_getElem? (i := 90) rfl)) rfl
theorem t5_91 : (Jvm.Cond.instanceMethod ({ cls := "TrigramReaders", name := "forget", desc := "(I)I" } : Jvm.MethodName)) ∈ LW := LW_mem (mt_5 (List.mem_of_getElem? (i := 91) rfl)) rfl
theorem t5_92 : (Jvm.Cond.selects "TrigramReaders" ({ cls := "TrigramReaders", name := "forget", desc := "(I)I" } : Jvm.MethodName) ({ cls := "TrigramReaders", name := "forget", desc := "(I)I" } : Jvm.MethodName)) ∈ LW := LW_mem (mt_5 (List.mem_of_getElem? (i := 92) rfl)) rfl
theorem t5_93 : (Jvm.Cond.code ({ cls := "TrigramReaders", name := "forget", desc := "(I)I" } : Jvm.MethodName) prog_1_method_53_code (4 : Nat) (Option.some Jvm.ClassFile.FieldType.int)) ∈ LW := LW_mem (mt_5 (List.mem_of_getElem? (i := 93) rfl)) rfl
theorem t5_94 : (Jvm.Cond.methodLink "TrigramReaders" (322 : Nat) ({ cls := "TrigramReaders$Reader", name := "clearTrainings", desc := "()V" } : Jvm.MethodName)) ∈ LW := LW_mem (mt_5 (List.mem_of_getElem? (i := 94) rfl)) rfl
theorem t5_95 : (Jvm.Cond.methodLink "TrigramReadersLaw" (94 : Nat) ({ cls := "TrigramReaders", name := "learn", desc := "(II)I" } : Jvm.MethodName)) ∈ LW := LW_mem (mt_5 (List.mem_of_getElem? (i := 95) rfl)) rfl
theorem t5_96 : (Jvm.Cond.instanceMethod ({ cls := "TrigramReaders", name := "learn", desc := "(II)I" } : Jvm.MethodName)) ∈ LW := LW_mem (mt_5 (List.mem_of_getElem? (i := 96) rfl)) rfl
theorem t5_97 : (Jvm.Cond.selects "TrigramReaders" ({ cls := "TrigramReaders", name := "learn", desc := "(II)I" } : Jvm.MethodName) ({ cls := "TrigramReaders", name := "learn", desc := "(II)I" } : Jvm.MethodName)) ∈ LW := LW_mem (mt_5 (List.mem_of_getElem? (i := 97) rfl)) rfl
theorem t5_98 : (Jvm.Cond.code ({ cls := "TrigramReaders", name := "learn", desc := "(II)I" } : Jvm.MethodName) prog_1_method_52_code (5 : Nat) (Option.some Jvm.ClassFile.FieldType.int)) ∈ LW := LW_mem (mt_5 (List.mem_of_getElem? (i := 98) rfl)) rfl
theorem t5_99 : (Jvm.Cond.methodLink "TrigramReaders" (264 : Nat) ({ cls := "TrigramReaders", name := "guessesWhileLearning", desc := "(LTrigramReaders$Counts;LTrigramReaders$Document;)I" } : Jvm.MethodName)) ∈ LW := LW_mem (mt_5 (List.mem_of_getElem? (i := 99) rfl)) rfl
theorem t5_101 : (Jvm.Cond.instanceMethod ({ cls := "TrigramReaders", name := "guessesWhileLearning", desc := "(LTrigramReaders$Counts;LTrigramReaders$Document;)I" } : Jvm.MethodName)) ∈ LW := LW_mem (mt_5 (List.mem_of_getElem? (i := 101) rfl)) rfl
theorem t5_102 : (Jvm.Cond.code ({ cls := "TrigramReaders", name := "guessesWhileLearning", desc := "(LTrigramReaders$Counts;LTrigramReaders$Document;)I" } : Jvm.MethodName) prog_1_method_82_code (5 : Nat) (Option.some Jvm.ClassFile.FieldType.int)) ∈ LW := LW_mem (mt_5 (List.mem_of_getElem? (i := 102) rfl)) rfl
theorem t5_103 : (Jvm.Cond.methodLink "TrigramReaders" (396 : Nat) ({ cls := "TrigramReaders$Counts", name := "countPosition", desc := "(LTrigramReaders$Document;I)V" } : Jvm.MethodName)) ∈ LW := LW_mem (mt_5 (List.mem_of_getElem? (i := 103) rfl)) rfl
theorem t5_104 : (Jvm.Cond.methodLink "TrigramReadersLaw" (97 : Nat) ({ cls := "TrigramReaders", name := "setEscapeMethod", desc := "(II)I" } : Jvm.MethodName)) ∈ LW := LW_mem (mt_5 (List.mem_of_getElem? (i := 104) rfl)) rfl
theorem t5_105 : (Jvm.Cond.instanceMethod ({ cls := "TrigramReaders", name := "setEscapeMethod", desc := "(II)I" } : Jvm.MethodName)) ∈ LW := LW_mem (mt_5 (List.mem_of_getElem? (i := 105) rfl)) rfl
theorem t5_106 : (Jvm.Cond.selects "TrigramReaders" ({ cls := "TrigramReaders", name := "setEscapeMethod", desc := "(II)I" } : Jvm.MethodName) ({ cls := "TrigramReaders", name := "setEscapeMethod", desc := "(II)I" } : Jvm.MethodName)) ∈ LW := LW_mem (mt_5 (List.mem_of_getElem? (i := 106) rfl)) rfl
theorem t5_107 : (Jvm.Cond.code ({ cls := "TrigramReaders", name := "setEscapeMethod", desc := "(II)I" } : Jvm.MethodName) prog_1_method_54_code (5 : Nat) (Option.some Jvm.ClassFile.FieldType.int)) ∈ LW := LW_mem (mt_5 (List.mem_of_getElem? (i := 107) rfl)) rfl
theorem t5_108 : (Jvm.Cond.methodLink "TrigramReaders" (289 : Nat) ({ cls := "TrigramReaders", name := "requireMethod", desc := "(I)V" } : Jvm.MethodName)) ∈ LW := LW_mem (mt_5 (List.mem_of_getElem? (i := 108) rfl)) rfl
theorem t5_109 : (Jvm.Cond.static ({ cls := "TrigramReaders", name := "requireMethod", desc := "(I)V" } : Jvm.MethodName)) ∈ LW := LW_mem (mt_5 (List.mem_of_getElem? (i := 109) rfl)) rfl
theorem t5_110 : (Jvm.Cond.code ({ cls := "TrigramReaders", name := "requireMethod", desc := "(I)V" } : Jvm.MethodName) prog_1_method_69_code (1 : Nat) (Option.none : Option Jvm.ClassFile.FieldType)) ∈ LW := LW_mem (mt_5 (List.mem_of_getElem? (i := 110) rfl)) rfl
theorem t5_112 : (Jvm.Cond.methodLink "TrigramReadersLaw" (100 : Nat) ({ cls := "TrigramReaders", name := "merge", desc := "(II)I" } : Jvm.MethodName)) ∈ LW := LW_mem (mt_5 (List.mem_of_getElem? (i := 112) rfl)) rfl
theorem t5_113 : (Jvm.Cond.instanceMethod ({ cls := "TrigramReaders", name := "merge", desc := "(II)I" } : Jvm.MethodName)) ∈ LW := LW_mem (mt_5 (List.mem_of_getElem? (i := 113) rfl)) rfl
theorem t5_114 : (Jvm.Cond.selects "TrigramReaders" ({ cls := "TrigramReaders", name := "merge", desc := "(II)I" } : Jvm.MethodName) ({ cls := "TrigramReaders", name := "merge", desc := "(II)I" } : Jvm.MethodName)) ∈ LW := LW_mem (mt_5 (List.mem_of_getElem? (i := 114) rfl)) rfl
theorem t5_115 : (Jvm.Cond.code ({ cls := "TrigramReaders", name := "merge", desc := "(II)I" } : Jvm.MethodName) prog_1_method_56_code (5 : Nat) (Option.some Jvm.ClassFile.FieldType.int)) ∈ LW := LW_mem (mt_5 (List.mem_of_getElem? (i := 115) rfl)) rfl
theorem t5_117 : (Jvm.Cond.methodLink "TrigramReaders" (328 : Nat) ({ cls := "TrigramReaders$Reader", name := "takeIn", desc := "(LTrigramReaders$Reader;)V" } : Jvm.MethodName)) ∈ LW := LW_mem (mt_5 (List.mem_of_getElem? (i := 117) rfl)) rfl
theorem t5_118 : (Jvm.Cond.instanceMethod ({ cls := "TrigramReaders$Reader", name := "takeIn", desc := "(LTrigramReaders$Reader;)V" } : Jvm.MethodName)) ∈ LW := LW_mem (mt_5 (List.mem_of_getElem? (i := 118) rfl)) rfl
theorem t5_119 : (Jvm.Cond.selects "TrigramReaders$Reader" ({ cls := "TrigramReaders$Reader", name := "takeIn", desc := "(LTrigramReaders$Reader;)V" } : Jvm.MethodName) ({ cls := "TrigramReaders$Reader", name := "takeIn", desc := "(LTrigramReaders$Reader;)V" } : Jvm.MethodName)) ∈ LW := LW_mem (mt_5 (List.mem_of_getElem? (i := 119) rfl)) rfl
theorem t5_120 : (Jvm.Cond.code ({ cls := "TrigramReaders$Reader", name := "takeIn", desc := "(LTrigramReaders$Reader;)V" } : Jvm.MethodName) prog_8_method_9_code (3 : Nat) (Option.none : Option Jvm.ClassFile.FieldType)) ∈ LW := LW_mem (mt_5 (List.mem_of_getElem? (i := 120) rfl)) rfl
theorem t5_121 : (Jvm.Cond.methodLink "TrigramReaders$Reader" (60 : Nat) ({ cls := "TrigramReaders$Counts", name := "addAll", desc := "(LTrigramReaders$Counts;)V" } : Jvm.MethodName)) ∈ LW := LW_mem (mt_5 (List.mem_of_getElem? (i := 121) rfl)) rfl
theorem t5_122 : (Jvm.Cond.instanceMethod ({ cls := "TrigramReaders$Counts", name := "addAll", desc := "(LTrigramReaders$Counts;)V" } : Jvm.MethodName)) ∈ LW := LW_mem (mt_5 (List.mem_of_getElem? (i := 122) rfl)) rfl
theorem t5_123 : (Jvm.Cond.selects "TrigramReaders$Counts" ({ cls := "TrigramReaders$Counts", name := "addAll", desc := "(LTrigramReaders$Counts;)V" } : Jvm.MethodName) ({ cls := "TrigramReaders$Counts", name := "addAll", desc := "(LTrigramReaders$Counts;)V" } : Jvm.MethodName)) ∈ LW := LW_mem (mt_5 (List.mem_of_getElem? (i := 123) rfl)) rfl
theorem t5_124 : (Jvm.Cond.code ({ cls := "TrigramReaders$Counts", name := "addAll", desc := "(LTrigramReaders$Counts;)V" } : Jvm.MethodName) prog_4_method_6_code (3 : Nat) (Option.none : Option Jvm.ClassFile.FieldType)) ∈ LW := LW_mem (mt_5 (List.mem_of_getElem? (i := 124) rfl)) rfl
theorem t5_125 : (Jvm.Cond.methodLink "TrigramReadersLaw" (159 : Nat) ({ cls := "TrigramReadersLaw", name := "times", desc := "(LTrigramReaders;III)I" } : Jvm.MethodName)) ∈ LW := LW_mem (mt_5 (List.mem_of_getElem? (i := 125) rfl)) rfl
theorem t5_126 : (Jvm.Cond.static ({ cls := "TrigramReadersLaw", name := "times", desc := "(LTrigramReaders;III)I" } : Jvm.MethodName)) ∈ LW := LW_mem (mt_5 (List.mem_of_getElem? (i := 126) rfl)) rfl
theorem t5_127 : (Jvm.Cond.code ({ cls := "TrigramReadersLaw", name := "times", desc := "(LTrigramReaders;III)I" } : Jvm.MethodName) method_11_code (8 : Nat) (Option.some Jvm.ClassFile.FieldType.int)) ∈ LW := LW_mem (mt_5 (List.mem_of_getElem? (i := 127) rfl)) rfl
theorem t5_128 : (Jvm.Cond.methodLink "TrigramReadersLaw" (163 : Nat) ({ cls := "java/lang/Math", name := "min", desc := "(II)I" } : Jvm.MethodName)) ∈ LW := LW_mem (mt_5 (List.mem_of_getElem? (i := 128) rfl)) rfl
theorem t5_129 : (Jvm.Cond.methodLink "TrigramReadersLaw" (168 : Nat) ({ cls := "TrigramReaders", name := "positiveCounts", desc := "(I)I" } : Jvm.MethodName)) ∈ LW := LW_mem (mt_5 (List.mem_of_getElem? (i := 129) rfl)) rfl
theorem t5_130 : (Jvm.Cond.instanceMethod ({ cls := "TrigramReaders", name := "positiveCounts", desc := "(I)I" } : Jvm.MethodName)) ∈ LW := LW_mem (mt_5 (List.mem_of_getElem? (i := 130) rfl)) rfl
theorem t5_131 : (Jvm.Cond.selects "TrigramReaders" ({ cls := "TrigramReaders", name := "positiveCounts", desc := "(I)I" } : Jvm.MethodName) ({ cls := "TrigramReaders", name := "positiveCounts", desc := "(I)I" } : Jvm.MethodName)) ∈ LW := LW_mem (mt_5 (List.mem_of_getElem? (i := 131) rfl)) rfl
theorem t5_132 : (Jvm.Cond.code ({ cls := "TrigramReaders", name := "positiveCounts", desc := "(I)I" } : Jvm.MethodName) prog_1_method_22_code (2 : Nat) (Option.some Jvm.ClassFile.FieldType.int)) ∈ LW := LW_mem (mt_5 (List.mem_of_getElem? (i := 132) rfl)) rfl
theorem t5_133 : (Jvm.Cond.methodLink "TrigramReadersLaw" (125 : Nat) ({ cls := "TrigramReadersLaw", name := "isRanked", desc := "(LTrigramReaders;I)Z" } : Jvm.MethodName)) ∈ LW := LW_mem (mt_5 (List.mem_of_getElem? (i := 133) rfl)) rfl
theorem t5_134 : (Jvm.Cond.static ({ cls := "TrigramReadersLaw", name := "isRanked", desc := "(LTrigramReaders;I)Z" } : Jvm.MethodName)) ∈ LW := LW_mem (mt_5 (List.mem_of_getElem? (i := 134) rfl)) rfl
theorem t5_135 : (Jvm.Cond.code ({ cls := "TrigramReadersLaw", name := "isRanked", desc := "(LTrigramReaders;I)Z" } : Jvm.MethodName) method_15_code (15 : Nat) (Option.some Jvm.ClassFile.FieldType.boolean)) ∈ LW := LW_mem (mt_5 (List.mem_of_getElem? (i := 135) rfl)) rfl
theorem t5_136 : (Jvm.Cond.methodLink "TrigramReadersLaw" (171 : Nat) ({ cls := "TrigramReadersLaw", name := "count", desc := "(LTrigramReaders;IIIII)I" } : Jvm.MethodName)) ∈ LW := LW_mem (mt_5 (List.mem_of_getElem? (i := 136) rfl)) rfl
theorem t5_137 : (Jvm.Cond.static ({ cls := "TrigramReadersLaw", name := "count", desc := "(LTrigramReaders;IIIII)I" } : Jvm.MethodName)) ∈ LW := LW_mem (mt_5 (List.mem_of_getElem? (i := 137) rfl)) rfl
theorem t5_138 : (Jvm.Cond.code ({ cls := "TrigramReadersLaw", name := "count", desc := "(LTrigramReaders;IIIII)I" } : Jvm.MethodName) method_13_code (6 : Nat) (Option.some Jvm.ClassFile.FieldType.int)) ∈ LW := LW_mem (mt_5 (List.mem_of_getElem? (i := 138) rfl)) rfl
theorem t5_139 : (Jvm.Cond.methodLink "TrigramReadersLaw" (175 : Nat) ({ cls := "TrigramReaders", name := "symbolAtRank", desc := "(IIII)I" } : Jvm.MethodName)) ∈ LW := LW_mem (mt_5 (List.mem_of_getElem? (i := 139) rfl)) rfl
theorem t5_140 : (Jvm.Cond.instanceMethod ({ cls := "TrigramReaders", name := "symbolAtRank", desc := "(IIII)I" } : Jvm.MethodName)) ∈ LW := LW_mem (mt_5 (List.mem_of_getElem? (i := 140) rfl)) rfl
theorem t5_141 : (Jvm.Cond.selects "TrigramReaders" ({ cls := "TrigramReaders", name := "symbolAtRank", desc := "(IIII)I" } : Jvm.MethodName) ({ cls := "TrigramReaders", name := "symbolAtRank", desc := "(IIII)I" } : Jvm.MethodName)) ∈ LW := LW_mem (mt_5 (List.mem_of_getElem? (i := 141) rfl)) rfl
theorem t5_142 : (Jvm.Cond.code ({ cls := "TrigramReaders", name := "symbolAtRank", desc := "(IIII)I" } : Jvm.MethodName) prog_1_method_26_code (6 : Nat) (Option.some Jvm.ClassFile.FieldType.int)) ∈ LW := LW_mem (mt_5 (List.mem_of_getElem? (i := 142) rfl)) rfl
theorem t5_143 : (Jvm.Cond.methodLink "TrigramReaders" (198 : Nat) ({ cls := "TrigramReaders", name := "requireContext", desc := "(II)V" } : Jvm.MethodName)) ∈ LW := LW_mem (mt_5 (List.mem_of_getElem? (i := 143) rfl)) rfl
theorem t5_144 : (Jvm.Cond.static ({ cls := "TrigramReaders", name := "requireContext", desc := "(II)V" } : Jvm.MethodName)) ∈ LW := LW_mem (mt_5 (List.mem_of_getElem? (i := 144) rfl)) rfl
theorem t5_145 : (Jvm.Cond.code ({ cls := "TrigramReaders", name := "requireContext", desc := "(II)V" } : Jvm.MethodName) prog_1_method_71_code (3 : Nat) (Option.none : Option Jvm.ClassFile.FieldType)) ∈ LW := LW_mem (mt_5 (List.mem_of_getElem? (i := 145) rfl)) rfl
theorem t5_148 : (Jvm.Cond.methodLink "TrigramReaders" (226 : Nat) ({ cls := "TrigramReaders", name := "guessIn", desc := "(LTrigramReaders$Counts;III)I" } : Jvm.MethodName)) ∈ LW := LW_mem (mt_5 (List.mem_of_getElem? (i := 148) rfl)) rfl
theorem t5_150 : (Jvm.Cond.instanceMethod ({ cls := "TrigramReaders", name := "guessIn", desc := "(LTrigramReaders$Counts;III)I" } : Jvm.MethodName)) ∈ LW := LW_mem (mt_5 (List.mem_of_getElem? (i := 150) rfl)) rfl
theorem t5_151 : (Jvm.Cond.code ({ cls := "TrigramReaders", name := "guessIn", desc := "(LTrigramReaders$Counts;III)I" } : Jvm.MethodName) prog_1_method_76_code (5 : Nat) (Option.some Jvm.ClassFile.FieldType.int)) ∈ LW := LW_mem (mt_5 (List.mem_of_getElem? (i := 151) rfl)) rfl
theorem t5_152 : (Jvm.Cond.methodLink "TrigramReaders" (390 : Nat) ({ cls := "TrigramReaders$Ranking", name := "guess", desc := "(I)I" } : Jvm.MethodName)) ∈ LW := LW_mem (mt_5 (List.mem_of_getElem? (i := 152) rfl)) rfl
theorem t5_153 : (Jvm.Cond.instanceMethod ({ cls := "TrigramReaders$Ranking", name := "guess", desc := "(I)I" } : Jvm.MethodName)) ∈ LW := LW_mem (mt_5 (List.mem_of_getElem? (i := 153) rfl)) rfl
theorem t5_154 : (Jvm.Cond.selects "TrigramReaders$Ranking" ({ cls := "TrigramReaders$Ranking", name := "guess", desc := "(I)I" } : Jvm.MethodName) ({ cls := "TrigramReaders$Ranking", name := "guess", desc := "(I)I" } : Jvm.MethodName)) ∈ LW := LW_mem (mt_5 (List.mem_of_getElem? (i := 154) rfl)) rfl
theorem t5_155 : (Jvm.Cond.code ({ cls := "TrigramReaders$Ranking", name := "guess", desc := "(I)I" } : Jvm.MethodName) prog_7_method_5_code (2 : Nat) (Option.some Jvm.ClassFile.FieldType.int)) ∈ LW := LW_mem (mt_5 (List.mem_of_getElem? (i := 155) rfl)) rfl
theorem t5_156 : (Jvm.Cond.methodLink "TrigramReadersLaw" (178 : Nat) ({ cls := "TrigramReaders", name := "rank", desc := "(IIII)I" } : Jvm.MethodName)) ∈ LW := LW_mem (mt_5 (List.mem_of_getElem? (i := 156) rfl)) rfl
theorem t5_157 : (Jvm.Cond.instanceMethod ({ cls := "TrigramReaders", name := "rank", desc := "(IIII)I" } : Jvm.MethodName)) ∈ LW := LW_mem (mt_5 (List.mem_of_getElem? (i := 157) rfl)) rfl
theorem t5_158 : (Jvm.Cond.selects "TrigramReaders" ({ cls := "TrigramReaders", name := "rank", desc := "(IIII)I" } : Jvm.MethodName) ({ cls := "TrigramReaders", name := "rank", desc := "(IIII)I" } : Jvm.MethodName)) ∈ LW := LW_mem (mt_5 (List.mem_of_getElem? (i := 158) rfl)) rfl
theorem t5_159 : (Jvm.Cond.code ({ cls := "TrigramReaders", name := "rank", desc := "(IIII)I" } : Jvm.MethodName) prog_1_method_27_code (6 : Nat) (Option.some Jvm.ClassFile.FieldType.int)) ∈ LW := LW_mem (mt_5 (List.mem_of_getElem? (i := 159) rfl)) rfl
theorem t5_160 : (Jvm.Cond.methodLink "TrigramReadersLaw" (181 : Nat) ({ cls := "TrigramReaders", name := "foundOrder", desc := "(IIII)I" } : Jvm.MethodName)) ∈ LW := LW_mem (mt_5 (List.mem_of_getElem? (i := 160) rfl)) rfl
theorem t5_161 : (Jvm.Cond.instanceMethod ({ cls := "TrigramReaders", name := "foundOrder", desc := "(IIII)I" } : Jvm.MethodName)) ∈ LW := LW_mem (mt_5 (List.mem_of_getElem? (i := 161) rfl)) rfl
theorem t5_162 : (Jvm.Cond.selects "TrigramReaders" ({ cls := "TrigramReaders", name := "foundOrder", desc := "(IIII)I" } : Jvm.MethodName) ({ cls := "TrigramReaders", name := "foundOrder", desc := "(IIII)I" } : Jvm.MethodName)) ∈ LW := LW_mem (mt_5 (List.mem_of_getElem? (i := 162) rfl)) rfl
theorem t5_163 : (Jvm.Cond.code ({ cls := "TrigramReaders", name := "foundOrder", desc := "(IIII)I" } : Jvm.MethodName) prog_1_method_28_code (6 : Nat) (Option.some Jvm.ClassFile.FieldType.int)) ∈ LW := LW_mem (mt_5 (List.mem_of_getElem? (i := 163) rfl)) rfl
theorem t5_164 : (Jvm.Cond.methodLink "TrigramReaders" (233 : Nat) ({ cls := "TrigramReaders", name := "orderOf", desc := "(LTrigramReaders$Counts;III)I" } : Jvm.MethodName)) ∈ LW := LW_mem (mt_5 (List.mem_of_getElem? (i := 164) rfl)) rfl
theorem t5_165 : (Jvm.Cond.static ({ cls := "TrigramReaders", name := "orderOf", desc := "(LTrigramReaders$Counts;III)I" } : Jvm.MethodName)) ∈ LW := LW_mem (mt_5 (List.mem_of_getElem? (i := 165) rfl)) rfl
theorem t5_166 : (Jvm.Cond.code ({ cls := "TrigramReaders", name := "orderOf", desc := "(LTrigramReaders$Counts;III)I" } : Jvm.MethodName) prog_1_method_78_code (5 : Nat) (Option.some Jvm.ClassFile.FieldType.int)) ∈ LW := LW_mem (mt_5 (List.mem_of_getElem? (i := 166) rfl)) rfl
theorem t5_167 : (Jvm.Cond.methodLink "TrigramReaders" (202 : Nat) ({ cls := "TrigramReaders", name := "firstOrder", desc := "(II)I" } : Jvm.MethodName)) ∈ LW := LW_mem (mt_5 (List.mem_of_getElem? (i := 167) rfl)) rfl
theorem t5_168 : (Jvm.Cond.methodLink "TrigramReadersLaw" (184 : Nat) ({ cls := "TrigramReaders", name := "contextTotal", desc := "(III)I" } : Jvm.MethodName)) ∈ LW := LW_mem (mt_5 (List.mem_of_getElem? (i := 168) rfl)) rfl
theorem t5_169 : (Jvm.Cond.instanceMethod ({ cls := "TrigramReaders", name := "contextTotal", desc := "(III)I" } : Jvm.MethodName)) ∈ LW := LW_mem (mt_5 (List.mem_of_getElem? (i := 169) rfl)) rfl
theorem t5_170 : (Jvm.Cond.selects "TrigramReaders" ({ cls := "TrigramReaders", name := "contextTotal", desc := "(III)I" } : Jvm.MethodName) ({ cls := "TrigramReaders", name := "contextTotal", desc := "(III)I" } : Jvm.MethodName)) ∈ LW := LW_mem (mt_5 (List.mem_of_getElem? (i := 170) rfl)) rfl
theorem t5_171 : (Jvm.Cond.code ({ cls := "TrigramReaders", name := "contextTotal", desc := "(III)I" } : Jvm.MethodName) prog_1_method_19_code (6 : Nat) (Option.some Jvm.ClassFile.FieldType.int)) ∈ LW := LW_mem (mt_5 (List.mem_of_getElem? (i := 171) rfl)) rfl
theorem t5_172 : (Jvm.Cond.methodLink "TrigramReaders" (206 : Nat) ({ cls := "TrigramReaders$Counts", name := "sumIn", desc := "(I)I" } : Jvm.MethodName)) ∈ LW := LW_mem (mt_5 (List.mem_of_getElem? (i := 172) rfl)) rfl
theorem t5_173 : (Jvm.Cond.instanceMethod ({ cls := "TrigramReaders$Counts", name := "sumIn", desc := "(I)I" } : Jvm.MethodName)) ∈ LW := LW_mem (mt_5 (List.mem_of_getElem? (i := 173) rfl)) rfl
theorem t5_174 : (Jvm.Cond.selects "TrigramReaders$Counts" ({ cls := "TrigramReaders$Counts", name := "sumIn", desc := "(I)I" } : Jvm.MethodName) ({ cls := "TrigramReaders$Counts", name := "sumIn", desc := "(I)I" } : Jvm.MethodName)) ∈ LW := LW_mem (mt_5 (List.mem_of_getElem? (i := 174) rfl)) rfl
theorem t5_175 : (Jvm.Cond.code ({ cls := "TrigramReaders$Counts", name := "sumIn", desc := "(I)I" } : Jvm.MethodName) prog_4_method_11_code (4 : Nat) (Option.some Jvm.ClassFile.FieldType.int)) ∈ LW := LW_mem (mt_5 (List.mem_of_getElem? (i := 175) rfl)) rfl
theorem t5_176 : (Jvm.Cond.methodLink "TrigramReadersLaw" (187 : Nat) ({ cls := "TrigramReaders", name := "contextSymbols", desc := "(III)I" } : Jvm.MethodName)) ∈ LW := LW_mem (mt_5 (List.mem_of_getElem? (i := 176) rfl)) rfl
theorem t5_177 : (Jvm.Cond.instanceMethod ({ cls := "TrigramReaders", name := "contextSymbols", desc := "(III)I" } : Jvm.MethodName)) ∈ LW := LW_mem (mt_5 (List.mem_of_getElem? (i := 177) rfl)) rfl
theorem t5_178 : (Jvm.Cond.selects "TrigramReaders" ({ cls := "TrigramReaders", name := "contextSymbols", desc := "(III)I" } : Jvm.MethodName) ({ cls := "TrigramReaders", name := "contextSymbols", desc := "(III)I" } : Jvm.MethodName)) ∈ LW := LW_mem (mt_5 (List.mem_of_getElem? (i := 178) rfl)) rfl
theorem t5_179 : (Jvm.Cond.code ({ cls := "TrigramReaders", name := "contextSymbols", desc := "(III)I" } : Jvm.MethodName) prog_1_method_20_code (6 : Nat) (Option.some Jvm.ClassFile.FieldType.int)) ∈ LW := LW_mem (mt_5 (List.mem_of_getElem? (i := 179) rfl)) rfl
theorem t5_180 : (Jvm.Cond.methodLink "TrigramReaders" (209 : Nat) ({ cls := "TrigramReaders$Counts", name := "symbolsIn", desc := "(I)I" } : Jvm.MethodName)) ∈ LW := LW_mem (mt_5 (List.mem_of_getElem? (i := 180) rfl)) rfl
theorem t5_181 : (Jvm.Cond.instanceMethod ({ cls := "TrigramReaders$Counts", name := "symbolsIn", desc := "(I)I" } : Jvm.MethodName)) ∈ LW := LW_mem (mt_5 (List.mem_of_getElem? (i := 181) rfl)) rfl
theorem t5_182 : (Jvm.Cond.selects "TrigramReaders$Counts" ({ cls := "TrigramReaders$Counts", name := "symbolsIn", desc := "(I)I" } : Jvm.MethodName) ({ cls := "TrigramReaders$Counts", name := "symbolsIn", desc := "(I)I" } : Jvm.MethodName)) ∈ LW := LW_mem (mt_5 (List.mem_of_getElem? (i := 182) rfl)) rfl
theorem t5_183 : (Jvm.Cond.code ({ cls := "TrigramReaders$Counts", name := "symbolsIn", desc := "(I)I" } : Jvm.MethodName) prog_4_method_10_code (2 : Nat) (Option.some Jvm.ClassFile.FieldType.int)) ∈ LW := LW_mem (mt_5 (List.mem_of_getElem? (i := 183) rfl)) rfl
theorem t5_184 : (Jvm.Cond.methodLink "TrigramReadersLaw" (190 : Nat) ({ cls := "TrigramReadersLaw", name := "isFraction", desc := "(LTrigramReaders;IIII)Z" } : Jvm.MethodName)) ∈ LW := LW_mem (mt_5 (List.mem_of_getElem? (i := 184) rfl)) rfl
theorem t5_185 : (Jvm.Cond.static ({ cls := "TrigramReadersLaw", name := "isFraction", desc := "(LTrigramReaders;IIII)Z" } : Jvm.MethodName)) ∈ LW := LW_mem (mt_5 (List.mem_of_getElem? (i := 185) rfl)) rfl
theorem t5_186 : (Jvm.Cond.code ({ cls := "TrigramReadersLaw", name := "isFraction", desc := "(LTrigramReaders;IIII)Z" } : Jvm.MethodName) method_16_code (22 : Nat) (Option.some Jvm.ClassFile.FieldType.boolean)) ∈ LW := LW_mem (mt_5 (List.mem_of_getElem? (i := 186) rfl)) rfl
theorem t5_187 : (Jvm.Cond.methodLink "TrigramReadersLaw" (194 : Nat) ({ cls := "TrigramReaders", name := "escapeMethod", desc := "(I)I" } : Jvm.MethodName)) ∈ LW := LW_mem (mt_5 (List.mem_of_getElem? (i := 187) rfl)) rfl
theorem t5_188 : (Jvm.Cond.instanceMethod ({ cls := "TrigramReaders", name := "escapeMethod", desc := "(I)I" } : Jvm.MethodName)) ∈ LW := LW_mem (mt_5 (List.mem_of_getElem? (i := 188) rfl)) rfl
theorem t5_189 : (Jvm.Cond.selects "TrigramReaders" ({ cls := "TrigramReaders", name := "escapeMethod", desc := "(I)I" } : Jvm.MethodName) ({ cls := "TrigramReaders", name := "escapeMethod", desc := "(I)I" } : Jvm.MethodName)) ∈ LW := LW_mem (mt_5 (List.mem_of_getElem? (i := 189) rfl)) rfl
theorem t5_190 : (Jvm.Cond.code ({ cls := "TrigramReaders", name := "escapeMethod", desc := "(I)I" } : Jvm.MethodName) prog_1_method_11_code (2 : Nat) (Option.some Jvm.ClassFile.FieldType.int)) ∈ LW := LW_mem (mt_5 (List.mem_of_getElem? (i := 190) rfl)) rfl
theorem t5_191 : (Jvm.Cond.methodLink "TrigramReadersLaw" (197 : Nat) ({ cls := "TrigramReadersLaw", name := "divisor", desc := "(JJ)J" } : Jvm.MethodName)) ∈ LW := LW_mem (mt_5 (List.mem_of_getElem? (i := 191) rfl)) rfl
theorem t5_192 : (Jvm.Cond.static ({ cls := "TrigramReadersLaw", name := "divisor", desc := "(JJ)J" } : Jvm.MethodName)) ∈ LW := LW_mem (mt_5 (List.mem_of_getElem? (i := 192) rfl)) rfl
theorem t5_193 : (Jvm.Cond.code ({ cls := "TrigramReadersLaw", name := "divisor", desc := "(JJ)J" } : Jvm.MethodName) method_14_code (10 : Nat) (Option.some Jvm.ClassFile.FieldType.long)) ∈ LW := LW_mem (mt_5 (List.mem_of_getElem? (i := 193) rfl)) rfl
theorem t5_194 : (Jvm.Cond.methodLink "TrigramReadersLaw" (201 : Nat) ({ cls := "TrigramReaders", name := "numerator", desc := "(IIII)J" } : Jvm.MethodName)) ∈ LW := LW_mem (mt_5 (List.mem_of_getElem? (i := 194) rfl)) rfl
theorem t5_195 : (Jvm.Cond.instanceMethod ({ cls := "TrigramReaders", name := "numerator", desc := "(IIII)J" } : Jvm.MethodName)) ∈ LW := LW_mem (mt_5 (List.mem_of_getElem? (i := 195) rfl)) rfl
theorem t5_196 : (Jvm.Cond.selects "TrigramReaders" ({ cls := "TrigramReaders", name := "numerator", desc := "(IIII)J" } : Jvm.MethodName) ({ cls := "TrigramReaders", name := "numerator", desc := "(IIII)J" } : Jvm.MethodName)) ∈ LW := LW_mem (mt_5 (List.mem_of_getElem? (i := 196) rfl)) rfl
theorem t5_197 : (Jvm.Cond.code ({ cls := "TrigramReaders", name := "numerator", desc := "(IIII)J" } : Jvm.MethodName) prog_1_method_30_code (5 : Nat) (Option.some Jvm.ClassFile.FieldType.long)) ∈ LW := LW_mem (mt_5 (List.mem_of_getElem? (i := 197) rfl)) rfl
theorem t5_198 : (Jvm.Cond.methodLink "TrigramReaders" (236 : Nat) ({ cls := "TrigramReaders", name := "chanceOf", desc := "(IIII)LTrigramReaders$Chance;" } : Jvm.MethodName)) ∈ LW := LW_mem (mt_5 (List.mem_of_getElem? (i := 198) rfl)) rfl
theorem t5_200 : (Jvm.Cond.instanceMethod ({ cls := "TrigramReaders", name := "chanceOf", desc := "(IIII)LTrigramReaders$Chance;" } : Jvm.MethodName)) ∈ LW := LW_mem (mt_5 (List.mem_of_getElem? (i := 200) rfl)) rfl
theorem t5_201 : (Jvm.Cond.code ({ cls := "TrigramReaders", name := "chanceOf", desc := "(IIII)LTrigramReaders$Chance;" } : Jvm.MethodName) prog_1_method_75_code (6 : Nat) (Option.some (Jvm.ClassFile.FieldType.object "TrigramReaders$Chance"))) ∈ LW := LW_mem (mt_5 (List.mem_of_getElem? (i := 201) rfl)) rfl
theorem t5_202 : (Jvm.Cond.methodLink "TrigramReaders" (270 : Nat) ({ cls := "TrigramReaders$Chance", name := "find", desc := "(LTrigramReaders$Reader;III)V" } : Jvm.MethodName)) ∈ LW := LW_mem (mt_5 (List.mem_of_getElem? (i := 202) rfl)) rfl
theorem t5_203 : (Jvm.Cond.instanceMethod ({ cls := "TrigramReaders$Chance", name := "find", desc := "(LTrigramReaders$Reader;III)V" } : Jvm.MethodName)) ∈ LW := LW_mem (mt_5 (List.mem_of_getElem? (i := 203) rfl)) rfl
theorem t5_204 : (Jvm.Cond.selects "TrigramReaders$Chance" ({ cls := "TrigramReaders$Chance", name := "find", desc := "(LTrigramReaders$Reader;III)V" } : Jvm.MethodName) ({ cls := "TrigramReaders$Chance", name := "find", desc := "(LTrigramReaders$Reader;III)V" } : Jvm.MethodName)) ∈ LW := LW_mem (mt_5 (List.mem_of_getElem? (i := 204) rfl)) rfl
theorem t5_205 : (Jvm.Cond.code ({ cls := "TrigramReaders$Chance", name := "find", desc := "(LTrigramReaders$Reader;III)V" } : Jvm.MethodName) prog_3_method_2_code (7 : Nat) (Option.none : Option Jvm.ClassFile.FieldType)) ∈ LW := LW_mem (mt_5 (List.mem_of_getElem? (i := 205) rfl)) rfl
theorem t5_208 : (Jvm.Cond.methodLink "TrigramReaders$Chance" (42 : Nat) ({ cls := "TrigramReaders$Chance", name := "visit", desc := "(LTrigramReaders$Counts;III)Z" } : Jvm.MethodName)) ∈ LW := LW_mem (mt_5 (List.mem_of_getElem? (i := 208) rfl)) rfl
theorem t5_210 : (Jvm.Cond.instanceMethod ({ cls := "TrigramReaders$Chance", name := "visit", desc := "(LTrigramReaders$Counts;III)Z" } : Jvm.MethodName)) ∈ LW := LW_mem (mt_5 (List.mem_of_getElem? (i := 210) rfl)) rfl
theorem t5_211 : (Jvm.Cond.code ({ cls := "TrigramReaders$Chance", name := "visit", desc := "(LTrigramReaders$Counts;III)Z" } : Jvm.MethodName) prog_3_method_3_code (11 : Nat) (Option.some Jvm.ClassFile.FieldType.boolean)) ∈ LW := LW_mem (mt_5 (List.mem_of_getElem? (i := 211) rfl)) rfl
theorem t5_212 : (Jvm.Cond.methodLink "TrigramReaders$Chance" (55 : Nat) ({ cls := "TrigramReaders$Counts", name := "placeOf", desc := "(I)I" } : Jvm.MethodName)) ∈ LW := LW_mem (mt_5 (List.mem_of_getElem? (i := 212) rfl)) rfl
theorem t5_213 : (Jvm.Cond.methodLink "TrigramReaders$Chance" (70 : Nat) ({ cls := "TrigramReaders$Chance", name := "divisorFor", desc := "(III)I" } : Jvm.MethodName)) ∈ LW := LW_mem (mt_5 (List.mem_of_getElem? (i := 213) rfl)) rfl
theorem t5_214 : (Jvm.Cond.static ({ cls := "TrigramReaders$Chance", name := "divisorFor", desc := "(III)I" } : Jvm.MethodName)) ∈ LW := LW_mem (mt_5 (List.mem_of_getElem? (i := 214) rfl)) rfl
theorem t5_215 : (Jvm.Cond.code ({ cls := "TrigramReaders$Chance", name := "divisorFor", desc := "(III)I" } : Jvm.MethodName) prog_3_method_4_code (3 : Nat) (Option.some Jvm.ClassFile.FieldType.int)) ∈ LW := LW_mem (mt_5 (List.mem_of_getElem? (i := 215) rfl)) rfl
theorem t5_216 : (Jvm.Cond.methodLink "TrigramReaders$Chance" (46 : Nat) ({ cls := "java/lang/Integer", name := "bitCount", desc := "(I)I" } : Jvm.MethodName)) ∈ LW := LW_mem (mt_5 (List.mem_of_getElem? (i := 216) rfl)) rfl
theorem t5_217 : (Jvm.Cond.static ({ cls := "java/lang/Integer", name := "bitCount", desc := "(I)I" } : Jvm.MethodName)) ∈ LW := LW_mem (mt_5 (List.mem_of_getElem? (i := 217) rfl)) rfl
theorem t5_218 : (Jvm.Cond.code ({ cls := "java/lang/Integer", name := "bitCount", desc := "(I)I" } : Jvm.MethodName) prog_22_method_49_code (1 : Nat) (Option.some Jvm.ClassFile.FieldType.int)) ∈ LW := LW_mem (mt_5 (List.mem_of_getElem? (i := 218) rfl)) rfl
theorem t5_219 : (Jvm.Cond.constant "java/lang/Integer" (265 : Nat) (1431655765 : Int32)) ∈ LW := LW_mem (mt_5 (List.mem_of_getElem? (i := 219) rfl)) rfl
theorem t5_220 : (Jvm.Cond.constant "java/lang/Integer" (266 : Nat) (858993459 : Int32)) ∈ LW := LW_mem (mt_5 (List.mem_of_getElem? (i := 220) rfl)) rfl
theorem t5_221 : (Jvm.Cond.constant "java/lang/Integer" (267 : Nat) (252645135 : Int32)) ∈ LW := LW_mem (mt_5 (List.mem_of_getElem? (i := 221) rfl)) rfl
theorem t5_222 : (Jvm.Cond.methodLink "TrigramReaders$Chance" (52 : Nat) ({ cls := "TrigramReaders$Chance", name := "reduce", desc := "()V" } : Jvm.MethodName)) ∈ LW := LW_mem (mt_5 (List.mem_of_getElem? (i := 222) rfl)) rfl
theorem t5_224 : (Jvm.Cond.instanceMethod ({ cls := "TrigramReaders$Chance", name := "reduce", desc := "()V" } : Jvm.MethodName)) ∈ LW := LW_mem (mt_5 (List.mem_of_getElem? (i := 224) rfl)) rfl
theorem t5_225 : (Jvm.Cond.code ({ cls := "TrigramReaders$Chance", name := "reduce", desc := "()V" } : Jvm.MethodName) prog_3_method_5_code (8 : Nat) (Option.none : Option Jvm.ClassFile.FieldType)) ∈ LW := LW_mem (mt_5 (List.mem_of_getElem? (i := 225) rfl)) rfl
theorem t5_226 : (Jvm.Cond.methodLink "TrigramReadersLaw" (205 : Nat) ({ cls := "TrigramReaders", name := "denominator", desc := "(IIII)J" } : Jvm.MethodName)) ∈ LW := LW_mem (mt_5 (List.mem_of_getElem? (i := 226) rfl)) rfl
theorem t5_227 : (Jvm.Cond.instanceMethod ({ cls := "TrigramReaders", name := "denominator", desc := "(IIII)J" } : Jvm.MethodName)) ∈ LW := LW_mem (mt_5 (List.mem_of_getElem? (i := 227) rfl)) rfl
theorem t5_228 : (Jvm.Cond.selects "TrigramReaders" ({ cls := "TrigramReaders", name := "denominator", desc := "(IIII)J" } : Jvm.MethodName) ({ cls := "TrigramReaders", name := "denominator", desc := "(IIII)J" } : Jvm.MethodName)) ∈ LW := LW_mem (mt_5 (List.mem_of_getElem? (i := 228) rfl)) rfl
theorem t5_229 : (Jvm.Cond.code ({ cls := "TrigramReaders", name := "denominator", desc := "(IIII)J" } : Jvm.MethodName) prog_1_method_31_code (5 : Nat) (Option.some Jvm.ClassFile.FieldType.long)) ∈ LW := LW_mem (mt_5 (List.mem_of_getElem? (i := 229) rfl)) rfl
theorem t5_230 : (Jvm.Cond.constantLong "TrigramReadersLaw" (208 : Nat) (2 : Int64)) ∈ LW := LW_mem (mt_5 (List.mem_of_getElem? (i := 230) rfl)) rfl
theorem t5_231 : (Jvm.Cond.methodLink "TrigramReadersLaw" (210 : Nat) ({ cls := "TrigramReaders", name := "escapes", desc := "(IIII)I" } : Jvm.MethodName)) ∈ LW := LW_mem (mt_5 (List.mem_of_getElem? (i := 231) rfl)) rfl
theorem t5_232 : (Jvm.Cond.instanceMethod ({ cls := "TrigramReaders", name := "escapes", desc := "(IIII)I" } : Jvm.MethodName)) ∈ LW := LW_mem (mt_5 (List.mem_of_getElem? (i := 232) rfl)) rfl
theorem t5_233 : (Jvm.Cond.selects "TrigramReaders" ({ cls := "TrigramReaders", name := "escapes", desc := "(IIII)I" } : Jvm.MethodName) ({ cls := "TrigramReaders", name := "escapes", desc := "(IIII)I" } : Jvm.MethodName)) ∈ LW := LW_mem (mt_5 (List.mem_of_getElem? (i := 233) rfl)) rfl
theorem t5_234 : (Jvm.Cond.code ({ cls := "TrigramReaders", name := "escapes", desc := "(IIII)I" } : Jvm.MethodName) prog_1_method_29_code (5 : Nat) (Option.some Jvm.ClassFile.FieldType.int)) ∈ LW := LW_mem (mt_5 (List.mem_of_getElem? (i := 234) rfl)) rfl
theorem t5_235 : (Jvm.Cond.methodLink "TrigramReadersLaw" (213 : Nat) ({ cls := "TrigramReaders", name := "codeLength", desc := "(IIII)I" } : Jvm.MethodName)) ∈ LW := LW_mem (mt_5 (List.mem_of_getElem? (i := 235) rfl)) rfl
theorem t5_236 : (Jvm.Cond.instanceMethod ({ cls := "TrigramReaders", name := "codeLength", desc := "(IIII)I" } : Jvm.MethodName)) ∈ LW := LW_mem (mt_5 (List.mem_of_getElem? (i := 236) rfl)) rfl
theorem t5_237 : (Jvm.Cond.selects "TrigramReaders" ({ cls := "TrigramReaders", name := "codeLength", desc := "(IIII)I" } : Jvm.MethodName) ({ cls := "TrigramReaders", name := "codeLength", desc := "(IIII)I" } : Jvm.MethodName)) ∈ LW := LW_mem (mt_5 (List.mem_of_getElem? (i := 237) rfl)) rfl
theorem t5_238 : (Jvm.Cond.code ({ cls := "TrigramReaders", name := "codeLength", desc := "(IIII)I" } : Jvm.MethodName) prog_1_method_33_code (5 : Nat) (Option.some Jvm.ClassFile.FieldType.int)) ∈ LW := LW_mem (mt_5 (List.mem_of_getElem? (i := 238) rfl)) rfl
theorem t5_239 : (Jvm.Cond.methodLink "TrigramReaders" (250 : Nat) ({ cls := "TrigramReaders$Chance", name := "bits", desc := "()I" } : Jvm.MethodName)) ∈ LW := LW_mem (mt_5 (List.mem_of_getElem? (i := 239) rfl)) rfl
theorem t6_0 : (Jvm.Cond.instanceMethod ({ cls := "TrigramReaders$Chance", name := "bits", desc := "()I" } : Jvm.MethodName)) ∈ LW := LW_mem (mt_6 (List.mem_of_getElem? (i := 0) rfl)) rfl
theorem t6_1 : (Jvm.Cond.selects "TrigramReaders$Chance" ({ cls := "TrigramReaders$Chance", name := "bits", desc := "()I" } : Jvm.MethodName) ({ cls := "TrigramReaders$Chance", name := "bits", desc := "()I" } : Jvm.MethodName)) ∈ LW := LW_mem (mt_6 (List.mem_of_getElem? (i := 1) rfl)) rfl
theorem t6_2 : (Jvm.Cond.code ({ cls := "TrigramReaders$Chance", name := "bits", desc := "()I" } : Jvm.MethodName) prog_3_method_6_code (4 : Nat) (Option.some Jvm.ClassFile.FieldType.int)) ∈ LW := LW_mem (mt_6 (List.mem_of_getElem? (i := 2) rfl)) rfl
theorem t6_3 : (Jvm.Cond.constantLong "TrigramReaders$Chance" (73 : Nat) (2 : Int64)) ∈ LW := LW_mem (mt_6 (List.mem_of_getElem? (i := 3) rfl)) rfl
theorem t6_4 : (Jvm.Cond.methodLink "TrigramReadersLaw" (216 : Nat) ({ cls := "TrigramReaders", name := "probability", desc := "(IIII)D" } : Jvm.MethodName)) ∈ LW := LW_mem (mt_6 (List.mem_of_getElem? (i := 4) rfl)) rfl
theorem t6_5 : (Jvm.Cond.instanceMethod ({ cls := "TrigramReaders", name := "probability", desc := "(IIII)D" } : Jvm.MethodName)) ∈ LW := LW_mem (mt_6 (List.mem_of_getElem? (i := 5) rfl)) rfl
theorem t6_6 : (Jvm.Cond.selects "TrigramReaders" ({ cls := "TrigramReaders", name := "probability", desc := "(IIII)D" } : Jvm.MethodName) ({ cls := "TrigramReaders", name := "probability", desc := "(IIII)D" } : Jvm.MethodName)) ∈ LW := LW_mem (mt_6 (List.mem_of_getElem? (i := 6) rfl)) rfl
theorem t6_7 : (Jvm.Cond.code ({ cls := "TrigramReaders", name := "probability", desc := "(IIII)D" } : Jvm.MethodName) prog_1_method_32_code (6 : Nat) (Option.some Jvm.ClassFile.FieldType.double)) ∈ LW := LW_mem (mt_6 (List.mem_of_getElem? (i := 7) rfl)) rfl
theorem ps_0 : Cond.selects "TrigramReaders$Parser" ⟨"TrigramReaders$Parser", "next", "()V"⟩ ⟨"TrigramReaders$Parser", "next", "()V"⟩ ∈ LW := LW_mem (List.mem_append_left _ (List.mem_of_getElem? (i := 0) rfl)) rfl
theorem ps_1 : Cond.selects "TrigramReaders$Parser" ⟨"TrigramReaders$Parser", "isWord", "(Ljava/lang/String;)Z"⟩ ⟨"TrigramReaders$Parser", "isWord", "(Ljava/lang/String;)Z"⟩ ∈ LW := LW_mem (List.mem_append_left _ (List.mem_of_getElem? (i := 1) rfl)) rfl
theorem ps_2 : Cond.selects "TrigramReaders$Parser" ⟨"TrigramReaders$Parser", "parseReader", "()Z"⟩ ⟨"TrigramReaders$Parser", "parseReader", "()Z"⟩ ∈ LW := LW_mem (List.mem_append_left _ (List.mem_of_getElem? (i := 2) rfl)) rfl
theorem ps_3 : Cond.selects "TrigramReaders$Parser" ⟨"TrigramReaders$Parser", "fail", "(I)Z"⟩ ⟨"TrigramReaders$Parser", "fail", "(I)Z"⟩ ∈ LW := LW_mem (List.mem_append_left _ (List.mem_of_getElem? (i := 3) rfl)) rfl
theorem ps_4 : Cond.selects "TrigramReaders$Parser" ⟨"TrigramReaders$Parser", "methodWord", "()I"⟩ ⟨"TrigramReaders$Parser", "methodWord", "()I"⟩ ∈ LW := LW_mem (List.mem_append_left _ (List.mem_of_getElem? (i := 4) rfl)) rfl
theorem ps_5 : Cond.selects "TrigramReaders$Parser" ⟨"TrigramReaders$Parser", "parseSemicolon", "()Z"⟩ ⟨"TrigramReaders$Parser", "parseSemicolon", "()Z"⟩ ∈ LW := LW_mem (List.mem_append_left _ (List.mem_of_getElem? (i := 5) rfl)) rfl
theorem ps_6 : Cond.selects "TrigramReaders$Parser" ⟨"TrigramReaders$Parser", "parseDocument", "()Z"⟩ ⟨"TrigramReaders$Parser", "parseDocument", "()Z"⟩ ∈ LW := LW_mem (List.mem_append_left _ (List.mem_of_getElem? (i := 6) rfl)) rfl
theorem ps_7 : Cond.selects "TrigramReaders$Parser" ⟨"TrigramReaders$Parser", "parseTrain", "()Z"⟩ ⟨"TrigramReaders$Parser", "parseTrain", "()Z"⟩ ∈ LW := LW_mem (List.mem_append_left _ (List.mem_of_getElem? (i := 7) rfl)) rfl
theorem ps_8 : Cond.selects "TrigramReaders$Parser" ⟨"TrigramReaders$Parser", "numberValue", "()I"⟩ ⟨"TrigramReaders$Parser", "numberValue", "()I"⟩ ∈ LW := LW_mem (List.mem_append_left _ (List.mem_of_getElem? (i := 8) rfl)) rfl
theorem ps_9 : Cond.selects "TrigramReaders$Parser" ⟨"TrigramReaders$Parser", "parseYear", "()Z"⟩ ⟨"TrigramReaders$Parser", "parseYear", "()Z"⟩ ∈ LW := LW_mem (List.mem_append_left _ (List.mem_of_getElem? (i := 9) rfl)) rfl
theorem ps_10 : Cond.selects "TrigramReaders" ⟨"TrigramReaders", "existingReader", "(I)LTrigramReaders$Reader;"⟩ ⟨"TrigramReaders", "existingReader", "(I)LTrigramReaders$Reader;"⟩ ∈ LW := LW_mem (List.mem_append_left _ (List.mem_of_getElem? (i := 10) rfl)) rfl
theorem ps_11 : Cond.selects "java/lang/Throwable" ⟨"java/lang/Throwable", "fillInStackTrace", "(I)Ljava/lang/Throwable;"⟩ ⟨"java/lang/Throwable", "fillInStackTrace", "(I)Ljava/lang/Throwable;"⟩ ∈ LW := LW_mem (List.mem_append_left _ (List.mem_of_getElem? (i := 11) rfl)) rfl
theorem ps_12 : Cond.selects "TrigramReaders" ⟨"TrigramReaders", "existingDocument", "(I)LTrigramReaders$Document;"⟩ ⟨"TrigramReaders", "existingDocument", "(I)LTrigramReaders$Document;"⟩ ∈ LW := LW_mem (List.mem_append_left _ (List.mem_of_getElem? (i := 12) rfl)) rfl
theorem ps_13 : Cond.selects "TrigramReaders" ⟨"TrigramReaders", "remember", "()V"⟩ ⟨"TrigramReaders", "remember", "()V"⟩ ∈ LW := LW_mem (List.mem_append_left _ (List.mem_of_getElem? (i := 13) rfl)) rfl
theorem ps_14 : Cond.selects "TrigramReaders" ⟨"TrigramReaders", "guessesFor", "(LTrigramReaders$Counts;LTrigramReaders$Document;)I"⟩ ⟨"TrigramReaders", "guessesFor", "(LTrigramReaders$Counts;LTrigramReaders$Document;)I"⟩ ∈ LW := LW_mem (List.mem_append_left _ (List.mem_of_getElem? (i := 14) rfl)) rfl
theorem ps_15 : Cond.selects "TrigramReaders" ⟨"TrigramReaders", "rankOfPosition", "(LTrigramReaders$Counts;LTrigramReaders$Document;I)I"⟩ ⟨"TrigramReaders", "rankOfPosition", "(LTrigramReaders$Counts;LTrigramReaders$Document;I)I"⟩ ∈ LW := LW_mem (List.mem_append_left _ (List.mem_of_getElem? (i := 15) rfl)) rfl
theorem ps_16 : Cond.selects "TrigramReaders" ⟨"TrigramReaders", "rankIn", "(LTrigramReaders$Counts;III)I"⟩ ⟨"TrigramReaders", "rankIn", "(LTrigramReaders$Counts;III)I"⟩ ∈ LW := LW_mem (List.mem_append_left _ (List.mem_of_getElem? (i := 16) rfl)) rfl
theorem ps_17 : Cond.selects "TrigramReaders$Ranking" ⟨"TrigramReaders$Ranking", "appendOrder", "(LTrigramReaders$Counts;I)V"⟩ ⟨"TrigramReaders$Ranking", "appendOrder", "(LTrigramReaders$Counts;I)V"⟩ ∈ LW := LW_mem (List.mem_append_left _ (List.mem_of_getElem? (i := 17) rfl)) rfl
theorem ps_18 : Cond.selects "TrigramReaders$Ranking" ⟨"TrigramReaders$Ranking", "insert", "(III)V"⟩ ⟨"TrigramReaders$Ranking", "insert", "(III)V"⟩ ∈ LW := LW_mem (List.mem_append_left _ (List.mem_of_getElem? (i := 18) rfl)) rfl
theorem ps_19 : Cond.selects "TrigramReaders" ⟨"TrigramReaders", "guessesWhileLearning", "(LTrigramReaders$Counts;LTrigramReaders$Document;)I"⟩ ⟨"TrigramReaders", "guessesWhileLearning", "(LTrigramReaders$Counts;LTrigramReaders$Document;)I"⟩ ∈ LW := LW_mem (List.mem_append_left _ (List.mem_of_getElem? (i := 19) rfl)) rfl
theorem ps_20 : Cond.selects "TrigramReaders" ⟨"TrigramReaders", "guessIn", "(LTrigramReaders$Counts;III)I"⟩ ⟨"TrigramReaders", "guessIn", "(LTrigramReaders$Counts;III)I"⟩ ∈ LW := LW_mem (List.mem_append_left _ (List.mem_of_getElem? (i := 20) rfl)) rfl
theorem ps_21 : Cond.selects "TrigramReaders" ⟨"TrigramReaders", "chanceOf", "(IIII)LTrigramReaders$Chance;"⟩ ⟨"TrigramReaders", "chanceOf", "(IIII)LTrigramReaders$Chance;"⟩ ∈ LW := LW_mem (List.mem_append_left _ (List.mem_of_getElem? (i := 21) rfl)) rfl
theorem ps_22 : Cond.selects "TrigramReaders$Chance" ⟨"TrigramReaders$Chance", "visit", "(LTrigramReaders$Counts;III)Z"⟩ ⟨"TrigramReaders$Chance", "visit", "(LTrigramReaders$Counts;III)Z"⟩ ∈ LW := LW_mem (List.mem_append_left _ (List.mem_of_getElem? (i := 22) rfl)) rfl
theorem ps_23 : Cond.selects "TrigramReaders$Chance" ⟨"TrigramReaders$Chance", "reduce", "()V"⟩ ⟨"TrigramReaders$Chance", "reduce", "()V"⟩ ∈ LW := LW_mem (List.mem_append_left _ (List.mem_of_getElem? (i := 23) rfl)) rfl
end
section
-- the text constants: class, place, text
def zStrs : List (String × Nat × String) := [("TrigramReaders", 82, "reader ann a;reader bob c;document abra_cadabra;document banana;train ann 0;train bob 0;train bob 1;year;train ann 1;"), ("TrigramReaders$Parser", 38, "reader"), ("TrigramReaders$Parser", 159, "a"), ("TrigramReaders$Parser", 161, "c"), ("TrigramReaders$Parser", 163, "d"), ("TrigramReaders$Parser", 48, "document"), ("TrigramReaders$Parser", 53, "train"), ("TrigramReaders$Parser", 58, "year"), ("TrigramReaders", 111, "the input buffer is full"), ("TrigramReaders", 121, "the length is out of range"), ("TrigramReaders", 134, "the text has an error"), ("TrigramReaders", 366, "the reader does not exist"), ("TrigramReaders", 372, "the document does not exist"), ("TrigramReaders", 180, "the document has no such position"), ("TrigramReaders", 382, "the symbol is not valid"), ("TrigramReaders", 384, "the context is not valid"), ("TrigramReaders", 224, "the rank is out of range"), ("TrigramReaders", 283, "both are the same reader"), ("TrigramReaders", 376, "the method is out of range"), ("TrigramReadersLaw", 52, "reader r"), ("TrigramReadersLaw", 57, "xyz"), ("TrigramReadersLaw", 59, "acd"), ("TrigramReadersLaw", 61, "document "), ("TrigramReadersLaw", 36, "abcdefghijklmnopqrstuvwxyz"), ("TrigramReadersLaw", 71, "year;"), ("TrigramReadersLaw", 73, "train r")]
def zStrLen : List Nat := [117, 6, 1, 1, 1, 8, 5, 4, 24, 26, 21, 25, 27, 33, 23, 24, 24, 24, 26, 8, 3, 3, 9, 26, 5, 7]
def zStrByt : List (List Int32) := [[114, 101, 97, 100, 101, 114, 32, 97, 110, 110, 32, 97, 59, 114, 101, 97, 100, 101, 114, 32, 98, 111, 98, 32, 99, 59, 100, 111, 99, 117, 109, 101, 110, 116, 32, 97, 98, 114, 97, 95, 99, 97, 100, 97, 98, 114, 97, 59, 100, 111, 99, 117, 109, 101, 110, 116, 32, 98, 97, 110, 97, 110, 97, 59, 116, 114, 97, 105, 110, 32, 97, 110, 110, 32, 48, 59, 116, 114, 97, 105, 110, 32, 98, 111, 98, 32, 48, 59, 116, 114, 97, 105, 110, 32, 98, 111, 98, 32, 49, 59, 121, 101, 97, 114, 59, 116, 114, 97, 105, 110, 32, 97, 110, 110, 32, 49, 59], [114, 101, 97, 100, 101, 114], [97], [99], [100], [100, 111, 99, 117, 109, 101, 110, 116], [116, 114, 97, 105, 110], [121, 101, 97, 114], [116, 104, 101, 32, 105, 110, 112, 117, 116, 32, 98, 117, 102, 102, 101, 114, 32, 105, 115, 32, 102, 117, 108, 108], [116, 104, 101, 32, 108, 101, 110, 103, 116, 104, 32, 105, 115, 32, 111, 117, 116, 32, 111, 102, 32, 114, 97, 110, 103, 101], [116, 104, 101, 32, 116, 101, 120, 116, 32, 104, 97, 115, 32, 97, 110, 32, 101, 114, 114, 111, 114], [116, 104, 101, 32, 114, 101, 97, 100, 101, 114, 32, 100, 111, 101, 115, 32, 110, 111, 116, 32, 101, 120, 105, 115, 116], [116, 104, 101, 32, 100, 111, 99, 117, 109, 101, 110, 116, 32, 100, 111, 101, 115, 32, 110, 111, 116, 32, 101, 120, 105, 115, 116], [116, 104, 101, 32, 100, 111, 99, 117, 109, 101, 110, 116, 32, 104, 97, 115, 32, 110, 111, 32, 115, 117, 99, 104, 32, 112, 111, 115, 105, 116, 105, 111, 110], [116, 104, 101, 32, 115, 121, 109, 98, 111, 108, 32, 105, 115, 32, 110, 111, 116, 32, 118, 97, 108, 105, 100], [116, 104, 101, 32, 99, 111, 110, 116, 101, 120, 116, 32, 105, 115, 32, 110, 111, 116, 32, 118, 97, 108, 105, 100], [116, 104, 101, 32, 114, 97, 110, 107, 32, 105, 115, 32, 111, 117, 116, 32, 111, 102, 32, 114, 97, 110, 103, 101], [98, 111, 116, 104, 32, 97, 114, 101, 32, 116, 104, 101, 32, 115, 97, 109, 101, 32, 114, 101, 97, 100, 101, 114], [116, 104, 101, 32, 109, 101, 116, 104, 111, 100, 32, 105, 115, 32, 111, 117, 116, 32, 111, 102, 32, 114, 97, 110, 103, 101], [114, 101, 97, 100, 101, 114, 32, 114], [120, 121, 122], [97, 99, 100], [100, 111, 99, 117, 109, 101, 110, 116, 32], [97, 98, 99, 100, 101, 102, 103, 104, 105, 106, 107, 108, 109, 110, 111, 112, 113, 114, 115, 116, 117, 118, 119, 120, 121, 122], [121, 101, 97, 114, 59], [116, 114, 97, 105, 110, 32, 114]]
/-- the nest links -/
def zNest : List (String × Nat × MethodName × String) := [(RX8, 43, yX0_init, "TrigramReaders"), (RX7, 33, yX6_init, "TrigramReaders"), (RX6, 24, yX2_init, "TrigramReaders"), (RX7, 34, yX3_init, "TrigramReaders"), (RX4, 145, yX8_isLetter, "TrigramReaders"), (RX4, 148, yX8_isDigit, "TrigramReaders"), (RX0, 27, yX8_isLetter, "TrigramReaders"), (RX3, 34, yX8_isLetter, "TrigramReaders"), (RX4, 165, yX8_withDigit, "TrigramReaders"), (RX2, 47, yX8_firstOrder, "TrigramReaders"), (RX2, 50, yX8_contextStart, "TrigramReaders"), (RX8, 59, yX2_init, "TrigramReaders"), (RX8, 66, yX5_init, "TrigramReaders"), (RX8, 73, yX1_init, "TrigramReaders"), (RX5, 25, yX8_firstOrder, "TrigramReaders"), (RX5, 29, yX8_contextStart, "TrigramReaders"), (RX1, 25, yX8_firstOrder, "TrigramReaders"), (RX1, 38, yX8_contextStart, "TrigramReaders")]
def zCast : List String := ["java/lang/IllegalStateException", "java/lang/IllegalArgumentException", "java/util/NoSuchElementException", "java/lang/IndexOutOfBoundsException"]
def zDecl : List String := ["java/lang/RuntimeException", "java/lang/Exception", "java/lang/Throwable"]
def zNot : List (String × String) := [("java/util/NoSuchElementException", "java/lang/IndexOutOfBoundsException"), ("java/lang/IllegalArgumentException", "java/lang/IndexOutOfBoundsException"), ("java/lang/IllegalStateException", "java/lang/IllegalArgumentException"), ("java/lang/IllegalStateException", "java/lang/IndexOutOfBoundsException")]
abbrev zG0 : Type := va_G × Heap × (Nat → ClassId) × (Nat → Nat) × (Nat → Nat)
def zJdk (γ : zG0) (U : State) : Prop := va_Z "java/lang/String" "COMPACT_STRINGS" "Z" (.int 1) (fun q => γ.2.1.size ≤ q) U γ.2.1 ∧ va_Zq "jdk/internal/util/Preconditions" "SIOOBE_FORMATTER" "Ljava/util/function/BiFunction;" (fun q => γ.2.1.size ≤ q) U γ.2.1
theorem zJdk.warm {γ : zG0} {u U : State} (hW : u.WarmedH U.vm) (h : zJdk γ u) : zJdk γ U := ⟨va_Z.moved hW.alike h.1, va_Zq.moved hW.alike h.2⟩
theorem zJdk.same {γ : zG0} {u U : State} (hW : U.vm = u.vm) (h : zJdk γ u) : zJdk γ U := ⟨va_Z.moved (by rw [hW]; exact Vm.Alike.refl _) h.1, va_Zq.moved (by rw [hW]; exact Vm.Alike.refl _) h.2⟩
/-! THE WORLD AS A MAP: zM says what each address of ours holds; zHW that a heap holds it (and what lay there before, unchanged); zAW is W over every heap that holds the map. -/
abbrev zM : Type := Nat → Option va_E
abbrev zG : Type := va_G × Heap × (Nat → ClassId) × (Nat → Nat) × (Nat → Nat)
abbrev zL : Type := List (Option Value)
def zT : Nat → FieldType := fun i => match i with
  | 0 => .int
  | 1 => .boolean
  | 2 => .byte
  | 3 => .int
  | 4 => .int
  | 5 => .object "TrigramReaders$Reader"
  | 6 => .object "TrigramReaders$Document"
  | _ => .object "TrigramReaders$State"
abbrev zTys (γ : zG) : List (ClassId × FieldType) := (List.range 8).map fun i => (γ.2.2.1 i, zT i)
abbrev zA (γ : zG) : Nat → Prop := fun q => γ.2.1.size ≤ q
def zHW (γ : zG) (M : zM) (H : Heap) : Prop := (γ.2.1.size ≤ H.size ∧ ∀ q : Nat, q < γ.2.1.size → H[q]? = γ.2.1[q]?) ∧ ∀ (a : Nat) (e : va_E), M a = some e → γ.2.1.size ≤ a ∧ va_at γ.1 vwCl (a, e) H
/-- what the tables say, and what lies below our cells -/
def zEV (γ : zG) (U : State) : Prop := va_K γ.1 vwCl (zTys γ) U ∧ vx_Zq Bundle.tN "UNASSIGNED_STACK" Bundle.steD (zA γ) U γ.2.1 ∧ vx_Zq Bundle.tN "SUPPRESSED_SENTINEL" Bundle.listD (zA γ) U γ.2.1 ∧ (∀ (i : Nat) (q : String × Nat × String), zStrs[i]? = some q → vk_R q.1 q.2.1 q.2.2 (γ.2.2.2.1 (i % 26)) U) ∧ vk_S 26 zStrLen zStrByt γ.2.2.2.1 γ.2.2.2.2 (zA γ) U γ.2.1 ∧ zJdk γ U ∧ (∀ q ∈ zNest, va_Nw (.methodLinkNest q.1 q.2.1 q.2.2.1 q.2.2.2) U) ∧ va_AO "TrigramReaders$Reader" U ∧ va_AO "TrigramReaders$Document" U ∧ va_AO "TrigramReaders$State" U ∧ (∀ X ∈ zCast, va_Nw (.castable X X) U) ∧ (∀ X ∈ zDecl, va_Nw (.declares ⟨X, "<init>", "(Ljava/lang/String;)V"⟩) U) ∧ ∀ q ∈ zNot, va_Nc q.1 q.2 U
theorem zEV.warm {γ : zG} {u U : State} (hW : u.WarmedH U.vm) (h : zEV γ u) : zEV γ U :=
  ⟨h.1.moved hW.alike, h.2.1.moved hW.alike, h.2.2.1.moved hW.alike, fun i q hq => (h.2.2.2.1 i q hq).warm hW, h.2.2.2.2.1.moved hW.alike, h.2.2.2.2.2.1.warm hW, fun q hq => (h.2.2.2.2.2.2.1 q hq).warmM hW, va_AO.moved hW.alike h.2.2.2.2.2.2.2.1, va_AO.moved hW.alike h.2.2.2.2.2.2.2.2.1, va_AO.moved hW.alike h.2.2.2.2.2.2.2.2.2.1, fun X hX => (h.2.2.2.2.2.2.2.2.2.2.1 X hX).warmC hW, fun X hX => (h.2.2.2.2.2.2.2.2.2.2.2.1 X hX).warmD hW, fun q hq => (h.2.2.2.2.2.2.2.2.2.2.2.2 q hq).moved hW.alike⟩
theorem zEV.same {γ : zG} {u U : State} (hW : U.vm = u.vm) (h : zEV γ u) : zEV γ U :=
  have ha : u.vm.Alike U.vm := by rw [hW]; exact Vm.Alike.refl _
  ⟨h.1.moved ha, h.2.1.moved ha, h.2.2.1.moved ha, fun i q hq => (h.2.2.2.1 i q hq).same hW, h.2.2.2.2.1.moved ha, h.2.2.2.2.2.1.same hW, fun q hq => va_Nw.same rfl hW.symm (h.2.2.2.2.2.2.1 q hq), va_AO.moved ha h.2.2.2.2.2.2.2.1, va_AO.moved ha h.2.2.2.2.2.2.2.2.1, va_AO.moved ha h.2.2.2.2.2.2.2.2.2.1, fun X hX => va_Nw.same rfl hW.symm (h.2.2.2.2.2.2.2.2.2.2.1 X hX), fun X hX => va_Nw.same rfl hW.symm (h.2.2.2.2.2.2.2.2.2.2.2.1 X hX), fun q hq => (h.2.2.2.2.2.2.2.2.2.2.2.2 q hq).moved ha⟩
theorem zHW.lt {γ : zG} {M : zM} {H : Heap} {a : Nat} {e : va_E} (h : zHW γ M H) (ha : M a = some e) : a < H.size := (h.2 a e ha).2.lt
/-- one cell of ours is written -/
theorem zHW.set {γ : zG} {M : zM} {H H1 : Heap} {a : Nat} {e : va_E} (h : zHW γ M H) (hb : γ.2.1.size ≤ a) (z : H1.size = H.size) (oq : ∀ q : Nat, q ≠ a → H1[q]? = H[q]?) (he : va_at γ.1 vwCl (a, e) H1) : zHW γ (va_up M a (some e)) H1 := by
  refine ⟨⟨by rw [z]; exact h.1.1, fun q hq => ?_⟩, fun b e' hb' => ?_⟩
  · rw [oq q (by omega)]
    exact h.1.2 q hq
  · by_cases hba : b = a
    · subst hba
      rw [va_up_self] at hb'
      cases hb'
      exact ⟨hb, he⟩
    · rw [va_up_ne _ _ hba] at hb'
      obtain ⟨h1, h2⟩ := h.2 b e' hb'
      exact ⟨h1, h2.kept (oq b hba)⟩
/-- a cell is made -/
theorem zHW.push {γ : zG} {M : zM} {H H1 : Heap} {e : va_E} (h : zHW γ M H) (z : H1.size = H.size + 1) (oq : ∀ q : Nat, q < H.size → H1[q]? = H[q]?) (he : va_at γ.1 vwCl (H.size, e) H1) : zHW γ (va_up M H.size (some e)) H1 := by
  refine ⟨⟨by have := h.1.1; omega, fun q hq => ?_⟩, fun b e' hb' => ?_⟩
  · rw [oq q (Nat.lt_of_lt_of_le hq h.1.1)]
    exact h.1.2 q hq
  · by_cases hba : b = H.size
    · subst hba
      rw [va_up_self] at hb'
      cases hb'
      exact ⟨h.1.1, he⟩
    · rw [va_up_ne _ _ hba] at hb'
      obtain ⟨h1, h2⟩ := h.2 b e' hb'
      exact ⟨h1, h2.kept (oq b h2.lt)⟩
theorem zHW.free {γ : zG} {M : zM} {H : Heap} (h : zHW γ M H) : M H.size = none := by
  cases hM : M H.size with
  | none => rfl
  | some e => exact absurd (h.lt hM) (Nat.lt_irrefl _)
/-- a smaller map -/
theorem zHW.sub {γ : zG} {M M' : zM} {H : Heap} (h : zHW γ M H) (hs : ∀ a e, M' a = some e → M a = some e) : zHW γ M' H := ⟨h.1, fun a e he => h.2 a e (hs a e he)⟩
theorem zHW.kept {γ : zG} {M : zM} {H H1 : Heap} (h : zHW γ M H) (hz : H.size ≤ H1.size) (hq : ∀ q : Nat, q < H.size → H1[q]? = H[q]?) : zHW γ M H1 :=
  ⟨⟨Nat.le_trans h.1.1 hz, fun q hq' => by rw [hq q (Nat.lt_of_lt_of_le hq' h.1.1)]; exact h.1.2 q hq'⟩, fun a e he => ⟨(h.2 a e he).1, (h.2 a e he).2.kept (hq a (h.lt he))⟩⟩
/-! locals -/
def zPr : Nat → zL → List (Nat × Value)
  | _, [] => []
  | i, none :: r => zPr (i + 1) r
  | i, some v :: r => (i, v) :: zPr (i + 1) r
def zg : zL → Nat → Option Value
  | [], _ => none
  | x :: _, 0 => x
  | _ :: r, i + 1 => zg r i
def zcl : Option Value → Option Value
  | some (.long _) => none
  | some (.double _) => none
  | x => x
def zs1 : zL → Nat → Value → zL
  | [], _, _ => []
  | _ :: r, 0, v => some v :: r
  | x :: r, 1, v => zcl x :: zs1 r 0 v
  | x :: r, i + 2, v => x :: zs1 r (i + 1) v
def zn0 : zL → zL
  | [] => []
  | _ :: r => none :: r
def zs2 : zL → Nat → Value → zL
  | [], _, _ => []
  | _ :: r, 0, v => some v :: zn0 r
  | x :: r, 1, v => zcl x :: zs2 r 0 v
  | x :: r, i + 2, v => x :: zs2 r (i + 1) v
theorem zPr_mem : ∀ (L : zL) (j i : Nat) (v : Value), (i, v) ∈ zPr j L ↔ ∃ k, i = j + k ∧ zg L k = some v
  | [], j, i, v => by simp [zPr, zg]
  | none :: r, j, i, v => by
    rw [zPr, zPr_mem r (j + 1) i v]
    constructor
    · rintro ⟨k, h1, h2⟩
      exact ⟨k + 1, by omega, h2⟩
    · rintro ⟨k, h1, h2⟩
      cases k with
      | zero => simp [zg] at h2
      | succ k => exact ⟨k, by omega, h2⟩
  | some x :: r, j, i, v => by
    rw [zPr, List.mem_cons, zPr_mem r (j + 1) i v]
    constructor
    · rintro (h | ⟨k, h1, h2⟩)
      · cases h
        exact ⟨0, rfl, rfl⟩
      · exact ⟨k + 1, by omega, h2⟩
    · rintro ⟨k, h1, h2⟩
      cases k with
      | zero => simp only [zg, Option.some.injEq] at h2; subst h2; exact Or.inl (by simp [h1])
      | succ k => exact Or.inr ⟨k, by omega, h2⟩
def zLH (ls : Array Slot) (nL : Nat) (L : zL) : Prop := lv_has ls nL (zPr 0 L)
theorem zLH.at {ls : Array Slot} {nL : Nat} {L : zL} (h : zLH ls nL L) {i : Nat} {v : Value} (hg : zg L i = some v) : ls[i]? = some (.val v) := h.2.2 (i, v) ((zPr_mem L 0 i v).mpr ⟨i, by omega, hg⟩)
theorem zcl_some {x : Option Value} {v : Value} (h : zcl x = some v) : x = some v ∧ ¬ v.category = 2 := by
  cases x with
  | none => cases h
  | some w => cases w <;> simp [zcl] at h <;> subst h <;> exact ⟨rfl, by simp [Value.category]⟩
theorem zs1_get : ∀ (L : zL) (i j : Nat) (v w : Value), zg (zs1 L i v) j = some w → (j = i ∧ w = v) ∨ (j ≠ i ∧ zg L j = some w ∧ ¬ (j + 1 = i ∧ w.category = 2))
  | [], i, j, v, w, h => by simp [zs1, zg] at h
  | x :: r, 0, j, v, w, h => by
    cases j with
    | zero => simp only [zs1, zg, Option.some.injEq] at h; exact Or.inl ⟨rfl, h.symm⟩
    | succ j => exact Or.inr ⟨by omega, h, by omega⟩
  | x :: r, 1, j, v, w, h => by
    cases j with
    | zero =>
      obtain ⟨h1, h2⟩ := zcl_some (x := x) h
      exact Or.inr ⟨by omega, h1, fun q => h2 q.2⟩
    | succ j =>
      rcases zs1_get r 0 j v w h with ⟨a, b⟩ | ⟨a, b, c⟩
      · exact Or.inl ⟨by omega, b⟩
      · exact Or.inr ⟨by omega, b, by omega⟩
  | x :: r, i + 2, j, v, w, h => by
    cases j with
    | zero => exact Or.inr ⟨by omega, h, by omega⟩
    | succ j =>
      rcases zs1_get r (i + 1) j v w h with ⟨a, b⟩ | ⟨a, b, c⟩
      · exact Or.inl ⟨by omega, b⟩
      · exact Or.inr ⟨by omega, b, fun q => c ⟨by omega, q.2⟩⟩
theorem zs2_get : ∀ (L : zL) (i j : Nat) (v w : Value), zg (zs2 L i v) j = some w → (j = i ∧ w = v) ∨ (j ≠ i ∧ j ≠ i + 1 ∧ zg L j = some w ∧ ¬ (j + 1 = i ∧ w.category = 2))
  | [], i, j, v, w, h => by simp [zs2, zg] at h
  | x :: r, 0, j, v, w, h => by
    cases j with
    | zero => simp only [zs2, zg, Option.some.injEq] at h; exact Or.inl ⟨rfl, h.symm⟩
    | succ j =>
      cases r with
      | nil => simp [zs2, zn0, zg] at h
      | cons y r =>
        cases j with
        | zero => simp [zs2, zn0, zg] at h
        | succ j => exact Or.inr ⟨by omega, by omega, h, by omega⟩
  | x :: r, 1, j, v, w, h => by
    cases j with
    | zero =>
      obtain ⟨h1, h2⟩ := zcl_some (x := x) h
      exact Or.inr ⟨by omega, by omega, h1, fun q => h2 q.2⟩
    | succ j =>
      rcases zs2_get r 0 j v w h with ⟨a, b⟩ | ⟨a, a2, b, c⟩
      · exact Or.inl ⟨by omega, b⟩
      · exact Or.inr ⟨by omega, by omega, b, by omega⟩
  | x :: r, i + 2, j, v, w, h => by
    cases j with
    | zero => exact Or.inr ⟨by omega, by omega, h, by omega⟩
    | succ j =>
      rcases zs2_get r (i + 1) j v w h with ⟨a, b⟩ | ⟨a, a2, b, c⟩
      · exact Or.inl ⟨by omega, b⟩
      · exact Or.inr ⟨by omega, by omega, b, fun q => c ⟨by omega, q.2⟩⟩
theorem zLH.of1 {ls' : Array Slot} {nL i : Nat} {L : zL} {v : Value} (h : lv_has ls' nL ((i, v) :: (zPr 0 L).filter (fun q => !(q.1 == i) && !(q.1 + 1 == i && q.2.category == 2)))) : zLH ls' nL (zs1 L i v) := by
  refine ⟨h.1, h.2.1, fun q hq => ?_⟩
  obtain ⟨k, h1, h2⟩ := (zPr_mem _ _ _ _).mp (show (q.1, q.2) ∈ _ from hq)
  rcases zs1_get _ _ _ _ _ h2 with ⟨a, b⟩ | ⟨a, b, c⟩
  · refine h.2.2 q (List.mem_cons.mpr (Or.inl ?_))
    rw [← b, show i = q.1 by omega]
  · refine h.2.2 q (List.mem_cons.mpr (Or.inr (List.mem_filter.mpr ⟨(zPr_mem L 0 q.1 q.2).mpr ⟨k, h1, b⟩, ?_⟩)))
    have e : q.1 = k := by omega
    simp only [Bool.and_eq_true, Bool.not_eq_true', beq_eq_false_iff_ne, Bool.and_eq_false_iff, ne_eq]
    refine ⟨by omega, ?_⟩
    by_cases hc : q.1 + 1 = i
    · exact Or.inr fun z => c ⟨by omega, z⟩
    · exact Or.inl hc
theorem zLH.of2 {ls' : Array Slot} {nL i : Nat} {L : zL} {v : Value} (h : lv_has ls' nL ((i, v) :: (zPr 0 L).filter (fun q => !(q.1 == i) && (!(q.1 == i + 1) && !(q.1 + 1 == i && q.2.category == 2))))) : zLH ls' nL (zs2 L i v) := by
  refine ⟨h.1, h.2.1, fun q hq => ?_⟩
  obtain ⟨k, h1, h2⟩ := (zPr_mem _ _ _ _).mp (show (q.1, q.2) ∈ _ from hq)
  rcases zs2_get _ _ _ _ _ h2 with ⟨a, b⟩ | ⟨a, a2, b, c⟩
  · refine h.2.2 q (List.mem_cons.mpr (Or.inl ?_))
    rw [← b, show i = q.1 by omega]
  · refine h.2.2 q (List.mem_cons.mpr (Or.inr (List.mem_filter.mpr ⟨(zPr_mem L 0 q.1 q.2).mpr ⟨k, h1, b⟩, ?_⟩)))
    have e : q.1 = k := by omega
    simp only [Bool.and_eq_true, Bool.not_eq_true', beq_eq_false_iff_ne, Bool.and_eq_false_iff, ne_eq]
    refine ⟨by omega, by omega, ?_⟩
    by_cases hc : q.1 + 1 = i
    · exact Or.inr fun z => c ⟨by omega, z⟩
    · exact Or.inl hc
/-! the walk -/
def zLo (γ : zG) (locs : List Loc) : Prop := ∀ q ∈ locs, γ.2.1.size ≤ q.base
def zC (p : Program) (l : Launch) (s : State) (m : MethodId) (args : Array Value) (meth : Method) (c : Code) (γ : zG) (cc : ByteArray) (nL : Nat) (ret : Option FieldType) (own : String) (xt : List ExceptionTableEntry) : Prop :=
  p.tables.exec = Jvm.exec ∧ c.code = cc ∧ c.maxLocals = nL ∧ meth.sig.returnType = ret ∧ meth.locks = false ∧ s.vm.findClass own = some m.cls ∧ (∀ w ∈ LW, w.before args s = true) ∧ zEV γ s ∧ l.stackTraces = false ∧ c.exceptionTable.toList = xt ∧ (γ.2.1.size ≤ s.heap.size ∧ ∀ q : Nat, q < γ.2.1.size → s.heap[q]? = γ.2.1[q]?) ∧ (∃ y : MethodName, s.methodNamed? y = some m ∧ meth.name = y.name)
def zAW (p : Program) (l : Launch) (e : Env) (R : Room) (s : State) (m : MethodId) (args : Array Value) (below : List Frame) (meth : Method) (c : Code) (γ : zG) (nL : Nat) (Q : State → Prop) (M : zM) (k n pc : Nat) (L : zL) (st : List Value) : Prop :=
  ∀ (H : Heap) (locs : List Loc) (ls : Array Slot), zHW γ M H → zLo γ locs → zLH ls nL L → s.heap.size ≤ H.size → W p l e R s m args below meth c H locs k n Q (F0 m pc ls st)

section ZR
variable {p : Program} {l : Launch} {e : Env} {R : Room} {s : State} {m : MethodId} {args : Array Value} {below : List Frame} {meth : Method} {c : Code} {γ : zG} {cc : ByteArray} {nL : Nat} {ret : Option FieldType} {own : String} {xt : List ExceptionTableEntry} {Q : State → Prop} {M : zM} {k n pc : Nat} {L : zL} {st : List Value}
theorem zC.ex (C : zC p l s m args meth c γ cc nL ret own xt) : p.tables.exec = Jvm.exec := C.1
theorem zC.by (C : zC p l s m args meth c γ cc nL ret own xt) : c.code = cc := C.2.1
theorem zC.ml (C : zC p l s m args meth c γ cc nL ret own xt) : c.maxLocals = nL := C.2.2.1
theorem zC.rt (C : zC p l s m args meth c γ cc nL ret own xt) : meth.sig.returnType = ret := C.2.2.2.1
theorem zC.lk (C : zC p l s m args meth c γ cc nL ret own xt) : meth.locks = false := C.2.2.2.2.1
theorem zC.ow (C : zC p l s m args meth c γ cc nL ret own xt) : s.vm.findClass own = some m.cls := C.2.2.2.2.2.1
theorem zC.ws (C : zC p l s m args meth c γ cc nL ret own xt) : ∀ w ∈ LW, w.before args s = true := C.2.2.2.2.2.2.1
theorem zC.ev (C : zC p l s m args meth c γ cc nL ret own xt) : zEV γ s := C.2.2.2.2.2.2.2.1
theorem zC.tr (C : zC p l s m args meth c γ cc nL ret own xt) : l.stackTraces = false := C.2.2.2.2.2.2.2.2.1
theorem zC.xtb (C : zC p l s m args meth c γ cc nL ret own xt) : c.exceptionTable.toList = xt := C.2.2.2.2.2.2.2.2.2.1
theorem zC.hb (C : zC p l s m args meth c γ cc nL ret own xt) : γ.2.1.size ≤ s.heap.size ∧ ∀ q : Nat, q < γ.2.1.size → s.heap[q]? = γ.2.1[q]? := C.2.2.2.2.2.2.2.2.2.2.1
theorem zC.nm (C : zC p l s m args meth c γ cc nL ret own xt) : ∃ y : MethodName, s.methodNamed? y = some m ∧ meth.name = y.name := C.2.2.2.2.2.2.2.2.2.2.2
theorem zC.K (C : zC p l s m args meth c γ cc nL ret own xt) : va_K γ.1 vwCl (zTys γ) s := C.ev.1
abbrev zi (x : Int) : Int32 := Int32.ofInt x
abbrev zl (x : Int) : Int64 := Int64.ofInt x
theorem z_iconst (C : zC p l s m args meth c γ cc nL ret own xt) {v : Int} (hd : decode cc pc = .ok (.iconst v, 1)) 
    (kk : zAW p l e R s m args below meth c γ nL Q M k n (pc + 1) L (.int (zi v) :: st)) : zAW p l e R s m args below meth c γ nL Q M k n pc L st := by
  intro H locs ls hH hl hL hz
  exact lv_iconst C.ex C.by hd rfl (kk H locs ls hH hl hL hz)
theorem z_bipush (C : zC p l s m args meth c γ cc nL ret own xt) {v : Int} (hd : decode cc pc = .ok (.bipush v, 2)) (hv : (Int8.ofInt v).toInt32 = zi v) 
    (kk : zAW p l e R s m args below meth c γ nL Q M k n (pc + 2) L (.int (zi v) :: st)) : zAW p l e R s m args below meth c γ nL Q M k n pc L st := by
  intro H locs ls hH hl hL hz
  exact lv_bipush C.ex C.by hd hv (kk H locs ls hH hl hL hz)
theorem z_sipush (C : zC p l s m args meth c γ cc nL ret own xt) {v : Int} (hd : decode cc pc = .ok (.sipush v, 3)) (hv : (Int16.ofInt v).toInt32 = zi v) 
    (kk : zAW p l e R s m args below meth c γ nL Q M k n (pc + 3) L (.int (zi v) :: st)) : zAW p l e R s m args below meth c γ nL Q M k n pc L st := by
  intro H locs ls hH hl hL hz
  exact lv_sipush C.ex C.by hd hv (kk H locs ls hH hl hL hz)
theorem z_lconst (C : zC p l s m args meth c γ cc nL ret own xt) {v : Fin 2} (hd : decode cc pc = .ok (.lconst v, 1)) (hv : Int64.ofNat (v : Nat) = zl (v : Nat)) 
    (kk : zAW p l e R s m args below meth c γ nL Q M k n (pc + 1) L (.long (zl (v : Nat)) :: st)) : zAW p l e R s m args below meth c γ nL Q M k n pc L st := by
  intro H locs ls hH hl hL hz
  exact lv_lconst C.ex C.by hd hv (kk H locs ls hH hl hL hz)
theorem z_null (C : zC p l s m args meth c γ cc nL ret own xt) (hd : decode cc pc = .ok (.aconst_null, 1)) 
    (kk : zAW p l e R s m args below meth c γ nL Q M k n (pc + 1) L (.null :: st)) : zAW p l e R s m args below meth c γ nL Q M k n pc L st := by
  intro H locs ls hH hl hL hz
  exact lv_null C.ex C.by hd (kk H locs ls hH hl hL hz)
theorem z_iload_n (C : zC p l s m args meth c γ cc nL ret own xt) {i : Fin 4} {x : Int32} (hd : decode cc pc = .ok (.iload_n i, 1)) (hg : zg L (i : Nat) = some (.int x)) 
    (kk : zAW p l e R s m args below meth c γ nL Q M k n (pc + 1) L (.int x :: st)) : zAW p l e R s m args below meth c γ nL Q M k n pc L st := by
  intro H locs ls hH hl hL hz
  exact lv_iload_n C.ex C.by hd rfl (hL.at hg) (kk H locs ls hH hl hL hz)
theorem z_iload (C : zC p l s m args meth c γ cc nL ret own xt) {i : Nat} {x : Int32} (hd : decode cc pc = .ok (.iload i, 2)) (hg : zg L i = some (.int x)) 
    (kk : zAW p l e R s m args below meth c γ nL Q M k n (pc + 2) L (.int x :: st)) : zAW p l e R s m args below meth c γ nL Q M k n pc L st := by
  intro H locs ls hH hl hL hz
  exact lv_iload C.ex C.by hd (hL.at hg) (kk H locs ls hH hl hL hz)
theorem z_istore_n (C : zC p l s m args meth c γ cc nL ret own xt) {i : Fin 4} {x : Int32} (hd : decode cc pc = .ok (.istore_n i, 1)) (hn : (i : Nat) < nL) 
    (kk : zAW p l e R s m args below meth c γ nL Q M k n (pc + 1) (zs1 L (i : Nat) (.int x)) st) : zAW p l e R s m args below meth c γ nL Q M k n pc L (.int x :: st) := by
  intro H locs ls hH hl hL hz
  exact lv_istore_n C.ex C.by hd rfl hL hn rfl (fun ls1 h1 => kk H locs ls1 hH hl (zLH.of1 h1) hz)
theorem z_istore (C : zC p l s m args meth c γ cc nL ret own xt) {i : Nat} {x : Int32} (hd : decode cc pc = .ok (.istore i, 2)) (hn : i < nL) 
    (kk : zAW p l e R s m args below meth c γ nL Q M k n (pc + 2) (zs1 L i (.int x)) st) : zAW p l e R s m args below meth c γ nL Q M k n pc L (.int x :: st) := by
  intro H locs ls hH hl hL hz
  exact lv_istore C.ex C.by hd hL hn rfl (fun ls1 h1 => kk H locs ls1 hH hl (zLH.of1 h1) hz)
theorem z_lload_n (C : zC p l s m args meth c γ cc nL ret own xt) {i : Fin 4} {x : Int64} (hd : decode cc pc = .ok (.lload_n i, 1)) (hg : zg L (i : Nat) = some (.long x)) 
    (kk : zAW p l e R s m args below meth c γ nL Q M k n (pc + 1) L (.long x :: st)) : zAW p l e R s m args below meth c γ nL Q M k n pc L st := by
  intro H locs ls hH hl hL hz
  exact lv_lload_n C.ex C.by hd rfl (hL.at hg) (kk H locs ls hH hl hL hz)
theorem z_lload (C : zC p l s m args meth c γ cc nL ret own xt) {i : Nat} {x : Int64} (hd : decode cc pc = .ok (.lload i, 2)) (hg : zg L i = some (.long x)) 
    (kk : zAW p l e R s m args below meth c γ nL Q M k n (pc + 2) L (.long x :: st)) : zAW p l e R s m args below meth c γ nL Q M k n pc L st := by
  intro H locs ls hH hl hL hz
  exact lv_lload C.ex C.by hd (hL.at hg) (kk H locs ls hH hl hL hz)
theorem z_lstore_n (C : zC p l s m args meth c γ cc nL ret own xt) {i : Fin 4} {x : Int64} (hd : decode cc pc = .ok (.lstore_n i, 1)) (hn : (i : Nat) + 1 < nL) 
    (kk : zAW p l e R s m args below meth c γ nL Q M k n (pc + 1) (zs2 L (i : Nat) (.long x)) st) : zAW p l e R s m args below meth c γ nL Q M k n pc L (.long x :: st) := by
  intro H locs ls hH hl hL hz
  exact lv_lstore_n C.ex C.by hd rfl hL hn rfl (fun ls1 h1 => kk H locs ls1 hH hl (zLH.of2 h1) hz)
theorem z_lstore (C : zC p l s m args meth c γ cc nL ret own xt) {i : Nat} {x : Int64} (hd : decode cc pc = .ok (.lstore i, 2)) (hn : i + 1 < nL) 
    (kk : zAW p l e R s m args below meth c γ nL Q M k n (pc + 2) (zs2 L i (.long x)) st) : zAW p l e R s m args below meth c γ nL Q M k n pc L (.long x :: st) := by
  intro H locs ls hH hl hL hz
  exact lv_lstore C.ex C.by hd hL hn rfl (fun ls1 h1 => kk H locs ls1 hH hl (zLH.of2 h1) hz)
theorem z_aload_n (C : zC p l s m args meth c γ cc nL ret own xt) {i : Fin 4} {x : Nat} (hd : decode cc pc = .ok (.aload_n i, 1)) (hg : zg L (i : Nat) = some (.ref x)) 
    (kk : zAW p l e R s m args below meth c γ nL Q M k n (pc + 1) L (.ref x :: st)) : zAW p l e R s m args below meth c γ nL Q M k n pc L st := by
  intro H locs ls hH hl hL hz
  exact lv_aload_n C.ex C.by hd rfl (hL.at hg) (kk H locs ls hH hl hL hz)
theorem z_aload (C : zC p l s m args meth c γ cc nL ret own xt) {i : Nat} {x : Nat} (hd : decode cc pc = .ok (.aload i, 2)) (hg : zg L i = some (.ref x)) 
    (kk : zAW p l e R s m args below meth c γ nL Q M k n (pc + 2) L (.ref x :: st)) : zAW p l e R s m args below meth c γ nL Q M k n pc L st := by
  intro H locs ls hH hl hL hz
  exact lv_aload C.ex C.by hd (hL.at hg) (kk H locs ls hH hl hL hz)
theorem z_astore_n (C : zC p l s m args meth c γ cc nL ret own xt) {i : Fin 4} {x : Nat} (hd : decode cc pc = .ok (.astore_n i, 1)) (hn : (i : Nat) < nL) 
    (kk : zAW p l e R s m args below meth c γ nL Q M k n (pc + 1) (zs1 L (i : Nat) (.ref x)) st) : zAW p l e R s m args below meth c γ nL Q M k n pc L (.ref x :: st) := by
  intro H locs ls hH hl hL hz
  exact lv_astore_n C.ex C.by hd rfl hL hn rfl (fun ls1 h1 => kk H locs ls1 hH hl (zLH.of1 h1) hz)
theorem z_astore (C : zC p l s m args meth c γ cc nL ret own xt) {i : Nat} {x : Nat} (hd : decode cc pc = .ok (.astore i, 2)) (hn : i < nL) 
    (kk : zAW p l e R s m args below meth c γ nL Q M k n (pc + 2) (zs1 L i (.ref x)) st) : zAW p l e R s m args below meth c γ nL Q M k n pc L (.ref x :: st) := by
  intro H locs ls hH hl hL hz
  exact lv_astore C.ex C.by hd hL hn rfl (fun ls1 h1 => kk H locs ls1 hH hl (zLH.of1 h1) hz)
theorem z_dload_n (C : zC p l s m args meth c γ cc nL ret own xt) {i : Fin 4} {x : UInt64} (hd : decode cc pc = .ok (.dload_n i, 1)) (hg : zg L (i : Nat) = some (.double x)) 
    (kk : zAW p l e R s m args below meth c γ nL Q M k n (pc + 1) L (.double x :: st)) : zAW p l e R s m args below meth c γ nL Q M k n pc L st := by
  intro H locs ls hH hl hL hz
  exact lv_dload_n C.ex C.by hd rfl (hL.at hg) (kk H locs ls hH hl hL hz)
theorem z_dload (C : zC p l s m args meth c γ cc nL ret own xt) {i : Nat} {x : UInt64} (hd : decode cc pc = .ok (.dload i, 2)) (hg : zg L i = some (.double x)) 
    (kk : zAW p l e R s m args below meth c γ nL Q M k n (pc + 2) L (.double x :: st)) : zAW p l e R s m args below meth c γ nL Q M k n pc L st := by
  intro H locs ls hH hl hL hz
  exact lv_dload C.ex C.by hd (hL.at hg) (kk H locs ls hH hl hL hz)
theorem z_dstore_n (C : zC p l s m args meth c γ cc nL ret own xt) {i : Fin 4} {x : UInt64} (hd : decode cc pc = .ok (.dstore_n i, 1)) (hn : (i : Nat) + 1 < nL) 
    (kk : zAW p l e R s m args below meth c γ nL Q M k n (pc + 1) (zs2 L (i : Nat) (.double x)) st) : zAW p l e R s m args below meth c γ nL Q M k n pc L (.double x :: st) := by
  intro H locs ls hH hl hL hz
  exact lv_dstore_n C.ex C.by hd rfl hL hn rfl (fun ls1 h1 => kk H locs ls1 hH hl (zLH.of2 h1) hz)
theorem z_dstore (C : zC p l s m args meth c γ cc nL ret own xt) {i : Nat} {x : UInt64} (hd : decode cc pc = .ok (.dstore i, 2)) (hn : i + 1 < nL) 
    (kk : zAW p l e R s m args below meth c γ nL Q M k n (pc + 2) (zs2 L i (.double x)) st) : zAW p l e R s m args below meth c γ nL Q M k n pc L (.double x :: st) := by
  intro H locs ls hH hl hL hz
  exact lv_dstore C.ex C.by hd hL hn rfl (fun ls1 h1 => kk H locs ls1 hH hl (zLH.of2 h1) hz)
theorem z_fload_n (C : zC p l s m args meth c γ cc nL ret own xt) {i : Fin 4} {x : UInt32} (hd : decode cc pc = .ok (.fload_n i, 1)) (hg : zg L (i : Nat) = some (.float x)) 
    (kk : zAW p l e R s m args below meth c γ nL Q M k n (pc + 1) L (.float x :: st)) : zAW p l e R s m args below meth c γ nL Q M k n pc L st := by
  intro H locs ls hH hl hL hz
  exact lv_fload_n C.ex C.by hd rfl (hL.at hg) (kk H locs ls hH hl hL hz)
theorem z_fload (C : zC p l s m args meth c γ cc nL ret own xt) {i : Nat} {x : UInt32} (hd : decode cc pc = .ok (.fload i, 2)) (hg : zg L i = some (.float x)) 
    (kk : zAW p l e R s m args below meth c γ nL Q M k n (pc + 2) L (.float x :: st)) : zAW p l e R s m args below meth c γ nL Q M k n pc L st := by
  intro H locs ls hH hl hL hz
  exact lv_fload C.ex C.by hd (hL.at hg) (kk H locs ls hH hl hL hz)
theorem z_fstore_n (C : zC p l s m args meth c γ cc nL ret own xt) {i : Fin 4} {x : UInt32} (hd : decode cc pc = .ok (.fstore_n i, 1)) (hn : (i : Nat) < nL) 
    (kk : zAW p l e R s m args below meth c γ nL Q M k n (pc + 1) (zs1 L (i : Nat) (.float x)) st) : zAW p l e R s m args below meth c γ nL Q M k n pc L (.float x :: st) := by
  intro H locs ls hH hl hL hz
  exact lv_fstore_n C.ex C.by hd rfl hL hn rfl (fun ls1 h1 => kk H locs ls1 hH hl (zLH.of1 h1) hz)
theorem z_fstore (C : zC p l s m args meth c γ cc nL ret own xt) {i : Nat} {x : UInt32} (hd : decode cc pc = .ok (.fstore i, 2)) (hn : i < nL) 
    (kk : zAW p l e R s m args below meth c γ nL Q M k n (pc + 2) (zs1 L i (.float x)) st) : zAW p l e R s m args below meth c γ nL Q M k n pc L (.float x :: st) := by
  intro H locs ls hH hl hL hz
  exact lv_fstore C.ex C.by hd hL hn rfl (fun ls1 h1 => kk H locs ls1 hH hl (zLH.of1 h1) hz)
theorem zPr_at {L : zL} {i : Nat} {v : Value} (h : zg L i = some v) : ∃ j : Nat, (zPr 0 L)[j]? = some (i, v) := List.getElem?_of_mem ((zPr_mem L 0 i v).mpr ⟨i, by omega, h⟩)
theorem z_iinc (C : zC p l s m args meth c γ cc nL ret own xt) {i : Nat} {v : Int} {x : Int32} (hd : decode cc pc = .ok (.iinc i v, 3)) (hg : zg L i = some (.int x)) (hn : i < nL) 
    (kk : zAW p l e R s m args below meth c γ nL Q M k n (pc + 3) (zs1 L i (.int (x + zi v))) st) : zAW p l e R s m args below meth c γ nL Q M k n pc L st := by
  intro H locs ls hH hl hL hz
  obtain ⟨j, hj⟩ := zPr_at hg
  exact lv_iinc C.ex C.by hd hL hj rfl hn rfl (fun ls1 h1 => kk H locs ls1 hH hl (zLH.of1 h1) hz)
theorem z_iadd (C : zC p l s m args meth c γ cc nL ret own xt) {x y : Int32} (hd : decode cc pc = .ok (.iadd, 1)) 
    (kk : zAW p l e R s m args below meth c γ nL Q M k n (pc + 1) L (.int (x + y) :: st)) : zAW p l e R s m args below meth c γ nL Q M k n pc L (.int y :: .int x :: st) := by
  intro H locs ls hH hl hL hz
  exact lv_iadd C.ex C.by hd (kk H locs ls hH hl hL hz)
theorem z_isub (C : zC p l s m args meth c γ cc nL ret own xt) {x y : Int32} (hd : decode cc pc = .ok (.isub, 1)) 
    (kk : zAW p l e R s m args below meth c γ nL Q M k n (pc + 1) L (.int (x - y) :: st)) : zAW p l e R s m args below meth c γ nL Q M k n pc L (.int y :: .int x :: st) := by
  intro H locs ls hH hl hL hz
  exact lv_isub C.ex C.by hd (kk H locs ls hH hl hL hz)
theorem z_imul (C : zC p l s m args meth c γ cc nL ret own xt) {x y : Int32} (hd : decode cc pc = .ok (.imul, 1)) 
    (kk : zAW p l e R s m args below meth c γ nL Q M k n (pc + 1) L (.int (x * y) :: st)) : zAW p l e R s m args below meth c γ nL Q M k n pc L (.int y :: .int x :: st) := by
  intro H locs ls hH hl hL hz
  exact lv_imul C.ex C.by hd (kk H locs ls hH hl hL hz)
theorem z_iand (C : zC p l s m args meth c γ cc nL ret own xt) {x y : Int32} (hd : decode cc pc = .ok (.iand, 1)) 
    (kk : zAW p l e R s m args below meth c γ nL Q M k n (pc + 1) L (.int (x &&& y) :: st)) : zAW p l e R s m args below meth c γ nL Q M k n pc L (.int y :: .int x :: st) := by
  intro H locs ls hH hl hL hz
  exact lv_iand C.ex C.by hd (kk H locs ls hH hl hL hz)
theorem z_ior (C : zC p l s m args meth c γ cc nL ret own xt) {x y : Int32} (hd : decode cc pc = .ok (.ior, 1)) 
    (kk : zAW p l e R s m args below meth c γ nL Q M k n (pc + 1) L (.int (x ||| y) :: st)) : zAW p l e R s m args below meth c γ nL Q M k n pc L (.int y :: .int x :: st) := by
  intro H locs ls hH hl hL hz
  exact lv_ior C.ex C.by hd (kk H locs ls hH hl hL hz)
theorem z_ishl (C : zC p l s m args meth c γ cc nL ret own xt) {x y : Int32} (hd : decode cc pc = .ok (.ishl, 1)) 
    (kk : zAW p l e R s m args below meth c γ nL Q M k n (pc + 1) L (.int (x <<< (y &&& 31)) :: st)) : zAW p l e R s m args below meth c γ nL Q M k n pc L (.int y :: .int x :: st) := by
  intro H locs ls hH hl hL hz
  exact lv_ishl C.ex C.by hd (kk H locs ls hH hl hL hz)
theorem z_ishr (C : zC p l s m args meth c γ cc nL ret own xt) {x y : Int32} (hd : decode cc pc = .ok (.ishr, 1)) 
    (kk : zAW p l e R s m args below meth c γ nL Q M k n (pc + 1) L (.int (x >>> (y &&& 31)) :: st)) : zAW p l e R s m args below meth c γ nL Q M k n pc L (.int y :: .int x :: st) := by
  intro H locs ls hH hl hL hz
  exact lv_ishr C.ex C.by hd (kk H locs ls hH hl hL hz)
theorem z_iushr (C : zC p l s m args meth c γ cc nL ret own xt) {x y : Int32} (hd : decode cc pc = .ok (.iushr, 1)) 
    (kk : zAW p l e R s m args below meth c γ nL Q M k n (pc + 1) L (.int ((x.toUInt32 >>> (y.toUInt32 &&& Int32.toUInt32 31)).toInt32) :: st)) : zAW p l e R s m args below meth c γ nL Q M k n pc L (.int y :: .int x :: st) := by
  intro H locs ls hH hl hL hz
  exact lv_iushr C.ex C.by hd rfl (kk H locs ls hH hl hL hz)
theorem z_idiv (C : zC p l s m args meth c γ cc nL ret own xt) {x y : Int32} (hd : decode cc pc = .ok (.idiv, 1)) (hne : ¬ y = 0) 
    (kk : zAW p l e R s m args below meth c γ nL Q M k n (pc + 1) L (.int (x / y) :: st)) : zAW p l e R s m args below meth c γ nL Q M k n pc L (.int y :: .int x :: st) := by
  intro H locs ls hH hl hL hz
  exact lv_idiv C.ex C.by hd hne (kk H locs ls hH hl hL hz)
theorem z_irem (C : zC p l s m args meth c γ cc nL ret own xt) {x y : Int32} (hd : decode cc pc = .ok (.irem, 1)) (hne : ¬ y = 0) 
    (kk : zAW p l e R s m args below meth c γ nL Q M k n (pc + 1) L (.int (x - x / y * y) :: st)) : zAW p l e R s m args below meth c γ nL Q M k n pc L (.int y :: .int x :: st) := by
  intro H locs ls hH hl hL hz
  exact lv_irem C.ex C.by hd hne (kk H locs ls hH hl hL hz)
theorem z_ladd (C : zC p l s m args meth c γ cc nL ret own xt) {x y : Int64} (hd : decode cc pc = .ok (.ladd, 1)) 
    (kk : zAW p l e R s m args below meth c γ nL Q M k n (pc + 1) L (.long (x + y) :: st)) : zAW p l e R s m args below meth c γ nL Q M k n pc L (.long y :: .long x :: st) := by
  intro H locs ls hH hl hL hz
  exact lv_ladd C.ex C.by hd (kk H locs ls hH hl hL hz)
theorem z_lsub (C : zC p l s m args meth c γ cc nL ret own xt) {x y : Int64} (hd : decode cc pc = .ok (.lsub, 1)) 
    (kk : zAW p l e R s m args below meth c γ nL Q M k n (pc + 1) L (.long (x - y) :: st)) : zAW p l e R s m args below meth c γ nL Q M k n pc L (.long y :: .long x :: st) := by
  intro H locs ls hH hl hL hz
  exact lv_lsub C.ex C.by hd (kk H locs ls hH hl hL hz)
theorem z_lmul (C : zC p l s m args meth c γ cc nL ret own xt) {x y : Int64} (hd : decode cc pc = .ok (.lmul, 1)) 
    (kk : zAW p l e R s m args below meth c γ nL Q M k n (pc + 1) L (.long (x * y) :: st)) : zAW p l e R s m args below meth c γ nL Q M k n pc L (.long y :: .long x :: st) := by
  intro H locs ls hH hl hL hz
  exact lv_lmul C.ex C.by hd (kk H locs ls hH hl hL hz)
theorem z_ldiv (C : zC p l s m args meth c γ cc nL ret own xt) {x y : Int64} (hd : decode cc pc = .ok (.ldiv, 1)) (hne : ¬ y = 0) 
    (kk : zAW p l e R s m args below meth c γ nL Q M k n (pc + 1) L (.long (x / y) :: st)) : zAW p l e R s m args below meth c γ nL Q M k n pc L (.long y :: .long x :: st) := by
  intro H locs ls hH hl hL hz
  exact lv_ldiv C.ex C.by hd hne (kk H locs ls hH hl hL hz)
theorem z_lrem (C : zC p l s m args meth c γ cc nL ret own xt) {x y : Int64} (hd : decode cc pc = .ok (.lrem, 1)) (hne : ¬ y = 0) 
    (kk : zAW p l e R s m args below meth c γ nL Q M k n (pc + 1) L (.long (x - x / y * y) :: st)) : zAW p l e R s m args below meth c γ nL Q M k n pc L (.long y :: .long x :: st) := by
  intro H locs ls hH hl hL hz
  exact lv_lrem C.ex C.by hd hne (kk H locs ls hH hl hL hz)
theorem z_lcmp (C : zC p l s m args meth c γ cc nL ret own xt) {x y : Int64} (hd : decode cc pc = .ok (.lcmp, 1)) 
    (kk : zAW p l e R s m args below meth c γ nL Q M k n (pc + 1) L (.int (lg_cmp x y) :: st)) : zAW p l e R s m args below meth c γ nL Q M k n pc L (.long y :: .long x :: st) := by
  intro H locs ls hH hl hL hz
  exact W.lcmp C.ex C.by hd (kk H locs ls hH hl hL hz)
theorem z_i2l (C : zC p l s m args meth c γ cc nL ret own xt) {x : Int32} (hd : decode cc pc = .ok (.i2l, 1)) 
    (kk : zAW p l e R s m args below meth c γ nL Q M k n (pc + 1) L (.long x.toInt64 :: st)) : zAW p l e R s m args below meth c γ nL Q M k n pc L (.int x :: st) := by
  intro H locs ls hH hl hL hz
  exact lv_i2l C.ex C.by hd rfl (kk H locs ls hH hl hL hz)
theorem z_i2b (C : zC p l s m args meth c γ cc nL ret own xt) {x : Int32} (hd : decode cc pc = .ok (.i2b, 1)) 
    (kk : zAW p l e R s m args below meth c γ nL Q M k n (pc + 1) L (.int x.toInt8.toInt32 :: st)) : zAW p l e R s m args below meth c γ nL Q M k n pc L (.int x :: st) := by
  intro H locs ls hH hl hL hz
  exact lv_i2b C.ex C.by hd rfl (kk H locs ls hH hl hL hz)
theorem z_dup (C : zC p l s m args meth c γ cc nL ret own xt) {v : Value} (hd : decode cc pc = .ok (.dup, 1)) (hv : v.category = 1) 
    (kk : zAW p l e R s m args below meth c γ nL Q M k n (pc + 1) L (v :: v :: st)) : zAW p l e R s m args below meth c γ nL Q M k n pc L (v :: st) := by
  intro H locs ls hH hl hL hz
  exact lv_dup C.ex C.by hd hv (kk H locs ls hH hl hL hz)
theorem z_pop (C : zC p l s m args meth c γ cc nL ret own xt) {v : Value} (hd : decode cc pc = .ok (.pop, 1)) (hv : v.category = 1) 
    (kk : zAW p l e R s m args below meth c γ nL Q M k n (pc + 1) L st) : zAW p l e R s m args below meth c γ nL Q M k n pc L (v :: st) := by
  intro H locs ls hH hl hL hz
  exact lv_pop C.ex C.by hd hv (kk H locs ls hH hl hL hz)
theorem z_dup2 (C : zC p l s m args meth c γ cc nL ret own xt) {v u : Value} (hd : decode cc pc = .ok (.dup2, 1)) (hv : v.category = 1) (hu : u.category = 1) 
    (kk : zAW p l e R s m args below meth c γ nL Q M k n (pc + 1) L (v :: u :: v :: u :: st)) : zAW p l e R s m args below meth c γ nL Q M k n pc L (v :: u :: st) := by
  intro H locs ls hH hl hL hz
  exact lv_dup2_11 C.ex C.by hd hv hu (kk H locs ls hH hl hL hz)
theorem z_dup2L (C : zC p l s m args meth c γ cc nL ret own xt) {v : Value} (hd : decode cc pc = .ok (.dup2, 1)) (hv : v.category = 2) 
    (kk : zAW p l e R s m args below meth c γ nL Q M k n (pc + 1) L (v :: v :: st)) : zAW p l e R s m args below meth c γ nL Q M k n pc L (v :: st) := by
  intro H locs ls hH hl hL hz
  exact lv_dup2_2 C.ex C.by hd hv (kk H locs ls hH hl hL hz)
end ZR
end
section
theorem zi_toInt {a : Int} (h : -2147483648 ≤ a ∧ a ≤ 2147483647) : (zi a).toInt = a := Int32.toInt_ofInt_of_le h.1 (by omega)
theorem zi_add (a b : Int) : zi a + zi b = zi (a + b) := (Int32.ofInt_add a b).symm
theorem zi_sub (a b : Int) : zi a - zi b = zi (a - b) := (Int32.ofInt_sub a b).symm
theorem zi_mul (a b : Int) : zi a * zi b = zi (a * b) := (Int32.ofInt_mul a b).symm
theorem zi_of (x : Int32) : x = zi x.toInt := (Int32.ofInt_toInt x).symm
theorem zi_rng (x : Int32) : -2147483648 ≤ x.toInt ∧ x.toInt ≤ 2147483647 := ⟨Int32.le_toInt x, by have := Int32.toInt_lt x; omega⟩
theorem zi_lt {a b : Int} (ha : -2147483648 ≤ a ∧ a ≤ 2147483647) (hb : -2147483648 ≤ b ∧ b ≤ 2147483647) : zi a < zi b ↔ a < b := by rw [Int32.lt_iff_toInt_lt, zi_toInt ha, zi_toInt hb]
theorem zi_le {a b : Int} (ha : -2147483648 ≤ a ∧ a ≤ 2147483647) (hb : -2147483648 ≤ b ∧ b ≤ 2147483647) : zi a ≤ zi b ↔ a ≤ b := by rw [Int32.le_iff_toInt_le, zi_toInt ha, zi_toInt hb]
theorem zi_eq {a b : Int} (ha : -2147483648 ≤ a ∧ a ≤ 2147483647) (hb : -2147483648 ≤ b ∧ b ≤ 2147483647) : zi a = zi b ↔ a = b := by rw [← Int32.toInt_inj, zi_toInt ha, zi_toInt hb]
theorem zi_0 : (0 : Int32) = zi 0 := rfl
theorem zi_nat {i : Int} {N : Nat} (h : 0 ≤ i ∧ i < N) (hN : N ≤ 2147483648) : (zi i).toNatClampNeg = i.toNat := by
  show (zi i).toInt.toNat = _
  rw [zi_toInt (by omega)]
theorem zi_in {i : Int} {N : Nat} (h : 0 ≤ i ∧ i < N) (hN : N ≤ 2147483648) : vp_in (zi i) N := by
  rw [vp_in_iff, zi_toInt (by omega)]
  exact h
theorem zi_nI {n : Nat} (h : n ≤ 2147483647) : nI n = zi n := Int32.toInt_inj.mp (by rw [nI_toInt (by omega), zi_toInt (by omega)])
theorem zi_div {a b : Int} (ha : 0 ≤ a ∧ a ≤ 2147483647) (hb : 0 < b ∧ b ≤ 2147483647) : zi a / zi b = zi (a / b) := by
  obtain ⟨x, rfl⟩ := Int.eq_ofNat_of_zero_le ha.1
  obtain ⟨y, rfl⟩ := Int.eq_ofNat_of_zero_le (Int.le_of_lt hb.1)
  have h := pk_div (a := x) (d := y) (by omega) (by omega) (by omega)
  have hle : x / y ≤ x := Nat.div_le_self _ _
  rw [zi_nI (by omega), zi_nI (by omega), zi_nI (by omega)] at h
  rw [h]
  rfl
theorem zi_rem {a b : Int} (ha : 0 ≤ a ∧ a ≤ 2147483647) (hb : 0 < b ∧ b ≤ 2147483647) : zi a - zi a / zi b * zi b = zi (a % b) := by
  rw [zi_div ha hb, zi_mul, zi_sub, Int.emod_def, Int.mul_comm]
section ZR3
variable {p : Program} {l : Launch} {e : Env} {R : Room} {s : State} {m : MethodId} {args : Array Value} {below : List Frame} {meth : Method} {c : Code} {γ : zG} {cc : ByteArray} {nL : Nat} {ret : Option FieldType} {own : String} {xt : List ExceptionTableEntry} {Q : State → Prop} {M : zM} {k n pc : Nat} {L : zL} {st : List Value}
theorem z_iaddZ (C : zC p l s m args meth c γ cc nL ret own xt) {x y : Int} (hd : decode cc pc = .ok (.iadd, 1)) (kk : zAW p l e R s m args below meth c γ nL Q M k n (pc + 1) L (.int (zi (x + y)) :: st)) : zAW p l e R s m args below meth c γ nL Q M k n pc L (.int (zi y) :: .int (zi x) :: st) := z_iadd C hd (by rw [zi_add]; exact kk)
theorem z_isubZ (C : zC p l s m args meth c γ cc nL ret own xt) {x y : Int} (hd : decode cc pc = .ok (.isub, 1)) (kk : zAW p l e R s m args below meth c γ nL Q M k n (pc + 1) L (.int (zi (x - y)) :: st)) : zAW p l e R s m args below meth c γ nL Q M k n pc L (.int (zi y) :: .int (zi x) :: st) := z_isub C hd (by rw [zi_sub]; exact kk)
theorem z_imulZ (C : zC p l s m args meth c γ cc nL ret own xt) {x y : Int} (hd : decode cc pc = .ok (.imul, 1)) (kk : zAW p l e R s m args below meth c γ nL Q M k n (pc + 1) L (.int (zi (x * y)) :: st)) : zAW p l e R s m args below meth c γ nL Q M k n pc L (.int (zi y) :: .int (zi x) :: st) := z_imul C hd (by rw [zi_mul]; exact kk)
theorem z_iincZ (C : zC p l s m args meth c γ cc nL ret own xt) {i : Nat} {v x : Int} (hd : decode cc pc = .ok (.iinc i v, 3)) (hg : zg L i = some (.int (zi x))) (hn : i < nL) (kk : zAW p l e R s m args below meth c γ nL Q M k n (pc + 3) (zs1 L i (.int (zi (x + v)))) st) : zAW p l e R s m args below meth c γ nL Q M k n pc L st := z_iinc C hd hg hn (by rw [zi_add]; exact kk)
theorem z_idivZ (C : zC p l s m args meth c γ cc nL ret own xt) {x y : Int} (hd : decode cc pc = .ok (.idiv, 1)) (hx : 0 ≤ x ∧ x ≤ 2147483647) (hy : 0 < y ∧ y ≤ 2147483647) (kk : zAW p l e R s m args below meth c γ nL Q M k n (pc + 1) L (.int (zi (x / y)) :: st)) : zAW p l e R s m args below meth c γ nL Q M k n pc L (.int (zi y) :: .int (zi x) :: st) := z_idiv C hd (fun h => by rw [zi_0, zi_eq (by omega) (by omega)] at h; omega) (by rw [zi_div hx hy]; exact kk)
theorem z_iremZ (C : zC p l s m args meth c γ cc nL ret own xt) {x y : Int} (hd : decode cc pc = .ok (.irem, 1)) (hx : 0 ≤ x ∧ x ≤ 2147483647) (hy : 0 < y ∧ y ≤ 2147483647) (kk : zAW p l e R s m args below meth c γ nL Q M k n (pc + 1) L (.int (zi (x % y)) :: st)) : zAW p l e R s m args below meth c γ nL Q M k n pc L (.int (zi y) :: .int (zi x) :: st) := z_irem C hd (fun h => by rw [zi_0, zi_eq (by omega) (by omega)] at h; omega) (by rw [zi_rem hx hy]; exact kk)
theorem z_icmp_eq (C : zC p l s m args meth c γ cc nL ret own xt) {x y : Int32} {off : Int} {tgt : Nat} (hd : decode cc pc = .ok (.if_icmp .eq off, 3)) (ht : (pc : Int) + off = (tgt : Int)) (kt : x = y → zAW p l e R s m args below meth c γ nL Q M k n tgt L st) (kf : ¬ x = y → zAW p l e R s m args below meth c γ nL Q M k n (pc + 3) L st) : zAW p l e R s m args below meth c γ nL Q M k n pc L (.int y :: .int x :: st) := by
  intro H locs ls hH hl hL hz
  exact lv_icmp_eq C.ex C.by hd ht (fun h => kt h H locs ls hH hl hL hz) (fun h => kf h H locs ls hH hl hL hz)
theorem z_icmp_eqZ (C : zC p l s m args meth c γ cc nL ret own xt) {x y : Int} {off : Int} {tgt : Nat} (hd : decode cc pc = .ok (.if_icmp .eq off, 3)) (ht : (pc : Int) + off = (tgt : Int)) (hx : -2147483648 ≤ x ∧ x ≤ 2147483647) (hy : -2147483648 ≤ y ∧ y ≤ 2147483647) (kt : x = y → zAW p l e R s m args below meth c γ nL Q M k n tgt L st) (kf : ¬ x = y → zAW p l e R s m args below meth c γ nL Q M k n (pc + 3) L st) : zAW p l e R s m args below meth c γ nL Q M k n pc L (.int (zi y) :: .int (zi x) :: st) := z_icmp_eq C hd ht (fun h => kt (by rwa [zi_eq hx hy] at h)) (fun h => kf (by rwa [zi_eq hx hy] at h))
theorem z_icmp_ne (C : zC p l s m args meth c γ cc nL ret own xt) {x y : Int32} {off : Int} {tgt : Nat} (hd : decode cc pc = .ok (.if_icmp .ne off, 3)) (ht : (pc : Int) + off = (tgt : Int)) (kt : ¬ x = y → zAW p l e R s m args below meth c γ nL Q M k n tgt L st) (kf : x = y → zAW p l e R s m args below meth c γ nL Q M k n (pc + 3) L st) : zAW p l e R s m args below meth c γ nL Q M k n pc L (.int y :: .int x :: st) := by
  intro H locs ls hH hl hL hz
  exact lv_icmp_ne C.ex C.by hd ht (fun h => kt h H locs ls hH hl hL hz) (fun h => kf h H locs ls hH hl hL hz)
theorem z_icmp_neZ (C : zC p l s m args meth c γ cc nL ret own xt) {x y : Int} {off : Int} {tgt : Nat} (hd : decode cc pc = .ok (.if_icmp .ne off, 3)) (ht : (pc : Int) + off = (tgt : Int)) (hx : -2147483648 ≤ x ∧ x ≤ 2147483647) (hy : -2147483648 ≤ y ∧ y ≤ 2147483647) (kt : ¬ x = y → zAW p l e R s m args below meth c γ nL Q M k n tgt L st) (kf : x = y → zAW p l e R s m args below meth c γ nL Q M k n (pc + 3) L st) : zAW p l e R s m args below meth c γ nL Q M k n pc L (.int (zi y) :: .int (zi x) :: st) := z_icmp_ne C hd ht (fun h => kt (by rwa [zi_eq hx hy] at h)) (fun h => kf (by rwa [zi_eq hx hy] at h))
theorem z_icmp_lt (C : zC p l s m args meth c γ cc nL ret own xt) {x y : Int32} {off : Int} {tgt : Nat} (hd : decode cc pc = .ok (.if_icmp .lt off, 3)) (ht : (pc : Int) + off = (tgt : Int)) (kt : x < y → zAW p l e R s m args below meth c γ nL Q M k n tgt L st) (kf : ¬ x < y → zAW p l e R s m args below meth c γ nL Q M k n (pc + 3) L st) : zAW p l e R s m args below meth c γ nL Q M k n pc L (.int y :: .int x :: st) := by
  intro H locs ls hH hl hL hz
  exact lv_icmp_lt C.ex C.by hd ht (fun h => kt h H locs ls hH hl hL hz) (fun h => kf h H locs ls hH hl hL hz)
theorem z_icmp_ltZ (C : zC p l s m args meth c γ cc nL ret own xt) {x y : Int} {off : Int} {tgt : Nat} (hd : decode cc pc = .ok (.if_icmp .lt off, 3)) (ht : (pc : Int) + off = (tgt : Int)) (hx : -2147483648 ≤ x ∧ x ≤ 2147483647) (hy : -2147483648 ≤ y ∧ y ≤ 2147483647) (kt : x < y → zAW p l e R s m args below meth c γ nL Q M k n tgt L st) (kf : ¬ x < y → zAW p l e R s m args below meth c γ nL Q M k n (pc + 3) L st) : zAW p l e R s m args below meth c γ nL Q M k n pc L (.int (zi y) :: .int (zi x) :: st) := z_icmp_lt C hd ht (fun h => kt (by rwa [zi_lt hx hy] at h)) (fun h => kf (by rwa [zi_lt hx hy] at h))
theorem z_icmp_ge (C : zC p l s m args meth c γ cc nL ret own xt) {x y : Int32} {off : Int} {tgt : Nat} (hd : decode cc pc = .ok (.if_icmp .ge off, 3)) (ht : (pc : Int) + off = (tgt : Int)) (kt : y ≤ x → zAW p l e R s m args below meth c γ nL Q M k n tgt L st) (kf : ¬ y ≤ x → zAW p l e R s m args below meth c γ nL Q M k n (pc + 3) L st) : zAW p l e R s m args below meth c γ nL Q M k n pc L (.int y :: .int x :: st) := by
  intro H locs ls hH hl hL hz
  exact lv_icmp_ge C.ex C.by hd ht (fun h => kt h H locs ls hH hl hL hz) (fun h => kf h H locs ls hH hl hL hz)
theorem z_icmp_geZ (C : zC p l s m args meth c γ cc nL ret own xt) {x y : Int} {off : Int} {tgt : Nat} (hd : decode cc pc = .ok (.if_icmp .ge off, 3)) (ht : (pc : Int) + off = (tgt : Int)) (hx : -2147483648 ≤ x ∧ x ≤ 2147483647) (hy : -2147483648 ≤ y ∧ y ≤ 2147483647) (kt : y ≤ x → zAW p l e R s m args below meth c γ nL Q M k n tgt L st) (kf : ¬ y ≤ x → zAW p l e R s m args below meth c γ nL Q M k n (pc + 3) L st) : zAW p l e R s m args below meth c γ nL Q M k n pc L (.int (zi y) :: .int (zi x) :: st) := z_icmp_ge C hd ht (fun h => kt (by rwa [zi_le hy hx] at h)) (fun h => kf (by rwa [zi_le hy hx] at h))
theorem z_icmp_gt (C : zC p l s m args meth c γ cc nL ret own xt) {x y : Int32} {off : Int} {tgt : Nat} (hd : decode cc pc = .ok (.if_icmp .gt off, 3)) (ht : (pc : Int) + off = (tgt : Int)) (kt : y < x → zAW p l e R s m args below meth c γ nL Q M k n tgt L st) (kf : ¬ y < x → zAW p l e R s m args below meth c γ nL Q M k n (pc + 3) L st) : zAW p l e R s m args below meth c γ nL Q M k n pc L (.int y :: .int x :: st) := by
  intro H locs ls hH hl hL hz
  exact lv_icmp_gt C.ex C.by hd ht (fun h => kt h H locs ls hH hl hL hz) (fun h => kf h H locs ls hH hl hL hz)
theorem z_icmp_gtZ (C : zC p l s m args meth c γ cc nL ret own xt) {x y : Int} {off : Int} {tgt : Nat} (hd : decode cc pc = .ok (.if_icmp .gt off, 3)) (ht : (pc : Int) + off = (tgt : Int)) (hx : -2147483648 ≤ x ∧ x ≤ 2147483647) (hy : -2147483648 ≤ y ∧ y ≤ 2147483647) (kt : y < x → zAW p l e R s m args below meth c γ nL Q M k n tgt L st) (kf : ¬ y < x → zAW p l e R s m args below meth c γ nL Q M k n (pc + 3) L st) : zAW p l e R s m args below meth c γ nL Q M k n pc L (.int (zi y) :: .int (zi x) :: st) := z_icmp_gt C hd ht (fun h => kt (by rwa [zi_lt hy hx] at h)) (fun h => kf (by rwa [zi_lt hy hx] at h))
theorem z_icmp_le (C : zC p l s m args meth c γ cc nL ret own xt) {x y : Int32} {off : Int} {tgt : Nat} (hd : decode cc pc = .ok (.if_icmp .le off, 3)) (ht : (pc : Int) + off = (tgt : Int)) (kt : x ≤ y → zAW p l e R s m args below meth c γ nL Q M k n tgt L st) (kf : ¬ x ≤ y → zAW p l e R s m args below meth c γ nL Q M k n (pc + 3) L st) : zAW p l e R s m args below meth c γ nL Q M k n pc L (.int y :: .int x :: st) := by
  intro H locs ls hH hl hL hz
  exact lv_icmp_le C.ex C.by hd ht (fun h => kt h H locs ls hH hl hL hz) (fun h => kf h H locs ls hH hl hL hz)
theorem z_icmp_leZ (C : zC p l s m args meth c γ cc nL ret own xt) {x y : Int} {off : Int} {tgt : Nat} (hd : decode cc pc = .ok (.if_icmp .le off, 3)) (ht : (pc : Int) + off = (tgt : Int)) (hx : -2147483648 ≤ x ∧ x ≤ 2147483647) (hy : -2147483648 ≤ y ∧ y ≤ 2147483647) (kt : x ≤ y → zAW p l e R s m args below meth c γ nL Q M k n tgt L st) (kf : ¬ x ≤ y → zAW p l e R s m args below meth c γ nL Q M k n (pc + 3) L st) : zAW p l e R s m args below meth c γ nL Q M k n pc L (.int (zi y) :: .int (zi x) :: st) := z_icmp_le C hd ht (fun h => kt (by rwa [zi_le hx hy] at h)) (fun h => kf (by rwa [zi_le hx hy] at h))
theorem z_if_eq (C : zC p l s m args meth c γ cc nL ret own xt) {x : Int32} {off : Int} {tgt : Nat} (hd : decode cc pc = .ok (.ifCond .eq off, 3)) (ht : (pc : Int) + off = (tgt : Int)) (kt : x = 0 → zAW p l e R s m args below meth c γ nL Q M k n tgt L st) (kf : ¬ x = 0 → zAW p l e R s m args below meth c γ nL Q M k n (pc + 3) L st) : zAW p l e R s m args below meth c γ nL Q M k n pc L (.int x :: st) := by
  intro H locs ls hH hl hL hz
  exact lv_if_eq C.ex C.by hd ht (fun h => kt h H locs ls hH hl hL hz) (fun h => kf h H locs ls hH hl hL hz)
theorem z_if_eqZ (C : zC p l s m args meth c γ cc nL ret own xt) {x : Int} {off : Int} {tgt : Nat} (hd : decode cc pc = .ok (.ifCond .eq off, 3)) (ht : (pc : Int) + off = (tgt : Int)) (hx : -2147483648 ≤ x ∧ x ≤ 2147483647) (kt : x = 0 → zAW p l e R s m args below meth c γ nL Q M k n tgt L st) (kf : ¬ x = 0 → zAW p l e R s m args below meth c γ nL Q M k n (pc + 3) L st) : zAW p l e R s m args below meth c γ nL Q M k n pc L (.int (zi x) :: st) :=
  have z : (-2147483648 : Int) ≤ 0 ∧ (0 : Int) ≤ 2147483647 := by omega
  z_if_eq C hd ht (fun h => kt (by rwa [zi_0, zi_eq hx z] at h)) (fun h => kf (by rwa [zi_0, zi_eq hx z] at h))
theorem z_if_ne (C : zC p l s m args meth c γ cc nL ret own xt) {x : Int32} {off : Int} {tgt : Nat} (hd : decode cc pc = .ok (.ifCond .ne off, 3)) (ht : (pc : Int) + off = (tgt : Int)) (kt : ¬ x = 0 → zAW p l e R s m args below meth c γ nL Q M k n tgt L st) (kf : x = 0 → zAW p l e R s m args below meth c γ nL Q M k n (pc + 3) L st) : zAW p l e R s m args below meth c γ nL Q M k n pc L (.int x :: st) := by
  intro H locs ls hH hl hL hz
  exact lv_if_ne C.ex C.by hd ht (fun h => kt h H locs ls hH hl hL hz) (fun h => kf h H locs ls hH hl hL hz)
theorem z_if_neZ (C : zC p l s m args meth c γ cc nL ret own xt) {x : Int} {off : Int} {tgt : Nat} (hd : decode cc pc = .ok (.ifCond .ne off, 3)) (ht : (pc : Int) + off = (tgt : Int)) (hx : -2147483648 ≤ x ∧ x ≤ 2147483647) (kt : ¬ x = 0 → zAW p l e R s m args below meth c γ nL Q M k n tgt L st) (kf : x = 0 → zAW p l e R s m args below meth c γ nL Q M k n (pc + 3) L st) : zAW p l e R s m args below meth c γ nL Q M k n pc L (.int (zi x) :: st) :=
  have z : (-2147483648 : Int) ≤ 0 ∧ (0 : Int) ≤ 2147483647 := by omega
  z_if_ne C hd ht (fun h => kt (by rwa [zi_0, zi_eq hx z] at h)) (fun h => kf (by rwa [zi_0, zi_eq hx z] at h))
theorem z_if_lt (C : zC p l s m args meth c γ cc nL ret own xt) {x : Int32} {off : Int} {tgt : Nat} (hd : decode cc pc = .ok (.ifCond .lt off, 3)) (ht : (pc : Int) + off = (tgt : Int)) (kt : x < 0 → zAW p l e R s m args below meth c γ nL Q M k n tgt L st) (kf : ¬ x < 0 → zAW p l e R s m args below meth c γ nL Q M k n (pc + 3) L st) : zAW p l e R s m args below meth c γ nL Q M k n pc L (.int x :: st) := by
  intro H locs ls hH hl hL hz
  exact lv_if_lt C.ex C.by hd ht (fun h => kt h H locs ls hH hl hL hz) (fun h => kf h H locs ls hH hl hL hz)
theorem z_if_ltZ (C : zC p l s m args meth c γ cc nL ret own xt) {x : Int} {off : Int} {tgt : Nat} (hd : decode cc pc = .ok (.ifCond .lt off, 3)) (ht : (pc : Int) + off = (tgt : Int)) (hx : -2147483648 ≤ x ∧ x ≤ 2147483647) (kt : x < 0 → zAW p l e R s m args below meth c γ nL Q M k n tgt L st) (kf : ¬ x < 0 → zAW p l e R s m args below meth c γ nL Q M k n (pc + 3) L st) : zAW p l e R s m args below meth c γ nL Q M k n pc L (.int (zi x) :: st) :=
  have z : (-2147483648 : Int) ≤ 0 ∧ (0 : Int) ≤ 2147483647 := by omega
  z_if_lt C hd ht (fun h => kt (by rwa [zi_0, zi_lt hx z] at h)) (fun h => kf (by rwa [zi_0, zi_lt hx z] at h))
theorem z_if_ge (C : zC p l s m args meth c γ cc nL ret own xt) {x : Int32} {off : Int} {tgt : Nat} (hd : decode cc pc = .ok (.ifCond .ge off, 3)) (ht : (pc : Int) + off = (tgt : Int)) (kt : 0 ≤ x → zAW p l e R s m args below meth c γ nL Q M k n tgt L st) (kf : ¬ 0 ≤ x → zAW p l e R s m args below meth c γ nL Q M k n (pc + 3) L st) : zAW p l e R s m args below meth c γ nL Q M k n pc L (.int x :: st) := by
  intro H locs ls hH hl hL hz
  exact lv_if_ge C.ex C.by hd ht (fun h => kt h H locs ls hH hl hL hz) (fun h => kf h H locs ls hH hl hL hz)
theorem z_if_geZ (C : zC p l s m args meth c γ cc nL ret own xt) {x : Int} {off : Int} {tgt : Nat} (hd : decode cc pc = .ok (.ifCond .ge off, 3)) (ht : (pc : Int) + off = (tgt : Int)) (hx : -2147483648 ≤ x ∧ x ≤ 2147483647) (kt : 0 ≤ x → zAW p l e R s m args below meth c γ nL Q M k n tgt L st) (kf : ¬ 0 ≤ x → zAW p l e R s m args below meth c γ nL Q M k n (pc + 3) L st) : zAW p l e R s m args below meth c γ nL Q M k n pc L (.int (zi x) :: st) :=
  have z : (-2147483648 : Int) ≤ 0 ∧ (0 : Int) ≤ 2147483647 := by omega
  z_if_ge C hd ht (fun h => kt (by rwa [zi_0, zi_le z hx] at h)) (fun h => kf (by rwa [zi_0, zi_le z hx] at h))
theorem z_if_gt (C : zC p l s m args meth c γ cc nL ret own xt) {x : Int32} {off : Int} {tgt : Nat} (hd : decode cc pc = .ok (.ifCond .gt off, 3)) (ht : (pc : Int) + off = (tgt : Int)) (kt : 0 < x → zAW p l e R s m args below meth c γ nL Q M k n tgt L st) (kf : ¬ 0 < x → zAW p l e R s m args below meth c γ nL Q M k n (pc + 3) L st) : zAW p l e R s m args below meth c γ nL Q M k n pc L (.int x :: st) := by
  intro H locs ls hH hl hL hz
  exact lv_if_gt C.ex C.by hd ht (fun h => kt h H locs ls hH hl hL hz) (fun h => kf h H locs ls hH hl hL hz)
theorem z_if_gtZ (C : zC p l s m args meth c γ cc nL ret own xt) {x : Int} {off : Int} {tgt : Nat} (hd : decode cc pc = .ok (.ifCond .gt off, 3)) (ht : (pc : Int) + off = (tgt : Int)) (hx : -2147483648 ≤ x ∧ x ≤ 2147483647) (kt : 0 < x → zAW p l e R s m args below meth c γ nL Q M k n tgt L st) (kf : ¬ 0 < x → zAW p l e R s m args below meth c γ nL Q M k n (pc + 3) L st) : zAW p l e R s m args below meth c γ nL Q M k n pc L (.int (zi x) :: st) :=
  have z : (-2147483648 : Int) ≤ 0 ∧ (0 : Int) ≤ 2147483647 := by omega
  z_if_gt C hd ht (fun h => kt (by rwa [zi_0, zi_lt z hx] at h)) (fun h => kf (by rwa [zi_0, zi_lt z hx] at h))
theorem z_if_le (C : zC p l s m args meth c γ cc nL ret own xt) {x : Int32} {off : Int} {tgt : Nat} (hd : decode cc pc = .ok (.ifCond .le off, 3)) (ht : (pc : Int) + off = (tgt : Int)) (kt : x ≤ 0 → zAW p l e R s m args below meth c γ nL Q M k n tgt L st) (kf : ¬ x ≤ 0 → zAW p l e R s m args below meth c γ nL Q M k n (pc + 3) L st) : zAW p l e R s m args below meth c γ nL Q M k n pc L (.int x :: st) := by
  intro H locs ls hH hl hL hz
  exact lv_if_le C.ex C.by hd ht (fun h => kt h H locs ls hH hl hL hz) (fun h => kf h H locs ls hH hl hL hz)
theorem z_if_leZ (C : zC p l s m args meth c γ cc nL ret own xt) {x : Int} {off : Int} {tgt : Nat} (hd : decode cc pc = .ok (.ifCond .le off, 3)) (ht : (pc : Int) + off = (tgt : Int)) (hx : -2147483648 ≤ x ∧ x ≤ 2147483647) (kt : x ≤ 0 → zAW p l e R s m args below meth c γ nL Q M k n tgt L st) (kf : ¬ x ≤ 0 → zAW p l e R s m args below meth c γ nL Q M k n (pc + 3) L st) : zAW p l e R s m args below meth c γ nL Q M k n pc L (.int (zi x) :: st) :=
  have z : (-2147483648 : Int) ≤ 0 ∧ (0 : Int) ≤ 2147483647 := by omega
  z_if_le C hd ht (fun h => kt (by rwa [zi_0, zi_le hx z] at h)) (fun h => kf (by rwa [zi_0, zi_le hx z] at h))
theorem z_goto (C : zC p l s m args meth c γ cc nL ret own xt) {off : Int} {tgt : Nat} (hd : decode cc pc = .ok (.goto off, 3)) (ht : (pc : Int) + off = (tgt : Int)) (kk : zAW p l e R s m args below meth c γ nL Q M k n tgt L st) : zAW p l e R s m args below meth c γ nL Q M k n pc L st := by
  intro H locs ls hH hl hL hz
  exact lv_goto C.ex C.by hd ht (kk H locs ls hH hl hL hz)
theorem z_ifnull (C : zC p l s m args meth c γ cc nL ret own xt) {x : Nat} {off : Int} (hd : decode cc pc = .ok (.ifnull off, 3)) (kk : zAW p l e R s m args below meth c γ nL Q M k n (pc + 3) L st) : zAW p l e R s m args below meth c γ nL Q M k n pc L (.ref x :: st) := by
  intro H locs ls hH hl hL hz
  exact lv_ifnull C.ex C.by hd (kk H locs ls hH hl hL hz)
theorem z_ifnonnull (C : zC p l s m args meth c γ cc nL ret own xt) {x : Nat} {off : Int} {tgt : Nat} (hd : decode cc pc = .ok (.ifnonnull off, 3)) (ht : (pc : Int) + off = (tgt : Int)) (kk : zAW p l e R s m args below meth c γ nL Q M k n tgt L st) : zAW p l e R s m args below meth c γ nL Q M k n pc L (.ref x :: st) := by
  intro H locs ls hH hl hL hz
  exact lv_ifnonnull C.ex C.by hd ht (kk H locs ls hH hl hL hz)
theorem z_ifnullN (C : zC p l s m args meth c γ cc nL ret own xt) {off : Int} {tgt : Nat} (hd : decode cc pc = .ok (.ifnull off, 3)) (ht : (pc : Int) + off = (tgt : Int)) (kk : zAW p l e R s m args below meth c γ nL Q M k n tgt L st) : zAW p l e R s m args below meth c γ nL Q M k n pc L (.null :: st) := by
  intro H locs ls hH hl hL hz
  exact lv_ifnullN C.ex C.by hd ht (kk H locs ls hH hl hL hz)
theorem z_ifnonnullN (C : zC p l s m args meth c γ cc nL ret own xt) {off : Int} (hd : decode cc pc = .ok (.ifnonnull off, 3)) (kk : zAW p l e R s m args below meth c γ nL Q M k n (pc + 3) L st) : zAW p l e R s m args below meth c γ nL Q M k n pc L (.null :: st) := by
  intro H locs ls hH hl hL hz
  exact lv_ifnonnullN C.ex C.by hd (kk H locs ls hH hl hL hz)
/-- a field's link: class code own, its entry; which class's objects (its place in vwCl), which field -/
def zFL (own : String) (index ci kf : Nat) (fin : Bool) (ty : FieldType) : Prop := ∃ (ref Cn : String) (T : u_T) (N : Nat) (ty0 : Nat → FieldType), Cond.fieldLink own index ref (T kf).2.1 (T kf).2.2.1 ∈ LW ∧ (∀ w ∈ u_ws Cn T N, w ∈ LW) ∧ vwCl[ci]? = some (Cn, T, N) ∧ kf < N ∧ ref = (T kf).1 ∧ (∀ k, k < N → parseFieldDescriptor (T k).2.2.1 = some (ty0 k)) ∧ (∀ a, a < N → ∀ b, b < N → a ≠ b → (T a).2.1 ≠ (T b).2.1) ∧ (T kf).2.2.2 = fin ∧ ty0 kf = ty
theorem z_get (C : zC p l s m args meth c γ cc nL ret own xt) {a ci kf index : Nat} {fin : Bool} {ty : FieldType} {fs : List Value} {v : Value} (hd : decode cc pc = .ok (.getfield index, 3)) (hF : zFL own index ci kf fin ty) (hM : M a = some (.inr (ci, fs))) (hv : fs[kf]? = some v) (kk : zAW p l e R s m args below meth c γ nL Q M k n (pc + 3) L (v :: st)) : zAW p l e R s m args below meth c γ nL Q M k n pc L (.ref a :: st) := by
  intro H locs ls hH hl hL hz
  obtain ⟨ref, Cn, T, N, ty0, h1, h2, h3, h4, h5, -⟩ := hF
  subst h5
  have hP : va_P γ.1 vwCl [(a, .inr (ci, fs))] H := by
    intro j q hq
    have hj : j < 1 := (List.getElem?_eq_some_iff.mp hq).1
    rw [show j = 0 by omega] at hq
    cases hq
    exact (hH.2 a _ hM).2
  exact va_get (D := γ.1) (cl := vwCl) C.ex C.by C.ws h2 C.ow C.K hP 0 rfl h3 kf h4 (C.ws _ h1) (fun _ h => h) hv hd (kk H locs ls hH hl hL hz)
theorem z_put (C : zC p l s m args meth c γ cc nL ret own xt) {a ci kf index : Nat} {ty : FieldType} {fs : List Value} {v : Value} (hd : decode cc pc = .ok (.putfield index, 3)) (hF : zFL own index ci kf false ty) (hM : M a = some (.inr (ci, fs))) (hn : narrow ty v = v) (hfit : fits ty v = true) (hlen : kf < fs.length) (kk : zAW p l e R s m args below meth c γ nL Q (va_up M a (some (.inr (ci, fs.set kf v)))) k n (pc + 3) L st) : zAW p l e R s m args below meth c γ nL Q M k n pc L (v :: .ref a :: st) := by
  intro H locs ls hH hl hL hz
  obtain ⟨ref, Cn, T, N, ty0, h1, h2, h3, h4, h5, h6, h7, h8, h9⟩ := hF
  subst h5
  subst h9
  obtain ⟨hba, hat⟩ := hH.2 a _ hM
  have hP : va_P γ.1 vwCl [(a, .inr (ci, fs))] H := by
    intro j q hq
    have hj : j < 1 := (List.getElem?_eq_some_iff.mp hq).1
    rw [show j = 0 by omega] at hq
    cases hq
    exact hat
  have hap := va_apart (own := own) C.ws h2 ty0 h6 h7 C.K h3
  obtain ⟨r, g1, cell, q1, q2, q3, q4⟩ := hat
  have hr : r = (Cn, T, N) := Option.some.inj (g1.symm.trans h3)
  subst hr
  obtain ⟨hS, hfc, kC, hkC, hkind⟩ := C.K.1 ci _ h3
  obtain ⟨cf, kf', fi, f, hi, hsl⟩ := hS kf h4
  have hlay := C.ws _ (h2 _ (u_in_lay h4))
  unfold u_lay at hlay
  rw [if_neg (by rw [h8]; decide)] at hlay
  have hst := (u_facts hfc hkC (u_lays C.ws h2 h4) hi).1
  have h6' := u_store hfc hkC hkind hlay hi (h6 kf h4) hn hfit
  refine W.putK C.ex C.by (f := f) ⟨C.ow, C.ws _ h1, ⟨_, _, _, hi⟩, hst⟩ (by rw [q2]; exact h6') q1 q3 (by rw [hsl]; exact k2_hasslot (q4 kf h4)) rfl rfl hd fun H1 e1 e2 e3 => ?_
  rw [hsl] at e1 ⊢
  refine kk H1 _ ls (hH.set hba e2 e3 ⟨_, h3, t_OB.to (V := updV (vp_V fs) kf v) ⟨_, e1, q2, q3, t_set q4 hap h4 v⟩ (fun j _ => vp_updV_set hlen v j)⟩) ?_ hL (by rw [e2]; exact hz)
  intro q hq
  rcases List.mem_append.mp hq with h | h
  · exact hl q h
  · rw [List.mem_singleton.mp h]; exact hba
theorem z_putF (C : zC p l s m args meth c γ cc nL ret own xt) {a ci kf index : Nat} {ty : FieldType} {fs : List Value} {v : Value} (hd : decode cc pc = .ok (.putfield index, 3)) (hF : zFL own index ci kf true ty) (hin : meth.name = "<init>") (hM : M a = some (.inr (ci, fs))) (hdecl : ∀ Cn T N, vwCl[ci]? = some (Cn, T, N) → (T kf).1 = own) (hn : narrow ty v = v) (hfit : fits ty v = true) (hlen : kf < fs.length) (kk : zAW p l e R s m args below meth c γ nL Q (va_up M a (some (.inr (ci, fs.set kf v)))) k n (pc + 3) L st) : zAW p l e R s m args below meth c γ nL Q M k n pc L (v :: .ref a :: st) := by
  intro H locs ls hH hl hL hz
  obtain ⟨ref, Cn, T, N, ty0, h1, h2, h3, h4, h5, h6, h7, h8, h9⟩ := hF
  subst h5
  subst h9
  obtain ⟨hba, hat⟩ := hH.2 a _ hM
  have hP : va_P γ.1 vwCl [(a, .inr (ci, fs))] H := by
    intro j q hq
    have hj : j < 1 := (List.getElem?_eq_some_iff.mp hq).1
    rw [show j = 0 by omega] at hq
    cases hq
    exact hat
  have hap := va_apart (own := own) C.ws h2 ty0 h6 h7 C.K h3
  obtain ⟨r, g1, cell, q1, q2, q3, q4⟩ := hat
  have hr : r = (Cn, T, N) := Option.some.inj (g1.symm.trans h3)
  subst hr
  obtain ⟨hS, hfc, kC, hkC, hkind⟩ := C.K.1 ci _ h3
  obtain ⟨cf, kf', fi, f, hi, hsl⟩ := hS kf h4
  have hlay := C.ws _ (h2 _ (u_in_lay h4))
  unfold u_lay at hlay
  rw [if_pos h8] at hlay
  have hst := (u_facts hfc hkC (u_lays C.ws h2 h4) hi).1
  have hcf : m.cls = cf := by
    obtain ⟨_, _, c', _, _, _, -, -, hf', -, -, -, hown2, -⟩ := Cond.laysFinal_spec hlay
    have e1 : c' = cf := by have := hi.symm.trans hf'; simp at this; exact this.1.symm
    rw [hdecl _ _ _ h3] at hown2
    rw [← e1]; exact Option.some.inj (C.ow.symm.trans hown2)
  have h6' := u_fits hfc hkC hkind (Or.inr hlay) hi (h6 kf h4) hn hfit
  refine W.putFinK C.ex C.by C.ow (C.ws _ h1) hi hst hcf hin (by rw [q2]; exact h6') q1 q3 (by rw [hsl]; exact k2_hasslot (q4 kf h4)) rfl rfl hd fun H1 e1 e2 e3 => ?_
  rw [hsl] at e1 ⊢
  refine kk H1 _ ls (hH.set hba e2 e3 ⟨_, h3, t_OB.to (V := updV (vp_V fs) kf v) ⟨_, e1, q2, q3, t_set q4 hap h4 v⟩ (fun j _ => vp_updV_set hlen v j)⟩) ?_ hL (by rw [e2]; exact hz)
  intro q hq
  rcases List.mem_append.mp hq with h | h
  · exact hl q h
  · rw [List.mem_singleton.mp h]; exact hba
abbrev zaI (γ : zG) (N : Nat) (f : Nat → Int32) : va_E := .inl (γ.2.2.1 0, N, .inl f)
abbrev zaZ (γ : zG) (N : Nat) (f : Nat → Int32) : va_E := .inl (γ.2.2.1 1, N, .inl f)
abbrev zaB (γ : zG) (N : Nat) (f : Nat → Int32) : va_E := .inl (γ.2.2.1 2, N, .inl f)
abbrev zaQ (γ : zG) (kd N : Nat) (f : Nat → Option Nat) : va_E := .inl (γ.2.2.1 kd, N, .inr (.inr (.inr (.inr f))))
theorem zK_ty (C : zC p l s m args meth c γ cc nL ret own xt) {i : Nat} (h : i < 8) : ArrOfT s (γ.2.2.1 i) (zT i) ∧ va_RA s (γ.2.2.1 i) (zT i) := C.K.2 i (γ.2.2.1 i, zT i) (by simp [zTys, h])
theorem z_aldI (C : zC p l s m args meth c γ cc nL ret own xt) {a N : Nat} {f : Nat → Int32} {i : Int} (hd : decode cc pc = .ok (.iaload, 1)) (hM : M a = some (zaI γ N f)) (hi : 0 ≤ i ∧ i < N) (hN : N ≤ 2147483648) (kk : zAW p l e R s m args below meth c γ nL Q M k n (pc + 1) L (.int (f i.toNat) :: st)) : zAW p l e R s m args below meth c γ nL Q M k n pc L (.int (zi i) :: .ref a :: st) := by
  intro H locs ls hH hl hL hz
  have hin := zi_in hi hN
  have hcl := zi_nat hi hN
  refine W.iald (v := .int (f i.toNat)) C.ex C.by (hH.2 a _ hM).2 ((zK_ty C (i := 0) (by omega)).1 N (fun j => .int (f j))) (fun q => by cases q) (by show ¬ (_ < 0 ∨ (arrV _ _ _).slots.size ≤ _); rw [arrV_size]; exact hin) ?_ rfl rfl hd (kk H locs ls hH hl hL hz)
  show (arrV _ _ _).slots[_]? = _
  have hlt : (zi i).toNatClampNeg < N := by rw [hcl]; omega
  rw [arrV_read _ _ hlt, hcl]
theorem z_astI (C : zC p l s m args meth c γ cc nL ret own xt) {a N : Nat} {f : Nat → Int32} {i : Int} {x : Int32} (hd : decode cc pc = .ok (.iastore, 1)) (hM : M a = some (zaI γ N f)) (hi : 0 ≤ i ∧ i < N) (hN : N ≤ 2147483648) (kk : zAW p l e R s m args below meth c γ nL Q (va_up M a (some (zaI γ N (va_up f i.toNat x)))) k n (pc + 1) L st) : zAW p l e R s m args below meth c γ nL Q M k n pc L (.int x :: .int (zi i) :: .ref a :: st) := by
  intro H locs ls hH hl hL hz
  have hin := zi_in hi hN
  have hcl := zi_nat hi hN
  obtain ⟨hba, hat⟩ := hH.2 a _ hM
  refine W.iast C.ex C.by hat ((zK_ty C (i := 0) (by omega)).1 N (fun j => .int (f j))) (fun q => by cases q) (by show ¬ (_ < 0 ∨ (arrV _ _ _).slots.size ≤ _); rw [arrV_size]; exact hin) rfl rfl hd fun H1 e1 e2 e3 => ?_
  refine kk H1 _ ls (hH.set hba e2 e3 ?_) ?_ hL (by rw [e2]; exact hz)
  · show H1[a]? = some (vp_cell _ _)
    rw [e1]
    rw [vp_cell_i, vp_cell_i, arrV_store, hcl]
    congr 2
    funext q
    by_cases hq : q = i.toNat
    · subst hq
      simp [updV, va_up, vp_nar, narrow]
    · simp [updV, va_up, hq]
  · intro q hq
    rcases List.mem_append.mp hq with h | h
    · exact hl q h
    · rw [List.mem_singleton.mp h]; exact hba
theorem z_aldZ (C : zC p l s m args meth c γ cc nL ret own xt) {a N : Nat} {f : Nat → Int32} {i : Int} (hd : decode cc pc = .ok (.baload, 1)) (hM : M a = some (zaZ γ N f)) (hi : 0 ≤ i ∧ i < N) (hN : N ≤ 2147483648) (kk : zAW p l e R s m args below meth c γ nL Q M k n (pc + 1) L (.int (f i.toNat) :: st)) : zAW p l e R s m args below meth c γ nL Q M k n pc L (.int (zi i) :: .ref a :: st) := by
  intro H locs ls hH hl hL hz
  have hin := zi_in hi hN
  have hcl := zi_nat hi hN
  refine W.zald (v := .int (f i.toNat)) C.ex C.by (hH.2 a _ hM).2 ((zK_ty C (i := 1) (by omega)).1 N (fun j => .int (f j))) (fun q => by cases q) (by show ¬ (_ < 0 ∨ (arrV _ _ _).slots.size ≤ _); rw [arrV_size]; exact hin) ?_ rfl rfl hd (kk H locs ls hH hl hL hz)
  show (arrV _ _ _).slots[_]? = _
  have hlt : (zi i).toNatClampNeg < N := by rw [hcl]; omega
  rw [arrV_read _ _ hlt, hcl]
theorem z_astZ (C : zC p l s m args meth c γ cc nL ret own xt) {a N : Nat} {f : Nat → Int32} {i : Int} {x : Int32} (hd : decode cc pc = .ok (.bastore, 1)) (hM : M a = some (zaZ γ N f)) (hi : 0 ≤ i ∧ i < N) (hN : N ≤ 2147483648) (kk : zAW p l e R s m args below meth c γ nL Q (va_up M a (some (zaZ γ N (va_up f i.toNat (vp_nar .boolean x))))) k n (pc + 1) L st) : zAW p l e R s m args below meth c γ nL Q M k n pc L (.int x :: .int (zi i) :: .ref a :: st) := by
  intro H locs ls hH hl hL hz
  have hin := zi_in hi hN
  have hcl := zi_nat hi hN
  obtain ⟨hba, hat⟩ := hH.2 a _ hM
  refine W.zast C.ex C.by hat ((zK_ty C (i := 1) (by omega)).1 N (fun j => .int (f j))) (fun q => by cases q) (by show ¬ (_ < 0 ∨ (arrV _ _ _).slots.size ≤ _); rw [arrV_size]; exact hin) rfl rfl hd fun H1 e1 e2 e3 => ?_
  refine kk H1 _ ls (hH.set hba e2 e3 ?_) ?_ hL (by rw [e2]; exact hz)
  · show H1[a]? = some (vp_cell _ _)
    rw [e1]
    rw [vp_cell_i, vp_cell_i, arrV_store, hcl]
    congr 2
    funext q
    by_cases hq : q = i.toNat
    · subst hq
      simp [updV, va_up, vp_nar, narrow]
    · simp [updV, va_up, hq]
  · intro q hq
    rcases List.mem_append.mp hq with h | h
    · exact hl q h
    · rw [List.mem_singleton.mp h]; exact hba
theorem z_aldB (C : zC p l s m args meth c γ cc nL ret own xt) {a N : Nat} {f : Nat → Int32} {i : Int} (hd : decode cc pc = .ok (.baload, 1)) (hM : M a = some (zaB γ N f)) (hi : 0 ≤ i ∧ i < N) (hN : N ≤ 2147483648) (kk : zAW p l e R s m args below meth c γ nL Q M k n (pc + 1) L (.int (f i.toNat) :: st)) : zAW p l e R s m args below meth c γ nL Q M k n pc L (.int (zi i) :: .ref a :: st) := by
  intro H locs ls hH hl hL hz
  have hin := zi_in hi hN
  have hcl := zi_nat hi hN
  refine W.bald (v := .int (f i.toNat)) C.ex C.by (hH.2 a _ hM).2 ((zK_ty C (i := 2) (by omega)).1 N (fun j => .int (f j))) (fun q => by cases q) (by show ¬ (_ < 0 ∨ (arrV _ _ _).slots.size ≤ _); rw [arrV_size]; exact hin) ?_ rfl rfl hd (kk H locs ls hH hl hL hz)
  show (arrV _ _ _).slots[_]? = _
  have hlt : (zi i).toNatClampNeg < N := by rw [hcl]; omega
  rw [arrV_read _ _ hlt, hcl]
theorem z_astB (C : zC p l s m args meth c γ cc nL ret own xt) {a N : Nat} {f : Nat → Int32} {i : Int} {x : Int32} (hd : decode cc pc = .ok (.bastore, 1)) (hM : M a = some (zaB γ N f)) (hi : 0 ≤ i ∧ i < N) (hN : N ≤ 2147483648) (kk : zAW p l e R s m args below meth c γ nL Q (va_up M a (some (zaB γ N (va_up f i.toNat (vp_nar .byte x))))) k n (pc + 1) L st) : zAW p l e R s m args below meth c γ nL Q M k n pc L (.int x :: .int (zi i) :: .ref a :: st) := by
  intro H locs ls hH hl hL hz
  have hin := zi_in hi hN
  have hcl := zi_nat hi hN
  obtain ⟨hba, hat⟩ := hH.2 a _ hM
  refine W.bast C.ex C.by hat ((zK_ty C (i := 2) (by omega)).1 N (fun j => .int (f j))) (fun q => by cases q) (by show ¬ (_ < 0 ∨ (arrV _ _ _).slots.size ≤ _); rw [arrV_size]; exact hin) rfl rfl hd fun H1 e1 e2 e3 => ?_
  refine kk H1 _ ls (hH.set hba e2 e3 ?_) ?_ hL (by rw [e2]; exact hz)
  · show H1[a]? = some (vp_cell _ _)
    rw [e1]
    rw [vp_cell_i, vp_cell_i, arrV_store, hcl]
    congr 2
    funext q
    by_cases hq : q = i.toNat
    · subst hq
      simp [updV, va_up, vp_nar, narrow]
    · simp [updV, va_up, hq]
  · intro q hq
    rcases List.mem_append.mp hq with h | h
    · exact hl q h
    · rw [List.mem_singleton.mp h]; exact hba
theorem z_aldQ (C : zC p l s m args meth c γ cc nL ret own xt) {a N kd : Nat} {f : Nat → Option Nat} {i : Int} (hd : decode cc pc = .ok (.aaload, 1)) (hM : M a = some (zaQ γ kd N f)) (hk : 5 ≤ kd ∧ kd < 8) (hi : 0 ≤ i ∧ i < N) (hN : N ≤ 2147483648) (kk : zAW p l e R s m args below meth c γ nL Q M k n (pc + 1) L (va_rf (f i.toNat) :: st)) : zAW p l e R s m args below meth c γ nL Q M k n pc L (.int (zi i) :: .ref a :: st) := by
  intro H locs ls hH hl hL hz
  have hin := zi_in hi hN
  have hcl := zi_nat hi hN
  have hT : ∃ Cn : String, zT kd = .object Cn := by
    rcases (show kd = 5 ∨ kd = 6 ∨ kd = 7 by omega) with h | h | h <;> subst h <;> exact ⟨_, rfl⟩
  obtain ⟨Cn, hT⟩ := hT
  have hA := (zK_ty C (i := kd) (by omega)).1
  rw [hT] at hA
  refine W.aald (v := va_rf (f i.toNat)) (ty := .object Cn) C.ex C.by (hH.2 a _ hM).2 (hA N (fun j => va_rf (f j))) rfl (fun q => by cases q) (by show ¬ (_ < 0 ∨ (arrV _ _ _).slots.size ≤ _); rw [arrV_size]; exact hin) ?_ rfl rfl hd (kk H locs ls hH hl hL hz)
  show (arrV _ _ _).slots[_]? = _
  have hlt : (zi i).toNatClampNeg < N := by rw [hcl]; omega
  rw [arrV_read _ _ hlt, hcl]
theorem z_alenI (C : zC p l s m args meth c γ cc nL ret own xt) {a N : Nat} {f : Nat → Int32} (hd : decode cc pc = .ok (.arraylength, 1)) (hM : M a = some (zaI γ N f)) (hN : N ≤ 2147483647) (kk : zAW p l e R s m args below meth c γ nL Q M k n (pc + 1) L (.int (zi N) :: st)) : zAW p l e R s m args below meth c γ nL Q M k n pc L (.ref a :: st) := by
  intro H locs ls hH hl hL hz
  refine W.alen (n := Int32.ofNat N) C.ex C.by (hH.2 a _ hM).2 ((zK_ty C (i := 0) (by omega)).1 N (fun j => .int (f j))) (by rw [vp_cell_i, arrV_size] <;> rfl) rfl rfl hd ?_
  rw [show Int32.ofNat N = zi N from zi_nI hN]
  exact kk H locs ls hH hl hL hz
end ZR3
end
section
/-! ends, calls, makings -/
def zQc (γ : zG) (post : Option Value → zM → Prop) : Array Value → State → Outcome → State → Prop := fun _ st oc t => (∃ (v : Option Value) (M' : zM), oc = .returned v ∧ post v M' ∧ zHW γ M' t.heap) ∧ st.heap.size ≤ t.heap.size
def zXc (γ : zG) (px : String → zM → Prop) : String → State → State → Prop := fun E st t => (∃ M' : zM, px E M' ∧ zHW γ M' t.heap) ∧ st.heap.size ≤ t.heap.size
def zRQ (below : List Frame) (γ : zG) (post : Option Value → zM → Prop) (px : String → zM → Prop) (args : Array Value) (s : State) (mc ms : Nat) : State → Prop := vx_MQ below (zQc γ post) (zXc γ px) args s mc ms (zA γ)
abbrev zPc (γ : zG) (As : List Value) (M : zM) : Array Value → State → Prop := va_Pc As (fun U => zHW γ M U.heap ∧ zEV γ U)
/-- a method's contract, over the map: from M and the arguments it returns with post, or throws with px; frames fr, locals lo, cells mc, slots ms -/
def zCon (l : Launch) (γ : zG) (y : MethodName) (cc : ByteArray) (nL : Nat) (ret : Option FieldType) (As : List Value) (M : zM) (fr lo mc ms : Nat) (post : Option Value → zM → Prop) (px : String → zM → Prop) : Prop :=
  l.stackTraces = false → vx_Met l y (Cond.code y cc nL ret :: LW) { frames := fr, cells := mc, slots := ms, locals := lo } (zPc γ As M) (zQc γ post) (zXc γ px) mc ms (zA γ)
theorem zCon.weaken {l : Launch} {γ : zG} {y : MethodName} {cc : ByteArray} {nL : Nat} {ret : Option FieldType} {As : List Value} {M : zM} {fr lo mc ms : Nat} {post post' : Option Value → zM → Prop} {px px' : String → zM → Prop} (h : zCon l γ y cc nL ret As M fr lo mc ms post px) (h1 : ∀ v M', post v M' → post' v M') (h2 : ∀ E M', px E M' → px' E M') : zCon l γ y cc nL ret As M fr lo mc ms post' px' := by
  intro hl p e ha hc hk s m args below hf hs hP ht
  obtain ⟨kk, o, g1, g2, g3, g4⟩ := h hl p e ha hc hk s m args below hf hs hP ht
  refine ⟨kk, o, g1, g2, g3, ?_⟩
  rcases g4 with ⟨⟨⟨v, M', a1, a2, a3⟩, a4⟩, a5⟩ | ⟨q, a0, E, ce, Lc, ⟨⟨M', a2, a3⟩, a4⟩, a5⟩
  · exact Or.inl ⟨⟨⟨v, M', a1, h1 _ _ a2, a3⟩, a4⟩, a5⟩
  · exact Or.inr ⟨q, a0, E, ce, Lc, ⟨⟨M', h2 _ _ a2, a3⟩, a4⟩, a5⟩
theorem zBlind {γ : zG} {As : List Value} {M : zM} : FrameBlind (zPc γ As M) := fun _ _ _ _ h => ⟨h.1, h.2.1, h.2.2.same rfl⟩
theorem zEnter {l : Launch} {γ : zG} {y : MethodName} {cc : ByteArray} {nL : Nat} {ret : Option FieldType} {As : List Value} {M : zM} {fr lo mc ms : Nat} {post : Option Value → zM → Prop} {px : String → zM → Prop} {own : String} (L : zL) (hy : plainName y.cls = true) (ho : y.cls = own) (hL : zPr 0 L = lv_args 0 As) (hlen : (lg_sl As).length ≤ nL)
    (body : ∀ p e s m args below meth c Q, zC p l s m args meth c γ cc nL ret own [] → meth.name = y.name → Q = zRQ below γ post px args s mc ms → zAW p l e { frames := fr, cells := mc, slots := ms, locals := lo } s m args below meth c γ nL Q M 0 0 0 L []) : zCon l γ y cc nL ret As M fr lo mc ms post px := by
  intro hl
  refine vx_ofW (cc := cc) (maxL := nL) (ret := ret) hy rfl ?_
  intro p e s m args below meth c s₁ B hml hxt hv
  obtain ⟨hargs, hHW, hEV⟩ := hv
  have hnil : c.exceptionTable.toList = [] := by
    cases hq : c.exceptionTable.toList with
    | nil => rfl
    | cons x r => exact absurd (show x ∈ c.exceptionTable.toList by rw [hq]; exact List.mem_cons_self) (fun h => hxt x h)
  have hnm := (name_of_methodNamed B.named B.method).1
  have hts := atoms_spec (ws := Cond.code y cc nL ret :: LW) B.pre
  have C : zC p l s m args meth c γ cc nL ret own [] := ⟨B.exec, B.bytes, hml, B.returns, B.notSynchronized, by rw [← ho]; exact findClass_of_methodNamed B.named, fun w hw => hts w (List.mem_cons_of_mem _ hw), hEV, hl, hnil, hHW.1, ⟨y, B.named, hnm⟩⟩
  have K := body p e s m args below meth c _ C hnm rfl
  have hargs' : args = As.toArray := hargs
  rw [show entryFrame m args nL = F0 m 0 ((lg_sl As ++ List.replicate (nL - (lg_sl As).length) Slot.unset).toArray) [] from by rw [hargs']; exact lg_entry_eq m As nL]
  refine K s.heap [] _ hHW (fun q h => by cases h) ?_ (Nat.le_refl _)
  unfold zLH
  rw [hL]
  exact lv_entry As hlen
theorem wsL_good : LW.all goodWord = true := List.all_eq_true.mpr fun w hw => (List.mem_filter.mp hw).2
theorem wsL_goodIn : GoodIn LW LW := fun w hw => ⟨hw, good_of_word (List.all_eq_true.mp wsL_good w hw)⟩
section ZR4
variable {p : Program} {l : Launch} {e : Env} {R : Room} {s : State} {m : MethodId} {args : Array Value} {below : List Frame} {meth : Method} {c : Code} {γ : zG} {cc : ByteArray} {nL : Nat} {ret : Option FieldType} {own : String} {xt : List ExceptionTableEntry} {Q : State → Prop} {M : zM} {k n pc mc ms : Nat} {L : zL} {st : List Value} {post : Option Value → zM → Prop} {px : String → zM → Prop}
theorem z_iret {rt : FieldType} {x : Int32} (C : zC p l s m args meth c γ cc nL (some rt) own xt) (hQ : Q = zRQ below γ post px args s mc ms) (hd : decode cc pc = .ok (.ireturn, 1)) (hnw : narrow rt (.int x) = .int x) (hk : k ≤ mc) (hn : n ≤ ms) (hp : post (some (.int x)) M) : zAW p l e R s m args below meth c γ nL Q M k n pc L [.int x] := by
  subst hQ
  intro H locs ls hH hl hL hz
  refine W.widen hk hn ?_
  refine vx_ret ?_
  exact W.zret C.ex C.by C.rt hnw (fun t ht hW => ⟨⟨_, M, rfl, hp, by rw [ht]; exact hH⟩, by rw [ht]; exact hz⟩) hl hd C.lk
theorem z_vret (C : zC p l s m args meth c γ cc nL none own xt) (hQ : Q = zRQ below γ post px args s mc ms) (hd : decode cc pc = .ok (.return_, 1)) (hk : k ≤ mc) (hn : n ≤ ms) (hp : post none M) : zAW p l e R s m args below meth c γ nL Q M k n pc L [] := by
  subst hQ
  intro H locs ls hH hl hL hz
  refine W.widen hk hn ?_
  refine vx_ret ?_
  exact W.vret C.ex C.by C.rt (fun t ht hW => ⟨⟨_, M, rfl, hp, by rw [ht]; exact hH⟩, by rw [ht]; exact hz⟩) hl hd C.lk
theorem z_aret {rt : FieldType} {v : Value} (C : zC p l s m args meth c γ cc nL (some rt) own xt) (hQ : Q = zRQ below γ post px args s mc ms) (hd : decode cc pc = .ok (.areturn, 1)) (hrt : (∃ n, rt = .object n) ∨ ∃ t, rt = .array t) (hv : v = .null ∨ ∃ a, v = .ref a) (hk : k ≤ mc) (hn : n ≤ ms) (hp : post (some v) M) : zAW p l e R s m args below meth c γ nL Q M k n pc L [v] := by
  subst hQ
  intro H locs ls hH hl hL hz
  refine W.widen hk hn ?_
  refine vx_ret ?_
  exact W.aret C.ex C.by C.rt hrt hv (fun t ht hW => ⟨⟨_, M, rfl, hp, by rw [ht]; exact hH⟩, by rw [ht]; exact hz⟩) hl hd C.lk
theorem z_lret {x : Int64} (C : zC p l s m args meth c γ cc nL (some .long) own xt) (hQ : Q = zRQ below γ post px args s mc ms) (hd : decode cc pc = .ok (.lreturn, 1)) (hk : k ≤ mc) (hn : n ≤ ms) (hp : post (some (.long x)) M) : zAW p l e R s m args below meth c γ nL Q M k n pc L [.long x] := by
  subst hQ
  intro H locs ls hH hl hL hz
  refine W.widen hk hn ?_
  refine vx_ret ?_
  exact W.lret C.ex C.by C.rt (fun t ht hW => ⟨⟨_, M, rfl, hp, by rw [ht]; exact hH⟩, by rw [ht]; exact hz⟩) hl hd C.lk
theorem z_dret {x : UInt64} (C : zC p l s m args meth c γ cc nL (some .double) own xt) (hQ : Q = zRQ below γ post px args s mc ms) (hd : decode cc pc = .ok (.dreturn, 1)) (hk : k ≤ mc) (hn : n ≤ ms) (hp : post (some (.double x)) M) : zAW p l e R s m args below meth c γ nL Q M k n pc L [.double x] := by
  subst hQ
  intro H locs ls hH hl hL hz
  refine W.widen hk hn ?_
  refine vx_ret ?_
  exact W.dret C.ex C.by C.rt (fun t ht hW => ⟨⟨_, M, rfl, hp, by rw [ht]; exact hH⟩, by rw [ht]; exact hz⟩) hl hd C.lk
theorem z_fret {x : UInt32} (C : zC p l s m args meth c γ cc nL (some .float) own xt) (hQ : Q = zRQ below γ post px args s mc ms) (hd : decode cc pc = .ok (.freturn, 1)) (hk : k ≤ mc) (hn : n ≤ ms) (hp : post (some (.float x)) M) : zAW p l e R s m args below meth c γ nL Q M k n pc L [.float x] := by
  subst hQ
  intro H locs ls hH hl hL hz
  refine W.widen hk hn ?_
  refine vx_ret ?_
  exact W.fret C.ex C.by C.rt (fun t ht hW => ⟨⟨_, M, rfl, hp, by rw [ht]; exact hH⟩, by rw [ht]; exact hz⟩) hl hd C.lk
def zXW (p : Program) (l : Launch) (e : Env) (R : Room) (s : State) (m : MethodId) (args : Array Value) (below : List Frame) (meth : Method) (c : Code) (γ : zG) (nL : Nat) (Q : State → Prop) (M : zM) (k n pc : Nat) (L : zL) (E : String) : Prop :=
  ∀ (H : Heap) (locs : List Loc) (ls : Array Slot) (q : Addr) (ce : Cell) (rest : List Value), zHW γ M H → zLo γ locs → zLH ls nL L → s.heap.size ≤ H.size → H[q]? = some ce → ce.vm = .none → s.vm.findClass E = some ce.cls → vx_W p l e R s m args below meth c H locs k n Q (F0 m pc ls rest) q
theorem z_out (C : zC p l s m args meth c γ cc nL ret own []) (hQ : Q = zRQ below γ post px args s mc ms) {E : String} (hk : k ≤ mc) (hn : n ≤ ms) (hp : px E M) : zXW p l e R s m args below meth c γ nL Q M k n pc L E := by
  subst hQ
  exact fun H locs ls q ce rest hH hl hL hz hc hv hcl => vx_out (by rw [C.xtb]; intro x hx; cases hx) C.lk hc hv hcl (fun t ht ha => ⟨⟨M, hp, by rw [ht]; exact hH⟩, by rw [ht]; exact hz⟩) hl hk hn
theorem zLo_app {γ : zG} {a b : List Loc} (h1 : zLo γ a) (h2 : zLo γ b) : zLo γ (a ++ b) := fun q hq => (List.mem_append.mp hq).elim (h1 q) (h2 q)
theorem z_run {mc' ms' : Nat} {rest : List Value} {a : Array Value} {post' : Option Value → zM → Prop} {px' : String → zM → Prop} (hr : ∀ (H : Heap) (locs : List Loc) (ls : Array Slot), zHW γ M H → zLo γ locs → zLH ls nL L → s.heap.size ≤ H.size → vx_Run p l e R s m args below meth c H locs k n mc' ms' (F0 m pc ls st) rest (zQc γ post' a) (zXc γ px') (zA γ))
    (kx : ∀ E M', px' E M' → zXW p l e R s m args below meth c γ nL Q M' (k + mc') (n + ms') pc L E) (kk : ∀ v M', post' v M' → zAW p l e R s m args below meth c γ nL Q M' (k + mc') (n + ms') (pc + 3) L (v.toList ++ rest)) : zAW p l e R s m args below meth c γ nL Q M k n pc L st := by
  intro H locs ls hH hl hL hz T hT X
  rcases hr H locs ls hH hl hL hz T hT X with ⟨v, st₀, t, T', Lc, h0, X', hLc, e1, e2, ⟨⟨v', M', hv, hp, hH'⟩, hz'⟩, stp⟩ | ⟨q, st₀, t, T', Lc, E, ce, h0, X', hLc, e1, e2, ⟨⟨M', hp, hH'⟩, hz'⟩, hce, hcv, hcl, stp⟩
  · cases hv
    rw [h0] at hz'
    obtain ⟨t2, a1, b1⟩ := kk v M' hp T'.heap (locs ++ Lc) ls (by rw [e1]; exact hH') (zLo_app hl hLc) hL (by rw [e1]; omega) T' rfl X'
    exact ⟨t2, stp t2 a1, b1⟩
  · rw [h0] at hz'
    obtain ⟨t2, a1, b1⟩ := kx E M' hp T'.heap (locs ++ Lc) ls q ce rest (by rw [e1]; exact hH') (zLo_app hl hLc) hL (by rw [e1]; omega) (by rw [e1]; exact hce) hcv hcl T' rfl X'
    exact ⟨t2, stp.trans a1, b1⟩
/-- a method's words, in the list -/
def zMW (y : MethodName) (bytes : ByteArray) (nL' : Nat) (rt : Option FieldType) (np : Nat) : Prop := Cond.code y bytes nL' rt ∈ LW ∧ Cond.initialized y.cls ∈ LW ∧ y.cls ≠ "java/lang/invoke/MethodHandle" ∧ y.cls ≠ "java/lang/invoke/VarHandle" ∧ (parseMethodDescriptor y.desc).map (fun d => d.parameters.length) = some np
theorem zMW.sig {y : MethodName} {bytes : ByteArray} {nL' np : Nat} {rt : Option FieldType} (h : zMW y bytes nL' rt np) : ∀ sig, parseMethodDescriptor y.desc = some sig → np = sig.parameters.length := by
  intro sig hs
  have h2 := h.2.2.2.2
  rw [hs] at h2
  exact (Option.some.inj h2).symm
theorem zPay (C : zC p l s m args meth c γ cc nL ret own xt) {y : MethodName} {bytes : ByteArray} {nL' np : Nat} {rt : Option FieldType} (h : zMW y bytes nL' rt np) : ∀ w ∈ (Cond.code y bytes nL' rt :: LW), ∀ (a' : Array Value) (U : State), s.WarmedH U.vm → w.before a' U = true :=
  pay_in C.ws (fun w hw => (List.mem_cons.mp hw).elim (fun e => by rw [e]; exact wsL_goodIn _ h.1) (fun h => wsL_goodIn _ h))
theorem z_callV (C : zC p l s m args meth c γ cc nL ret own xt) {y : MethodName} {bytes : ByteArray} {nL' idx fr lo mc' ms' : Nat} {rt : Option FieldType} {post' : Option Value → zM → Prop} {px' : String → zM → Prop} {As rest : List Value} {Cn : String} {T : u_T} {N b ci : Nat} {fs : List Value} (hd : decode cc pc = .ok (.invokevirtual idx, 3)) (hlk : Cond.methodLink own idx y ∈ LW) (hw : zMW y bytes nL' rt As.length) (hin : Cond.instanceMethod y ∈ LW) (hse : Cond.selects Cn y y ∈ LW) (hc : vwCl[ci]? = some (Cn, T, N)) (hb : M b = some (.inr (ci, fs))) (hM : zCon l γ y bytes nL' rt (.ref b :: As) M fr lo mc' ms' post' px') (hst : st = As.reverse ++ .ref b :: rest) (hW : (rest.map fun v => v.category).sum ≤ 8) (hR : fr + 1 ≤ R.frames ∧ 8 + (nL' + 11) + lo ≤ R.locals ∧ k + mc' ≤ R.cells ∧ n + ms' ≤ R.slots) (kx : ∀ E M', px' E M' → zXW p l e R s m args below meth c γ nL Q M' (k + mc') (n + ms') pc L E) (kk : ∀ v M', post' v M' → zAW p l e R s m args below meth c γ nL Q M' (k + mc') (n + ms') (pc + 3) L (v.toList ++ rest)) : zAW p l e R s m args below meth c γ nL Q M k n pc L st := by
  refine z_run (a := (Value.ref b :: As).toArray) (fun H locs ls hH hl hL hz => ?_) kx kk
  have hP : va_P γ.1 vwCl [(b, .inr (ci, fs))] H := by
    intro j q hq
    have hj : j < 1 := (List.getElem?_eq_some_iff.mp hq).1
    rw [show j = 0 by omega] at hq
    cases hq
    exact (hH.2 b _ hb).2
  exact vx_runV (C := Cn) (n := As.length) ⟨C.ex, C.by, C.ml, C.ow, C.ws⟩ (hM C.tr) ⟨⟨rfl, rfl, hR.1, hR.2.1, zPay C hw, List.mem_cons_self, C.ws _ hw.1, C.ws _ hw.2.1, ⟨hw.2.2.1, hw.2.2.2.1⟩, hw.sig, C.ws _ hlk⟩, C.ws _ hin, C.ws _ hse⟩ ⟨zBlind, va_recv C.K hP (ci := ci) (q0 := 0) hc rfl, fun U hU hW => ⟨rfl, by rw [hU]; exact hH, C.ev.warm hW⟩⟩ rfl rfl hL.1 hst (lv_room hW) hd ⟨hR.2.2.1, hR.2.2.2⟩
theorem z_callVN (C : zC p l s m args meth c γ cc nL ret own xt) {y : MethodName} {bytes : ByteArray} {nL' idx fr lo mc' ms' : Nat} {rt : Option FieldType} {post' : Option Value → zM → Prop} {px' : String → zM → Prop} {As rest : List Value} {Cn : String} {T : u_T} {N b ci : Nat} {fs : List Value} {host : String} (hd : decode cc pc = .ok (.invokevirtual idx, 3)) (hlk : (own, idx, y, host) ∈ zNest) (hw : zMW y bytes nL' rt As.length) (hin : Cond.instanceMethod y ∈ LW) (hse : Cond.selects Cn y y ∈ LW) (hc : vwCl[ci]? = some (Cn, T, N)) (hb : M b = some (.inr (ci, fs))) (hM : zCon l γ y bytes nL' rt (.ref b :: As) M fr lo mc' ms' post' px') (hst : st = As.reverse ++ .ref b :: rest) (hW : (rest.map fun v => v.category).sum ≤ 8) (hR : fr + 1 ≤ R.frames ∧ 8 + (nL' + 11) + lo ≤ R.locals ∧ k + mc' ≤ R.cells ∧ n + ms' ≤ R.slots) (kx : ∀ E M', px' E M' → zXW p l e R s m args below meth c γ nL Q M' (k + mc') (n + ms') pc L E) (kk : ∀ v M', post' v M' → zAW p l e R s m args below meth c γ nL Q M' (k + mc') (n + ms') (pc + 3) L (v.toList ++ rest)) : zAW p l e R s m args below meth c γ nL Q M k n pc L st := by
  refine z_run (a := (Value.ref b :: As).toArray) (fun H locs ls hH hl hL hz => ?_) kx kk
  have hP : va_P γ.1 vwCl [(b, .inr (ci, fs))] H := by
    intro j q hq
    have hj : j < 1 := (List.getElem?_eq_some_iff.mp hq).1
    rw [show j = 0 by omega] at hq
    cases hq
    exact (hH.2 b _ hb).2
  exact vx_runVN (C := Cn) (n := As.length) ⟨C.ex, C.by, C.ml, C.ow, C.ws⟩ (hM C.tr) ⟨⟨⟨rfl, rfl, hR.1, hR.2.1, zPay C hw, List.mem_cons_self⟩, C.ws _ hw.1, C.ws _ hw.2.1, ⟨hw.2.2.1, hw.2.2.2.1⟩, hw.sig, va_Nw.use rfl (C.ev.2.2.2.2.2.2.1 _ hlk)⟩, C.ws _ hin, C.ws _ hse⟩ ⟨zBlind, va_recv C.K hP (ci := ci) (q0 := 0) hc rfl, fun U hU hW => ⟨rfl, by rw [hU]; exact hH, C.ev.warm hW⟩⟩ rfl rfl hL.1 hst (lv_room hW) hd ⟨hR.2.2.1, hR.2.2.2⟩
theorem z_callS (C : zC p l s m args meth c γ cc nL ret own xt) {y : MethodName} {bytes : ByteArray} {nL' idx fr lo mc' ms' : Nat} {rt : Option FieldType} {post' : Option Value → zM → Prop} {px' : String → zM → Prop} {As rest : List Value} (hd : decode cc pc = .ok (.invokestatic idx, 3)) (hlk : Cond.methodLink own idx y ∈ LW) (hw : zMW y bytes nL' rt As.length) (hstat : Cond.static y ∈ LW) (hM : zCon l γ y bytes nL' rt As M fr lo mc' ms' post' px') (hst : st = As.reverse ++ rest) (hW : (rest.map fun v => v.category).sum ≤ 8) (hR : fr + 1 ≤ R.frames ∧ 8 + (nL' + 11) + lo ≤ R.locals ∧ k + mc' ≤ R.cells ∧ n + ms' ≤ R.slots) (kx : ∀ E M', px' E M' → zXW p l e R s m args below meth c γ nL Q M' (k + mc') (n + ms') pc L E) (kk : ∀ v M', post' v M' → zAW p l e R s m args below meth c γ nL Q M' (k + mc') (n + ms') (pc + 3) L (v.toList ++ rest)) : zAW p l e R s m args below meth c γ nL Q M k n pc L st :=
  z_run (a := As.toArray) (fun H locs ls hH hl hL hz => vx_runS (n := As.length) ⟨C.ex, C.by, C.ml, C.ow, C.ws⟩ (hM C.tr) ⟨⟨rfl, rfl, hR.1, hR.2.1, zPay C hw, List.mem_cons_self, C.ws _ hw.1, C.ws _ hw.2.1, ⟨hw.2.2.1, hw.2.2.2.1⟩, hw.sig, C.ws _ hlk⟩, C.ws _ hstat⟩ ⟨zBlind, fun U hU hW => ⟨rfl, by rw [hU]; exact hH, C.ev.warm hW⟩⟩ rfl rfl hL.1 hst (lv_room hW) hd ⟨hR.2.2.1, hR.2.2.2⟩) kx kk
theorem z_callSN (C : zC p l s m args meth c γ cc nL ret own xt) {y : MethodName} {bytes : ByteArray} {nL' idx fr lo mc' ms' : Nat} {rt : Option FieldType} {post' : Option Value → zM → Prop} {px' : String → zM → Prop} {As rest : List Value} {host : String} (hd : decode cc pc = .ok (.invokestatic idx, 3)) (hlk : (own, idx, y, host) ∈ zNest) (hw : zMW y bytes nL' rt As.length) (hstat : Cond.static y ∈ LW) (hM : zCon l γ y bytes nL' rt As M fr lo mc' ms' post' px') (hst : st = As.reverse ++ rest) (hW : (rest.map fun v => v.category).sum ≤ 8) (hR : fr + 1 ≤ R.frames ∧ 8 + (nL' + 11) + lo ≤ R.locals ∧ k + mc' ≤ R.cells ∧ n + ms' ≤ R.slots) (kx : ∀ E M', px' E M' → zXW p l e R s m args below meth c γ nL Q M' (k + mc') (n + ms') pc L E) (kk : ∀ v M', post' v M' → zAW p l e R s m args below meth c γ nL Q M' (k + mc') (n + ms') (pc + 3) L (v.toList ++ rest)) : zAW p l e R s m args below meth c γ nL Q M k n pc L st :=
  z_run (a := As.toArray) (fun H locs ls hH hl hL hz => vx_runSN (n := As.length) ⟨C.ex, C.by, C.ml, C.ow, C.ws⟩ (hM C.tr) ⟨⟨⟨rfl, rfl, hR.1, hR.2.1, zPay C hw, List.mem_cons_self⟩, C.ws _ hw.1, C.ws _ hw.2.1, ⟨hw.2.2.1, hw.2.2.2.1⟩, hw.sig, va_Nw.use rfl (C.ev.2.2.2.2.2.2.1 _ hlk)⟩, C.ws _ hstat, trivial⟩ ⟨zBlind, fun U hU hW => ⟨rfl, by rw [hU]; exact hH, C.ev.warm hW⟩⟩ rfl rfl hL.1 hst (lv_room hW) hd ⟨hR.2.2.1, hR.2.2.2⟩) kx kk
theorem z_callI (C : zC p l s m args meth c γ cc nL ret own xt) {y : MethodName} {bytes : ByteArray} {nL' idx fr lo mc' ms' : Nat} {post' : Option Value → zM → Prop} {px' : String → zM → Prop} {As rest : List Value} {b : Nat} (hd : decode cc pc = .ok (.invokespecial idx, 3)) (hlk : Cond.methodLink own idx y ∈ LW) (hw : zMW y bytes nL' none As.length) (hnm : y.name = "<init>") (hin : Cond.instanceMethod y ∈ LW) (hM : zCon l γ y bytes nL' none (.ref b :: As) M fr lo mc' ms' post' px') (hst : st = As.reverse ++ .ref b :: rest) (hW : (rest.map fun v => v.category).sum ≤ 8) (hR : fr + 1 ≤ R.frames ∧ 8 + (nL' + 11) + lo ≤ R.locals ∧ k + mc' ≤ R.cells ∧ n + ms' ≤ R.slots) (kx : ∀ E M', px' E M' → zXW p l e R s m args below meth c γ nL Q M' (k + mc') (n + ms') pc L E) (kk : ∀ v M', post' v M' → zAW p l e R s m args below meth c γ nL Q M' (k + mc') (n + ms') (pc + 3) L (v.toList ++ rest)) : zAW p l e R s m args below meth c γ nL Q M k n pc L st :=
  z_run (a := (Value.ref b :: As).toArray) (fun H locs ls hH hl hL hz => vx_runI (n := As.length) ⟨C.ex, C.by, C.ml, C.ow, C.ws⟩ (hM C.tr) ⟨⟨rfl, rfl, hR.1, hR.2.1, zPay C hw, List.mem_cons_self, C.ws _ hw.1, C.ws _ hw.2.1, ⟨hw.2.2.1, hw.2.2.2.1⟩, hw.sig, C.ws _ hlk⟩, hnm, C.ws _ hin⟩ ⟨zBlind, fun U hU hW => ⟨rfl, by rw [hU]; exact hH, C.ev.warm hW⟩⟩ rfl rfl hL.1 hst (lv_room hW) hd ⟨hR.2.2.1, hR.2.2.2⟩) kx kk
theorem z_callIN (C : zC p l s m args meth c γ cc nL ret own xt) {y : MethodName} {bytes : ByteArray} {nL' idx fr lo mc' ms' : Nat} {post' : Option Value → zM → Prop} {px' : String → zM → Prop} {As rest : List Value} {b : Nat} {host : String} (hd : decode cc pc = .ok (.invokespecial idx, 3)) (hlk : (own, idx, y, host) ∈ zNest) (hw : zMW y bytes nL' none As.length) (hnm : y.name = "<init>") (hin : Cond.instanceMethod y ∈ LW) (hM : zCon l γ y bytes nL' none (.ref b :: As) M fr lo mc' ms' post' px') (hst : st = As.reverse ++ .ref b :: rest) (hW : (rest.map fun v => v.category).sum ≤ 8) (hR : fr + 1 ≤ R.frames ∧ 8 + (nL' + 11) + lo ≤ R.locals ∧ k + mc' ≤ R.cells ∧ n + ms' ≤ R.slots) (kx : ∀ E M', px' E M' → zXW p l e R s m args below meth c γ nL Q M' (k + mc') (n + ms') pc L E) (kk : ∀ v M', post' v M' → zAW p l e R s m args below meth c γ nL Q M' (k + mc') (n + ms') (pc + 3) L (v.toList ++ rest)) : zAW p l e R s m args below meth c γ nL Q M k n pc L st :=
  z_run (a := (Value.ref b :: As).toArray) (fun H locs ls hH hl hL hz => vx_runIN (n := As.length) ⟨C.ex, C.by, C.ml, C.ow, C.ws⟩ (hM C.tr) ⟨⟨⟨rfl, rfl, hR.1, hR.2.1, zPay C hw, List.mem_cons_self⟩, C.ws _ hw.1, C.ws _ hw.2.1, ⟨hw.2.2.1, hw.2.2.2.1⟩, hw.sig, va_Nw.use rfl (C.ev.2.2.2.2.2.2.1 _ hlk)⟩, hnm, C.ws _ hin⟩ ⟨zBlind, fun U hU hW => ⟨rfl, by rw [hU]; exact hH, C.ev.warm hW⟩⟩ rfl rfl hL.1 hst (lv_room hW) hd ⟨hR.2.2.1, hR.2.2.2⟩) kx kk
theorem z_objInit (C : zC p l s m args meth c γ cc nL ret own xt) {idx b : Nat} (hd : decode cc pc = .ok (.invokespecial idx, 3)) (hlk : Cond.methodLink own idx objectInit ∈ LW) (hin : Cond.instanceMethod objectInit ∈ LW) (hco : Cond.code objectInit ⟨#[0xb1]⟩ 1 none ∈ LW) (hR : 1 ≤ R.frames ∧ (st.map fun v => v.category).sum + 12 ≤ R.locals) (kk : zAW p l e R s m args below meth c γ nL Q M k n (pc + 3) L st) : zAW p l e R s m args below meth c γ nL Q M k n pc L (.ref b :: st) := by
  intro H locs ls hH hl hL hz
  refine W.objInit C.ex C.by C.ow (C.ws _ hlk) (C.ws _ hin) (C.ws _ hco) rfl (by rw [C.ml]; exact hL.1) rfl hd hR.1 (by show 2 * 0 + _ + 12 ≤ _; omega) ?_
  exact kk H locs ls hH hl hL hz
def zNW (own : String) (index ci N : Nat) (fs : List Value) : Prop := ∃ (Cn : String) (T : u_T) (ty0 : Nat → FieldType), Cond.classLink own index Cn ∈ LW ∧ Cond.instantiable Cn N ∈ LW ∧ Cond.initialized Cn ∈ LW ∧ (∀ w ∈ u_ws Cn T N, w ∈ LW) ∧ vwCl[ci]? = some (Cn, T, N) ∧ (∀ k, k < N → parseFieldDescriptor (T k).2.2.1 = some (ty0 k)) ∧ ∀ j, j < N → defaultValue (ty0 j) = vp_V fs j
theorem z_new (C : zC p l s m args meth c γ cc nL ret own xt) {index ci N : Nat} {fs : List Value} (hd : decode cc pc = .ok (.new index, 3)) (hN : zNW own index ci N fs) (hR : k + 1 ≤ R.cells ∧ n + N ≤ R.slots) (kk : ∀ q : Nat, M q = none → zAW p l e R s m args below meth c γ nL Q (va_up M q (some (.inr (ci, fs)))) (k + 1) (n + N) (pc + 3) L (.ref q :: st)) : zAW p l e R s m args below meth c γ nL Q M k n pc L st := by
  intro H locs ls hH hl hL hz
  obtain ⟨Cn, T, ty0, h1, h2, h3, h4, h5, h6, h7⟩ := hN
  have hKn := C.K.1 ci _ h5
  refine W.newcK C.ex C.by C.ow (C.ws _ h1) (C.ws _ h2) (C.ws _ h3) rfl hd hR.1 hR.2 hKn.2.1 rfl fun H1 kC hkC e1 z1 o1 => ?_
  exact kk H.size hH.free H1 locs ls (hH.push z1 o1 ⟨_, h5, (u_born ty0 C.ws h4 hKn hkC e1 h6).to h7⟩) hl hL (by omega)
theorem z_newI (C : zC p l s m args meth c γ cc nL ret own xt) {N : Int} (hd : decode cc pc = .ok (.newarray .int, 2)) (ha : Cond.arrayClass .int ∈ LW) (hN : 0 ≤ N ∧ N ≤ 60000) (hR : k + 1 ≤ R.cells ∧ n + N.toNat ≤ R.slots) (kk : ∀ q : Nat, M q = none → zAW p l e R s m args below meth c γ nL Q (va_up M q (some (zaI γ N.toNat (fun _ => 0)))) (k + 1) (n + N.toNat) (pc + 2) L (.ref q :: st)) : zAW p l e R s m args below meth c γ nL Q M k n pc L (.int (zi N) :: st) := by
  intro H locs ls hH hl hL hz
  have hcl : (zi N).toNatClampNeg = N.toNat := by
    show (zi N).toInt.toNat = _
    rw [zi_toInt (by omega)]
  refine va_newaK C.ex C.by (atype := .int) (C.ws _ ha) rfl hd rfl (fun h => by rw [zi_0, zi_lt (by omega) (by omega)] at h; omega) hcl (by show N.toNat * _ ≤ _; simp only [newarray.typeOf, componentBytes]; omega) hR.1 hR.2 rfl fun H1 cA e1 z1 o1 hAr hNm => ?_
  have hcA : cA = γ.2.2.1 0 := Option.some.inj (hNm.symm.trans (zK_ty C (i := 0) (by omega)).2)
  subst hcA
  refine kk H.size hH.free H1 locs ls (hH.push z1 o1 ?_) hl hL (by omega)
  show H1[H.size]? = some (vp_cell _ _)
  rw [vp_cell_i]
  exact e1
theorem z_newZ (C : zC p l s m args meth c γ cc nL ret own xt) {N : Int} (hd : decode cc pc = .ok (.newarray .boolean, 2)) (ha : Cond.arrayClass .boolean ∈ LW) (hN : 0 ≤ N ∧ N ≤ 60000) (hR : k + 1 ≤ R.cells ∧ n + N.toNat ≤ R.slots) (kk : ∀ q : Nat, M q = none → zAW p l e R s m args below meth c γ nL Q (va_up M q (some (zaZ γ N.toNat (fun _ => 0)))) (k + 1) (n + N.toNat) (pc + 2) L (.ref q :: st)) : zAW p l e R s m args below meth c γ nL Q M k n pc L (.int (zi N) :: st) := by
  intro H locs ls hH hl hL hz
  have hcl : (zi N).toNatClampNeg = N.toNat := by
    show (zi N).toInt.toNat = _
    rw [zi_toInt (by omega)]
  refine va_newaK C.ex C.by (atype := .boolean) (C.ws _ ha) rfl hd rfl (fun h => by rw [zi_0, zi_lt (by omega) (by omega)] at h; omega) hcl (by show N.toNat * _ ≤ _; simp only [newarray.typeOf, componentBytes]; omega) hR.1 hR.2 rfl fun H1 cA e1 z1 o1 hAr hNm => ?_
  have hcA : cA = γ.2.2.1 1 := Option.some.inj (hNm.symm.trans (zK_ty C (i := 1) (by omega)).2)
  subst hcA
  refine kk H.size hH.free H1 locs ls (hH.push z1 o1 ?_) hl hL (by omega)
  show H1[H.size]? = some (vp_cell _ _)
  rw [vp_cell_i]
  exact e1
theorem z_newB (C : zC p l s m args meth c γ cc nL ret own xt) {N : Int} (hd : decode cc pc = .ok (.newarray .byte, 2)) (ha : Cond.arrayClass .byte ∈ LW) (hN : 0 ≤ N ∧ N ≤ 60000) (hR : k + 1 ≤ R.cells ∧ n + N.toNat ≤ R.slots) (kk : ∀ q : Nat, M q = none → zAW p l e R s m args below meth c γ nL Q (va_up M q (some (zaB γ N.toNat (fun _ => 0)))) (k + 1) (n + N.toNat) (pc + 2) L (.ref q :: st)) : zAW p l e R s m args below meth c γ nL Q M k n pc L (.int (zi N) :: st) := by
  intro H locs ls hH hl hL hz
  have hcl : (zi N).toNatClampNeg = N.toNat := by
    show (zi N).toInt.toNat = _
    rw [zi_toInt (by omega)]
  refine va_newaK C.ex C.by (atype := .byte) (C.ws _ ha) rfl hd rfl (fun h => by rw [zi_0, zi_lt (by omega) (by omega)] at h; omega) hcl (by show N.toNat * _ ≤ _; simp only [newarray.typeOf, componentBytes]; omega) hR.1 hR.2 rfl fun H1 cA e1 z1 o1 hAr hNm => ?_
  have hcA : cA = γ.2.2.1 2 := Option.some.inj (hNm.symm.trans (zK_ty C (i := 2) (by omega)).2)
  subst hcA
  refine kk H.size hH.free H1 locs ls (hH.push z1 o1 ?_) hl hL (by omega)
  show H1[H.size]? = some (vp_cell _ _)
  rw [vp_cell_i]
  exact e1
end ZR4
end
section
section ZR5
variable {p : Program} {l : Launch} {e : Env} {R : Room} {s : State} {m : MethodId} {args : Array Value} {below : List Frame} {meth : Method} {c : Code} {γ : zG} {cc : ByteArray} {nL : Nat} {ret : Option FieldType} {own : String} {xt : List ExceptionTableEntry} {Q : State → Prop} {M : zM} {k n pc mc ms : Nat} {L : zL} {st : List Value} {post : Option Value → zM → Prop} {px : String → zM → Prop}
/-- Math.min, Math.max -/
theorem z_min (C : zC p l s m args meth c γ cc nL ret own xt) {idx : Nat} {x y : Int} (hd : decode cc pc = .ok (.invokestatic idx, 3)) (hlk : Cond.methodLink own idx Lib.Math.min.name ∈ LW) (hst : Cond.static Lib.Math.min.name ∈ LW) (hin : Cond.initialized "java/lang/Math" ∈ LW) (hco : Cond.code Lib.Math.min.name Lib.Math.min.code 2 (some .int) ∈ LW) (hx : -2147483648 ≤ x ∧ x ≤ 2147483647) (hy : -2147483648 ≤ y ∧ y ≤ 2147483647) (hR : 1 ≤ R.frames ∧ (st.map fun v => v.category).sum + 13 ≤ R.locals ∧ k ≤ R.cells ∧ n ≤ R.slots)
    (kk : zAW p l e R s m args below meth c γ nL Q M k n (pc + 3) L (.int (zi (min x y)) :: st)) : zAW p l e R s m args below meth c γ nL Q M k n pc L (.int (zi y) :: .int (zi x) :: st) := by
  intro H locs ls hH hl hL hz
  refine va_mmin C.ex C.by (by rw [C.ml]; exact hL.1.symm) C.ow (C.ws _ hlk) (C.ws _ hst) (C.ws _ hin) (C.ws _ hco) hR.1 hR.2.1 hR.2.2.1 hR.2.2.2 hd ?_
  have e1 : (if zi y < zi x then zi y else zi x) = zi (min x y) := by
    by_cases h : y < x
    · rw [if_pos ((zi_lt hy hx).mpr h), Int.min_eq_right (by omega)]
    · rw [if_neg (fun q => h ((zi_lt hy hx).mp q)), Int.min_eq_left (by omega)]
  rw [e1]
  exact kk H locs ls hH hl hL hz
theorem z_max (C : zC p l s m args meth c γ cc nL ret own xt) {idx : Nat} {x y : Int} (hd : decode cc pc = .ok (.invokestatic idx, 3)) (hlk : Cond.methodLink own idx Lib.Math.max.name ∈ LW) (hst : Cond.static Lib.Math.max.name ∈ LW) (hin : Cond.initialized "java/lang/Math" ∈ LW) (hco : Cond.code Lib.Math.max.name Lib.Math.max.code 2 (some .int) ∈ LW) (hx : -2147483648 ≤ x ∧ x ≤ 2147483647) (hy : -2147483648 ≤ y ∧ y ≤ 2147483647) (hR : 1 ≤ R.frames ∧ (st.map fun v => v.category).sum + 13 ≤ R.locals ∧ k ≤ R.cells ∧ n ≤ R.slots)
    (kk : zAW p l e R s m args below meth c γ nL Q M k n (pc + 3) L (.int (zi (max x y)) :: st)) : zAW p l e R s m args below meth c γ nL Q M k n pc L (.int (zi y) :: .int (zi x) :: st) := by
  intro H locs ls hH hl hL hz
  refine va_mmax C.ex C.by (by rw [C.ml]; exact hL.1.symm) C.ow (C.ws _ hlk) (C.ws _ hst) (C.ws _ hin) (C.ws _ hco) hR.1 hR.2.1 hR.2.2.1 hR.2.2.2 hd ?_
  have e1 : (if zi x < zi y then zi y else zi x) = zi (max x y) := by
    by_cases h : x < y
    · rw [if_pos ((zi_lt hx hy).mpr h), Int.max_eq_right (by omega)]
    · rw [if_neg (fun q => h ((zi_lt hx hy).mp q)), Int.max_eq_left (by omega)]
  rw [e1]
  exact kk H locs ls hH hl hL hz
/-- System.arraycopy of int arrays (one may be the other) -/
theorem z_copyI (C : zC p l s m args meth c γ cc nL ret own xt) {idx a0 a n0 n1 : Nat} {f g : Nat → Int32} {sp dp q : Int} (hd : decode cc pc = .ok (.invokestatic idx, 3)) (hlk : Cond.methodLink own idx arraycopyName ∈ LW) (hnat : Cond.native arraycopyName ∈ LW) (hst : Cond.static arraycopyName ∈ LW) (hin : Cond.initialized "java/lang/System" ∈ LW) (h0 : M a0 = some (zaI γ n0 f)) (h1 : M a = some (zaI γ n1 g)) (hsp : 0 ≤ sp) (hdp : 0 ≤ dp) (hq : 0 ≤ q) (hb0 : sp + q ≤ n0) (hb1 : dp + q ≤ n1) (hn0 : n0 ≤ 2147483647) (hn1 : n1 ≤ 2147483647) (hR : 1 ≤ R.frames ∧ (st.map fun v => v.category).sum + 18 ≤ R.locals)
    (kk : zAW p l e R s m args below meth c γ nL Q (va_up M a (some (zaI γ n1 (va_cpy f g sp.toNat dp.toNat q.toNat)))) k n (pc + 3) L st) : zAW p l e R s m args below meth c γ nL Q M k n pc L (.int (zi q) :: .int (zi dp) :: .ref a :: .int (zi sp) :: .ref a0 :: st) := by
  intro H locs ls hH hl hL hz T hT X
  obtain ⟨hba0, hc0⟩ := hH.2 a0 _ h0
  obtain ⟨hba, hc1⟩ := hH.2 a _ h1
  have hc0 : H[a0]? = some (vp_cell (γ.2.2.1 0) (n0, .inl f)) := hc0
  have hc1 : H[a]? = some (vp_cell (γ.2.2.1 0) (n1, .inl g)) := hc1
  have tn : ∀ z : Int, 0 ≤ z → z ≤ 2147483647 → (zi z).toNatClampNeg = z.toNat := fun z z0 z1 => by
    show (zi z).toInt.toNat = _
    rw [zi_toInt (by omega)]
  have nz : ∀ z : Int, 0 ≤ z → z ≤ 2147483647 → ¬ zi z < 0 := fun z z0 z1 h => by rw [zi_0, zi_lt (by omega) (by omega)] at h; omega
  obtain ⟨-, k0, hk0, cm0, hkk0⟩ := (zK_ty C (i := 0) (by omega)).1 n0 (fun j => .int (f j))
  obtain ⟨-, k1, hk1, cm1, hkk1⟩ := (zK_ty C (i := 0) (by omega)).1 n1 (fun j => .int (g j))
  have hsize0 : (vp_cell (γ.2.2.1 0) (n0, .inl f)).slots.size = n0 := by show (arrV _ n0 (fun j => .int (f j))).slots.size = n0; rw [arrV_size]
  have hsize1 : (vp_cell (γ.2.2.1 0) (n1, .inl g)).slots.size = n1 := by show (arrV _ n1 (fun j => .int (g j))).slots.size = n1; rw [arrV_size]
  obtain ⟨vm', X', step⟩ := X.arraycopy C.ex C.ow (C.ws _ hlk) (C.ws _ hnat) (C.ws _ hst) (C.ws _ hin) (src := a0) (dst := a) (cs := vp_cell (γ.2.2.1 0) (n0, .inl f)) (cd := vp_cell (γ.2.2.1 0) (n1, .inl g)) (srcPos := zi sp) (destPos := zi dp) (n := zi q) (by rw [hT]; exact hc0) (by rw [hT]; exact hc1)
    (fun _ h => by cases h) (fun _ h => by cases h) (fun h => by cases h) (fun h => by cases h) hk0 hk1 hkk0 hkk1 rfl (nz _ hsp (by omega)) (nz _ hdp (by omega)) (nz _ hq (by omega))
    (by rw [zi_toInt (by omega), zi_toInt (by omega), hsize0]; omega)
    (by rw [zi_toInt (by omega), zi_toInt (by omega), hsize1]; omega)
    (fun vm₁ _ i hi => by
      rw [tn _ hq (by omega)] at hi
      have e1 : (vp_cell (γ.2.2.1 0) (n0, .inl f)).slots.getD ((zi sp).toNatClampNeg + i) .null = .int (f ((zi sp).toNatClampNeg + i)) := by
        show (arrV (γ.2.2.1 0) n0 (fun j => .int (f j))).slots.getD _ _ = _
        rw [tn _ hsp (by omega), Array.getD_eq_getD_getElem?, arrV_read _ _ (by omega)]
        rfl
      refine ⟨?_, ?_⟩
      · rw [e1]
        rfl
      · rw [e1]
        exact trivial)
    (g := F0 m pc ls (.int (zi q) :: .int (zi dp) :: .ref a :: .int (zi sp) :: .ref a0 :: st)) rfl (hL.1.trans C.ml.symm) (rest := st) rfl (by rw [C.by]; exact hd) hR.1 (by have := hR.2; show 2 * 0 + _ + (7 + 11) ≤ _; omega)
  have e1 : copied (vp_cell (γ.2.2.1 0) (n0, .inl f)) (vp_cell (γ.2.2.1 0) (n1, .inl g)) (zi sp) (zi dp) (zi q) = vp_cell (γ.2.2.1 0) (n1, .inl (va_cpy f g (zi sp).toNatClampNeg (zi dp).toNatClampNeg (zi q).toNatClampNeg)) := va_copied (fun z => .int z) (γ.2.2.1 0) (γ.2.2.1 0) f g (by rw [tn _ hsp (by omega), tn _ hq (by omega)]; omega)
  rw [tn _ hsp (by omega), tn _ hdp (by omega), tn _ hq (by omega)] at e1
  rw [e1] at X' step
  have hla : a < H.size := (Array.getElem?_eq_some_iff.mp hc1).1
  have hheap : ((T.setVm vm').setCell a (vp_cell (γ.2.2.1 0) (n1, .inl (va_cpy f g sp.toNat dp.toNat q.toNat)))).heap = H.setIfInBounds a (vp_cell (γ.2.2.1 0) (n1, .inl (va_cpy f g sp.toNat dp.toNat q.toNat))) := by rw [← hT]; rfl
  have oq : ∀ q' : Nat, q' ≠ a → (H.setIfInBounds a (vp_cell (γ.2.2.1 0) (n1, .inl (va_cpy f g sp.toNat dp.toNat q.toNat))))[q']? = H[q']? := fun q' hq' => by simp [Array.getElem?_setIfInBounds, Ne.symm hq']
  obtain ⟨t, a1, b1⟩ := kk _ _ ls (hH.set hba (by simp) oq (show (H.setIfInBounds a _)[a]? = some _ by simp [Array.getElem?_setIfInBounds, hla])) (fun q' hq' => by
      rcases List.mem_append.mp hq' with h | h
      · exact hl q' h
      · obtain ⟨z, -, hz'⟩ := List.mem_map.mp h
        rw [← hz']
        exact hba) hL (by simp; exact hz) _ hheap X'
  exact ⟨t, step t a1, b1⟩
end ZR5
end
section
theorem xw_ISE : ∀ w ∈ (vx_atS RX8 113 "java/lang/IllegalStateException" ["java/lang/RuntimeException", "java/lang/Exception"]).filter goodWord, w ∈ lw_tbl := by decide +kernel
theorem xo_ISE : (vx_atS RX8 113 "java/lang/IllegalStateException" ["java/lang/RuntimeException", "java/lang/Exception"]).all (fun w => goodWord w || decide (w ∈ [Cond.castable "java/lang/IllegalStateException" "java/lang/IllegalStateException", Cond.declares ⟨"java/lang/RuntimeException", "<init>", "(Ljava/lang/String;)V"⟩, Cond.declares ⟨"java/lang/Exception", "<init>", "(Ljava/lang/String;)V"⟩, Cond.declares ⟨"java/lang/Throwable", "<init>", "(Ljava/lang/String;)V"⟩])) = true := by decide +kernel
theorem xg_ISE : ∀ w ∈ Cond.classLink RX8 109 "java/lang/IllegalStateException" :: Cond.initialized "java/lang/IllegalStateException" :: vx_atS RX8 113 "java/lang/IllegalStateException" ["java/lang/RuntimeException", "java/lang/Exception"], vx_ot w = true := by decide +kernel
theorem xw_IAE : ∀ w ∈ (vx_atS RX8 123 "java/lang/IllegalArgumentException" ["java/lang/RuntimeException", "java/lang/Exception"]).filter goodWord, w ∈ lw_tbl := by decide +kernel
theorem xo_IAE : (vx_atS RX8 123 "java/lang/IllegalArgumentException" ["java/lang/RuntimeException", "java/lang/Exception"]).all (fun w => goodWord w || decide (w ∈ [Cond.castable "java/lang/IllegalArgumentException" "java/lang/IllegalArgumentException", Cond.declares ⟨"java/lang/RuntimeException", "<init>", "(Ljava/lang/String;)V"⟩, Cond.declares ⟨"java/lang/Exception", "<init>", "(Ljava/lang/String;)V"⟩, Cond.declares ⟨"java/lang/Throwable", "<init>", "(Ljava/lang/String;)V"⟩])) = true := by decide +kernel
theorem xg_IAE : ∀ w ∈ Cond.classLink RX8 119 "java/lang/IllegalArgumentException" :: Cond.initialized "java/lang/IllegalArgumentException" :: vx_atS RX8 123 "java/lang/IllegalArgumentException" ["java/lang/RuntimeException", "java/lang/Exception"], vx_ot w = true := by decide +kernel
theorem xw_IOB : ∀ w ∈ (vx_atS RX8 368 "java/lang/IndexOutOfBoundsException" ["java/lang/RuntimeException", "java/lang/Exception"]).filter goodWord, w ∈ lw_tbl := by decide +kernel
theorem xo_IOB : (vx_atS RX8 368 "java/lang/IndexOutOfBoundsException" ["java/lang/RuntimeException", "java/lang/Exception"]).all (fun w => goodWord w || decide (w ∈ [Cond.castable "java/lang/IndexOutOfBoundsException" "java/lang/IndexOutOfBoundsException", Cond.declares ⟨"java/lang/RuntimeException", "<init>", "(Ljava/lang/String;)V"⟩, Cond.declares ⟨"java/lang/Exception", "<init>", "(Ljava/lang/String;)V"⟩, Cond.declares ⟨"java/lang/Throwable", "<init>", "(Ljava/lang/String;)V"⟩])) = true := by decide +kernel
theorem xg_IOB : ∀ w ∈ Cond.classLink RX8 364 "java/lang/IndexOutOfBoundsException" :: Cond.initialized "java/lang/IndexOutOfBoundsException" :: vx_atS RX8 368 "java/lang/IndexOutOfBoundsException" ["java/lang/RuntimeException", "java/lang/Exception"], vx_ot w = true := by decide +kernel
section ZR6
variable {p : Program} {l : Launch} {e : Env} {R : Room} {s : State} {m : MethodId} {args : Array Value} {below : List Frame} {meth : Method} {c : Code} {γ : zG} {cc : ByteArray} {nL : Nat} {ret : Option FieldType} {own : String} {xt : List ExceptionTableEntry} {Q : State → Prop} {M : zM} {k n pc mc ms : Nat} {L : zL} {st : List Value} {post : Option Value → zM → Prop} {px : String → zM → Prop}
theorem zS_of (C : zC p l s m args meth c γ cc nL ret own xt) {H : Heap} {locs : List Loc} (hH : zHW γ M H) (hl : zLo γ locs) (hz : s.heap.size ≤ H.size) : va_S (zA γ) s.heap H locs :=
  ⟨hz, fun q h1 h2 => by rw [hH.1.2 q (Nat.lt_of_not_le h2), C.hb.2 q (Nat.lt_of_not_le h2)], hl⟩
/-- throw new X("a text") -/
def zXT (own X : String) (ik ic : Nat) : Prop := Cond.classLink own ik X ∈ LW ∧ Cond.initialized X ∈ LW ∧ X ∈ zCast ∧ Bundle.fit X = true ∧ (∀ w ∈ (vx_atS own ic X ["java/lang/RuntimeException", "java/lang/Exception"]).filter goodWord, w ∈ lw_tbl) ∧ (vx_atS own ic X ["java/lang/RuntimeException", "java/lang/Exception"]).all (fun w => goodWord w || decide (w ∈ [Cond.castable X X, Cond.declares ⟨"java/lang/RuntimeException", "<init>", "(Ljava/lang/String;)V"⟩, Cond.declares ⟨"java/lang/Exception", "<init>", "(Ljava/lang/String;)V"⟩, Cond.declares ⟨"java/lang/Throwable", "<init>", "(Ljava/lang/String;)V"⟩])) = true ∧ ∀ w ∈ Cond.classLink own ik X :: Cond.initialized X :: vx_atS own ic X ["java/lang/RuntimeException", "java/lang/Exception"], vx_ot w = true
theorem z_throw (C : zC p l s m args meth c γ cc nL ret own []) (hQ : Q = zRQ below γ post px args s mc ms) {X text : String} {ik is ic si : Nat} (hX : zXT own X ik ic) (hs : zStrs[si]? = some (own, is, text)) (d0 : decode cc pc = .ok (.new ik, 3)) (d3 : decode cc (pc + 3) = .ok (.dup, 1)) (d4 : decode cc (pc + 4) = .ok (.ldc is, 2)) (d6 : decode cc (pc + 6) = .ok (.invokespecial ic, 3)) (d9 : decode cc (pc + 9) = .ok (.athrow, 1))
    (hR : 5 < R.frames ∧ (st.map fun v => v.category).sum + 82 ≤ R.locals ∧ k + 1 ≤ R.cells ∧ n + 6 ≤ R.slots) (hk : k + 1 ≤ mc) (hn : n + 6 ≤ ms) (hp : px X M) : zAW p l e R s m args below meth c γ nL Q M k n pc L st := by
  subst hQ
  intro H locs ls hH hl hL hz
  obtain ⟨h1, h2, h3, h4, h5, h6, h7⟩ := hX
  have hat : ∀ w ∈ vx_atS own ic X ["java/lang/RuntimeException", "java/lang/Exception"], w.before args s = true := by
    intro w hw
    have h := List.all_eq_true.mp h6 w hw
    by_cases g : goodWord w = true
    · exact C.ws w (LW_mem (h5 w (List.mem_filter.mpr ⟨hw, g⟩)) g)
    · simp only [Bool.not_eq_true] at g
      rw [g] at h
      have h : w ∈ [Cond.castable X X, Cond.declares ⟨"java/lang/RuntimeException", "<init>", "(Ljava/lang/String;)V"⟩, Cond.declares ⟨"java/lang/Exception", "<init>", "(Ljava/lang/String;)V"⟩, Cond.declares ⟨"java/lang/Throwable", "<init>", "(Ljava/lang/String;)V"⟩] := by simpa using h
      have hC := C.ev.2.2.2.2.2.2.2.2.2.2.1 X h3
      have hD := C.ev.2.2.2.2.2.2.2.2.2.2.2.1
      rcases List.mem_cons.mp h with rfl | h
      · exact va_Nw.use rfl hC
      rcases List.mem_cons.mp h with rfl | h
      · exact va_Nw.use rfl (hD "java/lang/RuntimeException" (by decide))
      rcases List.mem_cons.mp h with rfl | h
      · exact va_Nw.use rfl (hD "java/lang/Exception" (by decide))
      rcases List.mem_cons.mp h with rfl | h
      · exact va_Nw.use rfl (hD "java/lang/Throwable" (by decide))
      · cases h
  exact vx_throwS (A := zA γ) C.ex C.by C.tr C.ow h4 (by decide +kernel) (C.ws _ h1) (C.ws _ h2) (C.ev.2.2.2.1 si _ hs) hat h7 (C.ev.2.1.kept fun a h1 h2 => C.hb.2 a h1) (C.ev.2.2.1.kept fun a h1 h2 => C.hb.2 a h1) (zS_of C hH hl hz) (hL.1.trans C.ml.symm) d0 d3 d4 d6 d9 (by rw [C.xtb]; intro x hx; cases hx) hR.1 hR.2.1 hR.2.2.1 hR.2.2.2 C.lk (fun t ht h1 h2 => ⟨⟨M, hp, hH.kept h1 h2⟩, by omega⟩) hl hk hn
theorem z_throwW (C : zC p l s m args meth c γ cc nL ret own []) (hQ : Q = zRQ below γ post px args s mc ms) {X text : String} {ik is ic si : Nat} (hX : zXT own X ik ic) (hs : zStrs[si]? = some (own, is, text)) (d0 : decode cc pc = .ok (.new ik, 3)) (d3 : decode cc (pc + 3) = .ok (.dup, 1)) (d4 : decode cc (pc + 4) = .ok (.ldc_w is, 3)) (d6 : decode cc (pc + 7) = .ok (.invokespecial ic, 3)) (d9 : decode cc (pc + 10) = .ok (.athrow, 1))
    (hR : 5 < R.frames ∧ (st.map fun v => v.category).sum + 82 ≤ R.locals ∧ k + 1 ≤ R.cells ∧ n + 6 ≤ R.slots) (hk : k + 1 ≤ mc) (hn : n + 6 ≤ ms) (hp : px X M) : zAW p l e R s m args below meth c γ nL Q M k n pc L st := by
  subst hQ
  intro H locs ls hH hl hL hz
  obtain ⟨h1, h2, h3, h4, h5, h6, h7⟩ := hX
  have hat : ∀ w ∈ vx_atS own ic X ["java/lang/RuntimeException", "java/lang/Exception"], w.before args s = true := by
    intro w hw
    have h := List.all_eq_true.mp h6 w hw
    by_cases g : goodWord w = true
    · exact C.ws w (LW_mem (h5 w (List.mem_filter.mpr ⟨hw, g⟩)) g)
    · simp only [Bool.not_eq_true] at g
      rw [g] at h
      have h : w ∈ [Cond.castable X X, Cond.declares ⟨"java/lang/RuntimeException", "<init>", "(Ljava/lang/String;)V"⟩, Cond.declares ⟨"java/lang/Exception", "<init>", "(Ljava/lang/String;)V"⟩, Cond.declares ⟨"java/lang/Throwable", "<init>", "(Ljava/lang/String;)V"⟩] := by simpa using h
      have hC := C.ev.2.2.2.2.2.2.2.2.2.2.1 X h3
      have hD := C.ev.2.2.2.2.2.2.2.2.2.2.2.1
      rcases List.mem_cons.mp h with rfl | h
      · exact va_Nw.use rfl hC
      rcases List.mem_cons.mp h with rfl | h
      · exact va_Nw.use rfl (hD "java/lang/RuntimeException" (by decide))
      rcases List.mem_cons.mp h with rfl | h
      · exact va_Nw.use rfl (hD "java/lang/Exception" (by decide))
      rcases List.mem_cons.mp h with rfl | h
      · exact va_Nw.use rfl (hD "java/lang/Throwable" (by decide))
      · cases h
  exact vx_throwSW (A := zA γ) C.ex C.by C.tr C.ow h4 (by decide +kernel) (C.ws _ h1) (C.ws _ h2) (C.ev.2.2.2.1 si _ hs) hat h7 (C.ev.2.1.kept fun a h1 h2 => C.hb.2 a h1) (C.ev.2.2.1.kept fun a h1 h2 => C.hb.2 a h1) (zS_of C hH hl hz) (hL.1.trans C.ml.symm) d0 d3 d4 d6 d9 (by rw [C.xtb]; intro x hx; cases hx) hR.1 hR.2.1 hR.2.2.1 hR.2.2.2 C.lk (fun t ht h1 h2 => ⟨⟨M, hp, hH.kept h1 h2⟩, by omega⟩) hl hk hn
end ZR6
end
section
/-! int arrays whose contents are written as whole numbers in range -/
def zR (x : Int) : Prop := -2147483648 ≤ x ∧ x ≤ 2147483647
abbrev zar (γ : zG) (N : Nat) (g : Nat → Int) : va_E := zaI γ N (fun j => zi (g j))
theorem zR_up {g : Nat → Int} (hg : ∀ j, zR (g j)) {k : Nat} {v : Int} (hv : zR v) : ∀ j, zR (va_up g k v j) := by
  intro j
  unfold va_up
  split
  · exact hv
  · exact hg j
theorem zR_cpy {f g : Nat → Int} (hf : ∀ j, zR (f j)) (hg : ∀ j, zR (g j)) {a b n : Nat} : ∀ j, zR (va_cpy f g a b n j) := by
  intro j
  unfold va_cpy
  split
  · exact hf _
  · exact hg j
theorem zar_up (γ : zG) (N : Nat) (g : Nat → Int) (k : Nat) (v : Int) : zaI γ N (va_up (fun j => zi (g j)) k (zi v)) = zar γ N (va_up g k v) := by
  have h : va_up (fun j => zi (g j)) k (zi v) = fun j => zi (va_up g k v j) := by
    funext j
    unfold va_up
    split <;> rfl
  rw [h]
theorem zar_cpy (γ : zG) (N : Nat) (f g : Nat → Int) (a b n : Nat) : zaI γ N (va_cpy (fun j => zi (f j)) (fun j => zi (g j)) a b n) = zar γ N (va_cpy f g a b n) := by
  have h : va_cpy (fun j => zi (f j)) (fun j => zi (g j)) a b n = fun j => zi (va_cpy f g a b n j) := by
    funext j
    unfold va_cpy
    split <;> rfl
  rw [h]
section ZR7
variable {p : Program} {l : Launch} {e : Env} {R : Room} {s : State} {m : MethodId} {args : Array Value} {below : List Frame} {meth : Method} {c : Code} {γ : zG} {cc : ByteArray} {nL : Nat} {ret : Option FieldType} {own : String} {xt : List ExceptionTableEntry} {Q : State → Prop} {M : zM} {k n pc mc ms : Nat} {L : zL} {st : List Value}
theorem z_aldN (C : zC p l s m args meth c γ cc nL ret own xt) {a N : Nat} {g : Nat → Int} {i : Int} (hd : decode cc pc = .ok (.iaload, 1)) (hM : M a = some (zar γ N g)) (hi : 0 ≤ i ∧ i < N) (hN : N ≤ 2147483648) (hg : ∀ j, zR (g j)) (kk : -2147483648 ≤ g i.toNat ∧ g i.toNat ≤ 2147483647 → zAW p l e R s m args below meth c γ nL Q M k n (pc + 1) L (.int (zi (g i.toNat)) :: st)) : zAW p l e R s m args below meth c γ nL Q M k n pc L (.int (zi i) :: .ref a :: st) := z_aldI C hd hM hi hN (kk (hg _))
theorem z_astN (C : zC p l s m args meth c γ cc nL ret own xt) {a N : Nat} {g : Nat → Int} {i v : Int} (hd : decode cc pc = .ok (.iastore, 1)) (hM : M a = some (zar γ N g)) (hi : 0 ≤ i ∧ i < N) (hN : N ≤ 2147483648) (hg : ∀ j, zR (g j)) (hv : -2147483648 ≤ v ∧ v ≤ 2147483647) (kk : (∀ j, zR (va_up g i.toNat v j)) → zAW p l e R s m args below meth c γ nL Q (va_up M a (some (zar γ N (va_up g i.toNat v)))) k n (pc + 1) L st) : zAW p l e R s m args below meth c γ nL Q M k n pc L (.int (zi v) :: .int (zi i) :: .ref a :: st) := z_astI C hd hM hi hN (by rw [zar_up]; exact kk (zR_up hg hv))
theorem z_copyZ (C : zC p l s m args meth c γ cc nL ret own xt) {idx a0 a n0 n1 : Nat} {f g : Nat → Int} {sp dp q : Int} (hd : decode cc pc = .ok (.invokestatic idx, 3)) (hlk : Cond.methodLink own idx arraycopyName ∈ LW) (hnat : Cond.native arraycopyName ∈ LW) (hst : Cond.static arraycopyName ∈ LW) (hin : Cond.initialized "java/lang/System" ∈ LW) (h0 : M a0 = some (zar γ n0 f)) (h1 : M a = some (zar γ n1 g)) (hsp : 0 ≤ sp) (hdp : 0 ≤ dp) (hq : 0 ≤ q) (hb0 : sp + q ≤ n0) (hb1 : dp + q ≤ n1) (hn0 : n0 ≤ 2147483647) (hn1 : n1 ≤ 2147483647) (hR : 1 ≤ R.frames ∧ (st.map fun v => v.category).sum + 18 ≤ R.locals) (hf : ∀ j, zR (f j)) (hg : ∀ j, zR (g j))
    (kk : (∀ j, zR (va_cpy f g sp.toNat dp.toNat q.toNat j)) → zAW p l e R s m args below meth c γ nL Q (va_up M a (some (zar γ n1 (va_cpy f g sp.toNat dp.toNat q.toNat)))) k n (pc + 3) L st) : zAW p l e R s m args below meth c γ nL Q M k n pc L (.int (zi q) :: .int (zi dp) :: .ref a :: .int (zi sp) :: .ref a0 :: st) := z_copyI C hd hlk hnat hst hin h0 h1 hsp hdp hq hb0 hb1 hn0 hn1 hR (by rw [zar_cpy]; exact kk (zR_cpy hf hg))
end ZR7
end
section
/-! the links: fields, methods, makings, by class and entry -/
theorem uw_X0 : ∀ w ∈ u_ws RX0 TX0 2, w ∈ LW := by
  intro w hw
  obtain ⟨k, hk, rfl⟩ := List.mem_map.mp hw
  have hk := List.mem_range.mp hk
  match k, hk with
  | 0, _ => exact t1_50
  | 1, _ => exact t1_52
theorem uw_X1 : ∀ w ∈ u_ws RX1 TX1 4, w ∈ LW := by
  intro w hw
  obtain ⟨k, hk, rfl⟩ := List.mem_map.mp hw
  have hk := List.mem_range.mp hk
  match k, hk with
  | 0, _ => exact t2_206
  | 1, _ => exact t2_208
  | 2, _ => exact t2_210
  | 3, _ => exact t2_212
theorem uw_X2 : ∀ w ∈ u_ws RX2 TX2 3, w ∈ LW := by
  intro w hw
  obtain ⟨k, hk, rfl⟩ := List.mem_map.mp hw
  have hk := List.mem_range.mp hk
  match k, hk with
  | 0, _ => exact t1_141
  | 1, _ => exact t1_143
  | 2, _ => exact t1_145
theorem uw_X3 : ∀ w ∈ u_ws RX3 TX3 3, w ∈ LW := by
  intro w hw
  obtain ⟨k, hk, rfl⟩ := List.mem_map.mp hw
  have hk := List.mem_range.mp hk
  match k, hk with
  | 0, _ => exact t1_186
  | 1, _ => exact t1_188
  | 2, _ => exact t1_190
theorem uw_X4 : ∀ w ∈ u_ws RX4 TX4 7, w ∈ LW := by
  intro w hw
  obtain ⟨k, hk, rfl⟩ := List.mem_map.mp hw
  have hk := List.mem_range.mp hk
  match k, hk with
  | 0, _ => exact t1_229
  | 1, _ => exact t1_231
  | 2, _ => exact t1_233
  | 3, _ => exact t1_235
  | 4, _ => exact t1_237
  | 5, _ => exact t1_239
  | 6, _ => exact t2_1
theorem uw_X5 : ∀ w ∈ u_ws RX5 TX5 4, w ∈ LW := by
  intro w hw
  obtain ⟨k, hk, rfl⟩ := List.mem_map.mp hw
  have hk := List.mem_range.mp hk
  match k, hk with
  | 0, _ => exact t2_183
  | 1, _ => exact t2_185
  | 2, _ => exact t2_187
  | 3, _ => exact t2_189
theorem uw_X6 : ∀ w ∈ u_ws RX6 TX6 6, w ∈ LW := by
  intro w hw
  obtain ⟨k, hk, rfl⟩ := List.mem_map.mp hw
  have hk := List.mem_range.mp hk
  match k, hk with
  | 0, _ => exact t1_162
  | 1, _ => exact t1_164
  | 2, _ => exact t1_166
  | 3, _ => exact t1_168
  | 4, _ => exact t1_170
  | 5, _ => exact t1_172
theorem uw_X7 : ∀ w ∈ u_ws RX7 TX7 5, w ∈ LW := by
  intro w hw
  obtain ⟨k, hk, rfl⟩ := List.mem_map.mp hw
  have hk := List.mem_range.mp hk
  match k, hk with
  | 0, _ => exact t1_203
  | 1, _ => exact t1_205
  | 2, _ => exact t1_207
  | 3, _ => exact t1_209
  | 4, _ => exact t1_211
theorem uw_X8 : ∀ w ∈ u_ws RX8 TX8 15, w ∈ LW := by
  intro w hw
  obtain ⟨k, hk, rfl⟩ := List.mem_map.mp hw
  have hk := List.mem_range.mp hk
  match k, hk with
  | 0, _ => exact t2_230
  | 1, _ => exact t2_232
  | 2, _ => exact t2_234
  | 3, _ => exact t2_236
  | 4, _ => exact t2_238
  | 5, _ => exact t3_0
  | 6, _ => exact t3_2
  | 7, _ => exact t3_4
  | 8, _ => exact t3_6
  | 9, _ => exact t3_8
  | 10, _ => exact t3_10
  | 11, _ => exact t3_12
  | 12, _ => exact t3_14
  | 13, _ => exact t3_16
  | 14, _ => exact t3_18
theorem uw_J4 : ∀ w ∈ u_ws RJ4 TJ4 4, w ∈ LW := by
  intro w hw
  obtain ⟨k, hk, rfl⟩ := List.mem_map.mp hw
  have hk := List.mem_range.mp hk
  match k, hk with
  | 0, _ => exact t3_236
  | 1, _ => exact t3_238
  | 2, _ => exact t4_0
  | 3, _ => exact t4_2
theorem uw_J0 : ∀ w ∈ u_ws RJ0 TJ0 4, w ∈ LW := by
  intro w hw
  obtain ⟨k, hk, rfl⟩ := List.mem_map.mp hw
  have hk := List.mem_range.mp hk
  match k, hk with
  | 0, _ => exact t4_206
  | 1, _ => exact t4_208
  | 2, _ => exact t4_210
  | 3, _ => exact t4_212
theorem fl_X0_9 : zFL RX0 9 0 0 true (.array .int) := ⟨_, RX0, TX0, 2, tyX0, t1_46, uw_X0, rfl, by decide, rfl, tyX0_ok, nmX0, rfl, rfl⟩
theorem fl_X0_15 : zFL RX0 15 0 1 false (.int) := ⟨_, RX0, TX0, 2, tyX0, t1_47, uw_X0, rfl, by decide, rfl, tyX0_ok, nmX0, rfl, rfl⟩
theorem fl_X8_107 : zFL RX8 107 0 1 false (.int) := ⟨_, RX0, TX0, 2, tyX0, t1_48, uw_X0, rfl, by decide, rfl, tyX0_ok, nmX0, rfl, rfl⟩
theorem fl_X4_138 : zFL RX4 138 0 1 false (.int) := ⟨_, RX0, TX0, 2, tyX0, t1_49, uw_X0, rfl, by decide, rfl, tyX0_ok, nmX0, rfl, rfl⟩
theorem fl_X2_9 : zFL RX2 9 2 0 true (.array .int) := ⟨_, RX2, TX2, 3, tyX2, t1_130, uw_X2, rfl, by decide, rfl, tyX2_ok, nmX2, rfl, rfl⟩
theorem fl_X5_48 : zFL RX5 48 2 0 true (.array .int) := ⟨_, RX2, TX2, 3, tyX2, t1_131, uw_X2, rfl, by decide, rfl, tyX2_ok, nmX2, rfl, rfl⟩
theorem fl_X1_63 : zFL RX1 63 2 0 true (.array .int) := ⟨_, RX2, TX2, 3, tyX2, t1_132, uw_X2, rfl, by decide, rfl, tyX2_ok, nmX2, rfl, rfl⟩
theorem fl_X2_15 : zFL RX2 15 2 1 true (.array .int) := ⟨_, RX2, TX2, 3, tyX2, t1_133, uw_X2, rfl, by decide, rfl, tyX2_ok, nmX2, rfl, rfl⟩
theorem fl_X5_51 : zFL RX5 51 2 1 true (.array .int) := ⟨_, RX2, TX2, 3, tyX2, t1_134, uw_X2, rfl, by decide, rfl, tyX2_ok, nmX2, rfl, rfl⟩
theorem fl_X1_67 : zFL RX1 67 2 1 true (.array .int) := ⟨_, RX2, TX2, 3, tyX2, t1_135, uw_X2, rfl, by decide, rfl, tyX2_ok, nmX2, rfl, rfl⟩
theorem fl_X2_18 : zFL RX2 18 2 2 false (.int) := ⟨_, RX2, TX2, 3, tyX2, t1_136, uw_X2, rfl, by decide, rfl, tyX2_ok, nmX2, rfl, rfl⟩
theorem fl_X5_47 : zFL RX5 47 2 2 false (.int) := ⟨_, RX2, TX2, 3, tyX2, t1_137, uw_X2, rfl, by decide, rfl, tyX2_ok, nmX2, rfl, rfl⟩
theorem fl_X1_60 : zFL RX1 60 2 2 false (.int) := ⟨_, RX2, TX2, 3, tyX2, t1_138, uw_X2, rfl, by decide, rfl, tyX2_ok, nmX2, rfl, rfl⟩
theorem fl_X6_54 : zFL RX6 54 2 2 false (.int) := ⟨_, RX2, TX2, 3, tyX2, t1_139, uw_X2, rfl, by decide, rfl, tyX2_ok, nmX2, rfl, rfl⟩
theorem fl_X8_215 : zFL RX8 215 2 2 false (.int) := ⟨_, RX2, TX2, 3, tyX2, t1_140, uw_X2, rfl, by decide, rfl, tyX2_ok, nmX2, rfl, rfl⟩
theorem fl_X6_9 : zFL RX6 9 6 0 true (.array .int) := ⟨_, RX6, TX6, 6, tyX6, t1_149, uw_X6, rfl, by decide, rfl, tyX6_ok, nmX6, rfl, rfl⟩
theorem fl_X6_15 : zFL RX6 15 6 1 false (.int) := ⟨_, RX6, TX6, 6, tyX6, t1_150, uw_X6, rfl, by decide, rfl, tyX6_ok, nmX6, rfl, rfl⟩
theorem fl_X6_19 : zFL RX6 19 6 2 false (.int) := ⟨_, RX6, TX6, 6, tyX6, t1_151, uw_X6, rfl, by decide, rfl, tyX6_ok, nmX6, rfl, rfl⟩
theorem fl_X1_35 : zFL RX1 35 6 2 false (.int) := ⟨_, RX6, TX6, 6, tyX6, t1_152, uw_X6, rfl, by decide, rfl, tyX6_ok, nmX6, rfl, rfl⟩
theorem fl_X8_164 : zFL RX8 164 6 2 false (.int) := ⟨_, RX6, TX6, 6, tyX6, t1_153, uw_X6, rfl, by decide, rfl, tyX6_ok, nmX6, rfl, rfl⟩
theorem fl_X6_25 : zFL RX6 25 6 3 true (.object "TrigramReaders$Counts") := ⟨_, RX6, TX6, 6, tyX6, t1_154, uw_X6, rfl, by decide, rfl, tyX6_ok, nmX6, rfl, rfl⟩
theorem fl_X1_29 : zFL RX1 29 6 3 true (.object "TrigramReaders$Counts") := ⟨_, RX6, TX6, 6, tyX6, t1_155, uw_X6, rfl, by decide, rfl, tyX6_ok, nmX6, rfl, rfl⟩
theorem fl_X4_110 : zFL RX4 110 6 3 true (.object "TrigramReaders$Counts") := ⟨_, RX6, TX6, 6, tyX6, t1_156, uw_X6, rfl, by decide, rfl, tyX6_ok, nmX6, rfl, rfl⟩
theorem fl_X7_53 : zFL RX7 53 6 3 true (.object "TrigramReaders$Counts") := ⟨_, RX6, TX6, 6, tyX6, t1_157, uw_X6, rfl, by decide, rfl, tyX6_ok, nmX6, rfl, rfl⟩
theorem fl_X8_188 : zFL RX8 188 6 3 true (.object "TrigramReaders$Counts") := ⟨_, RX6, TX6, 6, tyX6, t1_158, uw_X6, rfl, by decide, rfl, tyX6_ok, nmX6, rfl, rfl⟩
theorem fl_X6_29 : zFL RX6 29 6 4 false (.int) := ⟨_, RX6, TX6, 6, tyX6, t1_159, uw_X6, rfl, by decide, rfl, tyX6_ok, nmX6, rfl, rfl⟩
theorem fl_X8_221 : zFL RX8 221 6 4 false (.int) := ⟨_, RX6, TX6, 6, tyX6, t1_160, uw_X6, rfl, by decide, rfl, tyX6_ok, nmX6, rfl, rfl⟩
theorem fl_X6_32 : zFL RX6 32 6 5 true (.array .int) := ⟨_, RX6, TX6, 6, tyX6, t1_161, uw_X6, rfl, by decide, rfl, tyX6_ok, nmX6, rfl, rfl⟩
theorem fl_X3_9 : zFL RX3 9 3 0 true (.array .int) := ⟨_, RX3, TX3, 3, tyX3, t1_180, uw_X3, rfl, by decide, rfl, tyX3_ok, nmX3, rfl, rfl⟩
theorem fl_X3_15 : zFL RX3 15 3 1 false (.int) := ⟨_, RX3, TX3, 3, tyX3, t1_181, uw_X3, rfl, by decide, rfl, tyX3_ok, nmX3, rfl, rfl⟩
theorem fl_X4_122 : zFL RX4 122 3 1 false (.int) := ⟨_, RX3, TX3, 3, tyX3, t1_182, uw_X3, rfl, by decide, rfl, tyX3_ok, nmX3, rfl, rfl⟩
theorem fl_X2_54 : zFL RX2 54 3 1 false (.int) := ⟨_, RX3, TX3, 3, tyX3, t1_183, uw_X3, rfl, by decide, rfl, tyX3_ok, nmX3, rfl, rfl⟩
theorem fl_X8_174 : zFL RX8 174 3 1 false (.int) := ⟨_, RX3, TX3, 3, tyX3, t1_184, uw_X3, rfl, by decide, rfl, tyX3_ok, nmX3, rfl, rfl⟩
theorem fl_X3_19 : zFL RX3 19 3 2 false (.int) := ⟨_, RX3, TX3, 3, tyX3, t1_185, uw_X3, rfl, by decide, rfl, tyX3_ok, nmX3, rfl, rfl⟩
theorem fl_X7_11 : zFL RX7 11 7 0 true (.array (.object "TrigramReaders$Reader")) := ⟨_, RX7, TX7, 5, tyX7, t1_193, uw_X7, rfl, by decide, rfl, tyX7_ok, nmX7, rfl, rfl⟩
theorem fl_X7_17 : zFL RX7 17 7 1 false (.int) := ⟨_, RX7, TX7, 5, tyX7, t1_194, uw_X7, rfl, by decide, rfl, tyX7_ok, nmX7, rfl, rfl⟩
theorem fl_X4_67 : zFL RX4 67 7 1 false (.int) := ⟨_, RX7, TX7, 5, tyX7, t1_195, uw_X7, rfl, by decide, rfl, tyX7_ok, nmX7, rfl, rfl⟩
theorem fl_X8_143 : zFL RX8 143 7 1 false (.int) := ⟨_, RX7, TX7, 5, tyX7, t1_196, uw_X7, rfl, by decide, rfl, tyX7_ok, nmX7, rfl, rfl⟩
theorem fl_X7_23 : zFL RX7 23 7 2 true (.array (.object "TrigramReaders$Document")) := ⟨_, RX7, TX7, 5, tyX7, t1_197, uw_X7, rfl, by decide, rfl, tyX7_ok, nmX7, rfl, rfl⟩
theorem fl_X7_27 : zFL RX7 27 7 3 false (.int) := ⟨_, RX7, TX7, 5, tyX7, t1_198, uw_X7, rfl, by decide, rfl, tyX7_ok, nmX7, rfl, rfl⟩
theorem fl_X4_93 : zFL RX4 93 7 3 false (.int) := ⟨_, RX7, TX7, 5, tyX7, t1_199, uw_X7, rfl, by decide, rfl, tyX7_ok, nmX7, rfl, rfl⟩
theorem fl_X8_167 : zFL RX8 167 7 3 false (.int) := ⟨_, RX7, TX7, 5, tyX7, t1_200, uw_X7, rfl, by decide, rfl, tyX7_ok, nmX7, rfl, rfl⟩
theorem fl_X7_30 : zFL RX7 30 7 4 false (.int) := ⟨_, RX7, TX7, 5, tyX7, t1_201, uw_X7, rfl, by decide, rfl, tyX7_ok, nmX7, rfl, rfl⟩
theorem fl_X8_146 : zFL RX8 146 7 4 false (.int) := ⟨_, RX7, TX7, 5, tyX7, t1_202, uw_X7, rfl, by decide, rfl, tyX7_ok, nmX7, rfl, rfl⟩
theorem fl_X4_27 : zFL RX4 27 4 0 true (.object "TrigramReaders$Bytes") := ⟨_, RX4, TX4, 7, tyX4, t1_220, uw_X4, rfl, by decide, rfl, tyX4_ok, nmX4, rfl, rfl⟩
theorem fl_X4_31 : zFL RX4 31 4 1 true (.object "TrigramReaders$State") := ⟨_, RX4, TX4, 7, tyX4, t1_221, uw_X4, rfl, by decide, rfl, tyX4_ok, nmX4, rfl, rfl⟩
theorem fl_X4_11 : zFL RX4 11 4 2 false (.int) := ⟨_, RX4, TX4, 7, tyX4, t1_222, uw_X4, rfl, by decide, rfl, tyX4_ok, nmX4, rfl, rfl⟩
theorem fl_X4_15 : zFL RX4 15 4 3 false (.int) := ⟨_, RX4, TX4, 7, tyX4, t1_223, uw_X4, rfl, by decide, rfl, tyX4_ok, nmX4, rfl, rfl⟩
theorem fl_X4_18 : zFL RX4 18 4 4 false (.int) := ⟨_, RX4, TX4, 7, tyX4, t1_224, uw_X4, rfl, by decide, rfl, tyX4_ok, nmX4, rfl, rfl⟩
theorem fl_X4_21 : zFL RX4 21 4 5 false (.int) := ⟨_, RX4, TX4, 7, tyX4, t1_225, uw_X4, rfl, by decide, rfl, tyX4_ok, nmX4, rfl, rfl⟩
theorem fl_X8_128 : zFL RX8 128 4 5 false (.int) := ⟨_, RX4, TX4, 7, tyX4, t1_226, uw_X4, rfl, by decide, rfl, tyX4_ok, nmX4, rfl, rfl⟩
theorem fl_X4_24 : zFL RX4 24 4 6 false (.int) := ⟨_, RX4, TX4, 7, tyX4, t1_227, uw_X4, rfl, by decide, rfl, tyX4_ok, nmX4, rfl, rfl⟩
theorem fl_X8_131 : zFL RX8 131 4 6 false (.int) := ⟨_, RX4, TX4, 7, tyX4, t1_228, uw_X4, rfl, by decide, rfl, tyX4_ok, nmX4, rfl, rfl⟩
theorem fl_X5_9 : zFL RX5 9 5 0 true (.array .int) := ⟨_, RX5, TX5, 4, tyX5, t2_179, uw_X5, rfl, by decide, rfl, tyX5_ok, nmX5, rfl, rfl⟩
theorem fl_X5_15 : zFL RX5 15 5 1 true (.array .int) := ⟨_, RX5, TX5, 4, tyX5, t2_180, uw_X5, rfl, by decide, rfl, tyX5_ok, nmX5, rfl, rfl⟩
theorem fl_X5_18 : zFL RX5 18 5 2 false (.int) := ⟨_, RX5, TX5, 4, tyX5, t2_181, uw_X5, rfl, by decide, rfl, tyX5_ok, nmX5, rfl, rfl⟩
theorem fl_X5_22 : zFL RX5 22 5 3 false (.int) := ⟨_, RX5, TX5, 4, tyX5, t2_182, uw_X5, rfl, by decide, rfl, tyX5_ok, nmX5, rfl, rfl⟩
theorem fl_X1_9 : zFL RX1 9 1 0 false (.long) := ⟨_, RX1, TX1, 4, tyX1, t2_199, uw_X1, rfl, by decide, rfl, tyX1_ok, nmX1, rfl, rfl⟩
theorem fl_X8_243 : zFL RX8 243 1 0 false (.long) := ⟨_, RX1, TX1, 4, tyX1, t2_200, uw_X1, rfl, by decide, rfl, tyX1_ok, nmX1, rfl, rfl⟩
theorem fl_X1_15 : zFL RX1 15 1 1 false (.long) := ⟨_, RX1, TX1, 4, tyX1, t2_201, uw_X1, rfl, by decide, rfl, tyX1_ok, nmX1, rfl, rfl⟩
theorem fl_X8_247 : zFL RX8 247 1 1 false (.long) := ⟨_, RX1, TX1, 4, tyX1, t2_202, uw_X1, rfl, by decide, rfl, tyX1_ok, nmX1, rfl, rfl⟩
theorem fl_X1_18 : zFL RX1 18 1 2 false (.int) := ⟨_, RX1, TX1, 4, tyX1, t2_203, uw_X1, rfl, by decide, rfl, tyX1_ok, nmX1, rfl, rfl⟩
theorem fl_X8_240 : zFL RX8 240 1 2 false (.int) := ⟨_, RX1, TX1, 4, tyX1, t2_204, uw_X1, rfl, by decide, rfl, tyX1_ok, nmX1, rfl, rfl⟩
theorem fl_X1_22 : zFL RX1 22 1 3 false (.int) := ⟨_, RX1, TX1, 4, tyX1, t2_205, uw_X1, rfl, by decide, rfl, tyX1_ok, nmX1, rfl, rfl⟩
theorem fl_X8_13 : zFL RX8 13 8 0 true (.object "TrigramReaders$State") := ⟨_, RX8, TX8, 15, tyX8, t2_215, uw_X8, rfl, by decide, rfl, tyX8_ok, nmX8, rfl, rfl⟩
theorem fl_X8_20 : zFL RX8 20 8 1 true (.object "TrigramReaders$State") := ⟨_, RX8, TX8, 15, tyX8, t2_216, uw_X8, rfl, by decide, rfl, tyX8_ok, nmX8, rfl, rfl⟩
theorem fl_X8_23 : zFL RX8 23 8 2 true (.array (.object "TrigramReaders$State")) := ⟨_, RX8, TX8, 15, tyX8, t2_217, uw_X8, rfl, by decide, rfl, tyX8_ok, nmX8, rfl, rfl⟩
theorem fl_X8_27 : zFL RX8 27 8 3 false (.int) := ⟨_, RX8, TX8, 15, tyX8, t2_218, uw_X8, rfl, by decide, rfl, tyX8_ok, nmX8, rfl, rfl⟩
theorem fl_X8_31 : zFL RX8 31 8 4 false (.int) := ⟨_, RX8, TX8, 15, tyX8, t2_219, uw_X8, rfl, by decide, rfl, tyX8_ok, nmX8, rfl, rfl⟩
theorem fl_X8_34 : zFL RX8 34 8 5 true (.array (.object "TrigramReaders$State")) := ⟨_, RX8, TX8, 15, tyX8, t2_220, uw_X8, rfl, by decide, rfl, tyX8_ok, nmX8, rfl, rfl⟩
theorem fl_X8_37 : zFL RX8 37 8 6 true (.array .boolean) := ⟨_, RX8, TX8, 15, tyX8, t2_221, uw_X8, rfl, by decide, rfl, tyX8_ok, nmX8, rfl, rfl⟩
theorem fl_X8_44 : zFL RX8 44 8 7 true (.object "TrigramReaders$Bytes") := ⟨_, RX8, TX8, 15, tyX8, t2_222, uw_X8, rfl, by decide, rfl, tyX8_ok, nmX8, rfl, rfl⟩
theorem fl_X8_48 : zFL RX8 48 8 8 true (.object "TrigramReaders$Bytes") := ⟨_, RX8, TX8, 15, tyX8, t2_223, uw_X8, rfl, by decide, rfl, tyX8_ok, nmX8, rfl, rfl⟩
theorem fl_X8_51 : zFL RX8 51 8 9 false (.int) := ⟨_, RX8, TX8, 15, tyX8, t2_224, uw_X8, rfl, by decide, rfl, tyX8_ok, nmX8, rfl, rfl⟩
theorem fl_X8_54 : zFL RX8 54 8 10 false (.int) := ⟨_, RX8, TX8, 15, tyX8, t2_225, uw_X8, rfl, by decide, rfl, tyX8_ok, nmX8, rfl, rfl⟩
theorem fl_X8_60 : zFL RX8 60 8 11 true (.object "TrigramReaders$Counts") := ⟨_, RX8, TX8, 15, tyX8, t2_226, uw_X8, rfl, by decide, rfl, tyX8_ok, nmX8, rfl, rfl⟩
theorem fl_X8_67 : zFL RX8 67 8 12 true (.object "TrigramReaders$Ranking") := ⟨_, RX8, TX8, 15, tyX8, t2_227, uw_X8, rfl, by decide, rfl, tyX8_ok, nmX8, rfl, rfl⟩
theorem fl_X8_74 : zFL RX8 74 8 13 true (.object "TrigramReaders$Chance") := ⟨_, RX8, TX8, 15, tyX8, t2_228, uw_X8, rfl, by decide, rfl, tyX8_ok, nmX8, rfl, rfl⟩
theorem fl_X8_78 : zFL RX8 78 8 14 true (.array .int) := ⟨_, RX8, TX8, 15, tyX8, t2_229, uw_X8, rfl, by decide, rfl, tyX8_ok, nmX8, rfl, rfl⟩
theorem fl_J5_15 : zFL RJ5 15 9 0 false (.array .byte) := ⟨_, RJ4, TJ4, 4, tyJ4, t3_232, uw_J4, rfl, by decide, rfl, tyJ4_ok, nmJ4, rfl, rfl⟩
theorem fl_J5_22 : zFL RJ5 22 9 1 false (.byte) := ⟨_, RJ4, TJ4, 4, tyJ4, t3_233, uw_J4, rfl, by decide, rfl, tyJ4_ok, nmJ4, rfl, rfl⟩
theorem fl_J0_1048 : zFL RJ0 1048 9 2 false (.boolean) := ⟨_, RJ4, TJ4, 4, tyJ4, t3_234, uw_J4, rfl, by decide, rfl, tyJ4_ok, nmJ4, rfl, rfl⟩
theorem fl_J5_79 : zFL RJ5 79 9 3 false (.int) := ⟨_, RJ4, TJ4, 4, tyJ4, t3_235, uw_J4, rfl, by decide, rfl, tyJ4_ok, nmJ4, rfl, rfl⟩
theorem fl_J0_9 : zFL RJ0 9 10 0 true (.array .byte) := ⟨_, RJ0, TJ0, 4, tyJ0, t4_204, uw_J0, rfl, by decide, rfl, tyJ0_ok, nmJ0, rfl, rfl⟩
theorem fl_J0_15 : zFL RJ0 15 10 1 true (.byte) := ⟨_, RJ0, TJ0, 4, tyJ0, t4_205, uw_J0, rfl, by decide, rfl, tyJ0_ok, nmJ0, rfl, rfl⟩
theorem mw_X0_init : zMW yX0_init cX0_init 1 none 0 := ⟨t1_44, t1_2, by decide +kernel, by decide +kernel, by decide +kernel⟩
theorem mi_X0_init : Cond.instanceMethod yX0_init ∈ LW := t1_43
theorem mw_X0_clear : zMW yX0_clear cX0_clear 1 none 0 := ⟨t3_188, t1_2, by decide +kernel, by decide +kernel, by decide +kernel⟩
theorem mi_X0_clear : Cond.instanceMethod yX0_clear ∈ LW := t3_186
theorem ms_X0_clear : Cond.selects yX0_clear.cls yX0_clear yX0_clear ∈ LW := t3_187
theorem mw_X0_append : zMW yX0_append cX0_append 2 none 1 := ⟨t1_108, t1_2, by decide +kernel, by decide +kernel, by decide +kernel⟩
theorem mi_X0_append : Cond.instanceMethod yX0_append ∈ LW := t1_106
theorem ms_X0_append : Cond.selects yX0_append.cls yX0_append yX0_append ∈ LW := t1_107
theorem mw_X0_appendFour : zMW yX0_appendFour cX0_appendFour 2 none 1 := ⟨t3_151, t1_2, by decide +kernel, by decide +kernel, by decide +kernel⟩
theorem mi_X0_appendFour : Cond.instanceMethod yX0_appendFour ∈ LW := t3_149
theorem ms_X0_appendFour : Cond.selects yX0_appendFour.cls yX0_appendFour yX0_appendFour ∈ LW := t3_150
theorem mw_X0_at : zMW yX0_at cX0_at 2 (some .int) 1 := ⟨t2_15, t1_2, by decide +kernel, by decide +kernel, by decide +kernel⟩
theorem mi_X0_at : Cond.instanceMethod yX0_at ∈ LW := t2_13
theorem ms_X0_at : Cond.selects yX0_at.cls yX0_at yX0_at ∈ LW := t2_14
theorem mw_X0_isName : zMW yX0_isName cX0_isName 5 (some .boolean) 2 := ⟨t2_46, t1_2, by decide +kernel, by decide +kernel, by decide +kernel⟩
theorem mi_X0_isName : Cond.instanceMethod yX0_isName ∈ LW := t2_44
theorem ms_X0_isName : Cond.selects yX0_isName.cls yX0_isName yX0_isName ∈ LW := t2_45
theorem mw_X0_isDocument : zMW yX0_isDocument cX0_isDocument 5 (some .boolean) 2 := ⟨t2_93, t1_2, by decide +kernel, by decide +kernel, by decide +kernel⟩
theorem mi_X0_isDocument : Cond.instanceMethod yX0_isDocument ∈ LW := t2_91
theorem ms_X0_isDocument : Cond.selects yX0_isDocument.cls yX0_isDocument yX0_isDocument ∈ LW := t2_92
theorem mw_X1_init : zMW yX1_init cX1_init 1 none 0 := ⟨t2_197, t1_15, by decide +kernel, by decide +kernel, by decide +kernel⟩
theorem mi_X1_init : Cond.instanceMethod yX1_init ∈ LW := t2_196
theorem mw_X1_find : zMW yX1_find cX1_find 7 none 4 := ⟨t5_205, t1_15, by decide +kernel, by decide +kernel, by decide +kernel⟩
theorem mi_X1_find : Cond.instanceMethod yX1_find ∈ LW := t5_203
theorem ms_X1_find : Cond.selects yX1_find.cls yX1_find yX1_find ∈ LW := t5_204
theorem mw_X1_visit : zMW yX1_visit cX1_visit 11 (some .boolean) 4 := ⟨t5_211, t1_15, by decide +kernel, by decide +kernel, by decide +kernel⟩
theorem mi_X1_visit : Cond.instanceMethod yX1_visit ∈ LW := t5_210
theorem ms_X1_visit : Cond.selects yX1_visit.cls yX1_visit yX1_visit ∈ LW := ps_22
theorem mw_X1_divisorFor : zMW yX1_divisorFor cX1_divisorFor 3 (some .int) 3 := ⟨t5_215, t1_15, by decide +kernel, by decide +kernel, by decide +kernel⟩
theorem mst_X1_divisorFor : Cond.static yX1_divisorFor ∈ LW := t5_214
theorem mw_X1_reduce : zMW yX1_reduce cX1_reduce 8 none 0 := ⟨t5_225, t1_15, by decide +kernel, by decide +kernel, by decide +kernel⟩
theorem mi_X1_reduce : Cond.instanceMethod yX1_reduce ∈ LW := t5_224
theorem ms_X1_reduce : Cond.selects yX1_reduce.cls yX1_reduce yX1_reduce ∈ LW := ps_23
theorem mw_X1_bits : zMW yX1_bits cX1_bits 4 (some .int) 0 := ⟨t6_2, t1_15, by decide +kernel, by decide +kernel, by decide +kernel⟩
theorem mi_X1_bits : Cond.instanceMethod yX1_bits ∈ LW := t6_0
theorem ms_X1_bits : Cond.selects yX1_bits.cls yX1_bits yX1_bits ∈ LW := t6_1
theorem mw_X2_init : zMW yX2_init cX2_init 1 none 0 := ⟨t1_128, t1_9, by decide +kernel, by decide +kernel, by decide +kernel⟩
theorem mi_X2_init : Cond.instanceMethod yX2_init ∈ LW := t1_127
theorem mw_X2_copyFrom : zMW yX2_copyFrom cX2_copyFrom 2 none 1 := ⟨t3_206, t1_9, by decide +kernel, by decide +kernel, by decide +kernel⟩
theorem mi_X2_copyFrom : Cond.instanceMethod yX2_copyFrom ∈ LW := t3_204
theorem ms_X2_copyFrom : Cond.selects yX2_copyFrom.cls yX2_copyFrom yX2_copyFrom ∈ LW := t3_205
theorem mw_X2_placeOf : zMW yX2_placeOf cX2_placeOf 5 (some .int) 1 := ⟨t2_148, t1_9, by decide +kernel, by decide +kernel, by decide +kernel⟩
theorem mi_X2_placeOf : Cond.instanceMethod yX2_placeOf ∈ LW := t2_146
theorem ms_X2_placeOf : Cond.selects yX2_placeOf.cls yX2_placeOf yX2_placeOf ∈ LW := t2_147
theorem mw_X2_valueOf : zMW yX2_valueOf cX2_valueOf 3 (some .int) 1 := ⟨t5_36, t1_9, by decide +kernel, by decide +kernel, by decide +kernel⟩
theorem mi_X2_valueOf : Cond.instanceMethod yX2_valueOf ∈ LW := t5_34
theorem ms_X2_valueOf : Cond.selects yX2_valueOf.cls yX2_valueOf yX2_valueOf ∈ LW := t5_35
theorem mw_X2_add : zMW yX2_add cX2_add 4 none 2 := ⟨t2_144, t1_9, by decide +kernel, by decide +kernel, by decide +kernel⟩
theorem mi_X2_add : Cond.instanceMethod yX2_add ∈ LW := t2_142
theorem ms_X2_add : Cond.selects yX2_add.cls yX2_add yX2_add ∈ LW := t2_143
theorem mw_X2_addAll : zMW yX2_addAll cX2_addAll 3 none 1 := ⟨t5_124, t1_9, by decide +kernel, by decide +kernel, by decide +kernel⟩
theorem mi_X2_addAll : Cond.instanceMethod yX2_addAll ∈ LW := t5_122
theorem ms_X2_addAll : Cond.selects yX2_addAll.cls yX2_addAll yX2_addAll ∈ LW := t5_123
theorem mw_X2_countPosition : zMW yX2_countPosition cX2_countPosition 6 none 2 := ⟨t2_130, t1_9, by decide +kernel, by decide +kernel, by decide +kernel⟩
theorem mi_X2_countPosition : Cond.instanceMethod yX2_countPosition ∈ LW := t2_128
theorem ms_X2_countPosition : Cond.selects yX2_countPosition.cls yX2_countPosition yX2_countPosition ∈ LW := t2_129
theorem mw_X2_countDocument : zMW yX2_countDocument cX2_countDocument 3 none 1 := ⟨t2_126, t1_9, by decide +kernel, by decide +kernel, by decide +kernel⟩
theorem mi_X2_countDocument : Cond.instanceMethod yX2_countDocument ∈ LW := t2_124
theorem ms_X2_countDocument : Cond.selects yX2_countDocument.cls yX2_countDocument yX2_countDocument ∈ LW := t2_125
theorem mw_X2_halve : zMW yX2_halve cX2_halve 4 none 0 := ⟨t2_169, t1_9, by decide +kernel, by decide +kernel, by decide +kernel⟩
theorem mi_X2_halve : Cond.instanceMethod yX2_halve ∈ LW := t2_167
theorem ms_X2_halve : Cond.selects yX2_halve.cls yX2_halve yX2_halve ∈ LW := t2_168
theorem mw_X2_symbolsIn : zMW yX2_symbolsIn cX2_symbolsIn 2 (some .int) 1 := ⟨t5_183, t1_9, by decide +kernel, by decide +kernel, by decide +kernel⟩
theorem mi_X2_symbolsIn : Cond.instanceMethod yX2_symbolsIn ∈ LW := t5_181
theorem ms_X2_symbolsIn : Cond.selects yX2_symbolsIn.cls yX2_symbolsIn yX2_symbolsIn ∈ LW := t5_182
theorem mw_X2_sumIn : zMW yX2_sumIn cX2_sumIn 4 (some .int) 1 := ⟨t5_175, t1_9, by decide +kernel, by decide +kernel, by decide +kernel⟩
theorem mi_X2_sumIn : Cond.instanceMethod yX2_sumIn ∈ LW := t5_173
theorem ms_X2_sumIn : Cond.selects yX2_sumIn.cls yX2_sumIn yX2_sumIn ∈ LW := t5_174
theorem mw_X3_init : zMW yX3_init cX3_init 1 none 0 := ⟨t1_178, t1_10, by decide +kernel, by decide +kernel, by decide +kernel⟩
theorem mi_X3_init : Cond.instanceMethod yX3_init ∈ LW := t1_177
theorem mw_X3_copyFrom : zMW yX3_copyFrom cX3_copyFrom 2 none 1 := ⟨t3_210, t1_10, by decide +kernel, by decide +kernel, by decide +kernel⟩
theorem mi_X3_copyFrom : Cond.instanceMethod yX3_copyFrom ∈ LW := t3_208
theorem ms_X3_copyFrom : Cond.selects yX3_copyFrom.cls yX3_copyFrom yX3_copyFrom ∈ LW := t3_209
theorem mw_X3_take : zMW yX3_take cX3_take 7 none 4 := ⟨t2_101, t1_10, by decide +kernel, by decide +kernel, by decide +kernel⟩
theorem mi_X3_take : Cond.instanceMethod yX3_take ∈ LW := t2_99
theorem ms_X3_take : Cond.selects yX3_take.cls yX3_take yX3_take ∈ LW := t2_100
theorem mw_X3_symbolAt : zMW yX3_symbolAt cX3_symbolAt 2 (some .int) 1 := ⟨t2_134, t1_10, by decide +kernel, by decide +kernel, by decide +kernel⟩
theorem mi_X3_symbolAt : Cond.instanceMethod yX3_symbolAt ∈ LW := t2_132
theorem ms_X3_symbolAt : Cond.selects yX3_symbolAt.cls yX3_symbolAt yX3_symbolAt ∈ LW := t2_133
theorem mw_X4_init : zMW yX4_init cX4_init 3 none 2 := ⟨t1_218, t1_11, by decide +kernel, by decide +kernel, by decide +kernel⟩
theorem mi_X4_init : Cond.instanceMethod yX4_init ∈ LW := t1_217
theorem mw_X4_parseAll : zMW yX4_parseAll cX4_parseAll 3 (some .boolean) 0 := ⟨t2_7, t1_11, by decide +kernel, by decide +kernel, by decide +kernel⟩
theorem mi_X4_parseAll : Cond.instanceMethod yX4_parseAll ∈ LW := t2_5
theorem ms_X4_parseAll : Cond.selects yX4_parseAll.cls yX4_parseAll yX4_parseAll ∈ LW := t2_6
theorem mw_X4_parseReader : zMW yX4_parseReader cX4_parseReader 4 (some .boolean) 0 := ⟨t2_38, t1_11, by decide +kernel, by decide +kernel, by decide +kernel⟩
theorem mi_X4_parseReader : Cond.instanceMethod yX4_parseReader ∈ LW := t2_37
theorem ms_X4_parseReader : Cond.selects yX4_parseReader.cls yX4_parseReader yX4_parseReader ∈ LW := ps_2
theorem mw_X4_parseDocument : zMW yX4_parseDocument cX4_parseDocument 3 (some .boolean) 0 := ⟨t2_89, t1_11, by decide +kernel, by decide +kernel, by decide +kernel⟩
theorem mi_X4_parseDocument : Cond.instanceMethod yX4_parseDocument ∈ LW := t2_88
theorem ms_X4_parseDocument : Cond.selects yX4_parseDocument.cls yX4_parseDocument yX4_parseDocument ∈ LW := ps_6
theorem mw_X4_parseTrain : zMW yX4_parseTrain cX4_parseTrain 4 (some .boolean) 0 := ⟨t2_108, t1_11, by decide +kernel, by decide +kernel, by decide +kernel⟩
theorem mi_X4_parseTrain : Cond.instanceMethod yX4_parseTrain ∈ LW := t2_107
theorem ms_X4_parseTrain : Cond.selects yX4_parseTrain.cls yX4_parseTrain yX4_parseTrain ∈ LW := ps_7
theorem mw_X4_parseYear : zMW yX4_parseYear cX4_parseYear 1 (some .boolean) 0 := ⟨t2_161, t1_11, by decide +kernel, by decide +kernel, by decide +kernel⟩
theorem mi_X4_parseYear : Cond.instanceMethod yX4_parseYear ∈ LW := t2_160
theorem ms_X4_parseYear : Cond.selects yX4_parseYear.cls yX4_parseYear yX4_parseYear ∈ LW := ps_9
theorem mw_X4_parseSemicolon : zMW yX4_parseSemicolon cX4_parseSemicolon 1 (some .boolean) 0 := ⟨t2_72, t1_11, by decide +kernel, by decide +kernel, by decide +kernel⟩
theorem mi_X4_parseSemicolon : Cond.instanceMethod yX4_parseSemicolon ∈ LW := t2_71
theorem ms_X4_parseSemicolon : Cond.selects yX4_parseSemicolon.cls yX4_parseSemicolon yX4_parseSemicolon ∈ LW := ps_5
theorem mw_X4_fail : zMW yX4_fail cX4_fail 2 (some .boolean) 1 := ⟨t2_42, t1_11, by decide +kernel, by decide +kernel, by decide +kernel⟩
theorem mi_X4_fail : Cond.instanceMethod yX4_fail ∈ LW := t2_41
theorem ms_X4_fail : Cond.selects yX4_fail.cls yX4_fail yX4_fail ∈ LW := ps_3
theorem mw_X4_next : zMW yX4_next cX4_next 2 none 0 := ⟨t2_11, t1_11, by decide +kernel, by decide +kernel, by decide +kernel⟩
theorem mi_X4_next : Cond.instanceMethod yX4_next ∈ LW := t2_10
theorem ms_X4_next : Cond.selects yX4_next.cls yX4_next yX4_next ∈ LW := ps_0
theorem mw_X4_isBlank : zMW yX4_isBlank cX4_isBlank 1 (some .boolean) 1 := ⟨t2_18, t1_11, by decide +kernel, by decide +kernel, by decide +kernel⟩
theorem mst_X4_isBlank : Cond.static yX4_isBlank ∈ LW := t2_17
theorem mw_X4_kindOf : zMW yX4_kindOf cX4_kindOf 1 (some .int) 1 := ⟨t2_21, t1_11, by decide +kernel, by decide +kernel, by decide +kernel⟩
theorem mst_X4_kindOf : Cond.static yX4_kindOf ∈ LW := t2_20
theorem mw_X4_isWord : zMW yX4_isWord cX4_isWord 4 (some .boolean) 1 := ⟨t2_32, t1_11, by decide +kernel, by decide +kernel, by decide +kernel⟩
theorem mi_X4_isWord : Cond.instanceMethod yX4_isWord ∈ LW := t2_31
theorem ms_X4_isWord : Cond.selects yX4_isWord.cls yX4_isWord yX4_isWord ∈ LW := ps_1
theorem mw_X4_methodWord : zMW yX4_methodWord cX4_methodWord 1 (some .int) 0 := ⟨t2_65, t1_11, by decide +kernel, by decide +kernel, by decide +kernel⟩
theorem mi_X4_methodWord : Cond.instanceMethod yX4_methodWord ∈ LW := t2_64
theorem ms_X4_methodWord : Cond.selects yX4_methodWord.cls yX4_methodWord yX4_methodWord ∈ LW := ps_4
theorem mw_X4_numberValue : zMW yX4_numberValue cX4_numberValue 3 (some .int) 0 := ⟨t2_112, t1_11, by decide +kernel, by decide +kernel, by decide +kernel⟩
theorem mi_X4_numberValue : Cond.instanceMethod yX4_numberValue ∈ LW := t2_111
theorem ms_X4_numberValue : Cond.selects yX4_numberValue.cls yX4_numberValue yX4_numberValue ∈ LW := ps_8
theorem mw_X5_init : zMW yX5_init cX5_init 1 none 0 := ⟨t2_177, t1_14, by decide +kernel, by decide +kernel, by decide +kernel⟩
theorem mi_X5_init : Cond.instanceMethod yX5_init ∈ LW := t2_176
theorem mw_X5_fill : zMW yX5_fill cX5_fill 6 none 3 := ⟨t5_74, t1_14, by decide +kernel, by decide +kernel, by decide +kernel⟩
theorem mi_X5_fill : Cond.instanceMethod yX5_fill ∈ LW := t5_72
theorem ms_X5_fill : Cond.selects yX5_fill.cls yX5_fill yX5_fill ∈ LW := t5_73
theorem mw_X5_appendOrder : zMW yX5_appendOrder cX5_appendOrder 5 none 2 := ⟨t5_80, t1_14, by decide +kernel, by decide +kernel, by decide +kernel⟩
theorem mi_X5_appendOrder : Cond.instanceMethod yX5_appendOrder ∈ LW := t5_79
theorem ms_X5_appendOrder : Cond.selects yX5_appendOrder.cls yX5_appendOrder yX5_appendOrder ∈ LW := ps_17
theorem mw_X5_insert : zMW yX5_insert cX5_insert 6 none 3 := ⟨t5_85, t1_14, by decide +kernel, by decide +kernel, by decide +kernel⟩
theorem mi_X5_insert : Cond.instanceMethod yX5_insert ∈ LW := t5_84
theorem ms_X5_insert : Cond.selects yX5_insert.cls yX5_insert yX5_insert ∈ LW := ps_18
theorem mw_X5_guess : zMW yX5_guess cX5_guess 2 (some .int) 1 := ⟨t5_155, t1_14, by decide +kernel, by decide +kernel, by decide +kernel⟩
theorem mi_X5_guess : Cond.instanceMethod yX5_guess ∈ LW := t5_153
theorem ms_X5_guess : Cond.selects yX5_guess.cls yX5_guess yX5_guess ∈ LW := t5_154
theorem mw_X5_guessesUntil : zMW yX5_guessesUntil cX5_guessesUntil 3 (some .int) 1 := ⟨t5_89, t1_14, by decide +kernel, by decide +kernel, by decide +kernel⟩
theorem mi_X5_guessesUntil : Cond.instanceMethod yX5_guessesUntil ∈ LW := t5_87
theorem ms_X5_guessesUntil : Cond.selects yX5_guessesUntil.cls yX5_guessesUntil yX5_guessesUntil ∈ LW := t5_88
theorem mw_X6_init : zMW yX6_init cX6_init 1 none 0 := ⟨t1_122, t1_8, by decide +kernel, by decide +kernel, by decide +kernel⟩
theorem mi_X6_init : Cond.instanceMethod yX6_init ∈ LW := t1_121
theorem mw_X6_copyFrom : zMW yX6_copyFrom cX6_copyFrom 2 none 1 := ⟨t3_201, t1_8, by decide +kernel, by decide +kernel, by decide +kernel⟩
theorem mi_X6_copyFrom : Cond.instanceMethod yX6_copyFrom ∈ LW := t3_199
theorem ms_X6_copyFrom : Cond.selects yX6_copyFrom.cls yX6_copyFrom yX6_copyFrom ∈ LW := t3_200
theorem mw_X6_begin : zMW yX6_begin cX6_begin 6 none 4 := ⟨t2_80, t1_8, by decide +kernel, by decide +kernel, by decide +kernel⟩
theorem mi_X6_begin : Cond.instanceMethod yX6_begin ∈ LW := t2_78
theorem ms_X6_begin : Cond.selects yX6_begin.cls yX6_begin yX6_begin ∈ LW := t2_79
theorem mw_X6_clearTrainings : zMW yX6_clearTrainings cX6_clearTrainings 2 none 0 := ⟨t2_84, t1_8, by decide +kernel, by decide +kernel, by decide +kernel⟩
theorem mi_X6_clearTrainings : Cond.instanceMethod yX6_clearTrainings ∈ LW := t2_82
theorem ms_X6_clearTrainings : Cond.selects yX6_clearTrainings.cls yX6_clearTrainings yX6_clearTrainings ∈ LW := t2_83
theorem mw_X6_nameAt : zMW yX6_nameAt cX6_nameAt 2 (some .int) 1 := ⟨t2_60, t1_8, by decide +kernel, by decide +kernel, by decide +kernel⟩
theorem mi_X6_nameAt : Cond.instanceMethod yX6_nameAt ∈ LW := t2_58
theorem ms_X6_nameAt : Cond.selects yX6_nameAt.cls yX6_nameAt yX6_nameAt ∈ LW := t2_59
theorem mw_X6_isNamed : zMW yX6_isNamed cX6_isNamed 6 (some .boolean) 3 := ⟨t2_56, t1_8, by decide +kernel, by decide +kernel, by decide +kernel⟩
theorem mi_X6_isNamed : Cond.instanceMethod yX6_isNamed ∈ LW := t2_54
theorem ms_X6_isNamed : Cond.selects yX6_isNamed.cls yX6_isNamed yX6_isNamed ∈ LW := t2_55
theorem mw_X6_trainingsOn : zMW yX6_trainingsOn cX6_trainingsOn 2 (some .int) 1 := ⟨t3_112, t1_8, by decide +kernel, by decide +kernel, by decide +kernel⟩
theorem mi_X6_trainingsOn : Cond.instanceMethod yX6_trainingsOn ∈ LW := t3_110
theorem ms_X6_trainingsOn : Cond.selects yX6_trainingsOn.cls yX6_trainingsOn yX6_trainingsOn ∈ LW := t3_111
theorem mw_X6_recordTraining : zMW yX6_recordTraining cX6_recordTraining 3 none 2 := ⟨t2_156, t1_8, by decide +kernel, by decide +kernel, by decide +kernel⟩
theorem mi_X6_recordTraining : Cond.instanceMethod yX6_recordTraining ∈ LW := t2_154
theorem ms_X6_recordTraining : Cond.selects yX6_recordTraining.cls yX6_recordTraining yX6_recordTraining ∈ LW := t2_155
theorem mw_X6_takeIn : zMW yX6_takeIn cX6_takeIn 3 none 1 := ⟨t5_120, t1_8, by decide +kernel, by decide +kernel, by decide +kernel⟩
theorem mi_X6_takeIn : Cond.instanceMethod yX6_takeIn ∈ LW := t5_118
theorem ms_X6_takeIn : Cond.selects yX6_takeIn.cls yX6_takeIn yX6_takeIn ∈ LW := t5_119
theorem mw_X7_init : zMW yX7_init cX7_init 2 none 0 := ⟨t1_113, t1_7, by decide +kernel, by decide +kernel, by decide +kernel⟩
theorem mi_X7_init : Cond.instanceMethod yX7_init ∈ LW := t1_112
theorem mw_X7_copyFrom : zMW yX7_copyFrom cX7_copyFrom 3 none 1 := ⟨t3_197, t1_7, by decide +kernel, by decide +kernel, by decide +kernel⟩
theorem mi_X7_copyFrom : Cond.instanceMethod yX7_copyFrom ∈ LW := t3_195
theorem ms_X7_copyFrom : Cond.selects yX7_copyFrom.cls yX7_copyFrom yX7_copyFrom ∈ LW := t3_196
theorem mw_X7_clear : zMW yX7_clear cX7_clear 1 none 0 := ⟨t3_184, t1_7, by decide +kernel, by decide +kernel, by decide +kernel⟩
theorem mi_X7_clear : Cond.instanceMethod yX7_clear ∈ LW := t3_182
theorem ms_X7_clear : Cond.selects yX7_clear.cls yX7_clear yX7_clear ∈ LW := t3_183
theorem mw_X7_readerNamed : zMW yX7_readerNamed cX7_readerNamed 5 (some (.object "TrigramReaders$Reader")) 3 := ⟨t2_52, t1_7, by decide +kernel, by decide +kernel, by decide +kernel⟩
theorem mi_X7_readerNamed : Cond.instanceMethod yX7_readerNamed ∈ LW := t2_50
theorem ms_X7_readerNamed : Cond.selects yX7_readerNamed.cls yX7_readerNamed yX7_readerNamed ∈ LW := t2_51
theorem mw_X7_readerAt : zMW yX7_readerAt cX7_readerAt 2 (some (.object "TrigramReaders$Reader")) 1 := ⟨t3_40, t1_7, by decide +kernel, by decide +kernel, by decide +kernel⟩
theorem mi_X7_readerAt : Cond.instanceMethod yX7_readerAt ∈ LW := t3_38
theorem ms_X7_readerAt : Cond.selects yX7_readerAt.cls yX7_readerAt yX7_readerAt ∈ LW := t3_39
theorem mw_X7_documentAt : zMW yX7_documentAt cX7_documentAt 2 (some (.object "TrigramReaders$Document")) 1 := ⟨t2_122, t1_7, by decide +kernel, by decide +kernel, by decide +kernel⟩
theorem mi_X7_documentAt : Cond.instanceMethod yX7_documentAt ∈ LW := t2_120
theorem ms_X7_documentAt : Cond.selects yX7_documentAt.cls yX7_documentAt yX7_documentAt ∈ LW := t2_121
theorem mw_X7_putReader : zMW yX7_putReader cX7_putReader 5 none 4 := ⟨t2_76, t1_7, by decide +kernel, by decide +kernel, by decide +kernel⟩
theorem mi_X7_putReader : Cond.instanceMethod yX7_putReader ∈ LW := t2_74
theorem ms_X7_putReader : Cond.selects yX7_putReader.cls yX7_putReader yX7_putReader ∈ LW := t2_75
theorem mw_X7_putDocument : zMW yX7_putDocument cX7_putDocument 4 none 3 := ⟨t2_97, t1_7, by decide +kernel, by decide +kernel, by decide +kernel⟩
theorem mi_X7_putDocument : Cond.instanceMethod yX7_putDocument ∈ LW := t2_95
theorem ms_X7_putDocument : Cond.selects yX7_putDocument.cls yX7_putDocument yX7_putDocument ∈ LW := t2_96
theorem mw_X7_passYear : zMW yX7_passYear cX7_passYear 2 none 0 := ⟨t2_165, t1_7, by decide +kernel, by decide +kernel, by decide +kernel⟩
theorem mi_X7_passYear : Cond.instanceMethod yX7_passYear ∈ LW := t2_163
theorem ms_X7_passYear : Cond.selects yX7_passYear.cls yX7_passYear yX7_passYear ∈ LW := t2_164
theorem mw_X8_init : zMW yX8_init cX8_init 2 none 0 := ⟨t1_33, t1_1, by decide +kernel, by decide +kernel, by decide +kernel⟩
theorem mi_X8_init : Cond.instanceMethod yX8_init ∈ LW := t1_32
theorem mw_X8_firstState : zMW yX8_firstState cX8_firstState 3 (some (.object "TrigramReaders$State")) 0 := ⟨t1_39, t1_1, by decide +kernel, by decide +kernel, by decide +kernel⟩
theorem mst_X8_firstState : Cond.static yX8_firstState ∈ LW := t1_38
theorem mw_X8_appendInput : zMW yX8_appendInput cX8_appendInput 6 (some .int) 5 := ⟨t3_131, t1_1, by decide +kernel, by decide +kernel, by decide +kernel⟩
theorem mi_X8_appendInput : Cond.instanceMethod yX8_appendInput ∈ LW := t3_129
theorem ms_X8_appendInput : Cond.selects yX8_appendInput.cls yX8_appendInput yX8_appendInput ∈ LW := t3_130
theorem mw_X8_truncateInput : zMW yX8_truncateInput cX8_truncateInput 2 (some .int) 1 := ⟨t3_156, t1_1, by decide +kernel, by decide +kernel, by decide +kernel⟩
theorem mi_X8_truncateInput : Cond.instanceMethod yX8_truncateInput ∈ LW := t3_154
theorem ms_X8_truncateInput : Cond.selects yX8_truncateInput.cls yX8_truncateInput yX8_truncateInput ∈ LW := t3_155
theorem mw_X8_load : zMW yX8_load cX8_load 3 (some .int) 0 := ⟨t3_180, t1_1, by decide +kernel, by decide +kernel, by decide +kernel⟩
theorem mi_X8_load : Cond.instanceMethod yX8_load ∈ LW := t3_178
theorem ms_X8_load : Cond.selects yX8_load.cls yX8_load yX8_load ∈ LW := t3_179
theorem mw_X8_errorCode : zMW yX8_errorCode cX8_errorCode 1 (some .int) 0 := ⟨t3_24, t1_1, by decide +kernel, by decide +kernel, by decide +kernel⟩
theorem mi_X8_errorCode : Cond.instanceMethod yX8_errorCode ∈ LW := t3_22
theorem ms_X8_errorCode : Cond.selects yX8_errorCode.cls yX8_errorCode yX8_errorCode ∈ LW := t3_23
theorem mw_X8_readerCount : zMW yX8_readerCount cX8_readerCount 1 (some .int) 0 := ⟨t3_28, t1_1, by decide +kernel, by decide +kernel, by decide +kernel⟩
theorem mi_X8_readerCount : Cond.instanceMethod yX8_readerCount ∈ LW := t3_26
theorem ms_X8_readerCount : Cond.selects yX8_readerCount.cls yX8_readerCount yX8_readerCount ∈ LW := t3_27
theorem mw_X8_escapeMethod : zMW yX8_escapeMethod cX8_escapeMethod 2 (some .int) 1 := ⟨t5_190, t1_1, by decide +kernel, by decide +kernel, by decide +kernel⟩
theorem mi_X8_escapeMethod : Cond.instanceMethod yX8_escapeMethod ∈ LW := t5_188
theorem ms_X8_escapeMethod : Cond.selects yX8_escapeMethod.cls yX8_escapeMethod yX8_escapeMethod ∈ LW := t5_189
theorem mw_X8_documentCount : zMW yX8_documentCount cX8_documentCount 1 (some .int) 0 := ⟨t4_224, t1_1, by decide +kernel, by decide +kernel, by decide +kernel⟩
theorem mi_X8_documentCount : Cond.instanceMethod yX8_documentCount ∈ LW := t4_222
theorem ms_X8_documentCount : Cond.selects yX8_documentCount.cls yX8_documentCount yX8_documentCount ∈ LW := t4_223
theorem mw_X8_documentLength : zMW yX8_documentLength cX8_documentLength 2 (some .int) 1 := ⟨t4_239, t1_1, by decide +kernel, by decide +kernel, by decide +kernel⟩
theorem mi_X8_documentLength : Cond.instanceMethod yX8_documentLength ∈ LW := t4_237
theorem ms_X8_documentLength : Cond.selects yX8_documentLength.cls yX8_documentLength yX8_documentLength ∈ LW := t4_238
theorem mw_X8_documentSymbol : zMW yX8_documentSymbol cX8_documentSymbol 4 (some .int) 2 := ⟨t5_3, t1_1, by decide +kernel, by decide +kernel, by decide +kernel⟩
theorem mi_X8_documentSymbol : Cond.instanceMethod yX8_documentSymbol ∈ LW := t5_1
theorem ms_X8_documentSymbol : Cond.selects yX8_documentSymbol.cls yX8_documentSymbol yX8_documentSymbol ∈ LW := t5_2
theorem mw_X8_countOrder0 : zMW yX8_countOrder0 cX8_countOrder0 4 (some .int) 2 := ⟨t5_24, t1_1, by decide +kernel, by decide +kernel, by decide +kernel⟩
theorem mi_X8_countOrder0 : Cond.instanceMethod yX8_countOrder0 ∈ LW := t5_22
theorem ms_X8_countOrder0 : Cond.selects yX8_countOrder0.cls yX8_countOrder0 yX8_countOrder0 ∈ LW := t5_23
theorem mw_X8_countOrder1 : zMW yX8_countOrder1 cX8_countOrder1 5 (some .int) 3 := ⟨t5_40, t1_1, by decide +kernel, by decide +kernel, by decide +kernel⟩
theorem mi_X8_countOrder1 : Cond.instanceMethod yX8_countOrder1 ∈ LW := t5_38
theorem ms_X8_countOrder1 : Cond.selects yX8_countOrder1.cls yX8_countOrder1 yX8_countOrder1 ∈ LW := t5_39
theorem mw_X8_countOrder2 : zMW yX8_countOrder2 cX8_countOrder2 6 (some .int) 4 := ⟨t5_44, t1_1, by decide +kernel, by decide +kernel, by decide +kernel⟩
theorem mi_X8_countOrder2 : Cond.instanceMethod yX8_countOrder2 ∈ LW := t5_42
theorem ms_X8_countOrder2 : Cond.selects yX8_countOrder2.cls yX8_countOrder2 yX8_countOrder2 ∈ LW := t5_43
theorem mw_X8_contextTotal : zMW yX8_contextTotal cX8_contextTotal 6 (some .int) 3 := ⟨t5_171, t1_1, by decide +kernel, by decide +kernel, by decide +kernel⟩
theorem mi_X8_contextTotal : Cond.instanceMethod yX8_contextTotal ∈ LW := t5_169
theorem ms_X8_contextTotal : Cond.selects yX8_contextTotal.cls yX8_contextTotal yX8_contextTotal ∈ LW := t5_170
theorem mw_X8_contextSymbols : zMW yX8_contextSymbols cX8_contextSymbols 6 (some .int) 3 := ⟨t5_179, t1_1, by decide +kernel, by decide +kernel, by decide +kernel⟩
theorem mi_X8_contextSymbols : Cond.instanceMethod yX8_contextSymbols ∈ LW := t5_177
theorem ms_X8_contextSymbols : Cond.selects yX8_contextSymbols.cls yX8_contextSymbols yX8_contextSymbols ∈ LW := t5_178
theorem mw_X8_positiveCounts : zMW yX8_positiveCounts cX8_positiveCounts 2 (some .int) 1 := ⟨t5_132, t1_1, by decide +kernel, by decide +kernel, by decide +kernel⟩
theorem mi_X8_positiveCounts : Cond.instanceMethod yX8_positiveCounts ∈ LW := t5_130
theorem ms_X8_positiveCounts : Cond.selects yX8_positiveCounts.cls yX8_positiveCounts yX8_positiveCounts ∈ LW := t5_131
theorem mw_X8_timesTrained : zMW yX8_timesTrained cX8_timesTrained 4 (some .int) 2 := ⟨t4_232, t1_1, by decide +kernel, by decide +kernel, by decide +kernel⟩
theorem mi_X8_timesTrained : Cond.instanceMethod yX8_timesTrained ∈ LW := t4_230
theorem ms_X8_timesTrained : Cond.selects yX8_timesTrained.cls yX8_timesTrained yX8_timesTrained ∈ LW := t4_231
theorem mw_X8_trainedSymbols : zMW yX8_trainedSymbols cX8_trainedSymbols 2 (some .int) 1 := ⟨t4_228, t1_1, by decide +kernel, by decide +kernel, by decide +kernel⟩
theorem mi_X8_trainedSymbols : Cond.instanceMethod yX8_trainedSymbols ∈ LW := t4_226
theorem ms_X8_trainedSymbols : Cond.selects yX8_trainedSymbols.cls yX8_trainedSymbols yX8_trainedSymbols ∈ LW := t4_227
theorem mw_X8_trainingGap : zMW yX8_trainingGap cX8_trainingGap 5 (some .int) 1 := ⟨t3_32, t1_1, by decide +kernel, by decide +kernel, by decide +kernel⟩
theorem mi_X8_trainingGap : Cond.instanceMethod yX8_trainingGap ∈ LW := t3_30
theorem ms_X8_trainingGap : Cond.selects yX8_trainingGap.cls yX8_trainingGap yX8_trainingGap ∈ LW := t3_31
theorem mw_X8_symbolAtRank : zMW yX8_symbolAtRank cX8_symbolAtRank 6 (some .int) 4 := ⟨t5_142, t1_1, by decide +kernel, by decide +kernel, by decide +kernel⟩
theorem mi_X8_symbolAtRank : Cond.instanceMethod yX8_symbolAtRank ∈ LW := t5_140
theorem ms_X8_symbolAtRank : Cond.selects yX8_symbolAtRank.cls yX8_symbolAtRank yX8_symbolAtRank ∈ LW := t5_141
theorem mw_X8_rank : zMW yX8_rank cX8_rank 6 (some .int) 4 := ⟨t5_159, t1_1, by decide +kernel, by decide +kernel, by decide +kernel⟩
theorem mi_X8_rank : Cond.instanceMethod yX8_rank ∈ LW := t5_157
theorem ms_X8_rank : Cond.selects yX8_rank.cls yX8_rank yX8_rank ∈ LW := t5_158
theorem mw_X8_foundOrder : zMW yX8_foundOrder cX8_foundOrder 6 (some .int) 4 := ⟨t5_163, t1_1, by decide +kernel, by decide +kernel, by decide +kernel⟩
theorem mi_X8_foundOrder : Cond.instanceMethod yX8_foundOrder ∈ LW := t5_161
theorem ms_X8_foundOrder : Cond.selects yX8_foundOrder.cls yX8_foundOrder yX8_foundOrder ∈ LW := t5_162
theorem mw_X8_escapes : zMW yX8_escapes cX8_escapes 5 (some .int) 4 := ⟨t5_234, t1_1, by decide +kernel, by decide +kernel, by decide +kernel⟩
theorem mi_X8_escapes : Cond.instanceMethod yX8_escapes ∈ LW := t5_232
theorem ms_X8_escapes : Cond.selects yX8_escapes.cls yX8_escapes yX8_escapes ∈ LW := t5_233
theorem mw_X8_numerator : zMW yX8_numerator cX8_numerator 5 (some .long) 4 := ⟨t5_197, t1_1, by decide +kernel, by decide +kernel, by decide +kernel⟩
theorem mi_X8_numerator : Cond.instanceMethod yX8_numerator ∈ LW := t5_195
theorem ms_X8_numerator : Cond.selects yX8_numerator.cls yX8_numerator yX8_numerator ∈ LW := t5_196
theorem mw_X8_denominator : zMW yX8_denominator cX8_denominator 5 (some .long) 4 := ⟨t5_229, t1_1, by decide +kernel, by decide +kernel, by decide +kernel⟩
theorem mi_X8_denominator : Cond.instanceMethod yX8_denominator ∈ LW := t5_227
theorem ms_X8_denominator : Cond.selects yX8_denominator.cls yX8_denominator yX8_denominator ∈ LW := t5_228
theorem mw_X8_probability : zMW yX8_probability cX8_probability 6 (some .double) 4 := ⟨t6_7, t1_1, by decide +kernel, by decide +kernel, by decide +kernel⟩
theorem mi_X8_probability : Cond.instanceMethod yX8_probability ∈ LW := t6_5
theorem ms_X8_probability : Cond.selects yX8_probability.cls yX8_probability yX8_probability ∈ LW := t6_6
theorem mw_X8_codeLength : zMW yX8_codeLength cX8_codeLength 5 (some .int) 4 := ⟨t5_238, t1_1, by decide +kernel, by decide +kernel, by decide +kernel⟩
theorem mi_X8_codeLength : Cond.instanceMethod yX8_codeLength ∈ LW := t5_236
theorem ms_X8_codeLength : Cond.selects yX8_codeLength.cls yX8_codeLength yX8_codeLength ∈ LW := t5_237
theorem mw_X8_train : zMW yX8_train cX8_train 5 (some .int) 2 := ⟨t5_56, t1_1, by decide +kernel, by decide +kernel, by decide +kernel⟩
theorem mi_X8_train : Cond.instanceMethod yX8_train ∈ LW := t5_54
theorem ms_X8_train : Cond.selects yX8_train.cls yX8_train yX8_train ∈ LW := t5_55
theorem mw_X8_learn : zMW yX8_learn cX8_learn 5 (some .int) 2 := ⟨t5_98, t1_1, by decide +kernel, by decide +kernel, by decide +kernel⟩
theorem mi_X8_learn : Cond.instanceMethod yX8_learn ∈ LW := t5_96
theorem ms_X8_learn : Cond.selects yX8_learn.cls yX8_learn yX8_learn ∈ LW := t5_97
theorem mw_X8_forget : zMW yX8_forget cX8_forget 4 (some .int) 1 := ⟨t5_93, t1_1, by decide +kernel, by decide +kernel, by decide +kernel⟩
theorem mi_X8_forget : Cond.instanceMethod yX8_forget ∈ LW := t5_91
theorem ms_X8_forget : Cond.selects yX8_forget.cls yX8_forget yX8_forget ∈ LW := t5_92
theorem mw_X8_setEscapeMethod : zMW yX8_setEscapeMethod cX8_setEscapeMethod 5 (some .int) 2 := ⟨t5_107, t1_1, by decide +kernel, by decide +kernel, by decide +kernel⟩
theorem mi_X8_setEscapeMethod : Cond.instanceMethod yX8_setEscapeMethod ∈ LW := t5_105
theorem ms_X8_setEscapeMethod : Cond.selects yX8_setEscapeMethod.cls yX8_setEscapeMethod yX8_setEscapeMethod ∈ LW := t5_106
theorem mw_X8_endYear : zMW yX8_endYear cX8_endYear 1 (some .int) 0 := ⟨t5_51, t1_1, by decide +kernel, by decide +kernel, by decide +kernel⟩
theorem mi_X8_endYear : Cond.instanceMethod yX8_endYear ∈ LW := t5_49
theorem ms_X8_endYear : Cond.selects yX8_endYear.cls yX8_endYear yX8_endYear ∈ LW := t5_50
theorem mw_X8_merge : zMW yX8_merge cX8_merge 5 (some .int) 2 := ⟨t5_115, t1_1, by decide +kernel, by decide +kernel, by decide +kernel⟩
theorem mi_X8_merge : Cond.instanceMethod yX8_merge ∈ LW := t5_113
theorem ms_X8_merge : Cond.selects yX8_merge.cls yX8_merge yX8_merge ∈ LW := t5_114
theorem mw_X8_remember : zMW yX8_remember cX8_remember 1 none 0 := ⟨t3_193, t1_1, by decide +kernel, by decide +kernel, by decide +kernel⟩
theorem mi_X8_remember : Cond.instanceMethod yX8_remember ∈ LW := t3_192
theorem ms_X8_remember : Cond.selects yX8_remember.cls yX8_remember yX8_remember ∈ LW := ps_13
theorem mw_X8_existingReader : zMW yX8_existingReader cX8_existingReader 3 (some (.object "TrigramReaders$Reader")) 1 := ⟨t3_36, t1_1, by decide +kernel, by decide +kernel, by decide +kernel⟩
theorem mi_X8_existingReader : Cond.instanceMethod yX8_existingReader ∈ LW := t3_35
theorem ms_X8_existingReader : Cond.selects yX8_existingReader.cls yX8_existingReader yX8_existingReader ∈ LW := ps_10
theorem mw_X8_existingDocument : zMW yX8_existingDocument cX8_existingDocument 3 (some (.object "TrigramReaders$Document")) 1 := ⟨t3_116, t1_1, by decide +kernel, by decide +kernel, by decide +kernel⟩
theorem mi_X8_existingDocument : Cond.instanceMethod yX8_existingDocument ∈ LW := t3_115
theorem ms_X8_existingDocument : Cond.selects yX8_existingDocument.cls yX8_existingDocument yX8_existingDocument ∈ LW := ps_12
theorem mw_X8_requireMethod : zMW yX8_requireMethod cX8_requireMethod 1 none 1 := ⟨t5_110, t1_1, by decide +kernel, by decide +kernel, by decide +kernel⟩
theorem mst_X8_requireMethod : Cond.static yX8_requireMethod ∈ LW := t5_109
theorem mw_X8_requireSymbol : zMW yX8_requireSymbol cX8_requireSymbol 1 none 1 := ⟨t5_27, t1_1, by decide +kernel, by decide +kernel, by decide +kernel⟩
theorem mst_X8_requireSymbol : Cond.static yX8_requireSymbol ∈ LW := t5_26
theorem mw_X8_requireContext : zMW yX8_requireContext cX8_requireContext 3 none 2 := ⟨t5_145, t1_1, by decide +kernel, by decide +kernel, by decide +kernel⟩
theorem mst_X8_requireContext : Cond.static yX8_requireContext ∈ LW := t5_144
theorem mw_X8_isSymbol : zMW yX8_isSymbol cX8_isSymbol 1 (some .boolean) 1 := ⟨t5_30, t1_1, by decide +kernel, by decide +kernel, by decide +kernel⟩
theorem mst_X8_isSymbol : Cond.static yX8_isSymbol ∈ LW := t5_29
theorem mw_X8_firstOrder : zMW yX8_firstOrder cX8_firstOrder 2 (some .int) 2 := ⟨t2_137, t1_1, by decide +kernel, by decide +kernel, by decide +kernel⟩
theorem mst_X8_firstOrder : Cond.static yX8_firstOrder ∈ LW := t2_136
theorem mw_X8_contextStart : zMW yX8_contextStart cX8_contextStart 3 (some .int) 3 := ⟨t2_140, t1_1, by decide +kernel, by decide +kernel, by decide +kernel⟩
theorem mst_X8_contextStart : Cond.static yX8_contextStart ∈ LW := t2_139
theorem mw_X8_chanceOf : zMW yX8_chanceOf cX8_chanceOf 6 (some (.object "TrigramReaders$Chance")) 4 := ⟨t5_201, t1_1, by decide +kernel, by decide +kernel, by decide +kernel⟩
theorem mi_X8_chanceOf : Cond.instanceMethod yX8_chanceOf ∈ LW := t5_200
theorem ms_X8_chanceOf : Cond.selects yX8_chanceOf.cls yX8_chanceOf yX8_chanceOf ∈ LW := ps_21
theorem mw_X8_guessIn : zMW yX8_guessIn cX8_guessIn 5 (some .int) 4 := ⟨t5_151, t1_1, by decide +kernel, by decide +kernel, by decide +kernel⟩
theorem mi_X8_guessIn : Cond.instanceMethod yX8_guessIn ∈ LW := t5_150
theorem ms_X8_guessIn : Cond.selects yX8_guessIn.cls yX8_guessIn yX8_guessIn ∈ LW := ps_20
theorem mw_X8_rankIn : zMW yX8_rankIn cX8_rankIn 5 (some .int) 4 := ⟨t5_70, t1_1, by decide +kernel, by decide +kernel, by decide +kernel⟩
theorem mi_X8_rankIn : Cond.instanceMethod yX8_rankIn ∈ LW := t5_69
theorem ms_X8_rankIn : Cond.selects yX8_rankIn.cls yX8_rankIn yX8_rankIn ∈ LW := ps_16
theorem mw_X8_orderOf : zMW yX8_orderOf cX8_orderOf 5 (some .int) 4 := ⟨t5_166, t1_1, by decide +kernel, by decide +kernel, by decide +kernel⟩
theorem mst_X8_orderOf : Cond.static yX8_orderOf ∈ LW := t5_165
theorem mw_X8_rankOfPosition : zMW yX8_rankOfPosition cX8_rankOfPosition 4 (some .int) 3 := ⟨t5_66, t1_1, by decide +kernel, by decide +kernel, by decide +kernel⟩
theorem mi_X8_rankOfPosition : Cond.instanceMethod yX8_rankOfPosition ∈ LW := t5_65
theorem ms_X8_rankOfPosition : Cond.selects yX8_rankOfPosition.cls yX8_rankOfPosition yX8_rankOfPosition ∈ LW := ps_15
theorem mw_X8_guessesFor : zMW yX8_guessesFor cX8_guessesFor 5 (some .int) 2 := ⟨t5_62, t1_1, by decide +kernel, by decide +kernel, by decide +kernel⟩
theorem mi_X8_guessesFor : Cond.instanceMethod yX8_guessesFor ∈ LW := t5_61
theorem ms_X8_guessesFor : Cond.selects yX8_guessesFor.cls yX8_guessesFor yX8_guessesFor ∈ LW := ps_14
theorem mw_X8_guessesWhileLearning : zMW yX8_guessesWhileLearning cX8_guessesWhileLearning 5 (some .int) 2 := ⟨t5_102, t1_1, by decide +kernel, by decide +kernel, by decide +kernel⟩
theorem mi_X8_guessesWhileLearning : Cond.instanceMethod yX8_guessesWhileLearning ∈ LW := t5_101
theorem ms_X8_guessesWhileLearning : Cond.selects yX8_guessesWhileLearning.cls yX8_guessesWhileLearning yX8_guessesWhileLearning ∈ LW := ps_19
theorem mw_X8_isDigit : zMW yX8_isDigit cX8_isDigit 1 (some .boolean) 1 := ⟨t2_27, t1_1, by decide +kernel, by decide +kernel, by decide +kernel⟩
theorem mst_X8_isDigit : Cond.static yX8_isDigit ∈ LW := t2_26
theorem mw_X8_isLetter : zMW yX8_isLetter cX8_isLetter 1 (some .boolean) 1 := ⟨t2_24, t1_1, by decide +kernel, by decide +kernel, by decide +kernel⟩
theorem mst_X8_isLetter : Cond.static yX8_isLetter ∈ LW := t2_23
theorem mw_X8_withDigit : zMW yX8_withDigit cX8_withDigit 2 (some .int) 2 := ⟨t2_115, t1_1, by decide +kernel, by decide +kernel, by decide +kernel⟩
theorem mst_X8_withDigit : Cond.static yX8_withDigit ∈ LW := t2_114
theorem mw_J5_init_d00df : zMW yJ5_init_d00df cJ5_init_d00df 2 none 1 := ⟨t3_222, t1_16, by decide +kernel, by decide +kernel, by decide +kernel⟩
theorem mi_J5_init_d00df : Cond.instanceMethod yJ5_init_d00df ∈ LW := t3_221
theorem mw_J5_length_8abf5 : zMW yJ5_length_8abf5 cJ5_length_8abf5 1 (some .int) 0 := ⟨t4_151, t1_16, by decide +kernel, by decide +kernel, by decide +kernel⟩
theorem mi_J5_length_8abf5 : Cond.instanceMethod yJ5_length_8abf5 ∈ LW := t4_145
theorem mw_J5_ensureCapacityInternal_d00df : zMW yJ5_ensureCapacityInternal_d00df cJ5_ensureCapacityInternal_d00df 3 none 1 := ⟨t4_20, t1_16, by decide +kernel, by decide +kernel, by decide +kernel⟩
theorem mi_J5_ensureCapacityInternal_d00df : Cond.instanceMethod yJ5_ensureCapacityInternal_d00df ∈ LW := t4_19
theorem mw_J5_newCapacity_0f7a4 : zMW yJ5_newCapacity_0f7a4 cJ5_newCapacity_0f7a4 6 (some .int) 1 := ⟨t4_24, t1_16, by decide +kernel, by decide +kernel, by decide +kernel⟩
theorem mi_J5_newCapacity_0f7a4 : Cond.instanceMethod yJ5_newCapacity_0f7a4 ∈ LW := t4_23
theorem mw_J5_inflate_da8c8 : zMW yJ5_inflate_da8c8 cJ5_inflate_da8c8 2 none 0 := ⟨t4_81, t1_16, by decide +kernel, by decide +kernel, by decide +kernel⟩
theorem mi_J5_inflate_da8c8 : Cond.instanceMethod yJ5_inflate_da8c8 ∈ LW := t4_80
theorem mw_J5_append_cf1ce : zMW yJ5_append_cf1ce cJ5_append_cf1ce 3 (some (.object "java/lang/AbstractStringBuilder")) 1 := ⟨t4_12, t1_16, by decide +kernel, by decide +kernel, by decide +kernel⟩
theorem mi_J5_append_cf1ce : Cond.instanceMethod yJ5_append_cf1ce ∈ LW := t4_11
theorem mw_J5_appendNull_278bc : zMW yJ5_appendNull_278bc cJ5_appendNull_278bc 3 (some (.object "java/lang/AbstractStringBuilder")) 0 := ⟨t4_16, t1_16, by decide +kernel, by decide +kernel, by decide +kernel⟩
theorem mi_J5_appendNull_278bc : Cond.instanceMethod yJ5_appendNull_278bc ∈ LW := t4_15
theorem mw_J5_append_3fe6f : zMW yJ5_append_3fe6f cJ5_append_3fe6f 2 (some (.object "java/lang/AbstractStringBuilder")) 1 := ⟨t4_110, t1_16, by decide +kernel, by decide +kernel, by decide +kernel⟩
theorem mi_J5_append_3fe6f : Cond.instanceMethod yJ5_append_3fe6f ∈ LW := t4_109
theorem mw_J5_append_c97b9 : zMW yJ5_append_c97b9 cJ5_append_c97b9 4 (some (.object "java/lang/AbstractStringBuilder")) 1 := ⟨t4_171, t1_16, by decide +kernel, by decide +kernel, by decide +kernel⟩
theorem mi_J5_append_c97b9 : Cond.instanceMethod yJ5_append_c97b9 ∈ LW := t4_170
theorem mw_J5_getValue_6d5f1 : zMW yJ5_getValue_6d5f1 cJ5_getValue_6d5f1 1 (some (.array .byte)) 0 := ⟨t4_143, t1_16, by decide +kernel, by decide +kernel, by decide +kernel⟩
theorem mi_J5_getValue_6d5f1 : Cond.instanceMethod yJ5_getValue_6d5f1 ∈ LW := t4_140
theorem msb_J5_getValue_6d5f1 : Cond.selects RJ4 yJ5_getValue_6d5f1 yJ5_getValue_6d5f1 ∈ LW := t4_142
theorem mw_J5_isLatin1_aae02 : zMW yJ5_isLatin1_aae02 cJ5_isLatin1_aae02 1 (some .boolean) 0 := ⟨t4_52, t1_16, by decide +kernel, by decide +kernel, by decide +kernel⟩
theorem mi_J5_isLatin1_aae02 : Cond.instanceMethod yJ5_isLatin1_aae02 ∈ LW := t4_49
theorem msb_J5_isLatin1_aae02 : Cond.selects RJ4 yJ5_isLatin1_aae02 yJ5_isLatin1_aae02 ∈ LW := t4_51
theorem mw_J5_inflateIfNeededFor_a7421 : zMW yJ5_inflateIfNeededFor_a7421 cJ5_inflateIfNeededFor_a7421 2 none 1 := ⟨t4_76, t1_16, by decide +kernel, by decide +kernel, by decide +kernel⟩
theorem mi_J5_inflateIfNeededFor_a7421 : Cond.instanceMethod yJ5_inflateIfNeededFor_a7421 ∈ LW := t4_75
theorem mw_J5_putStringAt_47b60 : zMW yJ5_putStringAt_47b60 cJ5_putStringAt_47b60 3 none 2 := ⟨t4_72, t1_16, by decide +kernel, by decide +kernel, by decide +kernel⟩
theorem mi_J5_putStringAt_47b60 : Cond.instanceMethod yJ5_putStringAt_47b60 ∈ LW := t4_71
theorem mw_J6_getChars_ba4f3 : zMW yJ6_getChars_ba4f3 cJ6_getChars_ba4f3 7 (some .int) 3 := ⟨t4_177, t1_25, by decide +kernel, by decide +kernel, by decide +kernel⟩
theorem mst_J6_getChars_ba4f3 : Cond.static yJ6_getChars_ba4f3 ∈ LW := t4_176
theorem mw_J6_stringSize_0f7a4 : zMW yJ6_stringSize_0f7a4 cJ6_stringSize_0f7a4 4 (some .int) 1 := ⟨t4_174, t1_25, by decide +kernel, by decide +kernel, by decide +kernel⟩
theorem mst_J6_stringSize_0f7a4 : Cond.static yJ6_stringSize_0f7a4 ∈ LW := t4_173
theorem mw_J6_bitCount_0f7a4 : zMW yJ6_bitCount_0f7a4 cJ6_bitCount_0f7a4 1 (some .int) 1 := ⟨t5_218, t1_25, by decide +kernel, by decide +kernel, by decide +kernel⟩
theorem mst_J6_bitCount_0f7a4 : Cond.static yJ6_bitCount_0f7a4 ∈ LW := t5_217
theorem mw_J9_max_7cf53 : zMW yJ9_max_7cf53 cJ9_max_7cf53 2 (some .int) 2 := ⟨t4_30, t1_12, by decide +kernel, by decide +kernel, by decide +kernel⟩
theorem mst_J9_max_7cf53 : Cond.static yJ9_max_7cf53 ∈ LW := t4_29
theorem mw_J9_min_7cf53 : zMW yJ9_min_7cf53 cJ9_min_7cf53 2 (some .int) 2 := ⟨t2_118, t1_12, by decide +kernel, by decide +kernel, by decide +kernel⟩
theorem mst_J9_min_7cf53 : Cond.static yJ9_min_7cf53 ∈ LW := t2_117
theorem mw_J0_init_81219 : zMW yJ0_init_81219 cJ0_init_81219 2 none 1 := ⟨t4_134, t1_3, by decide +kernel, by decide +kernel, by decide +kernel⟩
theorem mi_J0_init_81219 : Cond.instanceMethod yJ0_init_81219 ∈ LW := t4_133
theorem mw_J0_length_8abf5 : zMW yJ0_length_8abf5 cJ0_length_8abf5 1 (some .int) 0 := ⟨t1_60, t1_3, by decide +kernel, by decide +kernel, by decide +kernel⟩
theorem mi_J0_length_8abf5 : Cond.instanceMethod yJ0_length_8abf5 ∈ LW := t1_58
theorem ms_J0_length_8abf5 : Cond.selects yJ0_length_8abf5.cls yJ0_length_8abf5 yJ0_length_8abf5 ∈ LW := t1_59
theorem mw_J0_charAt_5068e : zMW yJ0_charAt_5068e cJ0_charAt_5068e 2 (some .char) 1 := ⟨t1_70, t1_3, by decide +kernel, by decide +kernel, by decide +kernel⟩
theorem mi_J0_charAt_5068e : Cond.instanceMethod yJ0_charAt_5068e ∈ LW := t1_68
theorem ms_J0_charAt_5068e : Cond.selects yJ0_charAt_5068e.cls yJ0_charAt_5068e yJ0_charAt_5068e ∈ LW := t1_69
theorem mw_J0_getBytes_840e7 : zMW yJ0_getBytes_840e7 cJ0_getBytes_840e7 4 none 3 := ⟨t4_100, t1_3, by decide +kernel, by decide +kernel, by decide +kernel⟩
theorem mi_J0_getBytes_840e7 : Cond.instanceMethod yJ0_getBytes_840e7 ∈ LW := t4_98
theorem ms_J0_getBytes_840e7 : Cond.selects yJ0_getBytes_840e7.cls yJ0_getBytes_840e7 yJ0_getBytes_840e7 ∈ LW := t4_99
theorem mw_J0_init_db425 : zMW yJ0_init_db425 cJ0_init_db425 5 none 2 := ⟨t4_137, t1_3, by decide +kernel, by decide +kernel, by decide +kernel⟩
theorem mi_J0_init_db425 : Cond.instanceMethod yJ0_init_db425 ∈ LW := t4_136
theorem mw_J0_coder_7d493 : zMW yJ0_coder_7d493 cJ0_coder_7d493 1 (some .byte) 0 := ⟨t1_64, t1_3, by decide +kernel, by decide +kernel, by decide +kernel⟩
theorem mi_J0_coder_7d493 : Cond.instanceMethod yJ0_coder_7d493 ∈ LW := t1_62
theorem ms_J0_coder_7d493 : Cond.selects yJ0_coder_7d493.cls yJ0_coder_7d493 yJ0_coder_7d493 ∈ LW := t1_63
theorem mw_J0_isLatin1_aae02 : zMW yJ0_isLatin1_aae02 cJ0_isLatin1_aae02 1 (some .boolean) 0 := ⟨t1_74, t1_3, by decide +kernel, by decide +kernel, by decide +kernel⟩
theorem mi_J0_isLatin1_aae02 : Cond.instanceMethod yJ0_isLatin1_aae02 ∈ LW := t1_72
theorem ms_J0_isLatin1_aae02 : Cond.selects yJ0_isLatin1_aae02.cls yJ0_isLatin1_aae02 yJ0_isLatin1_aae02 ∈ LW := t1_73
theorem mw_J0_checkIndex_df160 : zMW yJ0_checkIndex_df160 cJ0_checkIndex_df160 2 none 2 := ⟨t1_80, t1_3, by decide +kernel, by decide +kernel, by decide +kernel⟩
theorem mst_J0_checkIndex_df160 : Cond.static yJ0_checkIndex_df160 ∈ LW := t1_79
theorem mw_J0_checkBoundsOffCount_cabcc : zMW yJ0_checkBoundsOffCount_cabcc cJ0_checkBoundsOffCount_cabcc 3 (some .int) 3 := ⟨t4_93, t1_3, by decide +kernel, by decide +kernel, by decide +kernel⟩
theorem mst_J0_checkBoundsOffCount_cabcc : Cond.static yJ0_checkBoundsOffCount_cabcc ∈ LW := t4_92
theorem mw_J0_checkBoundsBeginEnd_23922 : zMW yJ0_checkBoundsBeginEnd_23922 cJ0_checkBoundsBeginEnd_23922 3 none 3 := ⟨t4_61, t1_3, by decide +kernel, by decide +kernel, by decide +kernel⟩
theorem mst_J0_checkBoundsBeginEnd_23922 : Cond.static yJ0_checkBoundsBeginEnd_23922 ∈ LW := t4_60
theorem mw_J4_init_da8c8 : zMW yJ4_init_da8c8 cJ4_init_da8c8 1 none 0 := ⟨t3_219, t1_17, by decide +kernel, by decide +kernel, by decide +kernel⟩
theorem mi_J4_init_da8c8 : Cond.instanceMethod yJ4_init_da8c8 ∈ LW := t3_218
theorem mw_J4_append_15ec4 : zMW yJ4_append_15ec4 cJ4_append_15ec4 2 (some (.object "java/lang/StringBuilder")) 1 := ⟨t4_9, t1_17, by decide +kernel, by decide +kernel, by decide +kernel⟩
theorem mi_J4_append_15ec4 : Cond.instanceMethod yJ4_append_15ec4 ∈ LW := t4_7
theorem ms_J4_append_15ec4 : Cond.selects yJ4_append_15ec4.cls yJ4_append_15ec4 yJ4_append_15ec4 ∈ LW := t4_8
theorem mw_J4_append_cf468 : zMW yJ4_append_cf468 cJ4_append_cf468 2 (some (.object "java/lang/StringBuilder")) 1 := ⟨t4_107, t1_17, by decide +kernel, by decide +kernel, by decide +kernel⟩
theorem mi_J4_append_cf468 : Cond.instanceMethod yJ4_append_cf468 ∈ LW := t4_105
theorem ms_J4_append_cf468 : Cond.selects yJ4_append_cf468.cls yJ4_append_cf468 yJ4_append_cf468 ∈ LW := t4_106
theorem mw_J4_append_bf812 : zMW yJ4_append_bf812 cJ4_append_bf812 2 (some (.object "java/lang/StringBuilder")) 1 := ⟨t4_168, t1_17, by decide +kernel, by decide +kernel, by decide +kernel⟩
theorem mi_J4_append_bf812 : Cond.instanceMethod yJ4_append_bf812 ∈ LW := t4_166
theorem ms_J4_append_bf812 : Cond.selects yJ4_append_bf812.cls yJ4_append_bf812 yJ4_append_bf812 ∈ LW := t4_167
theorem mw_J4_toString_0e30d : zMW yJ4_toString_0e30d cJ4_toString_0e30d 1 (some (.object "java/lang/String")) 0 := ⟨t4_129, t1_17, by decide +kernel, by decide +kernel, by decide +kernel⟩
theorem mi_J4_toString_0e30d : Cond.instanceMethod yJ4_toString_0e30d ∈ LW := t4_127
theorem ms_J4_toString_0e30d : Cond.selects yJ4_toString_0e30d.cls yJ4_toString_0e30d yJ4_toString_0e30d ∈ LW := t4_128
theorem mw_J4_length_8abf5 : zMW yJ4_length_8abf5 cJ4_length_8abf5 1 (some .int) 0 := ⟨t4_149, t1_17, by decide +kernel, by decide +kernel, by decide +kernel⟩
theorem mi_J4_length_8abf5 : Cond.instanceMethod yJ4_length_8abf5 ∈ LW := t4_148
theorem mw_J1_charAt_3b067 : zMW yJ1_charAt_3b067 cJ1_charAt_3b067 2 (some .char) 2 := ⟨t1_77, t1_4, by decide +kernel, by decide +kernel, by decide +kernel⟩
theorem mst_J1_charAt_3b067 : Cond.static yJ1_charAt_3b067 ∈ LW := t1_76
theorem mw_J1_canEncode_fc78d : zMW yJ1_canEncode_fc78d cJ1_canEncode_fc78d 1 (some .boolean) 1 := ⟨t4_113, t1_4, by decide +kernel, by decide +kernel, by decide +kernel⟩
theorem mst_J1_canEncode_fc78d : Cond.static yJ1_canEncode_fc78d ∈ LW := t4_112
theorem mw_J1_inflate_0e8fd : zMW yJ1_inflate_0e8fd cJ1_inflate_0e8fd 5 none 5 := ⟨t4_84, t1_4, by decide +kernel, by decide +kernel, by decide +kernel⟩
theorem mst_J1_inflate_0e8fd : Cond.static yJ1_inflate_0e8fd ∈ LW := t4_83
theorem mw_J2_newBytesFor_77867 : zMW yJ2_newBytesFor_77867 cJ2_newBytesFor_77867 1 (some (.array .byte)) 1 := ⟨t3_227, t1_6, by decide +kernel, by decide +kernel, by decide +kernel⟩
theorem mst_J2_newBytesFor_77867 : Cond.static yJ2_newBytesFor_77867 ∈ LW := t3_226
theorem mw_J2_newBytesLength_0f7a4 : zMW yJ2_newBytesLength_0f7a4 cJ2_newBytesLength_0f7a4 1 (some .int) 1 := ⟨t3_230, t1_6, by decide +kernel, by decide +kernel, by decide +kernel⟩
theorem mst_J2_newBytesLength_0f7a4 : Cond.static yJ2_newBytesLength_0f7a4 ∈ LW := t3_229
theorem mw_J2_putChar_b72d1 : zMW yJ2_putChar_b72d1 cJ2_putChar_b72d1 3 none 3 := ⟨t4_67, t1_6, by decide +kernel, by decide +kernel, by decide +kernel⟩
theorem mst_J2_putChar_b72d1 : Cond.static yJ2_putChar_b72d1 ∈ LW := t4_66
theorem mw_J2_getChar_3b067 : zMW yJ2_getChar_3b067 cJ2_getChar_3b067 2 (some .char) 2 := ⟨t1_98, t1_6, by decide +kernel, by decide +kernel, by decide +kernel⟩
theorem mst_J2_getChar_3b067 : Cond.static yJ2_getChar_3b067 ∈ LW := t1_97
theorem mw_J2_length_9d52b : zMW yJ2_length_9d52b cJ2_length_9d52b 1 (some .int) 1 := ⟨t1_94, t1_6, by decide +kernel, by decide +kernel, by decide +kernel⟩
theorem mst_J2_length_9d52b : Cond.static yJ2_length_9d52b ∈ LW := t1_93
theorem mw_J2_coderFromArrayLen_85cad : zMW yJ2_coderFromArrayLen_85cad cJ2_coderFromArrayLen_85cad 2 (some .byte) 2 := ⟨t4_203, t1_6, by decide +kernel, by decide +kernel, by decide +kernel⟩
theorem mst_J2_coderFromArrayLen_85cad : Cond.static yJ2_coderFromArrayLen_85cad ∈ LW := t4_202
theorem mw_J2_compress_39247 : zMW yJ2_compress_39247 cJ2_compress_39247 6 (some (.array .byte)) 3 := ⟨t4_196, t1_6, by decide +kernel, by decide +kernel, by decide +kernel⟩
theorem mst_J2_compress_39247 : Cond.static yJ2_compress_39247 ∈ LW := t4_195
theorem mw_J2_compress_5af95 : zMW yJ2_compress_5af95 cJ2_compress_5af95 7 (some .int) 5 := ⟨t4_199, t1_6, by decide +kernel, by decide +kernel, by decide +kernel⟩
theorem mst_J2_compress_5af95 : Cond.static yJ2_compress_5af95 ∈ LW := t4_198
theorem mw_J2_putCharSB_b72d1 : zMW yJ2_putCharSB_b72d1 cJ2_putCharSB_b72d1 3 none 3 := ⟨t4_116, t1_6, by decide +kernel, by decide +kernel, by decide +kernel⟩
theorem mst_J2_putCharSB_b72d1 : Cond.static yJ2_putCharSB_b72d1 ∈ LW := t4_115
theorem mw_J2_getChars_46870 : zMW yJ2_getChars_46870 cJ2_getChars_46870 5 (some .int) 4 := ⟨t4_184, t1_6, by decide +kernel, by decide +kernel, by decide +kernel⟩
theorem mst_J2_getChars_46870 : Cond.static yJ2_getChars_46870 ∈ LW := t4_183
theorem mw_J2_putCharsAt_cd4e5 : zMW yJ2_putCharsAt_cd4e5 cJ2_putCharsAt_cd4e5 7 (some .int) 6 := ⟨t4_55, t1_6, by decide +kernel, by decide +kernel, by decide +kernel⟩
theorem mst_J2_putCharsAt_cd4e5 : Cond.static yJ2_putCharsAt_cd4e5 ∈ LW := t4_54
theorem mw_J2_charAt_3b067 : zMW yJ2_charAt_3b067 cJ2_charAt_3b067 2 (some .char) 2 := ⟨t1_88, t1_6, by decide +kernel, by decide +kernel, by decide +kernel⟩
theorem mst_J2_charAt_3b067 : Cond.static yJ2_charAt_3b067 ∈ LW := t1_87
theorem mw_J2_inflate_0e8fd : zMW yJ2_inflate_0e8fd cJ2_inflate_0e8fd 6 none 5 := ⟨t4_87, t1_6, by decide +kernel, by decide +kernel, by decide +kernel⟩
theorem mst_J2_inflate_0e8fd : Cond.static yJ2_inflate_0e8fd ∈ LW := t4_86
theorem mw_J2_getChars_ba4f3 : zMW yJ2_getChars_ba4f3 cJ2_getChars_ba4f3 7 (some .int) 3 := ⟨t4_187, t1_6, by decide +kernel, by decide +kernel, by decide +kernel⟩
theorem mst_J2_getChars_ba4f3 : Cond.static yJ2_getChars_ba4f3 ∈ LW := t4_186
theorem mw_J2_checkIndex_2214a : zMW yJ2_checkIndex_2214a cJ2_checkIndex_2214a 2 none 2 := ⟨t1_91, t1_6, by decide +kernel, by decide +kernel, by decide +kernel⟩
theorem mst_J2_checkIndex_2214a : Cond.static yJ2_checkIndex_2214a ∈ LW := t1_90
theorem mw_J2_checkBoundsBeginEnd_d044e : zMW yJ2_checkBoundsBeginEnd_d044e cJ2_checkBoundsBeginEnd_d044e 3 none 3 := ⟨t4_58, t1_6, by decide +kernel, by decide +kernel, by decide +kernel⟩
theorem mst_J2_checkBoundsBeginEnd_d044e : Cond.static yJ2_checkBoundsBeginEnd_d044e ∈ LW := t4_57
theorem mw_J2_checkBoundsOffCount_d044e : zMW yJ2_checkBoundsOffCount_d044e cJ2_checkBoundsOffCount_d044e 3 none 3 := ⟨t4_90, t1_6, by decide +kernel, by decide +kernel, by decide +kernel⟩
theorem mst_J2_checkBoundsOffCount_d044e : Cond.static yJ2_checkBoundsOffCount_d044e ∈ LW := t4_89
theorem mw_J7_copyOf_9075b : zMW yJ7_copyOf_9075b cJ7_copyOf_9075b 3 (some (.array .byte)) 2 := ⟨t4_38, t1_19, by decide +kernel, by decide +kernel, by decide +kernel⟩
theorem mst_J7_copyOf_9075b : Cond.static yJ7_copyOf_9075b ∈ LW := t4_37
theorem mw_J7_checkLength_df160 : zMW yJ7_checkLength_df160 cJ7_checkLength_df160 2 none 2 := ⟨t4_161, t1_19, by decide +kernel, by decide +kernel, by decide +kernel⟩
theorem mst_J7_checkLength_df160 : Cond.static yJ7_checkLength_df160 ∈ LW := t4_160
theorem mw_J7_copyOfRange_39247 : zMW yJ7_copyOfRange_39247 cJ7_copyOfRange_39247 3 (some (.array .byte)) 3 := ⟨t4_155, t1_19, by decide +kernel, by decide +kernel, by decide +kernel⟩
theorem mst_J7_copyOfRange_39247 : Cond.static yJ7_copyOfRange_39247 ∈ LW := t4_154
theorem mw_J7_copyOfRangeByte_39247 : zMW yJ7_copyOfRangeByte_39247 cJ7_copyOfRangeByte_39247 5 (some (.array .byte)) 3 := ⟨t4_158, t1_19, by decide +kernel, by decide +kernel, by decide +kernel⟩
theorem mst_J7_copyOfRangeByte_39247 : Cond.static yJ7_copyOfRangeByte_39247 ∈ LW := t4_157
theorem mw_J8_newLength_cabcc : zMW yJ8_newLength_cabcc cJ8_newLength_cabcc 4 (some .int) 3 := ⟨t4_27, t1_18, by decide +kernel, by decide +kernel, by decide +kernel⟩
theorem mst_J8_newLength_cabcc : Cond.static yJ8_newLength_cabcc ∈ LW := t4_26
theorem mw_J8_hugeLength_7cf53 : zMW yJ8_hugeLength_7cf53 cJ8_hugeLength_7cf53 3 (some .int) 2 := ⟨t4_34, t1_18, by decide +kernel, by decide +kernel, by decide +kernel⟩
theorem mst_J8_hugeLength_7cf53 : Cond.static yJ8_hugeLength_7cf53 ∈ LW := t4_33
theorem mw_J3_checkIndex_8e157 : zMW yJ3_checkIndex_8e157 cJ3_checkIndex_8e157 3 (some .int) 3 := ⟨t1_85, t1_5, by decide +kernel, by decide +kernel, by decide +kernel⟩
theorem mst_J3_checkIndex_8e157 : Cond.static yJ3_checkIndex_8e157 ∈ LW := t1_84
theorem mw_J3_checkFromToIndex_8c36e : zMW yJ3_checkFromToIndex_8c36e cJ3_checkFromToIndex_8c36e 4 (some .int) 4 := ⟨t4_64, t1_5, by decide +kernel, by decide +kernel, by decide +kernel⟩
theorem mst_J3_checkFromToIndex_8c36e : Cond.static yJ3_checkFromToIndex_8c36e ∈ LW := t4_63
theorem mw_J3_checkFromIndexSize_8c36e : zMW yJ3_checkFromIndexSize_8c36e cJ3_checkFromIndexSize_8c36e 4 (some .int) 4 := ⟨t4_96, t1_5, by decide +kernel, by decide +kernel, by decide +kernel⟩
theorem mst_J3_checkFromIndexSize_8c36e : Cond.static yJ3_checkFromIndexSize_8c36e ∈ LW := t4_95
theorem mw_L_cell : zMW yL_cell cL_cell 2 (some .int) 2 := ⟨t3_121, t1_0, by decide +kernel, by decide +kernel, by decide +kernel⟩
theorem mst_L_cell : Cond.static yL_cell ∈ LW := t3_120
theorem mw_L_says : zMW yL_says cL_says 5 none 2 := ⟨t3_125, t1_0, by decide +kernel, by decide +kernel, by decide +kernel⟩
theorem mst_L_says : Cond.static yL_says ∈ LW := t3_124
theorem mw_L_document : zMW yL_document cL_document 5 (some (.array .int)) 2 := ⟨t4_121, t1_0, by decide +kernel, by decide +kernel, by decide +kernel⟩
theorem mst_L_document : Cond.static yL_document ∈ LW := t4_120
theorem mw_L_word : zMW yL_word cL_word 3 (some (.object "java/lang/String")) 1 := ⟨t4_124, t1_0, by decide +kernel, by decide +kernel, by decide +kernel⟩
theorem mst_L_word : Cond.static yL_word ∈ LW := t4_123
theorem mw_L_text : zMW yL_text cL_text 7 (some (.object "java/lang/String")) 1 := ⟨t3_214, t1_0, by decide +kernel, by decide +kernel, by decide +kernel⟩
theorem mst_L_text : Cond.static yL_text ∈ LW := t3_213
theorem mw_L_acts : zMW yL_acts cL_acts 6 (some .int) 2 := ⟨t5_47, t1_0, by decide +kernel, by decide +kernel, by decide +kernel⟩
theorem mst_L_acts : Cond.static yL_acts ∈ LW := t5_46
theorem mw_L_counts : zMW yL_counts cL_counts 6 (some (.array .int)) 3 := ⟨t4_235, t1_0, by decide +kernel, by decide +kernel, by decide +kernel⟩
theorem mst_L_counts : Cond.static yL_counts ∈ LW := t4_234
theorem mw_L_times : zMW yL_times cL_times 8 (some .int) 4 := ⟨t5_127, t1_0, by decide +kernel, by decide +kernel, by decide +kernel⟩
theorem mst_L_times : Cond.static yL_times ∈ LW := t5_126
theorem mw_L_isTold : zMW yL_isTold cL_isTold 22 (some .boolean) 2 := ⟨t4_220, t1_0, by decide +kernel, by decide +kernel, by decide +kernel⟩
theorem mst_L_isTold : Cond.static yL_isTold ∈ LW := t4_219
theorem mw_L_count : zMW yL_count cL_count 6 (some .int) 6 := ⟨t5_138, t1_0, by decide +kernel, by decide +kernel, by decide +kernel⟩
theorem mst_L_count : Cond.static yL_count ∈ LW := t5_137
theorem mw_L_divisor : zMW yL_divisor cL_divisor 10 (some .long) 2 := ⟨t5_193, t1_0, by decide +kernel, by decide +kernel, by decide +kernel⟩
theorem mst_L_divisor : Cond.static yL_divisor ∈ LW := t5_192
theorem mw_L_isRanked : zMW yL_isRanked cL_isRanked 15 (some .boolean) 2 := ⟨t5_135, t1_0, by decide +kernel, by decide +kernel, by decide +kernel⟩
theorem mst_L_isRanked : Cond.static yL_isRanked ∈ LW := t5_134
theorem mw_L_isFraction : zMW yL_isFraction cL_isFraction 22 (some .boolean) 5 := ⟨t5_186, t1_0, by decide +kernel, by decide +kernel, by decide +kernel⟩
theorem mst_L_isFraction : Cond.static yL_isFraction ∈ LW := t5_185
theorem mwh_L_loaded : Cond.codeWith yL_loaded cL_loaded 2 (some .int) [(0, 4, 5, 31)] ∈ LW := t3_175
theorem mst_L_loaded : Cond.static yL_loaded ∈ LW := t3_174
theorem lk_L_103 : Cond.methodLink RL 103 yX8_init ∈ LW := t1_31
theorem lk_X8_9 : Cond.methodLink RX8 9 yX8_firstState ∈ LW := t1_37
theorem lk_X8_84 : Cond.methodLink RX8 84 yJ0_length_8abf5 ∈ LW := t1_57
theorem lk_J0_335 : Cond.methodLink RJ0 335 yJ0_coder_7d493 ∈ LW := t1_61
theorem lk_X8_90 : Cond.methodLink RX8 90 yJ0_charAt_5068e ∈ LW := t1_67
theorem lk_J0_492 : Cond.methodLink RJ0 492 yJ0_isLatin1_aae02 ∈ LW := t1_71
theorem lk_J0_495 : Cond.methodLink RJ0 495 yJ1_charAt_3b067 ∈ LW := t1_75
theorem lk_J1_9 : Cond.methodLink RJ1 9 yJ0_checkIndex_df160 ∈ LW := t1_78
theorem lk_J0_1059 : Cond.methodLink RJ0 1059 yJ3_checkIndex_8e157 ∈ LW := t1_83
theorem lk_J0_498 : Cond.methodLink RJ0 498 yJ2_charAt_3b067 ∈ LW := t1_86
theorem lk_J2_67 : Cond.methodLink RJ2 67 yJ2_checkIndex_2214a ∈ LW := t1_89
theorem lk_J2_48 : Cond.methodLink RJ2 48 yJ2_length_9d52b ∈ LW := t1_92
theorem lk_J2_414 : Cond.methodLink RJ2 414 yJ0_checkIndex_df160 ∈ LW := t1_95
theorem lk_J2_71 : Cond.methodLink RJ2 71 yJ2_getChar_3b067 ∈ LW := t1_96
theorem lk_X8_94 : Cond.methodLink RX8 94 yX0_append ∈ LW := t1_105
theorem lk_X8_19 : Cond.methodLink RX8 19 yX7_init ∈ LW := t1_111
theorem lk_X8_100 : Cond.methodLink RX8 100 yX4_init ∈ LW := t1_216
theorem lk_X8_103 : Cond.methodLink RX8 103 yX4_parseAll ∈ LW := t2_4
theorem lk_X4_35 : Cond.methodLink RX4 35 yX4_next ∈ LW := t2_8
theorem lk_X4_134 : Cond.methodLink RX4 134 yX0_at ∈ LW := t2_12
theorem lk_X4_139 : Cond.methodLink RX4 139 yX4_isBlank ∈ LW := t2_16
theorem lk_X4_142 : Cond.methodLink RX4 142 yX4_kindOf ∈ LW := t2_19
theorem lk_X4_40 : Cond.methodLink RX4 40 yX4_isWord ∈ LW := t2_29
theorem lk_X4_151 : Cond.methodLink RX4 151 yJ0_length_8abf5 ∈ LW := t2_33
theorem lk_X4_155 : Cond.methodLink RX4 155 yJ0_charAt_5068e ∈ LW := t2_34
theorem lk_X4_44 : Cond.methodLink RX4 44 yX4_parseReader ∈ LW := t2_35
theorem lk_X4_63 : Cond.methodLink RX4 63 yX4_fail ∈ LW := t2_39
theorem lk_X4_72 : Cond.methodLink RX4 72 yX0_isName ∈ LW := t2_43
theorem lk_X0_23 : Cond.methodLink RX0 23 yX0_at ∈ LW := t2_47
theorem lk_X4_78 : Cond.methodLink RX4 78 yX7_readerNamed ∈ LW := t2_49
theorem lk_X7_42 : Cond.methodLink RX7 42 yX6_isNamed ∈ LW := t2_53
theorem lk_X6_57 : Cond.methodLink RX6 57 yX6_nameAt ∈ LW := t2_57
theorem lk_X6_45 : Cond.methodLink RX6 45 yX0_at ∈ LW := t2_61
theorem lk_X4_82 : Cond.methodLink RX4 82 yX4_methodWord ∈ LW := t2_62
theorem lk_X4_86 : Cond.methodLink RX4 86 yX4_parseSemicolon ∈ LW := t2_69
theorem lk_X4_89 : Cond.methodLink RX4 89 yX7_putReader ∈ LW := t2_73
theorem lk_X7_46 : Cond.methodLink RX7 46 yX6_begin ∈ LW := t2_77
theorem lk_X6_51 : Cond.methodLink RX6 51 yX6_clearTrainings ∈ LW := t2_81
theorem lk_X4_50 : Cond.methodLink RX4 50 yX4_parseDocument ∈ LW := t2_86
theorem lk_X4_96 : Cond.methodLink RX4 96 yX0_isDocument ∈ LW := t2_90
theorem lk_X4_99 : Cond.methodLink RX4 99 yX7_putDocument ∈ LW := t2_94
theorem lk_X7_50 : Cond.methodLink RX7 50 yX3_take ∈ LW := t2_98
theorem lk_X3_28 : Cond.methodLink RX3 28 yX0_at ∈ LW := t2_102
theorem lk_X4_55 : Cond.methodLink RX4 55 yX4_parseTrain ∈ LW := t2_105
theorem lk_X4_103 : Cond.methodLink RX4 103 yX4_numberValue ∈ LW := t2_109
theorem lk_X8_356 : Cond.methodLink RX8 356 yJ9_min_7cf53 ∈ LW := t2_116
theorem lk_X4_106 : Cond.methodLink RX4 106 yX7_documentAt ∈ LW := t2_119
theorem lk_X4_116 : Cond.methodLink RX4 116 yX2_countDocument ∈ LW := t2_123
theorem lk_X2_57 : Cond.methodLink RX2 57 yX2_countPosition ∈ LW := t2_127
theorem lk_X2_42 : Cond.methodLink RX2 42 yX3_symbolAt ∈ LW := t2_131
theorem lk_X2_38 : Cond.methodLink RX2 38 yX2_add ∈ LW := t2_141
theorem lk_X2_28 : Cond.methodLink RX2 28 yX2_placeOf ∈ LW := t2_145
theorem lk_X2_32 : Cond.methodLink RX2 32 yJ9_min_7cf53 ∈ LW := t2_149
theorem lk_X4_127 : Cond.methodLink RX4 127 yX6_recordTraining ∈ LW := t2_153
theorem lk_X4_60 : Cond.methodLink RX4 60 yX4_parseYear ∈ LW := t2_158
theorem lk_X4_131 : Cond.methodLink RX4 131 yX7_passYear ∈ LW := t2_162
theorem lk_X7_57 : Cond.methodLink RX7 57 yX2_halve ∈ LW := t2_166
theorem lk_L_115 : Cond.methodLink RL 115 yX8_errorCode ∈ LW := t3_21
theorem lk_L_78 : Cond.methodLink RL 78 yX8_readerCount ∈ LW := t3_25
theorem lk_L_122 : Cond.methodLink RL 122 yX8_trainingGap ∈ LW := t3_29
theorem lk_X8_149 : Cond.methodLink RX8 149 yX8_existingReader ∈ LW := t3_33
theorem lk_X8_361 : Cond.methodLink RX8 361 yX7_readerAt ∈ LW := t3_37
theorem lk_X8_218 : Cond.methodLink RX8 218 yX6_trainingsOn ∈ LW := t3_109
theorem lk_X8_170 : Cond.methodLink RX8 170 yX8_existingDocument ∈ LW := t3_113
theorem lk_X8_369 : Cond.methodLink RX8 369 yX7_documentAt ∈ LW := t3_117
theorem lk_L_46 : Cond.methodLink RL 46 yL_cell ∈ LW := t3_119
theorem lk_L_107 : Cond.methodLink RL 107 yL_says ∈ LW := t3_123
theorem lk_L_8 : Cond.methodLink RL 8 yJ0_length_8abf5 ∈ LW := t3_126
theorem lk_L_14 : Cond.methodLink RL 14 yJ0_charAt_5068e ∈ LW := t3_127
theorem lk_L_18 : Cond.methodLink RL 18 yX8_appendInput ∈ LW := t3_128
theorem lk_X8_116 : Cond.methodLink RX8 116 yX0_appendFour ∈ LW := t3_148
theorem lk_X0_19 : Cond.methodLink RX0 19 yX0_append ∈ LW := t3_152
theorem lk_L_24 : Cond.methodLink RL 24 yX8_truncateInput ∈ LW := t3_153
theorem lk_L_111 : Cond.methodLink RL 111 yL_loaded ∈ LW := t3_173
theorem lk_L_28 : Cond.methodLink RL 28 yX8_load ∈ LW := t3_177
theorem lk_X8_124 : Cond.methodLink RX8 124 yX7_clear ∈ LW := t3_181
theorem lk_X8_127 : Cond.methodLink RX8 127 yX0_clear ∈ LW := t3_185
theorem lk_X8_136 : Cond.methodLink RX8 136 yX8_remember ∈ LW := t3_190
theorem lk_X8_139 : Cond.methodLink RX8 139 yX7_copyFrom ∈ LW := t3_194
theorem lk_X7_35 : Cond.methodLink RX7 35 yX6_copyFrom ∈ LW := t3_198
theorem lk_X6_41 : Cond.methodLink RX6 41 yX2_copyFrom ∈ LW := t3_203
theorem lk_X7_39 : Cond.methodLink RX7 39 yX3_copyFrom ∈ LW := t3_207
theorem lk_L_104 : Cond.methodLink RL 104 yL_text ∈ LW := t3_212
theorem lk_L_35 : Cond.methodLink RL 35 yJ4_init_da8c8 ∈ LW := t3_217
theorem lk_J4_1 : Cond.methodLink RJ4 1 yJ5_init_d00df ∈ LW := t3_220
theorem lk_J5_26 : Cond.methodLink RJ5 26 yJ2_newBytesFor_77867 ∈ LW := t3_225
theorem lk_J2_11 : Cond.methodLink RJ2 11 yJ2_newBytesLength_0f7a4 ∈ LW := t3_228
theorem lk_L_54 : Cond.methodLink RL 54 yJ4_append_15ec4 ∈ LW := t4_6
theorem lk_J4_29 : Cond.methodLink RJ4 29 yJ5_append_cf1ce ∈ LW := t4_10
theorem lk_J5_204 : Cond.methodLink RJ5 204 yJ5_appendNull_278bc ∈ LW := t4_13
theorem lk_J5_100 : Cond.methodLink RJ5 100 yJ5_ensureCapacityInternal_d00df ∈ LW := t4_17
theorem lk_J5_104 : Cond.methodLink RJ5 104 yJ5_newCapacity_0f7a4 ∈ LW := t4_21
theorem lk_J5_114 : Cond.methodLink RJ5 114 yJ8_newLength_cabcc ∈ LW := t4_25
theorem lk_J8_194 : Cond.methodLink RJ8 194 yJ9_max_7cf53 ∈ LW := t4_28
theorem lk_J8_201 : Cond.methodLink RJ8 201 yJ8_hugeLength_7cf53 ∈ LW := t4_32
theorem lk_J5_108 : Cond.methodLink RJ5 108 yJ7_copyOf_9075b ∈ LW := t4_36
theorem lk_J7_304 : Cond.methodLink RJ7 304 yJ9_min_7cf53 ∈ LW := t4_46
theorem lk_J5_83 : Cond.methodLink RJ5 83 yJ5_isLatin1_aae02 ∈ LW := t4_48
theorem lk_J5_226 : Cond.methodLink RJ5 226 yJ2_putCharsAt_cd4e5 ∈ LW := t4_53
theorem lk_J2_96 : Cond.methodLink RJ2 96 yJ2_checkBoundsBeginEnd_d044e ∈ LW := t4_56
theorem lk_J2_241 : Cond.methodLink RJ2 241 yJ0_checkBoundsBeginEnd_23922 ∈ LW := t4_59
theorem lk_J0_1062 : Cond.methodLink RJ0 1062 yJ3_checkFromToIndex_8c36e ∈ LW := t4_62
theorem lk_J2_111 : Cond.methodLink RJ2 111 yJ2_putChar_b72d1 ∈ LW := t4_65
theorem lk_J5_32 : Cond.methodLink RJ5 32 yJ0_length_8abf5 ∈ LW := t4_68
theorem lk_J5_208 : Cond.methodLink RJ5 208 yJ5_putStringAt_47b60 ∈ LW := t4_69
theorem lk_J5_397 : Cond.methodLink RJ5 397 yJ5_inflateIfNeededFor_a7421 ∈ LW := t4_73
theorem lk_J5_40 : Cond.methodLink RJ5 40 yJ0_coder_7d493 ∈ LW := t4_77
theorem lk_J5_195 : Cond.methodLink RJ5 195 yJ5_inflate_da8c8 ∈ LW := t4_78
theorem lk_J5_125 : Cond.methodLink RJ5 125 yJ1_inflate_0e8fd ∈ LW := t4_82
theorem lk_J1_240 : Cond.methodLink RJ1 240 yJ2_inflate_0e8fd ∈ LW := t4_85
theorem lk_J2_173 : Cond.methodLink RJ2 173 yJ2_checkBoundsOffCount_d044e ∈ LW := t4_88
theorem lk_J2_419 : Cond.methodLink RJ2 419 yJ0_checkBoundsOffCount_cabcc ∈ LW := t4_91
theorem lk_J0_1065 : Cond.methodLink RJ0 1065 yJ3_checkFromIndexSize_8c36e ∈ LW := t4_94
theorem lk_J5_399 : Cond.methodLink RJ5 399 yJ0_getBytes_840e7 ∈ LW := t4_97
theorem lk_J0_106 : Cond.methodLink RJ0 106 yJ1_inflate_0e8fd ∈ LW := t4_102
theorem lk_L_38 : Cond.methodLink RL 38 yJ4_append_cf468 ∈ LW := t4_104
theorem lk_J4_50 : Cond.methodLink RJ4 50 yJ5_append_3fe6f ∈ LW := t4_108
theorem lk_J5_191 : Cond.methodLink RJ5 191 yJ1_canEncode_fc78d ∈ LW := t4_111
theorem lk_J5_197 : Cond.methodLink RJ5 197 yJ2_putCharSB_b72d1 ∈ LW := t4_114
theorem lk_L_63 : Cond.methodLink RL 63 yL_document ∈ LW := t4_119
theorem lk_L_67 : Cond.methodLink RL 67 yL_word ∈ LW := t4_122
theorem lk_L_42 : Cond.methodLink RL 42 yJ4_toString_0e30d ∈ LW := t4_126
theorem lk_J4_137 : Cond.methodLink RJ4 137 yJ0_init_81219 ∈ LW := t4_132
theorem lk_J0_489 : Cond.methodLink RJ0 489 yJ0_init_db425 ∈ LW := t4_135
theorem lk_J0_552 : Cond.methodLink RJ0 552 yJ5_getValue_6d5f1 ∈ LW := t4_139
theorem lk_J0_549 : Cond.methodLink RJ0 549 yJ5_length_8abf5 ∈ LW := t4_144
theorem lk_J4_343 : Cond.methodLink RJ4 343 yJ5_length_8abf5 ∈ LW := t4_150
theorem lk_J0_1047 : Cond.methodLink RJ0 1047 yJ5_isLatin1_aae02 ∈ LW := t4_152
theorem lk_J0_54 : Cond.methodLink RJ0 54 yJ7_copyOfRange_39247 ∈ LW := t4_153
theorem lk_J7_339 : Cond.methodLink RJ7 339 yJ7_copyOfRangeByte_39247 ∈ LW := t4_156
theorem lk_J7_343 : Cond.methodLink RJ7 343 yJ7_checkLength_df160 ∈ LW := t4_159
theorem lk_J7_47 : Cond.methodLink RJ7 47 yJ4_init_da8c8 ∈ LW := t4_164
theorem lk_J7_54 : Cond.methodLink RJ7 54 yJ4_append_bf812 ∈ LW := t4_165
theorem lk_J4_53 : Cond.methodLink RJ4 53 yJ5_append_c97b9 ∈ LW := t4_169
theorem lk_J5_245 : Cond.methodLink RJ5 245 yJ6_stringSize_0f7a4 ∈ LW := t4_172
theorem lk_J5_248 : Cond.methodLink RJ5 248 yJ6_getChars_ba4f3 ∈ LW := t4_175
theorem lk_J5_251 : Cond.methodLink RJ5 251 yJ2_getChars_46870 ∈ LW := t4_182
theorem lk_J2_393 : Cond.methodLink RJ2 393 yJ2_getChars_ba4f3 ∈ LW := t4_185
theorem lk_J7_50 : Cond.methodLink RJ7 50 yJ4_append_15ec4 ∈ LW := t4_191
theorem lk_J7_61 : Cond.methodLink RJ7 61 yJ4_toString_0e30d ∈ LW := t4_192
theorem lk_J0_1051 : Cond.methodLink RJ0 1051 yJ2_compress_39247 ∈ LW := t4_194
theorem lk_J2_123 : Cond.methodLink RJ2 123 yJ2_compress_5af95 ∈ LW := t4_197
theorem lk_J2_126 : Cond.methodLink RJ2 126 yJ7_copyOfRange_39247 ∈ LW := t4_200
theorem lk_J0_47 : Cond.methodLink RJ0 47 yJ2_coderFromArrayLen_85cad ∈ LW := t4_201
theorem lk_L_75 : Cond.methodLink RL 75 yJ4_append_bf812 ∈ LW := t4_217
theorem lk_L_118 : Cond.methodLink RL 118 yL_isTold ∈ LW := t4_218
theorem lk_L_81 : Cond.methodLink RL 81 yX8_documentCount ∈ LW := t4_221
theorem lk_L_145 : Cond.methodLink RL 145 yX8_trainedSymbols ∈ LW := t4_225
theorem lk_L_148 : Cond.methodLink RL 148 yX8_timesTrained ∈ LW := t4_229
theorem lk_L_151 : Cond.methodLink RL 151 yL_counts ∈ LW := t4_233
theorem lk_L_128 : Cond.methodLink RL 128 yX8_documentLength ∈ LW := t4_236
theorem lk_L_131 : Cond.methodLink RL 131 yX8_documentSymbol ∈ LW := t5_0
theorem lk_X8_177 : Cond.methodLink RX8 177 yX3_symbolAt ∈ LW := t5_4
theorem lk_L_134 : Cond.methodLink RL 134 yX8_countOrder0 ∈ LW := t5_21
theorem lk_X8_185 : Cond.methodLink RX8 185 yX8_requireSymbol ∈ LW := t5_25
theorem lk_X8_378 : Cond.methodLink RX8 378 yX8_isSymbol ∈ LW := t5_28
theorem lk_X8_191 : Cond.methodLink RX8 191 yX8_contextStart ∈ LW := t5_32
theorem lk_X8_195 : Cond.methodLink RX8 195 yX2_valueOf ∈ LW := t5_33
theorem lk_L_137 : Cond.methodLink RL 137 yX8_countOrder1 ∈ LW := t5_37
theorem lk_L_141 : Cond.methodLink RL 141 yX8_countOrder2 ∈ LW := t5_41
theorem lk_L_155 : Cond.methodLink RL 155 yL_acts ∈ LW := t5_45
theorem lk_L_84 : Cond.methodLink RL 84 yX8_endYear ∈ LW := t5_48
theorem lk_X8_325 : Cond.methodLink RX8 325 yX7_passYear ∈ LW := t5_52
theorem lk_L_87 : Cond.methodLink RL 87 yX8_train ∈ LW := t5_53
theorem lk_X8_274 : Cond.methodLink RX8 274 yX2_countDocument ∈ LW := t5_57
theorem lk_X8_319 : Cond.methodLink RX8 319 yX6_recordTraining ∈ LW := t5_58
theorem lk_X8_257 : Cond.methodLink RX8 257 yX8_guessesFor ∈ LW := t5_59
theorem lk_X8_253 : Cond.methodLink RX8 253 yX8_rankOfPosition ∈ LW := t5_63
theorem lk_X8_230 : Cond.methodLink RX8 230 yX8_rankIn ∈ LW := t5_67
theorem lk_X8_386 : Cond.methodLink RX8 386 yX5_fill ∈ LW := t5_71
theorem lk_X5_33 : Cond.methodLink RX5 33 yX5_appendOrder ∈ LW := t5_77
theorem lk_X5_41 : Cond.methodLink RX5 41 yX2_placeOf ∈ LW := t5_81
theorem lk_X5_37 : Cond.methodLink RX5 37 yX5_insert ∈ LW := t5_82
theorem lk_X8_393 : Cond.methodLink RX8 393 yX5_guessesUntil ∈ LW := t5_86
theorem lk_L_91 : Cond.methodLink RL 91 yX8_forget ∈ LW := t5_90
theorem lk_X8_322 : Cond.methodLink RX8 322 yX6_clearTrainings ∈ LW := t5_94
theorem lk_L_94 : Cond.methodLink RL 94 yX8_learn ∈ LW := t5_95
theorem lk_X8_264 : Cond.methodLink RX8 264 yX8_guessesWhileLearning ∈ LW := t5_99
theorem lk_X8_396 : Cond.methodLink RX8 396 yX2_countPosition ∈ LW := t5_103
theorem lk_L_97 : Cond.methodLink RL 97 yX8_setEscapeMethod ∈ LW := t5_104
theorem lk_X8_289 : Cond.methodLink RX8 289 yX8_requireMethod ∈ LW := t5_108
theorem lk_L_100 : Cond.methodLink RL 100 yX8_merge ∈ LW := t5_112
theorem lk_X8_328 : Cond.methodLink RX8 328 yX6_takeIn ∈ LW := t5_117
theorem lk_X6_60 : Cond.methodLink RX6 60 yX2_addAll ∈ LW := t5_121
theorem lk_L_159 : Cond.methodLink RL 159 yL_times ∈ LW := t5_125
theorem lk_L_163 : Cond.methodLink RL 163 yJ9_min_7cf53 ∈ LW := t5_128
theorem lk_L_168 : Cond.methodLink RL 168 yX8_positiveCounts ∈ LW := t5_129
theorem lk_L_125 : Cond.methodLink RL 125 yL_isRanked ∈ LW := t5_133
theorem lk_L_171 : Cond.methodLink RL 171 yL_count ∈ LW := t5_136
theorem lk_L_175 : Cond.methodLink RL 175 yX8_symbolAtRank ∈ LW := t5_139
theorem lk_X8_198 : Cond.methodLink RX8 198 yX8_requireContext ∈ LW := t5_143
theorem lk_X8_226 : Cond.methodLink RX8 226 yX8_guessIn ∈ LW := t5_148
theorem lk_X8_390 : Cond.methodLink RX8 390 yX5_guess ∈ LW := t5_152
theorem lk_L_178 : Cond.methodLink RL 178 yX8_rank ∈ LW := t5_156
theorem lk_L_181 : Cond.methodLink RL 181 yX8_foundOrder ∈ LW := t5_160
theorem lk_X8_233 : Cond.methodLink RX8 233 yX8_orderOf ∈ LW := t5_164
theorem lk_X8_202 : Cond.methodLink RX8 202 yX8_firstOrder ∈ LW := t5_167
theorem lk_L_184 : Cond.methodLink RL 184 yX8_contextTotal ∈ LW := t5_168
theorem lk_X8_206 : Cond.methodLink RX8 206 yX2_sumIn ∈ LW := t5_172
theorem lk_L_187 : Cond.methodLink RL 187 yX8_contextSymbols ∈ LW := t5_176
theorem lk_X8_209 : Cond.methodLink RX8 209 yX2_symbolsIn ∈ LW := t5_180
theorem lk_L_190 : Cond.methodLink RL 190 yL_isFraction ∈ LW := t5_184
theorem lk_L_194 : Cond.methodLink RL 194 yX8_escapeMethod ∈ LW := t5_187
theorem lk_L_197 : Cond.methodLink RL 197 yL_divisor ∈ LW := t5_191
theorem lk_L_201 : Cond.methodLink RL 201 yX8_numerator ∈ LW := t5_194
theorem lk_X8_236 : Cond.methodLink RX8 236 yX8_chanceOf ∈ LW := t5_198
theorem lk_X8_270 : Cond.methodLink RX8 270 yX1_find ∈ LW := t5_202
theorem lk_X1_42 : Cond.methodLink RX1 42 yX1_visit ∈ LW := t5_208
theorem lk_X1_55 : Cond.methodLink RX1 55 yX2_placeOf ∈ LW := t5_212
theorem lk_X1_70 : Cond.methodLink RX1 70 yX1_divisorFor ∈ LW := t5_213
theorem lk_X1_46 : Cond.methodLink RX1 46 yJ6_bitCount_0f7a4 ∈ LW := t5_216
theorem lk_X1_52 : Cond.methodLink RX1 52 yX1_reduce ∈ LW := t5_222
theorem lk_L_205 : Cond.methodLink RL 205 yX8_denominator ∈ LW := t5_226
theorem lk_L_210 : Cond.methodLink RL 210 yX8_escapes ∈ LW := t5_231
theorem lk_L_213 : Cond.methodLink RL 213 yX8_codeLength ∈ LW := t5_235
theorem lk_X8_250 : Cond.methodLink RX8 250 yX1_bits ∈ LW := t5_239
theorem lk_L_216 : Cond.methodLink RL 216 yX8_probability ∈ LW := t6_4
theorem nk_X8_43 : (RX8, 43, yX0_init, "TrigramReaders") ∈ zNest := List.mem_of_getElem? (i := 0) rfl
theorem nk_X7_33 : (RX7, 33, yX6_init, "TrigramReaders") ∈ zNest := List.mem_of_getElem? (i := 1) rfl
theorem nk_X6_24 : (RX6, 24, yX2_init, "TrigramReaders") ∈ zNest := List.mem_of_getElem? (i := 2) rfl
theorem nk_X7_34 : (RX7, 34, yX3_init, "TrigramReaders") ∈ zNest := List.mem_of_getElem? (i := 3) rfl
theorem nk_X4_145 : (RX4, 145, yX8_isLetter, "TrigramReaders") ∈ zNest := List.mem_of_getElem? (i := 4) rfl
theorem nk_X4_148 : (RX4, 148, yX8_isDigit, "TrigramReaders") ∈ zNest := List.mem_of_getElem? (i := 5) rfl
theorem nk_X0_27 : (RX0, 27, yX8_isLetter, "TrigramReaders") ∈ zNest := List.mem_of_getElem? (i := 6) rfl
theorem nk_X3_34 : (RX3, 34, yX8_isLetter, "TrigramReaders") ∈ zNest := List.mem_of_getElem? (i := 7) rfl
theorem nk_X4_165 : (RX4, 165, yX8_withDigit, "TrigramReaders") ∈ zNest := List.mem_of_getElem? (i := 8) rfl
theorem nk_X2_47 : (RX2, 47, yX8_firstOrder, "TrigramReaders") ∈ zNest := List.mem_of_getElem? (i := 9) rfl
theorem nk_X2_50 : (RX2, 50, yX8_contextStart, "TrigramReaders") ∈ zNest := List.mem_of_getElem? (i := 10) rfl
theorem nk_X8_59 : (RX8, 59, yX2_init, "TrigramReaders") ∈ zNest := List.mem_of_getElem? (i := 11) rfl
theorem nk_X8_66 : (RX8, 66, yX5_init, "TrigramReaders") ∈ zNest := List.mem_of_getElem? (i := 12) rfl
theorem nk_X8_73 : (RX8, 73, yX1_init, "TrigramReaders") ∈ zNest := List.mem_of_getElem? (i := 13) rfl
theorem nk_X5_25 : (RX5, 25, yX8_firstOrder, "TrigramReaders") ∈ zNest := List.mem_of_getElem? (i := 14) rfl
theorem nk_X5_29 : (RX5, 29, yX8_contextStart, "TrigramReaders") ∈ zNest := List.mem_of_getElem? (i := 15) rfl
theorem nk_X1_25 : (RX1, 25, yX8_firstOrder, "TrigramReaders") ∈ zNest := List.mem_of_getElem? (i := 16) rfl
theorem nk_X1_38 : (RX1, 38, yX8_contextStart, "TrigramReaders") ∈ zNest := List.mem_of_getElem? (i := 17) rfl
theorem nw_L_19 : zNW RL 19 8 15 [.null, .null, .null, .int 0, .int 0, .null, .null, .null, .null, .int 0, .int 0, .null, .null, .null, .null] := ⟨_, TX8, tyX8, t1_29, t1_30, t1_1, uw_X8, rfl, tyX8_ok, fun j hj => by
  match j, hj with
  | 0, _ => rfl
  | 1, _ => rfl
  | 2, _ => rfl
  | 3, _ => rfl
  | 4, _ => rfl
  | 5, _ => rfl
  | 6, _ => rfl
  | 7, _ => rfl
  | 8, _ => rfl
  | 9, _ => rfl
  | 10, _ => rfl
  | 11, _ => rfl
  | 12, _ => rfl
  | 13, _ => rfl
  | 14, _ => rfl⟩
theorem nw_X8_41 : zNW RX8 41 0 2 [.null, .int 0] := ⟨_, TX0, tyX0, t1_40, t1_41, t1_2, uw_X0, rfl, tyX0_ok, fun j hj => by
  match j, hj with
  | 0, _ => rfl
  | 1, _ => rfl⟩
theorem nw_X8_17 : zNW RX8 17 7 5 [.null, .int 0, .null, .int 0, .int 0] := ⟨_, TX7, tyX7, t1_109, t1_110, t1_7, uw_X7, rfl, tyX7_ok, fun j hj => by
  match j, hj with
  | 0, _ => rfl
  | 1, _ => rfl
  | 2, _ => rfl
  | 3, _ => rfl
  | 4, _ => rfl⟩
theorem nw_X7_9 : zNW RX7 9 6 6 [.null, .int 0, .int 0, .null, .int 0, .null] := ⟨_, TX6, tyX6, t1_115, t1_119, t1_8, uw_X6, rfl, tyX6_ok, fun j hj => by
  match j, hj with
  | 0, _ => rfl
  | 1, _ => rfl
  | 2, _ => rfl
  | 3, _ => rfl
  | 4, _ => rfl
  | 5, _ => rfl⟩
theorem nw_X7_21 : zNW RX7 21 3 3 [.null, .int 0, .int 0] := ⟨_, TX3, tyX3, t1_117, t1_175, t1_10, uw_X3, rfl, tyX3_ok, fun j hj => by
  match j, hj with
  | 0, _ => rfl
  | 1, _ => rfl
  | 2, _ => rfl⟩
theorem nw_X6_22 : zNW RX6 22 2 3 [.null, .null, .int 0] := ⟨_, TX2, tyX2, t1_124, t1_125, t1_9, uw_X2, rfl, tyX2_ok, fun j hj => by
  match j, hj with
  | 0, _ => rfl
  | 1, _ => rfl
  | 2, _ => rfl⟩
theorem nw_X8_98 : zNW RX8 98 4 7 [.null, .null, .int 0, .int 0, .int 0, .int 0, .int 0] := ⟨_, TX4, tyX4, t1_214, t1_215, t1_11, uw_X4, rfl, tyX4_ok, fun j hj => by
  match j, hj with
  | 0, _ => rfl
  | 1, _ => rfl
  | 2, _ => rfl
  | 3, _ => rfl
  | 4, _ => rfl
  | 5, _ => rfl
  | 6, _ => rfl⟩
theorem nw_X8_57 : zNW RX8 57 2 3 [.null, .null, .int 0] := ⟨_, TX2, tyX2, t2_171, t1_125, t1_9, uw_X2, rfl, tyX2_ok, fun j hj => by
  match j, hj with
  | 0, _ => rfl
  | 1, _ => rfl
  | 2, _ => rfl⟩
theorem nw_X8_64 : zNW RX8 64 5 4 [.null, .null, .int 0, .int 0] := ⟨_, TX5, tyX5, t2_173, t2_174, t1_14, uw_X5, rfl, tyX5_ok, fun j hj => by
  match j, hj with
  | 0, _ => rfl
  | 1, _ => rfl
  | 2, _ => rfl
  | 3, _ => rfl⟩
theorem nw_X8_71 : zNW RX8 71 1 4 [.long 0, .long 0, .int 0, .int 0] := ⟨_, TX1, tyX1, t2_193, t2_194, t1_15, uw_X1, rfl, tyX1_ok, fun j hj => by
  match j, hj with
  | 0, _ => rfl
  | 1, _ => rfl
  | 2, _ => rfl
  | 3, _ => rfl⟩
theorem nw_L_33 : zNW RL 33 9 4 [.null, .int 0, .int 0, .int 0] := ⟨_, TJ4, tyJ4, t3_215, t3_216, t1_17, uw_J4, rfl, tyJ4_ok, fun j hj => by
  match j, hj with
  | 0, _ => rfl
  | 1, _ => rfl
  | 2, _ => rfl
  | 3, _ => rfl⟩
theorem nw_J4_18 : zNW RJ4 18 10 4 [.null, .int 0, .int 0, .int 0] := ⟨_, TJ0, tyJ0, t4_130, t4_131, t1_3, uw_J0, rfl, tyJ0_ok, fun j hj => by
  match j, hj with
  | 0, _ => rfl
  | 1, _ => rfl
  | 2, _ => rfl
  | 3, _ => rfl⟩
theorem nw_J7_45 : zNW RJ7 45 9 4 [.null, .int 0, .int 0, .int 0] := ⟨_, TJ4, tyJ4, t4_163, t3_216, t1_17, uw_J4, rfl, tyJ4_ok, fun j hj => by
  match j, hj with
  | 0, _ => rfl
  | 1, _ => rfl
  | 2, _ => rfl
  | 3, _ => rfl⟩
theorem ar_nat : Cond.native arraycopyName ∈ LW := t2_152
theorem ar_st : Cond.static arraycopyName ∈ LW := t2_151
theorem ar_in : Cond.initialized "java/lang/System" ∈ LW := t1_13
theorem ma_in : Cond.initialized "java/lang/Math" ∈ LW := t1_12
theorem mmin_st : Cond.static Lib.Math.min.name ∈ LW := t2_117
theorem mmin_co : Cond.code Lib.Math.min.name Lib.Math.min.code 2 (some .int) ∈ LW := t2_118
theorem mmax_st : Cond.static Lib.Math.max.name ∈ LW := t4_29
theorem mmax_co : Cond.code Lib.Math.max.name Lib.Math.max.code 2 (some .int) ∈ LW := t4_30
theorem ob_in : Cond.instanceMethod objectInit ∈ LW := t1_35
theorem ob_co : Cond.code objectInit ⟨#[0xb1]⟩ 1 none ∈ LW := t1_36
theorem xt_ISE : zXT RX8 "java/lang/IllegalStateException" 109 113 := ⟨t3_132, t1_26, by decide, by decide +kernel, xw_ISE, xo_ISE, xg_ISE⟩
theorem xt_IAE : zXT RX8 "java/lang/IllegalArgumentException" 119 123 := ⟨t3_157, t1_23, by decide, by decide +kernel, xw_IAE, xo_IAE, xg_IAE⟩
theorem xt_IOB : zXT RX8 "java/lang/IndexOutOfBoundsException" 364 368 := ⟨t3_41, t1_27, by decide, by decide +kernel, xw_IOB, xo_IOB, xg_IOB⟩
end
