section
-- ===== PART A: goes FIRST, ahead of the names: the tables' words, and 'selects' of the private methods out of them =====
/-- a private method of a class that the tables say can be made, by its rows of tables_1 -/
def lw_okq (q : MethodName × Nat) : Prop := (q.1.cls ≠ "java/lang/invoke/MethodHandle" ∧ q.1.cls ≠ "java/lang/invoke/VarHandle") ∧ Cond.instantiable q.1.cls q.2 ∈ tables_1 ∧ Cond.privateMethod q.1 ∈ tables_1 ∧ Cond.instanceMethod q.1 ∈ tables_1
theorem lw_p0 : lw_okq (⟨"PathOdds", "clearWeights", "()V"⟩, 11) := ⟨⟨by decide +kernel, by decide +kernel⟩, List.mem_of_getElem? (i := 12) (by decide +kernel), List.mem_of_getElem? (i := 67) (by decide +kernel), List.mem_of_getElem? (i := 68) (by decide +kernel)⟩
theorem lw_p1 : lw_okq (⟨"PathOdds", "isState", "(I)Z"⟩, 11) := ⟨⟨by decide +kernel, by decide +kernel⟩, List.mem_of_getElem? (i := 12) (by decide +kernel), List.mem_of_getElem? (i := 79) (by decide +kernel), List.mem_of_getElem? (i := 80) (by decide +kernel)⟩
theorem lw_p2 : lw_okq (⟨"PathOdds", "fillForward", "()V"⟩, 11) := ⟨⟨by decide +kernel, by decide +kernel⟩, List.mem_of_getElem? (i := 12) (by decide +kernel), List.mem_of_getElem? (i := 113) (by decide +kernel), List.mem_of_getElem? (i := 114) (by decide +kernel)⟩
theorem lw_p3 : lw_okq (⟨"PathOdds", "forwardInto", "(II)D"⟩, 11) := ⟨⟨by decide +kernel, by decide +kernel⟩, List.mem_of_getElem? (i := 12) (by decide +kernel), List.mem_of_getElem? (i := 117) (by decide +kernel), List.mem_of_getElem? (i := 118) (by decide +kernel)⟩
theorem lw_p4 : lw_okq (⟨"PathOdds", "sumOfLastForward", "()D"⟩, 11) := ⟨⟨by decide +kernel, by decide +kernel⟩, List.mem_of_getElem? (i := 12) (by decide +kernel), List.mem_of_getElem? (i := 121) (by decide +kernel), List.mem_of_getElem? (i := 122) (by decide +kernel)⟩
theorem lw_p5 : lw_okq (⟨"PathOdds", "fillBest", "()V"⟩, 11) := ⟨⟨by decide +kernel, by decide +kernel⟩, List.mem_of_getElem? (i := 12) (by decide +kernel), List.mem_of_getElem? (i := 129) (by decide +kernel), List.mem_of_getElem? (i := 130) (by decide +kernel)⟩
theorem lw_p6 : lw_okq (⟨"PathOdds", "bestInto", "(II)D"⟩, 11) := ⟨⟨by decide +kernel, by decide +kernel⟩, List.mem_of_getElem? (i := 12) (by decide +kernel), List.mem_of_getElem? (i := 133) (by decide +kernel), List.mem_of_getElem? (i := 134) (by decide +kernel)⟩
theorem lw_p7 : lw_okq (⟨"PathOdds", "lastBestState", "()I"⟩, 11) := ⟨⟨by decide +kernel, by decide +kernel⟩, List.mem_of_getElem? (i := 12) (by decide +kernel), List.mem_of_getElem? (i := 137) (by decide +kernel), List.mem_of_getElem? (i := 138) (by decide +kernel)⟩
theorem lw_p8 : lw_okq (⟨"PathOdds", "isPlace", "(I)Z"⟩, 11) := ⟨⟨by decide +kernel, by decide +kernel⟩, List.mem_of_getElem? (i := 12) (by decide +kernel), List.mem_of_getElem? (i := 145) (by decide +kernel), List.mem_of_getElem? (i := 146) (by decide +kernel)⟩
theorem lw_p9 : lw_okq (⟨"PathOdds", "fillWayCounts", "()V"⟩, 11) := ⟨⟨by decide +kernel, by decide +kernel⟩, List.mem_of_getElem? (i := 12) (by decide +kernel), List.mem_of_getElem? (i := 153) (by decide +kernel), List.mem_of_getElem? (i := 154) (by decide +kernel)⟩
theorem lw_p10 : lw_okq (⟨"PathOdds", "waysInto", "(II)J"⟩, 11) := ⟨⟨by decide +kernel, by decide +kernel⟩, List.mem_of_getElem? (i := 12) (by decide +kernel), List.mem_of_getElem? (i := 157) (by decide +kernel), List.mem_of_getElem? (i := 158) (by decide +kernel)⟩
theorem lw_p11 : lw_okq (⟨"java/lang/Throwable", "fillInStackTrace", "(I)Ljava/lang/Throwable;"⟩, 6) := ⟨⟨by decide +kernel, by decide +kernel⟩, List.mem_of_getElem? (i := 195) (by decide +kernel), List.mem_of_getElem? (i := 193) (by decide +kernel), List.mem_of_getElem? (i := 194) (by decide +kernel)⟩
theorem lw_p12 : lw_okq (⟨"PathOdds", "refuseWrongPlaceOrState", "(II)V"⟩, 11) := ⟨⟨by decide +kernel, by decide +kernel⟩, List.mem_of_getElem? (i := 12) (by decide +kernel), List.mem_of_getElem? (i := 246) (by decide +kernel), List.mem_of_getElem? (i := 247) (by decide +kernel)⟩
theorem lw_p13 : lw_okq (⟨"PathOdds", "fillBackward", "()V"⟩, 11) := ⟨⟨by decide +kernel, by decide +kernel⟩, List.mem_of_getElem? (i := 12) (by decide +kernel), List.mem_of_getElem? (i := 286) (by decide +kernel), List.mem_of_getElem? (i := 287) (by decide +kernel)⟩
theorem lw_p14 : lw_okq (⟨"PathOdds", "backwardFrom", "(II)D"⟩, 11) := ⟨⟨by decide +kernel, by decide +kernel⟩, List.mem_of_getElem? (i := 12) (by decide +kernel), List.mem_of_getElem? (i := 290) (by decide +kernel), List.mem_of_getElem? (i := 291) (by decide +kernel)⟩
theorem lw_p15 : lw_okq (⟨"PathOddsModel", "state", "(I)Z"⟩, 11) := ⟨⟨by decide +kernel, by decide +kernel⟩, List.mem_of_getElem? (i := 318) (by decide +kernel), List.mem_of_getElem? (i := 374) (by decide +kernel), List.mem_of_getElem? (i := 375) (by decide +kernel)⟩
def lw_privs_1 : List (MethodName × Nat) := [(⟨"PathOdds", "clearWeights", "()V"⟩, 11), (⟨"PathOdds", "isState", "(I)Z"⟩, 11), (⟨"PathOdds", "fillForward", "()V"⟩, 11), (⟨"PathOdds", "forwardInto", "(II)D"⟩, 11), (⟨"PathOdds", "sumOfLastForward", "()D"⟩, 11), (⟨"PathOdds", "fillBest", "()V"⟩, 11), (⟨"PathOdds", "bestInto", "(II)D"⟩, 11), (⟨"PathOdds", "lastBestState", "()I"⟩, 11), (⟨"PathOdds", "isPlace", "(I)Z"⟩, 11), (⟨"PathOdds", "fillWayCounts", "()V"⟩, 11), (⟨"PathOdds", "waysInto", "(II)J"⟩, 11), (⟨"java/lang/Throwable", "fillInStackTrace", "(I)Ljava/lang/Throwable;"⟩, 6), (⟨"PathOdds", "refuseWrongPlaceOrState", "(II)V"⟩, 11), (⟨"PathOdds", "fillBackward", "()V"⟩, 11), (⟨"PathOdds", "backwardFrom", "(II)D"⟩, 11), (⟨"PathOddsModel", "state", "(I)Z"⟩, 11)]
theorem lw_r1 : ∀ q ∈ lw_privs_1, lw_okq q := List.forall_mem_cons.mpr ⟨lw_p0, List.forall_mem_cons.mpr ⟨lw_p1, List.forall_mem_cons.mpr ⟨lw_p2, List.forall_mem_cons.mpr ⟨lw_p3, List.forall_mem_cons.mpr ⟨lw_p4, List.forall_mem_cons.mpr ⟨lw_p5, List.forall_mem_cons.mpr ⟨lw_p6, List.forall_mem_cons.mpr ⟨lw_p7, List.forall_mem_cons.mpr ⟨lw_p8, List.forall_mem_cons.mpr ⟨lw_p9, List.forall_mem_cons.mpr ⟨lw_p10, List.forall_mem_cons.mpr ⟨lw_p11, List.forall_mem_cons.mpr ⟨lw_p12, List.forall_mem_cons.mpr ⟨lw_p13, List.forall_mem_cons.mpr ⟨lw_p14, List.forall_mem_cons.mpr ⟨lw_p15, fun _ h => absurd h List.not_mem_nil⟩⟩⟩⟩⟩⟩⟩⟩⟩⟩⟩⟩⟩⟩⟩⟩
theorem lw_p16 : lw_okq (⟨"PathOddsModel", "fault", "(II)I"⟩, 11) := ⟨⟨by decide +kernel, by decide +kernel⟩, List.mem_of_getElem? (i := 318) (by decide +kernel), List.mem_of_getElem? (i := 408) (by decide +kernel), List.mem_of_getElem? (i := 409) (by decide +kernel)⟩
theorem lw_p17 : lw_okq (⟨"PathOddsModel", "ahead", "(I)V"⟩, 11) := ⟨⟨by decide +kernel, by decide +kernel⟩, List.mem_of_getElem? (i := 318) (by decide +kernel), List.mem_of_getElem? (i := 412) (by decide +kernel), List.mem_of_getElem? (i := 413) (by decide +kernel)⟩
theorem lw_p18 : lw_okq (⟨"PathOddsModel", "shown", "(II)D"⟩, 11) := ⟨⟨by decide +kernel, by decide +kernel⟩, List.mem_of_getElem? (i := 318) (by decide +kernel), List.mem_of_getElem? (i := 416) (by decide +kernel), List.mem_of_getElem? (i := 417) (by decide +kernel)⟩
theorem lw_p19 : lw_okq (⟨"PathOddsModel", "shift", "()V"⟩, 11) := ⟨⟨by decide +kernel, by decide +kernel⟩, List.mem_of_getElem? (i := 318) (by decide +kernel), List.mem_of_getElem? (i := 420) (by decide +kernel), List.mem_of_getElem? (i := 421) (by decide +kernel)⟩
theorem lw_p20 : lw_okq (⟨"PathOddsModel", "behind", "(I)V"⟩, 11) := ⟨⟨by decide +kernel, by decide +kernel⟩, List.mem_of_getElem? (i := 318) (by decide +kernel), List.mem_of_getElem? (i := 428) (by decide +kernel), List.mem_of_getElem? (i := 429) (by decide +kernel)⟩
theorem lw_p21 : lw_okq (⟨"PathOddsModel", "all", "()D"⟩, 11) := ⟨⟨by decide +kernel, by decide +kernel⟩, List.mem_of_getElem? (i := 318) (by decide +kernel), List.mem_of_getElem? (i := 436) (by decide +kernel), List.mem_of_getElem? (i := 437) (by decide +kernel)⟩
theorem lw_p22 : lw_okq (⟨"PathOddsModel", "greatest", "(I)V"⟩, 11) := ⟨⟨by decide +kernel, by decide +kernel⟩, List.mem_of_getElem? (i := 318) (by decide +kernel), List.mem_of_getElem? (i := 444) (by decide +kernel), List.mem_of_getElem? (i := 445) (by decide +kernel)⟩
theorem lw_p23 : lw_okq (⟨"PathOddsModel", "from", "(I)I"⟩, 11) := ⟨⟨by decide +kernel, by decide +kernel⟩, List.mem_of_getElem? (i := 318) (by decide +kernel), List.mem_of_getElem? (i := 448) (by decide +kernel), List.mem_of_getElem? (i := 449) (by decide +kernel)⟩
theorem lw_p24 : lw_okq (⟨"PathOddsModel", "last", "()I"⟩, 11) := ⟨⟨by decide +kernel, by decide +kernel⟩, List.mem_of_getElem? (i := 318) (by decide +kernel), List.mem_of_getElem? (i := 452) (by decide +kernel), List.mem_of_getElem? (i := 453) (by decide +kernel)⟩
def lw_privs_2 : List (MethodName × Nat) := [(⟨"PathOddsModel", "fault", "(II)I"⟩, 11), (⟨"PathOddsModel", "ahead", "(I)V"⟩, 11), (⟨"PathOddsModel", "shown", "(II)D"⟩, 11), (⟨"PathOddsModel", "shift", "()V"⟩, 11), (⟨"PathOddsModel", "behind", "(I)V"⟩, 11), (⟨"PathOddsModel", "all", "()D"⟩, 11), (⟨"PathOddsModel", "greatest", "(I)V"⟩, 11), (⟨"PathOddsModel", "from", "(I)I"⟩, 11), (⟨"PathOddsModel", "last", "()I"⟩, 11)]
theorem lw_r2 : ∀ q ∈ lw_privs_2, lw_okq q := List.forall_mem_cons.mpr ⟨lw_p16, List.forall_mem_cons.mpr ⟨lw_p17, List.forall_mem_cons.mpr ⟨lw_p18, List.forall_mem_cons.mpr ⟨lw_p19, List.forall_mem_cons.mpr ⟨lw_p20, List.forall_mem_cons.mpr ⟨lw_p21, List.forall_mem_cons.mpr ⟨lw_p22, List.forall_mem_cons.mpr ⟨lw_p23, List.forall_mem_cons.mpr ⟨lw_p24, fun _ h => absurd h List.not_mem_nil⟩⟩⟩⟩⟩⟩⟩⟩⟩
def lw_privs : List (MethodName × Nat) := lw_privs_1 ++ (lw_privs_2)
def lw_tbl : List Cond := k2_sels lw_privs ++ tables_1
theorem lw_privs_ok : ∀ q ∈ lw_privs, lw_okq q := by
  show ∀ q ∈ lw_privs_1 ++ (lw_privs_2), lw_okq q
  exact List.forall_mem_append.mpr ⟨lw_r1, lw_r2⟩
/-- the streams that the claim lets the run draw from -/
abbrev lw_cs : List Choice := [Jvm.Choice.named "NaN.bits"]
theorem lw_bits : nanBits ∈ lw_cs := by first | decide | exact List.mem_cons_self | simp [lw_cs, nanBits]
-- ===== end of PART A; then your names; then what follows =====
end
section
/-! ===== BEGIN words of one list among another's, by their places ===== -/
theorem goodIn_r {big : List Cond} (ws : List Cond) (ps : List Nat) (hp : ws = ps.filterMap (fun i => big[i]?)) (h : ws.all goodWord = true) : GoodIn big ws := by
  intro w hw
  have h1 := List.all_eq_true.mp h w hw
  rw [hp] at hw
  obtain ⟨i, -, hi⟩ := List.mem_filterMap.mp hw
  have hm : w ∈ big := by first | exact List.mem_of_getElem? hi | exact List.getElem?_mem hi
  exact ⟨hm, good_of_word h1⟩
theorem goodIn_app {big a b : List Cond} (ha : GoodIn big a) (hb : GoodIn big b) : GoodIn big (a ++ b) := fun w h => (List.mem_append.mp h).elim (ha w) (hb w)
theorem goodIn_ca {big a b : List Cond} {c : Cond} (ha : GoodIn big (c :: a)) (hb : GoodIn big b) : GoodIn big (c :: (a ++ b)) := fun w h => (List.mem_cons.mp h).elim (fun e => ha w (List.mem_cons.mpr (Or.inl e))) (fun h => (List.mem_append.mp h).elim (fun h => ha w (List.mem_cons.mpr (Or.inr h))) (hb w))
theorem goodIn_sub {big ws : List Cond} (hm : ∀ w ∈ ws, w ∈ big) (h : ws.all goodWord = true) : GoodIn big ws := fun w hw => ⟨hm w hw, good_of_word (List.all_eq_true.mp h w hw)⟩
/-! ===== END ===== -/

/-! ===== BEGIN exceptions that leave a method, and their catching by the caller (launches without stack traces) ===== -/
section VXA
/-! The laws vx_back, vx_callV, vx_callS, vx_callSW, vx_throw0, vx_throwS follow proofs of the library, with one case more: JvmDerived/Free/Laws.lean (Back.of_free), Shelf42/LK1.lean (callV, callS), Shelf/KitTraced.lean (throwNew0V, throwNewS). -/
/-- where a method has thrown q: the class by its name, the cell, what was written, the world -/
def vx_T (XC : String → State → State → Prop) (st : State) (q : Addr) (t : State) (mc ms : Nat) (free : Addr → Prop) : Prop :=
  ∃ (E : String) (ce : Cell) (L : List Loc), XC E st t ∧ t.heap[q]? = some ce ∧ ce.vm = .none ∧ st.vm.findClass E = some ce.cls ∧ st.WarmedH t.vm ∧ st.sameButNew ({ t with vm := st.vm } : State) L mc ms ∧ ∀ z ∈ L, free z.base
def vx_Q (Qc : Array Value → State → Outcome → State → Prop) (XC : String → State → State → Prop) (mc ms : Nat) (free : Addr → Prop) : Array Value → State → Outcome → State → Prop := fun a st o t =>
  (Qc a st o t ∧ ∃ L, FrameEnd st o t L mc ms ∧ ∀ q ∈ L, free q.base) ∨ ∃ q, o = .threw q ∧ vx_T XC st q t mc ms free
/-- a callee that returns or throws -/
def vx_Met (l : Launch) (y : MethodName) (ws : List Cond) (rm : Room) (Pc : Array Value → State → Prop) (Qc : Array Value → State → Outcome → State → Prop) (XC : String → State → State → Prop) (mc ms : Nat) (free : Addr → Prop) : Prop :=
  MetFree l y (headSpec ws rm) Pc (fun _ _ _ _ _ => True) (vx_Q Qc XC mc ms free)
def vx_Post (XC : String → State → State → Prop) (mc ms : Nat) (free : Addr → Prop) : Pt → Array Value → Addr → Pt → Prop := fun A a q B =>
  ∃ (g : JFrame) (mk : MethodId) (t : State) (L : List Loc) (E : String) (ce : Cell), B.U.heap = t.heap ∧ B.U.vm = t.vm ∧ XC E (A.U.calling g mk a) t ∧ t.heap[q]? = some ce ∧ ce.vm = .none ∧ A.U.vm.findClass E = some ce.cls ∧ B.locs = A.locs ++ L ∧ (∀ z ∈ L, free z.base) ∧ B.cells = A.cells + mc ∧ B.slots = A.slots + ms
def vx_Back (l : Launch) (R : Room) (p : Program) (e : Env) (below : List Frame) (s : State) (sargs : Array Value) (y : MethodName) (len W9 : Nat)
    (Pre : Pt → Array Value → Prop) (Post : Pt → Array Value → Option Value → Pt → Prop) (PostX : Pt → Array Value → Addr → Pt → Prop) : Prop :=
  ∀ (m : MethodId) (meth : Method) (c : Code) (A : Pt) (g : JFrame) (ig : Instr) (mk : MethodId) (a : Array Value),
    Stand p l e R s m sargs below meth c A.U A.locs A.cells A.slots → g.method = m → g.locals.size = c.maxLocals → decode c.code g.pc = .ok (ig, len) →
    2 * g.monitorRoom + (g.stack.map fun v => v.category).sum ≤ W9 → A.U.methodNamed? y = some mk → Pre A a →
    (∃ (v : Option Value) (B : Pt), Stand p l e R s m sargs below meth c B.U B.locs B.cells B.slots ∧ Post A a v B ∧
      Steps p.tables e below (doInvoke e (A.U.setTop g) [] mk a).1 (B.U.setTop { g with pc := g.pc + len, stack := v.toList ++ g.stack })) ∨
    (∃ (q : Addr) (B : Pt), Stand p l e R s m sargs below meth c B.U B.locs B.cells B.slots ∧ PostX A a q B ∧
      Steps p.tables e below (doInvoke e (A.U.setTop g) [] mk a).1 ((B.U.setTop g).pushFrame (.throwing q)))
section Payer
variable {l : Launch} {R : Room} {p : Program} {e : Env} {below : List Frame} {s : State} {sargs : Array Value} {y : MethodName} {len W9 : Nat}
theorem vx_back {ws : List Cond} {rm : Room} {Pc : Array Value → State → Prop} {Qc : Array Value → State → Outcome → State → Prop} {XC : String → State → State → Prop} {mc ms : Nat} {free : Addr → Prop} {bytes : ByteArray} {maxL : Nat} {ret : Option FieldType}
    (hM : vx_Met l y ws rm Pc Qc XC mc ms free) (hblind : FrameBlind Pc) (hrc : rm.cells = mc) (hrs : rm.slots = ms)
    (hframes : rm.frames + 1 ≤ R.frames) (hlocals : W9 + (maxL + 11) + rm.locals ≤ R.locals)
    (hws : ∀ w ∈ ws, ∀ a' U, s.WarmedH U.vm → w.before a' U = true) (hcode : Cond.code y bytes maxL ret ∈ ws) (hinit : ∀ a' U, s.WarmedH U.vm → (Cond.initialized y.cls).before a' U = true) :
    vx_Back l R p e below s sargs y len W9 (PreOf R mc ms Pc) (PostOf Qc mc ms free) (vx_Post XC mc ms free) := by
  intro m meth c A g ig mk a X hg hsize hdg hW hn hp
  have h1 : (headSpec ws rm).pre.before a A.U = true := atoms_intro fun w hw => hws w hw _ _ X.warmed
  have h2 : (Cond.code y bytes maxL ret).before a A.U = true := hws _ hcode _ _ X.warmed
  have h3 : (Cond.initialized y.cls).before a A.U = true := hinit _ _ X.warmed
  have h4 : A.cells + (headSpec ws rm).room.cells ≤ R.cells := by rw [show (headSpec ws rm).room.cells = mc from hrc]; exact hp.1
  have h5 : A.slots + (headSpec ws rm).room.slots ≤ R.slots := by rw [show (headSpec ws rm).room.slots = ms from hrs]; exact hp.2.1
  have hPc : Pc a (A.U.calling g mk a) := hblind _ _ _ _ hp.2.2
  obtain ⟨U, Ls, c0, s0⟩ := A
  dsimp only [Pt.U, Pt.locs, Pt.cells, Pt.slots] at h1 h2 h3 h4 h5 X hn hPc ⊢
  obtain ⟨methY, cY, hmY, hcY, -, hlY, -, -, -, -⟩ := Cond.code_spec hn h2
  obtain ⟨kY, hkY, -⟩ := className_of_methodNamed hn
  have hinitY : kY.init = .initialized := Cond.initialized_spec (findClass_of_methodNamed hn) hkY h3
  have h : At U g.method c below := by rw [hg]; exact X.here
  have hlocals9 : W9 + (maxL + 11) + (headSpec ws rm).room.locals ≤ R.locals := hlocals
  have happ : (headSpec ws rm).appliesLoose y e.platform (U.calling g mk a) = true :=
    Spec.appliesLoose_calling (g := g) h hdg hn hkY hinitY
      (X.room_calling (g := g) (R' := (headSpec ws rm).room) hsize hmY hcY hframes (by rw [hlY]; omega) h4 h5) h1
  obtain ⟨mid, hmid⟩ := h.above
  have hfr : (U.setTop g).frames = (.java g :: mid) ++ below := by rw [State.frames_setTop' g h.top, hmid]; rfl
  obtain ⟨o, s₂, hsteps, -, hend, hq⟩ := Steps.callFree hM p X.admits X.cas X.clock (acts := []) hfr happ hPc trivial
  have hq' : vx_Q Qc XC mc ms free a (U.calling g mk a) o s₂ := hq
  rw [State.frames_setTop' g h.top] at hend
  obtain ⟨g₀, hg0⟩ := Option.isSome_iff_exists.mp h.top
  obtain ⟨r, hr⟩ := State.topJava?_eq_some.mp hg0
  have hr' : (({ U with heap := s₂.heap, slotsUsed := s₂.slotsUsed } : State).setVm s₂.vm).frames = .java g₀ :: r := hr
  rcases hq' with ⟨hqc, L, hfe, hL⟩ | ⟨q, rfl, E, ce, L, hx, hce, hcv, hcl, hW₂, hsm, hL⟩
  · obtain ⟨⟨v, rfl⟩, hW₂, e2, q2, q3, q4, q5, q6⟩ := id hfe
    have e3 : s₂ = ({ (U.calling g mk a).setFrames s₂.frames with heap := s₂.heap, slotsUsed := s₂.slotsUsed } : State).setVm s₂.vm := by
      have : s₂ = ({ s₂ with vm := (U.calling g mk a).vm } : State).setVm s₂.vm := rfl
      rw [e2] at this
      exact this
    obtain ⟨c₂, i₂, len₂, hc₂, hd₂, hf₂⟩ := hend
    have hW' : U.WarmedH s₂.vm := hW₂
    have hcc : c₂ = c := by
      have h1 : s₂.code? g.method = U.code? g.method := by
        rw [State.code?_eq, State.code?_eq, hW'.alike.method?]
      exact Option.some.inj (hc₂.symm.trans (h1.trans h.code))
    subst hcc
    have hlen : len₂ = len := by rw [hdg] at hd₂; cases hd₂; rfl
    subst hlen
    have hs₂ : s₂ = (({ U with heap := s₂.heap, slotsUsed := s₂.slotsUsed } : State).setVm s₂.vm).setTop { g with pc := g.pc + len₂, stack := v.toList ++ g.stack } := by
      refine e3.trans ?_
      rw [hf₂, State.calling_eq h.top, State.setFrames_setFrames, State.setTop_of_frames _ hr', hr]
      rfl
    have hsame : U.sameButNew ({ U with heap := s₂.heap, slotsUsed := s₂.slotsUsed } : State) L mc ms := by
      refine ⟨?_, q2, q3, q4, q5, q6⟩
      obtain ⟨t, ht, -⟩ := State.frames_cons hr
      show ({ U with heap := s₂.heap, slotsUsed := s₂.slotsUsed } : State) = { U.setFrames U.frames with heap := s₂.heap, slotsUsed := s₂.slotsUsed }
      rw [State.setFrames_self ht]
    subst hg
    refine Or.inl ⟨v, ⟨(({ U with heap := s₂.heap, slotsUsed := s₂.slotsUsed } : State).setVm s₂.vm), Ls ++ L, c0 + mc, s0 + ms⟩,
      ⟨X.admits, X.cas, X.clock, X.frames, X.room, X.hears, X.method, X.code, (X.here.setHeapUsed s₂.heap s₂.slotsUsed).setVm hW'.alike, X.tail, State.WarmedH.trans X.warmed hW', X.limits, X.bytes, X.same.trans (hsame.setVm s.vm)⟩,
      ⟨g, mk, s₂, L, rfl, rfl, hqc, rfl, hL, rfl, rfl⟩, ?_⟩
    show Steps p.tables e below _ ((({ U with heap := s₂.heap, slotsUsed := s₂.slotsUsed } : State).setVm s₂.vm).setTop { g with pc := g.pc + len₂, stack := v.toList ++ g.stack })
    rw [← hs₂]
    exact hsteps
  · obtain ⟨e2, q2, q3, q4, q5, q6⟩ := id hsm
    have e3 : s₂ = ({ (U.calling g mk a).setFrames s₂.frames with heap := s₂.heap, slotsUsed := s₂.slotsUsed } : State).setVm s₂.vm := by
      have : s₂ = ({ s₂ with vm := (U.calling g mk a).vm } : State).setVm s₂.vm := rfl
      rw [e2] at this
      exact this
    have hf₂ : s₂.frames = .throwing q :: .java g :: U.frames.tail := hend
    have hW' : U.WarmedH s₂.vm := hW₂
    have hs₂ : s₂ = ((({ U with heap := s₂.heap, slotsUsed := s₂.slotsUsed } : State).setVm s₂.vm).setTop g).pushFrame (.throwing q) := by
      refine e3.trans ?_
      rw [hf₂, State.calling_eq h.top, State.setFrames_setFrames, State.pushFrame, State.frames_setTop _ hr', State.setTop_of_frames _ hr', State.setFrames_setFrames, hr]
      rfl
    have hsame : U.sameButNew ({ U with heap := s₂.heap, slotsUsed := s₂.slotsUsed } : State) L mc ms := by
      refine ⟨?_, q2, q3, q4, q5, q6⟩
      obtain ⟨t, ht, -⟩ := State.frames_cons hr
      show ({ U with heap := s₂.heap, slotsUsed := s₂.slotsUsed } : State) = { U.setFrames U.frames with heap := s₂.heap, slotsUsed := s₂.slotsUsed }
      rw [State.setFrames_self ht]
    subst hg
    refine Or.inr ⟨q, ⟨(({ U with heap := s₂.heap, slotsUsed := s₂.slotsUsed } : State).setVm s₂.vm), Ls ++ L, c0 + mc, s0 + ms⟩,
      ⟨X.admits, X.cas, X.clock, X.frames, X.room, X.hears, X.method, X.code, (X.here.setHeapUsed s₂.heap s₂.slotsUsed).setVm hW'.alike, X.tail, State.WarmedH.trans X.warmed hW', X.limits, X.bytes, X.same.trans (hsame.setVm s.vm)⟩,
      ⟨g, mk, s₂, L, E, ce, rfl, rfl, hx, hce, hcv, hcl, rfl, hL, rfl, rfl⟩, ?_⟩
    show Steps p.tables e below _ (((({ U with heap := s₂.heap, slotsUsed := s₂.slotsUsed } : State).setVm s₂.vm).setTop g).pushFrame (.throwing q))
    rw [← hs₂]
    exact hsteps
end Payer
section Calls
variable {p : Program} {l : Launch} {e : Env} {R : Room} {s : State} {m : MethodId} {args : Array Value} {below : List Frame} {meth : Method} {c : Code} {T : State} {locs : List Loc} {cells slots : Nat}
theorem vx_callV (X : Stand p l e R s m args below meth c T locs cells slots) (hexec : p.tables.exec = Jvm.exec) {own C : String} {index : Nat} {y : MethodName} {bytes : ByteArray} {maxL : Nat} {ret : Option FieldType}
    (hown : s.vm.findClass own = some m.cls) (hlink : (Cond.methodLink own index y).before args s = true) (hinst : (Cond.instanceMethod y).before args s = true) (hsel : (Cond.selects C y y).before args s = true)
    (hcode : (Cond.code y bytes maxL ret).before args s = true) (hy : y.cls ≠ "java/lang/invoke/MethodHandle" ∧ y.cls ≠ "java/lang/invoke/VarHandle")
    {W9 : Nat} {Pre : Pt → Array Value → Prop} {Post : Pt → Array Value → Option Value → Pt → Prop} {PostX : Pt → Array Value → Addr → Pt → Prop} (hK : vx_Back l R p e below s args y 3 W9 Pre Post PostX)
    {b : Addr} {cellB : Cell} (hcell : T.heap[b]? = some cellB) (hobj : cellB.vm.isStatics = false) (hcls : s.vm.findClass C = some cellB.cls)
    {g : JFrame} (hg : g.method = m) (hsize : g.locals.size = c.maxLocals) {argsL rest : List Value} (hlen : ∀ sig, parseMethodDescriptor y.desc = some sig → argsL.length = sig.parameters.length)
    (hstack : g.stack = argsL.reverse ++ .ref b :: rest) (hW : 2 * g.monitorRoom + (rest.map fun v => v.category).sum ≤ W9) (hdg : decode c.code g.pc = .ok (.invokevirtual index, 3))
    (hpre : ∀ vm₁, s.WarmedH vm₁ → Pre ⟨T.setVm vm₁, locs, cells, slots⟩ (Value.ref b :: argsL).toArray) :
    (∃ (v : Option Value) (vm₁ : Vm) (B : Pt), s.WarmedH vm₁ ∧ Stand p l e R s m args below meth c B.U B.locs B.cells B.slots ∧ Post ⟨T.setVm vm₁, locs, cells, slots⟩ (Value.ref b :: argsL).toArray v B ∧
      ∀ target, Steps p.tables e below (B.U.setTop { g with pc := g.pc + 3, stack := v.toList ++ rest }) target → Steps p.tables e below (T.setTop g) target) ∨
    (∃ (q : Addr) (vm₁ : Vm) (B : Pt), s.WarmedH vm₁ ∧ Stand p l e R s m args below meth c B.U B.locs B.cells B.slots ∧ PostX ⟨T.setVm vm₁, locs, cells, slots⟩ (Value.ref b :: argsL).toArray q B ∧
      Steps p.tables e below (T.setTop g) ((B.U.setTop { g with stack := rest }).pushFrame (.throwing q))) := by
  obtain ⟨mk, methM, hnamed, hmethM, hstM, habM⟩ := Cond.instanceMethod_spec hinst
  obtain ⟨methM', cM, hmethM', -, -, -, -, -, -, hsigM⟩ := Cond.code_spec hnamed hcode
  cases hmethM.symm.trans hmethM'
  obtain ⟨c2, r2, m2, q1, q2, q3, q4, kP, hkP, hkPi⟩ := Cond.selects_spec hsel
  cases hcls.symm.trans q1
  cases (State.methodFound?_of_named hnamed hy).symm.trans q2
  cases hnamed.symm.trans q3
  have hselP : selectMethod e.platform s.vm cellB.cls mk = .method mk := by rw [Launch.admits_selectMethod X.admits]; exact q4
  obtain ⟨vm₁, X₁, hstep₁⟩ := X.invokevirtual hexec hown hlink hnamed hmethM hstM hkP hkPi hy (a := b) (cell := cellB) hcell
    (fun z h => by rw [h] at hobj; cases hobj) hselP hmethM habM hkP hkPi (g := g) hg (argsL := argsL) (rest := rest) (hlen _ hsigM) hstack hdg
  rcases hK m meth c ⟨T.setVm vm₁, locs, cells, slots⟩ { g with stack := rest } (.invokevirtual index) mk (Value.ref b :: argsL).toArray X₁ hg hsize hdg hW (X₁.named hnamed) (hpre vm₁ X₁.warmed) with ⟨v, B, X', hpost, hsteps⟩ | ⟨q, B, X', hpost, hsteps⟩
  · exact Or.inl ⟨v, vm₁, B, X₁.warmed, X', hpost, fun target h => hstep₁ _ fun acts => by rw [doInvoke_state]; exact hsteps.trans h⟩
  · exact Or.inr ⟨q, vm₁, B, X₁.warmed, X', hpost, hstep₁ _ fun acts => by rw [doInvoke_state]; exact hsteps⟩
theorem vx_callS (X : Stand p l e R s m args below meth c T locs cells slots) (hexec : p.tables.exec = Jvm.exec) {own : String} {index : Nat} {y : MethodName} {bytes : ByteArray} {maxL : Nat} {ret : Option FieldType}
    (hown : s.vm.findClass own = some m.cls) (hlink : (Cond.methodLink own index y).before args s = true) (hstat : (Cond.static y).before args s = true) (hinit : (Cond.initialized y.cls).before args s = true)
    (hcode : (Cond.code y bytes maxL ret).before args s = true) (hy : y.cls ≠ "java/lang/invoke/MethodHandle" ∧ y.cls ≠ "java/lang/invoke/VarHandle")
    {W9 : Nat} {Pre : Pt → Array Value → Prop} {Post : Pt → Array Value → Option Value → Pt → Prop} {PostX : Pt → Array Value → Addr → Pt → Prop} (hK : vx_Back l R p e below s args y 3 W9 Pre Post PostX)
    {g : JFrame} (hg : g.method = m) (hsize : g.locals.size = c.maxLocals) {argsL rest : List Value} (hlen : ∀ sig, parseMethodDescriptor y.desc = some sig → argsL.length = sig.parameters.length)
    (hstack : g.stack = argsL.reverse ++ rest) (hW : 2 * g.monitorRoom + (rest.map fun v => v.category).sum ≤ W9) (hdg : decode c.code g.pc = .ok (.invokestatic index, 3))
    (hpre : ∀ vm₁, s.WarmedH vm₁ → Pre ⟨T.setVm vm₁, locs, cells, slots⟩ argsL.toArray) :
    (∃ (v : Option Value) (vm₁ : Vm) (B : Pt), s.WarmedH vm₁ ∧ Stand p l e R s m args below meth c B.U B.locs B.cells B.slots ∧ Post ⟨T.setVm vm₁, locs, cells, slots⟩ argsL.toArray v B ∧
      ∀ target, Steps p.tables e below (B.U.setTop { g with pc := g.pc + 3, stack := v.toList ++ rest }) target → Steps p.tables e below (T.setTop g) target) ∨
    (∃ (q : Addr) (vm₁ : Vm) (B : Pt), s.WarmedH vm₁ ∧ Stand p l e R s m args below meth c B.U B.locs B.cells B.slots ∧ PostX ⟨T.setVm vm₁, locs, cells, slots⟩ argsL.toArray q B ∧
      Steps p.tables e below (T.setTop g) ((B.U.setTop { g with stack := rest }).pushFrame (.throwing q))) := by
  obtain ⟨mk, hnamed⟩ := Cond.code_named hcode
  obtain ⟨methM, cM, hmethM, -, -, -, -, -, -, hsigM⟩ := Cond.code_spec hnamed hcode
  have hstatic : methM.isStatic = true := Cond.static_spec hnamed hmethM hstat
  obtain ⟨kP, hkP, -⟩ := className_of_methodNamed hnamed
  have hinitP : kP.init = .initialized := Cond.initialized_spec (findClass_of_methodNamed hnamed) hkP hinit
  obtain ⟨vm₁, X₁, hstep₁⟩ := X.invokestatic hexec hown hlink hnamed hmethM hstatic hkP hinitP hy (g := g) hg (argsL := argsL) (rest := rest) (hlen _ hsigM) hstack hdg
  rcases hK m meth c ⟨T.setVm vm₁, locs, cells, slots⟩ { g with stack := rest } (.invokestatic index) mk argsL.toArray X₁ hg hsize hdg hW (X₁.named hnamed) (hpre vm₁ X₁.warmed) with ⟨v, B, X', hpost, hsteps⟩ | ⟨q, B, X', hpost, hsteps⟩
  · exact Or.inl ⟨v, vm₁, B, X₁.warmed, X', hpost, fun target h => hstep₁ _ fun acts => by rw [doInvoke_state]; exact hsteps.trans h⟩
  · exact Or.inr ⟨q, vm₁, B, X₁.warmed, X', hpost, hstep₁ _ fun acts => by rw [doInvoke_state]; exact hsteps⟩
end Calls
theorem vx_cls {s : State} {T : State} {vm₁ : Vm} {E : String} {k : ClassId} (hW : s.WarmedH vm₁) (h : (T.setVm vm₁).vm.findClass E = some k) : s.vm.findClass E = some k := by
  have h1 : vm₁.findClass E = some k := h
  rw [hW.alike.findClass] at h1
  exact h1
/-- the method's frame g, with q thrown over it -/
def vx_W (p : Program) (l : Launch) (e : Env) (R : Room) (s : State) (m : MethodId) (args : Array Value) (below : List Frame) (meth : Method) (c : Code) (H : Heap) (locs : List Loc) (cells slots : Nat) (Q : State → Prop) (g : JFrame) (q : Addr) : Prop :=
  ∀ T : State, T.heap = H → Stand p l e R s m args below meth c T locs cells slots → ∃ t, Steps p.tables e below ((T.setTop g).pushFrame (.throwing q)) t ∧ Q t
def vx_Run (p : Program) (l : Launch) (e : Env) (R : Room) (s : State) (m : MethodId) (args : Array Value) (below : List Frame) (meth : Method) (c : Code) (H : Heap) (locs : List Loc) (cells slots mc ms : Nat) (g : JFrame) (rest : List Value) (Qa : State → Outcome → State → Prop) (XC : String → State → State → Prop) (free : Addr → Prop) : Prop :=
  ∀ T : State, T.heap = H → Stand p l e R s m args below meth c T locs cells slots →
    (∃ (v : Option Value) (st₀ t T' : State) (L : List Loc), st₀.heap = H ∧ Stand p l e R s m args below meth c T' (locs ++ L) (cells + mc) (slots + ms) ∧ (∀ q ∈ L, free q.base) ∧ T'.heap = t.heap ∧ T'.vm = t.vm ∧ Qa st₀ (.returned v) t ∧
      Goes p e below T g T' { g with pc := g.pc + 3, stack := v.toList ++ rest }) ∨
    (∃ (q : Addr) (st₀ t T' : State) (L : List Loc) (E : String) (ce : Cell), st₀.heap = H ∧ Stand p l e R s m args below meth c T' (locs ++ L) (cells + mc) (slots + ms) ∧ (∀ z ∈ L, free z.base) ∧ T'.heap = t.heap ∧ T'.vm = t.vm ∧ XC E st₀ t ∧ t.heap[q]? = some ce ∧ ce.vm = .none ∧ s.vm.findClass E = some ce.cls ∧
      Steps p.tables e below (T.setTop g) ((T'.setTop { g with stack := rest }).pushFrame (.throwing q)))
def vx_X {S : Type} (px : S → Prop) (B : String → S → State → Prop) (A : Nat → Prop) : String → State → State → Prop := fun E st t => ∃ u : S, px u ∧ B E u t ∧ va_F A st t
section Runs
variable {p : Program} {l : Launch} {e : Env} {R : Room} {s : State} {m : MethodId} {args : Array Value} {below : List Frame} {meth : Method} {c : Code} {H : Heap} {locs : List Loc} {cells slots : Nat}
variable {y : MethodName} {bytes cc : ByteArray} {maxL nL mc ms n index : Nat} {ret : Option FieldType} {ws : List Cond} {rm : Room} {Pc : Array Value → State → Prop} {Qc : Array Value → State → Outcome → State → Prop} {XC : String → State → State → Prop} {free : Addr → Prop} {Ts : List Cond} {own C : String} {b : Addr} {As rest : List Value} {g : JFrame}
theorem vx_callBack (cb : CallB R s args own index y bytes maxL ret ws rm mc ms n) (hM : vx_Met l y ws rm Pc Qc XC mc ms free) (hbl : FrameBlind Pc) : vx_Back l R p e below s args y 3 8 (PreOf R mc ms Pc) (PostOf Qc mc ms free) (vx_Post XC mc ms free) := by
  obtain ⟨hrc, hrs, hfr, hlo, hws, hcw, -, hini, -⟩ := cb
  exact vx_back (bytes := bytes) (maxL := maxL) (ret := ret) hM hbl hrc hrs hfr hlo hws hcw (fun a' U hW => word_at hW (Or.inl (by first | rfl | simp [Cond.onTables, Cond.keeps, Cond.steady])) hini)
theorem vx_runV (S : CallFix p m c cc nL s args Ts own) (hM : vx_Met l y ws rm Pc Qc XC mc ms free) (cw : CallW R s args own C index y bytes maxL ret ws rm mc ms n) (hp : PreV s H C b Pc As)
    (hg : g.method = m) (hn : As.length = n) (hsize : g.locals.size = nL) (hstack : g.stack = As.reverse ++ .ref b :: rest) (hW : 2 * g.monitorRoom + (rest.map fun v => v.category).sum ≤ 8) (hdg : decode cc g.pc = .ok (.invokevirtual index, 3)) (hf : cells + mc ≤ R.cells ∧ slots + ms ≤ R.slots) :
    vx_Run p l e R s m args below meth c H locs cells slots mc ms g rest (Qc (Value.ref b :: As).toArray) XC free := by
  have hK : vx_Back l R p e below s args y 3 8 (PreOf R mc ms Pc) (PostOf Qc mc ms free) (vx_Post XC mc ms free) := vx_callBack cw.1 hM hp.1
  obtain ⟨⟨-, -, -, -, -, -, hcode, -, hy, hlen, hl⟩, hin, hse⟩ := cw
  obtain ⟨hx, hb, hml, ho, -⟩ := S
  obtain ⟨-, ⟨cellB, hcB, hoB, hclB⟩, hPc⟩ := hp
  intro T hT X
  rcases vx_callV X hx (C := C) (bytes := bytes) (maxL := maxL) (ret := ret) ho hl hin hse hcode hy hK (by rw [hT]; exact hcB) hoB hclB hg (hsize.trans hml.symm) (argsL := As) (rest := rest) (fun sig h => hn.trans (hlen sig h)) hstack hW (by rw [hb]; exact hdg)
    (fun vm₁ hW₁ => ⟨hf.1, hf.2, hPc (T.setVm vm₁) hT hW₁⟩) with ⟨v, vm₁, ⟨U', l2, c2, s2⟩, hW₁, X', ⟨g', mk, t, L, e1, e2, hq, h1, hL, h2, h3⟩, st⟩ | ⟨q, vm₁, ⟨U', l2, c2, s2⟩, hW₁, X', ⟨g', mk, t, L, E, ce, e1, e2, hq, hce, hcv, hcl, h1, hL, h2, h3⟩, st⟩
  · dsimp only [Pt.U, Pt.locs, Pt.cells, Pt.slots] at X' e1 e2 h1 h2 h3 st
    subst h1; subst h2; subst h3
    exact Or.inl ⟨v, (T.setVm vm₁).calling g' mk (Value.ref b :: As).toArray, t, U', L, hT, X', hL, e1, e2, hq, st⟩
  · dsimp only [Pt.U, Pt.locs, Pt.cells, Pt.slots] at X' e1 e2 h1 h2 h3 st hcl
    subst h1; subst h2; subst h3
    exact Or.inr ⟨q, (T.setVm vm₁).calling g' mk (Value.ref b :: As).toArray, t, U', L, E, ce, hT, X', hL, e1, e2, hq, hce, hcv, vx_cls hW₁ hcl, st⟩
theorem vx_runS (S : CallFix p m c cc nL s args Ts own) (hM : vx_Met l y ws rm Pc Qc XC mc ms free) (cw : CallB R s args own index y bytes maxL ret ws rm mc ms n ∧ (Cond.static y).before args s = true) (hp : PreS s H Pc As)
    (hg : g.method = m) (hn : As.length = n) (hsize : g.locals.size = nL) (hstack : g.stack = As.reverse ++ rest) (hW : 2 * g.monitorRoom + (rest.map fun v => v.category).sum ≤ 8) (hdg : decode cc g.pc = .ok (.invokestatic index, 3)) (hf : cells + mc ≤ R.cells ∧ slots + ms ≤ R.slots) :
    vx_Run p l e R s m args below meth c H locs cells slots mc ms g rest (Qc As.toArray) XC free := by
  have hK : vx_Back l R p e below s args y 3 8 (PreOf R mc ms Pc) (PostOf Qc mc ms free) (vx_Post XC mc ms free) := vx_callBack cw.1 hM hp.1
  obtain ⟨⟨-, -, -, -, -, -, hcode, hini, hy, hlen, hl⟩, hstt⟩ := cw
  obtain ⟨hx, hb, hml, ho, -⟩ := S
  intro T hT X
  rcases vx_callS X hx (bytes := bytes) (maxL := maxL) (ret := ret) ho hl hstt hini hcode hy hK hg (hsize.trans hml.symm) (argsL := As) (rest := rest) (fun sig h => hn.trans (hlen sig h)) hstack hW (by rw [hb]; exact hdg)
    (fun vm₁ hW₁ => ⟨hf.1, hf.2, hp.2 (T.setVm vm₁) hT hW₁⟩) with ⟨v, vm₁, ⟨U', l2, c2, s2⟩, hW₁, X', ⟨g', mk, t, L, e1, e2, hq, h1, hL, h2, h3⟩, st⟩ | ⟨q, vm₁, ⟨U', l2, c2, s2⟩, hW₁, X', ⟨g', mk, t, L, E, ce, e1, e2, hq, hce, hcv, hcl, h1, hL, h2, h3⟩, st⟩
  · dsimp only [Pt.U, Pt.locs, Pt.cells, Pt.slots] at X' e1 e2 h1 h2 h3 st
    subst h1; subst h2; subst h3
    exact Or.inl ⟨v, (T.setVm vm₁).calling g' mk As.toArray, t, U', L, hT, X', hL, e1, e2, hq, st⟩
  · dsimp only [Pt.U, Pt.locs, Pt.cells, Pt.slots] at X' e1 e2 h1 h2 h3 st hcl
    subst h1; subst h2; subst h3
    exact Or.inr ⟨q, (T.setVm vm₁).calling g' mk As.toArray, t, U', L, E, ce, hT, X', hL, e1, e2, hq, hce, hcv, vx_cls hW₁ hcl, st⟩
end Runs
section Rows
variable {p : Program} {l : Launch} {e : Env} {R : Room} {s : State} {m : MethodId} {args : Array Value} {below : List Frame} {meth : Method} {c : Code} {H : Heap} {locs : List Loc} {cells slots : Nat} {Q : State → Prop}
variable {mc ms : Nat} {free : Addr → Prop} {A0 A1 : Nat → Prop} {H0 : Heap} {a : Array Value} {pc : Nat} {ls : Array Slot} {st0 rest : List Value}
theorem vx_keep {st₀ t T' : State} {L : List Loc} (h0 : st₀.heap = H) (e1 : T'.heap = t.heap) (hS : va_S A0 H0 H locs) (hA : ∀ q, q < H.size → A1 q → A0 q) (hf : ∀ q, free q → A0 q) (hL : ∀ q ∈ L, free q.base) (hF : va_F A1 st₀ t) :
    H.size ≤ T'.heap.size ∧ (∀ q : Nat, q < H.size → ¬ A1 q → T'.heap[q]? = H[q]?) ∧ va_S A0 H0 T'.heap (locs ++ L) := by
  obtain ⟨hz, hk⟩ := hF
  rw [h0] at hz hk
  exact ⟨by rw [e1]; exact hz, fun q h1 h2 => by rw [e1]; exact hk q h1 h2,
    ⟨Nat.le_trans hS.1 (by rw [e1]; exact hz), fun q h1 h2 => by rw [e1, hk q (Nat.lt_of_lt_of_le h1 hS.1) (fun z => h2 (hA q (Nat.lt_of_lt_of_le h1 hS.1) z))]; exact hS.2.1 q h1 h2, fun q hq => by
      rcases List.mem_append.mp hq with h | h
      · exact hS.2.2 q h
      · exact hf _ (hL q h)⟩⟩
theorem vx_calli {S SX : Type} {post : Int32 → S → Prop} {px : SX → Prop} {B : S → State → Prop} {BX : String → SX → State → Prop} {AX : Nat → Prop} (hr : vx_Run p l e R s m args below meth c H locs cells slots mc ms (F0 m pc ls st0) rest (va_Qi post B A1 a) (vx_X px BX AX) free) (hS : va_S A0 H0 H locs) (hA : ∀ q, q < H.size → A1 q → A0 q) (hf : ∀ q, free q → A0 q) (hAX : ∀ q, q < H.size → AX q → A0 q)
    (kx : ∀ (E : String) (ce : Cell) (q9 : Addr) (u : SX) (t : State) (H1 : Heap) (locs1 : List Loc), t.heap = H1 → s.vm.Alike t.vm → px u → BX E u t → H.size ≤ H1.size → (∀ q : Nat, q < H.size → ¬ AX q → H1[q]? = H[q]?) → va_S A0 H0 H1 locs1 → H1[q9]? = some ce → ce.vm = .none → s.vm.findClass E = some ce.cls → vx_W p l e R s m args below meth c H1 locs1 (cells + mc) (slots + ms) Q (F0 m pc ls rest) q9)
    (kk : ∀ (r : Int32) (u : S) (t : State) (H1 : Heap) (locs1 : List Loc), t.heap = H1 → s.vm.Alike t.vm → post r u → B u t → H.size ≤ H1.size → (∀ q : Nat, q < H.size → ¬ A1 q → H1[q]? = H[q]?) → va_S A0 H0 H1 locs1 → W p l e R s m args below meth c H1 locs1 (cells + mc) (slots + ms) Q (F0 m (pc + 3) ls (.int r :: rest))) : W p l e R s m args below meth c H locs cells slots Q (F0 m pc ls st0) := by
  intro T hT X
  rcases hr T hT X with ⟨v, st₀, t, T', L, h0, X', hL, e1, e2, ⟨⟨r, u, hv, hp, hb⟩, hF⟩, st⟩ | ⟨q, st₀, t, T', L, E, ce, h0, X', hL, e1, e2, ⟨u, hp, hb, hF⟩, hce, hcv, hcl, st⟩
  · cases hv
    obtain ⟨k1, k2, k3⟩ := vx_keep h0 e1 hS hA hf hL hF
    obtain ⟨t2, a1, b1⟩ := kk r u t T'.heap (locs ++ L) e1.symm (by rw [← e2]; exact X'.warmed.alike) hp hb k1 k2 k3 T' rfl X'
    exact ⟨t2, st t2 a1, b1⟩
  · obtain ⟨k1, k2, k3⟩ := vx_keep h0 e1 hS hAX hf hL hF
    obtain ⟨t2, a1, b1⟩ := kx E ce q u t T'.heap (locs ++ L) e1.symm (by rw [← e2]; exact X'.warmed.alike) hp hb k1 k2 k3 (by rw [e1]; exact hce) hcv hcl T' rfl X'
    exact ⟨t2, st.trans a1, b1⟩
theorem vx_calll {S SX : Type} {post : Int64 → S → Prop} {px : SX → Prop} {B : S → State → Prop} {BX : String → SX → State → Prop} {AX : Nat → Prop} (hr : vx_Run p l e R s m args below meth c H locs cells slots mc ms (F0 m pc ls st0) rest (va_Ql post B A1 a) (vx_X px BX AX) free) (hS : va_S A0 H0 H locs) (hA : ∀ q, q < H.size → A1 q → A0 q) (hf : ∀ q, free q → A0 q) (hAX : ∀ q, q < H.size → AX q → A0 q)
    (kx : ∀ (E : String) (ce : Cell) (q9 : Addr) (u : SX) (t : State) (H1 : Heap) (locs1 : List Loc), t.heap = H1 → s.vm.Alike t.vm → px u → BX E u t → H.size ≤ H1.size → (∀ q : Nat, q < H.size → ¬ AX q → H1[q]? = H[q]?) → va_S A0 H0 H1 locs1 → H1[q9]? = some ce → ce.vm = .none → s.vm.findClass E = some ce.cls → vx_W p l e R s m args below meth c H1 locs1 (cells + mc) (slots + ms) Q (F0 m pc ls rest) q9)
    (kk : ∀ (r : Int64) (u : S) (t : State) (H1 : Heap) (locs1 : List Loc), t.heap = H1 → s.vm.Alike t.vm → post r u → B u t → H.size ≤ H1.size → (∀ q : Nat, q < H.size → ¬ A1 q → H1[q]? = H[q]?) → va_S A0 H0 H1 locs1 → W p l e R s m args below meth c H1 locs1 (cells + mc) (slots + ms) Q (F0 m (pc + 3) ls (.long r :: rest))) : W p l e R s m args below meth c H locs cells slots Q (F0 m pc ls st0) := by
  intro T hT X
  rcases hr T hT X with ⟨v, st₀, t, T', L, h0, X', hL, e1, e2, ⟨⟨r, u, hv, hp, hb⟩, hF⟩, st⟩ | ⟨q, st₀, t, T', L, E, ce, h0, X', hL, e1, e2, ⟨u, hp, hb, hF⟩, hce, hcv, hcl, st⟩
  · cases hv
    obtain ⟨k1, k2, k3⟩ := vx_keep h0 e1 hS hA hf hL hF
    obtain ⟨t2, a1, b1⟩ := kk r u t T'.heap (locs ++ L) e1.symm (by rw [← e2]; exact X'.warmed.alike) hp hb k1 k2 k3 T' rfl X'
    exact ⟨t2, st t2 a1, b1⟩
  · obtain ⟨k1, k2, k3⟩ := vx_keep h0 e1 hS hAX hf hL hF
    obtain ⟨t2, a1, b1⟩ := kx E ce q u t T'.heap (locs ++ L) e1.symm (by rw [← e2]; exact X'.warmed.alike) hp hb k1 k2 k3 (by rw [e1]; exact hce) hcv hcl T' rfl X'
    exact ⟨t2, st.trans a1, b1⟩
theorem vx_callf {S SX : Type} {post : UInt32 → S → Prop} {px : SX → Prop} {B : S → State → Prop} {BX : String → SX → State → Prop} {AX : Nat → Prop} (hr : vx_Run p l e R s m args below meth c H locs cells slots mc ms (F0 m pc ls st0) rest (va_Qf post B A1 a) (vx_X px BX AX) free) (hS : va_S A0 H0 H locs) (hA : ∀ q, q < H.size → A1 q → A0 q) (hf : ∀ q, free q → A0 q) (hAX : ∀ q, q < H.size → AX q → A0 q)
    (kx : ∀ (E : String) (ce : Cell) (q9 : Addr) (u : SX) (t : State) (H1 : Heap) (locs1 : List Loc), t.heap = H1 → s.vm.Alike t.vm → px u → BX E u t → H.size ≤ H1.size → (∀ q : Nat, q < H.size → ¬ AX q → H1[q]? = H[q]?) → va_S A0 H0 H1 locs1 → H1[q9]? = some ce → ce.vm = .none → s.vm.findClass E = some ce.cls → vx_W p l e R s m args below meth c H1 locs1 (cells + mc) (slots + ms) Q (F0 m pc ls rest) q9)
    (kk : ∀ (r : UInt32) (u : S) (t : State) (H1 : Heap) (locs1 : List Loc), t.heap = H1 → s.vm.Alike t.vm → post r u → B u t → H.size ≤ H1.size → (∀ q : Nat, q < H.size → ¬ A1 q → H1[q]? = H[q]?) → va_S A0 H0 H1 locs1 → W p l e R s m args below meth c H1 locs1 (cells + mc) (slots + ms) Q (F0 m (pc + 3) ls (.float r :: rest))) : W p l e R s m args below meth c H locs cells slots Q (F0 m pc ls st0) := by
  intro T hT X
  rcases hr T hT X with ⟨v, st₀, t, T', L, h0, X', hL, e1, e2, ⟨⟨r, u, hv, hp, hb⟩, hF⟩, st⟩ | ⟨q, st₀, t, T', L, E, ce, h0, X', hL, e1, e2, ⟨u, hp, hb, hF⟩, hce, hcv, hcl, st⟩
  · cases hv
    obtain ⟨k1, k2, k3⟩ := vx_keep h0 e1 hS hA hf hL hF
    obtain ⟨t2, a1, b1⟩ := kk r u t T'.heap (locs ++ L) e1.symm (by rw [← e2]; exact X'.warmed.alike) hp hb k1 k2 k3 T' rfl X'
    exact ⟨t2, st t2 a1, b1⟩
  · obtain ⟨k1, k2, k3⟩ := vx_keep h0 e1 hS hAX hf hL hF
    obtain ⟨t2, a1, b1⟩ := kx E ce q u t T'.heap (locs ++ L) e1.symm (by rw [← e2]; exact X'.warmed.alike) hp hb k1 k2 k3 (by rw [e1]; exact hce) hcv hcl T' rfl X'
    exact ⟨t2, st.trans a1, b1⟩
theorem vx_calld {S SX : Type} {post : UInt64 → S → Prop} {px : SX → Prop} {B : S → State → Prop} {BX : String → SX → State → Prop} {AX : Nat → Prop} (hr : vx_Run p l e R s m args below meth c H locs cells slots mc ms (F0 m pc ls st0) rest (va_Qd post B A1 a) (vx_X px BX AX) free) (hS : va_S A0 H0 H locs) (hA : ∀ q, q < H.size → A1 q → A0 q) (hf : ∀ q, free q → A0 q) (hAX : ∀ q, q < H.size → AX q → A0 q)
    (kx : ∀ (E : String) (ce : Cell) (q9 : Addr) (u : SX) (t : State) (H1 : Heap) (locs1 : List Loc), t.heap = H1 → s.vm.Alike t.vm → px u → BX E u t → H.size ≤ H1.size → (∀ q : Nat, q < H.size → ¬ AX q → H1[q]? = H[q]?) → va_S A0 H0 H1 locs1 → H1[q9]? = some ce → ce.vm = .none → s.vm.findClass E = some ce.cls → vx_W p l e R s m args below meth c H1 locs1 (cells + mc) (slots + ms) Q (F0 m pc ls rest) q9)
    (kk : ∀ (r : UInt64) (u : S) (t : State) (H1 : Heap) (locs1 : List Loc), t.heap = H1 → s.vm.Alike t.vm → post r u → B u t → H.size ≤ H1.size → (∀ q : Nat, q < H.size → ¬ A1 q → H1[q]? = H[q]?) → va_S A0 H0 H1 locs1 → W p l e R s m args below meth c H1 locs1 (cells + mc) (slots + ms) Q (F0 m (pc + 3) ls (.double r :: rest))) : W p l e R s m args below meth c H locs cells slots Q (F0 m pc ls st0) := by
  intro T hT X
  rcases hr T hT X with ⟨v, st₀, t, T', L, h0, X', hL, e1, e2, ⟨⟨r, u, hv, hp, hb⟩, hF⟩, st⟩ | ⟨q, st₀, t, T', L, E, ce, h0, X', hL, e1, e2, ⟨u, hp, hb, hF⟩, hce, hcv, hcl, st⟩
  · cases hv
    obtain ⟨k1, k2, k3⟩ := vx_keep h0 e1 hS hA hf hL hF
    obtain ⟨t2, a1, b1⟩ := kk r u t T'.heap (locs ++ L) e1.symm (by rw [← e2]; exact X'.warmed.alike) hp hb k1 k2 k3 T' rfl X'
    exact ⟨t2, st t2 a1, b1⟩
  · obtain ⟨k1, k2, k3⟩ := vx_keep h0 e1 hS hAX hf hL hF
    obtain ⟨t2, a1, b1⟩ := kx E ce q u t T'.heap (locs ++ L) e1.symm (by rw [← e2]; exact X'.warmed.alike) hp hb k1 k2 k3 (by rw [e1]; exact hce) hcv hcl T' rfl X'
    exact ⟨t2, st.trans a1, b1⟩
theorem vx_callv {S SX : Type} {post : S → Prop} {px : SX → Prop} {B : S → State → Prop} {BX : String → SX → State → Prop} {AX : Nat → Prop} (hr : vx_Run p l e R s m args below meth c H locs cells slots mc ms (F0 m pc ls st0) rest (va_Qv post B A1 a) (vx_X px BX AX) free) (hS : va_S A0 H0 H locs) (hA : ∀ q, q < H.size → A1 q → A0 q) (hf : ∀ q, free q → A0 q) (hAX : ∀ q, q < H.size → AX q → A0 q)
    (kx : ∀ (E : String) (ce : Cell) (q9 : Addr) (u : SX) (t : State) (H1 : Heap) (locs1 : List Loc), t.heap = H1 → s.vm.Alike t.vm → px u → BX E u t → H.size ≤ H1.size → (∀ q : Nat, q < H.size → ¬ AX q → H1[q]? = H[q]?) → va_S A0 H0 H1 locs1 → H1[q9]? = some ce → ce.vm = .none → s.vm.findClass E = some ce.cls → vx_W p l e R s m args below meth c H1 locs1 (cells + mc) (slots + ms) Q (F0 m pc ls rest) q9)
    (kk : ∀ (u : S) (t : State) (H1 : Heap) (locs1 : List Loc), t.heap = H1 → s.vm.Alike t.vm → post u → B u t → H.size ≤ H1.size → (∀ q : Nat, q < H.size → ¬ A1 q → H1[q]? = H[q]?) → va_S A0 H0 H1 locs1 → W p l e R s m args below meth c H1 locs1 (cells + mc) (slots + ms) Q (F0 m (pc + 3) ls (rest))) : W p l e R s m args below meth c H locs cells slots Q (F0 m pc ls st0) := by
  intro T hT X
  rcases hr T hT X with ⟨v, st₀, t, T', L, h0, X', hL, e1, e2, ⟨⟨u, hv, hp, hb⟩, hF⟩, st⟩ | ⟨q, st₀, t, T', L, E, ce, h0, X', hL, e1, e2, ⟨u, hp, hb, hF⟩, hce, hcv, hcl, st⟩
  · cases hv
    obtain ⟨k1, k2, k3⟩ := vx_keep h0 e1 hS hA hf hL hF
    obtain ⟨t2, a1, b1⟩ := kk u t T'.heap (locs ++ L) e1.symm (by rw [← e2]; exact X'.warmed.alike) hp hb k1 k2 k3 T' rfl X'
    exact ⟨t2, st t2 a1, b1⟩
  · obtain ⟨k1, k2, k3⟩ := vx_keep h0 e1 hS hAX hf hL hF
    obtain ⟨t2, a1, b1⟩ := kx E ce q u t T'.heap (locs ++ L) e1.symm (by rw [← e2]; exact X'.warmed.alike) hp hb k1 k2 k3 (by rw [e1]; exact hce) hcv hcl T' rfl X'
    exact ⟨t2, st.trans a1, b1⟩
/-- caught by the row x of this method's table; the rows ahead don't take it -/
theorem vx_catch {own name : String} {E : String} {ce : Cell} {q : Addr} (hown : s.vm.findClass own = some m.cls) (pre : List ExceptionTableEntry) (x : ExceptionTableEntry) (suf : List ExceptionTableEntry) (hsplit : c.exceptionTable.toList = pre ++ x :: suf)
    (hpass : ∀ z ∈ pre, covers z pc = false ∨ (z.catchType ≠ 0 ∧ ∃ nm : String, (Cond.classLink own z.catchType nm).before args s = true ∧ va_Nc E nm s)) (hx : covers x pc = true) (h0 : x.catchType ≠ 0)
    (hlink : (Cond.classLink own x.catchType name).before args s = true) (hcast : (Cond.castable E name).before args s = true) (hcell : H[q]? = some ce) (hv : ce.vm = .none) (hcl : s.vm.findClass E = some ce.cls)
    (kk : W p l e R s m args below meth c H locs cells slots Q (F0 m x.handlerPc ls [.ref q])) : vx_W p l e R s m args below meth c H locs cells slots Q (F0 m pc ls rest) q := by
  intro T hT X
  have hpl : e.platform.magicAccessors = ({} : Platform).magicAccessors := by rw [X.admits.platform]
  obtain ⟨c3, c4, hc3, hc4, hasg⟩ := Cond.castable_spec hcast
  cases Option.some.inj (hc3.symm.trans hcl)
  obtain ⟨c5, hc5, hcl5⟩ := Cond.classLink_spec hown hlink e.platform hpl
  cases Option.some.inj (hc4.symm.trans hc5)
  obtain ⟨vm', X', st⟩ := X.thenCaughtThrough q (g := F0 m pc ls rest) rfl (Steps.refl _) (by rw [hT]; exact hcell) (by rw [hv]; rfl) (by obtain ⟨k9, h9, -⟩ := Vm.findClass_spec hcl; exact ⟨k9, h9⟩) pre x suf hsplit
    (fun z hz => by
      rcases hpass z hz with h | ⟨hz0, nm, hl1, hn1⟩
      · exact Or.inl h
      · obtain ⟨c6, hc6, hcl6⟩ := Cond.classLink_spec hown hl1 e.platform hpl
        obtain ⟨a8, b8, h1, h2, h3⟩ := hn1
        cases Option.some.inj (h1.symm.trans hcl)
        cases Option.some.inj (h2.symm.trans hc6)
        exact Or.inr ⟨hz0, _, hcl6, h3⟩) hx (Or.inr ⟨h0, c4, hcl5, hasg⟩)
  obtain ⟨t, a1, b1⟩ := kk (T.setVm vm') hT X'
  exact ⟨t, st.trans a1, b1⟩
end Rows
section Ends
variable {p : Program} {l : Launch} {e : Env} {R : Room} {s : State} {m : MethodId} {args : Array Value} {below : List Frame} {meth : Method} {c : Code} {H : Heap} {locs : List Loc} {cells slots : Nat} {Q : State → Prop}
variable {mc ms : Nat} {free : Addr → Prop} {A0 A1 : Nat → Prop} {H0 : Heap} {a : Array Value} {ls : Array Slot} {st0 rest : List Value}
variable {Qc : Array Value → State → Outcome → State → Prop} {XC : String → State → State → Prop}
/-- what a body that may throw owes at its end -/
def vx_MQ (below : List Frame) (Qc : Array Value → State → Outcome → State → Prop) (XC : String → State → State → Prop) (a : Array Value) (s : State) (mc ms : Nat) (free : Addr → Prop) : State → Prop := fun t =>
  ∃ o, t.status = .running ∧ Ended t below o ∧ vx_Q Qc XC mc ms free a s o t
theorem vx_ret {g : JFrame} {mc ms : Nat} (k : W p l e R s m args below meth c H locs cells slots (MQ below Qc args s mc ms free) g) : W p l e R s m args below meth c H locs cells slots (vx_MQ below Qc XC args s mc ms free) g := by
  intro T hT X
  obtain ⟨t, a1, o, b1, b2, b3, b4⟩ := k T hT X
  exact ⟨t, a1, o, b1, b2, Or.inl ⟨b3, b4⟩⟩
/-- not caught here: it goes on to the caller -/
theorem vx_widen {g : JFrame} {q : Addr} {k n : Nat} (h1 : cells ≤ k) (h2 : slots ≤ n) (kk : vx_W p l e R s m args below meth c H locs k n Q g q) : vx_W p l e R s m args below meth c H locs cells slots Q g q := fun T hT X => kk T hT (stand_widen X h1 h2)
theorem vx_out {pc : Nat} {E : String} {ce : Cell} {q : Addr} {mc ms : Nat} (hout : ∀ x ∈ c.exceptionTable.toList, covers x pc = false) (hlocks : meth.locks = false) (hcell : H[q]? = some ce) (hv : ce.vm = .none) (hcl : s.vm.findClass E = some ce.cls)
    (hx : ∀ t : State, t.heap = H → s.vm.Alike t.vm → XC E s t) (hf : ∀ z ∈ locs, free z.base) (hc : cells ≤ mc) (hs : slots ≤ ms) :
    vx_W p l e R s m args below meth c H locs cells slots (vx_MQ below Qc XC args s mc ms free) (F0 m pc ls rest) q := by
  intro T hT X
  obtain ⟨st1, hrun, hend, hW, hsm⟩ := X.leaveThrown q (g := F0 m pc ls rest) rfl rfl rfl hout hlocks
  have hcell9 : (T.setFrames (.throwing q :: below)).heap[q]? = some ce := by
    show T.heap[q]? = some ce
    rw [hT]; exact hcell
  exact ⟨_, st1, .threw q, hrun, hend, Or.inr ⟨q, rfl, E, ce, locs, hx _ hT hW.alike, hcell9, hv, hcl, hW, hsm.mono hc hs, hf⟩⟩
theorem vx_frame {U : State} {k n : Nat} (h : s.sameButNew ({ U with vm := s.vm } : State) locs k n) : s.heap.size ≤ U.heap.size ∧ ∀ q : Nat, q < s.heap.size → (∀ z ∈ locs, z.base ≠ q) → U.heap[q]? = s.heap[q]? := by
  obtain ⟨-, h2, -, -, -, h6⟩ := h
  refine ⟨h2, fun q hq hz => ?_⟩
  obtain ⟨c9, e1, e2, e3, e4⟩ := h6 q _ (Array.getElem?_eq_getElem hq)
  have hs : c9.slots = (s.heap[q]).slots := Array.ext_getElem? fun i => e4 i fun hm => hz _ hm rfl
  have h9 : c9 = s.heap[q] := by
    rw [hs] at e2
    exact e2
  have e5 : U.heap[q]? = some c9 := e1
  rw [e5, h9, Array.getElem?_eq_getElem hq]
/-- the words of a throw but the four that speak of the heap -/
def vx_no (w : Cond) : Bool := decide (w ≠ .isRef (.static Bundle.tN "UNASSIGNED_STACK" Bundle.steD)) && decide (w ≠ .isRef (.static Bundle.tN "SUPPRESSED_SENTINEL" Bundle.listD)) && decide (w ≠ .laysStatic Bundle.tN "UNASSIGNED_STACK" Bundle.steD) && decide (w ≠ .laysStatic Bundle.tN "SUPPRESSED_SENTINEL" Bundle.listD)
def vx_at0 (own : String) (ic : Nat) (X : String) (names : List String) : List Cond := (Bundle.ownAtoms0 own ic X names).filter vx_no
def vx_atS (own : String) (ic : Nat) (X : String) (names : List String) : List Cond := (Bundle.ownAtoms own ic X names).filter vx_no
/-- a word that the tables alone decide, or a good one -/
def vx_ot (w : Cond) : Bool := w.onTables || goodWord w
theorem vx_ot_at {args a' : Array Value} {s U : State} {w : Cond} (hW : s.WarmedH U.vm) (hvm : s.vm = U.vm) (hg : vx_ot w = true) (h : w.before args s = true) : w.before a' U = true := by
  simp only [vx_ot, Bool.or_eq_true] at hg
  rcases hg with hg | hg
  · exact va_tabs hg hvm h
  · exact word_at hW (good_of_word hg) h
/-- a list's words: the good ones out of the method's own list, the others by premises of their own -/
theorem vx_hat {args : Array Value} {s : State} {L B : List Cond} (h1 : ∀ w ∈ L.filter goodWord, w.before args s = true) (h2 : ∀ w ∈ L.filter (fun w => !goodWord w), w ∈ B) (h3 : ∀ w ∈ B, w.before args s = true) : ∀ w ∈ L, w.before args s = true := by
  intro w hw
  by_cases g : goodWord w = true
  · exact h1 w (List.mem_filter.mpr ⟨hw, g⟩)
  · refine h3 w (h2 w (List.mem_filter.mpr ⟨hw, ?_⟩))
    show (!goodWord w) = true
    cases hgw : goodWord w
    · rfl
    · exact absurd hgw g
theorem vx_c {args : Array Value} {s : State} {w : Cond} {B : List Cond} (h : w.before args s = true) (t : ∀ w ∈ B, w.before args s = true) : ∀ w' ∈ w :: B, w'.before args s = true := fun w' h' => (List.mem_cons.mp h').elim (fun e => by rw [e]; exact h) (t w')
theorem vx_n {args : Array Value} {s : State} : ∀ w ∈ ([] : List Cond), w.before args s = true := fun _ h => nomatch h
theorem vx_own {args : Array Value} {s : State} {L : List Cond} (h1 : ∀ w ∈ L.filter vx_no, w.before args s = true)
    (hU : (Cond.isRef (.static Bundle.tN "UNASSIGNED_STACK" Bundle.steD)).before args s = true) (hN : (Cond.isRef (.static Bundle.tN "SUPPRESSED_SENTINEL" Bundle.listD)).before args s = true)
    (lU : (Cond.laysStatic Bundle.tN "UNASSIGNED_STACK" Bundle.steD).before args s = true) (lN : (Cond.laysStatic Bundle.tN "SUPPRESSED_SENTINEL" Bundle.listD).before args s = true) : ∀ w ∈ L, w.before args s = true := by
  intro w hw
  by_cases e1 : w = .isRef (.static Bundle.tN "UNASSIGNED_STACK" Bundle.steD)
  · rw [e1]; exact hU
  · by_cases e2 : w = .isRef (.static Bundle.tN "SUPPRESSED_SENTINEL" Bundle.listD)
    · rw [e2]; exact hN
    · by_cases e3 : w = .laysStatic Bundle.tN "UNASSIGNED_STACK" Bundle.steD
      · rw [e3]; exact lU
      · by_cases e4 : w = .laysStatic Bundle.tN "SUPPRESSED_SENTINEL" Bundle.listD
        · rw [e4]; exact lN
        · exact h1 w (List.mem_filter.mpr ⟨hw, by unfold vx_no; rw [decide_eq_true e1, decide_eq_true e2, decide_eq_true e3, decide_eq_true e4]; rfl⟩)
/-- where a static field lies, its class's statics cell in H -/
def vx_L (C n d : String) (A : Nat → Prop) (U : State) (H : Heap) : Prop := ∃ (c : ClassId) (k : Class) (i : Nat) (f : Field) (a : Nat) (cell : Cell), U.vm.findClass C = some c ∧ U.fieldFound? C n d = some (c, k, i, f) ∧ f.isStatic = true ∧ k.statics = some a ∧ H[a]? = some cell ∧ cell.vm.isStatics = true ∧ cell.cls = c ∧ f.slot < cell.slots.size ∧ k.staticTypes[f.slot]? = some f.type ∧ ¬ A a
theorem vx_L.moved {C n d : String} {A : Nat → Prop} {u U : State} {H : Heap} (hvm : u.vm.Alike U.vm) (h : vx_L C n d A u H) : vx_L C n d A U H := by
  obtain ⟨c, k, i, f, a, cell, h1, h2, h3, h4, h5, h6, h7, h8, h9, h10⟩ := h
  obtain ⟨k', hi', he⟩ := State.fieldFound?_setVm hvm h2
  exact ⟨c, k', i, f, a, cell, by rw [hvm.findClass]; exact h1, hi', h3, by rw [he]; exact h4, h5, h6, h7, h8, by rw [he]; exact h9, h10⟩
theorem vx_L.kept {C n d : String} {A : Nat → Prop} {U : State} {H H1 : Heap} (h : vx_L C n d A U H) (hq : ∀ a : Nat, a < H.size → ¬ A a → H1[a]? = H[a]?) : vx_L C n d A U H1 := by
  obtain ⟨c, k, i, f, a, cell, h1, h2, h3, h4, h5, h6, h7, h8, h9, h10⟩ := h
  exact ⟨c, k, i, f, a, cell, h1, h2, h3, h4, by rw [hq a (Array.getElem?_eq_some_iff.mp h5).1 h10]; exact h5, h6, h7, h8, h9, h10⟩
theorem vx_L.narrow {C n d : String} {A B : Nat → Prop} {U : State} {H : Heap} (h : vx_L C n d A U H) (hAB : ∀ q, B q → A q) : vx_L C n d B U H := by
  obtain ⟨c, k, i, f, a, cell, h1, h2, h3, h4, h5, h6, h7, h8, h9, h10⟩ := h
  exact ⟨c, k, i, f, a, cell, h1, h2, h3, h4, h5, h6, h7, h8, h9, fun z => h10 (hAB _ z)⟩
theorem vx_L.word {C n d : String} {A : Nat → Prop} {s : State} {args : Array Value} (h : vx_L C n d A s s.heap) : (Cond.laysStatic C n d).before args s = true := by
  obtain ⟨c, k, i, f, a, cell, h1, h2, h3, h4, h5, h6, h7, h8, h9, -⟩ := h
  show (Cond.laysStatic C n d).holds args s none s [] = true
  exact Cond.laysStatic_of h1 h2 h3 h4 h5 h6 h7 h8 h9
/-- .. and what it holds: null or some reference -/
def vx_Zq (C n d : String) (A : Nat → Prop) (U : State) (H : Heap) : Prop := va_Zq C n d A U H ∧ vx_L C n d A U H
theorem vx_Zq.moved {C n d : String} {A : Nat → Prop} {u U : State} {H : Heap} (hvm : u.vm.Alike U.vm) (h : vx_Zq C n d A u H) : vx_Zq C n d A U H := ⟨va_Zq.moved hvm h.1, vx_L.moved hvm h.2⟩
theorem vx_Zq.kept {C n d : String} {A : Nat → Prop} {U : State} {H H1 : Heap} (h : vx_Zq C n d A U H) (hq : ∀ a : Nat, a < H.size → ¬ A a → H1[a]? = H[a]?) : vx_Zq C n d A U H1 := ⟨va_Zq.kept h.1 hq, vx_L.kept h.2 hq⟩
theorem vx_Zq.narrow {C n d : String} {A B : Nat → Prop} {U : State} {H : Heap} (h : vx_Zq C n d A U H) (hAB : ∀ q, B q → A q) : vx_Zq C n d B U H := ⟨va_Zq.narrow h.1 hAB, vx_L.narrow h.2 hAB⟩
theorem vx_Zqof {args : Array Value} {s : State} {C n d : String} {A : Nat → Prop} (hl : (Cond.laysStatic C n d).before args s = true) (hini : (Cond.initialized C).before args s = true) (h : (Cond.isRef (.static C n d)).before args s = true) (hA : ∀ a : Nat, a < s.heap.size → ¬ A a) : vx_Zq C n d A s s.heap := by
  refine ⟨va_Zqof hl hini h hA, ?_⟩
  obtain ⟨c, k, i, f, a, cell, h1, h2, h3, h4, h5, h6, h7, h8, h9⟩ := Cond.laysStatic_spec hl
  exact ⟨c, k, i, f, a, cell, h1, h2, h3, h4, h5, h6, h7, h8, h9, hA a (Array.getElem?_eq_some_iff.mp h5).1⟩
theorem vx_isRef {C n d : String} {v : Value} {A : Nat → Prop} {s : State} {args : Array Value} (h : va_Z C n d v A s s.heap) (hv : v.isRef = true) : (Cond.isRef (.static C n d)).before args s = true := by
  obtain ⟨cf, kf, fi, f, a, cell, h1, h2, h3, h4, h5, h6, h7, -⟩ := h
  have he : (Term.static C n d).eval args s none [] s = some v := by
    simp [Term.eval, State.fieldNamed?, h1, h2, h4, h5, h6, h7]
  simp only [Cond.before, Cond.holds, Cond.value, he]
  cases v <;> simp_all [Value.isRef]
theorem vx_isRefq {C n d : String} {A : Nat → Prop} {s : State} {args : Array Value} (h : va_Zq C n d A s s.heap) : (Cond.isRef (.static C n d)).before args s = true := by
  rcases h with h | ⟨t, h⟩
  · exact vx_isRef h rfl
  · exact vx_isRef h rfl
/-- the same frame, seen from here: as if the method were called anew in this heap -/
theorem vx_rebase {T : State} (X : Stand p l e R s m args below meth c T locs cells slots) {R' : Room} (hf : R'.frames ≤ R.frames) (hl : R'.locals ≤ R.locals) (hc : cells + R'.cells ≤ R.cells) (hs : slots + R'.slots ≤ R.slots) :
    Stand p l e R' ((T.setVm s.vm).setFrames (.invoking m args :: below)) m args below meth c T [] 0 0 := by
  have htop : (T.setVm s.vm).topJava?.isSome := X.here.top
  have hF : ((T.setVm s.vm).setFrames (.invoking m args :: below)).frames = .invoking m args :: below := State.frames_setFrames _ (State.cur_lt_of_top htop)
  obtain ⟨g₀, hg0⟩ := Option.isSome_iff_exists.mp htop
  obtain ⟨r, hr⟩ := State.topJava?_eq_some.mp hg0
  have hl9 : e.platform.stackLimits (T.setVm s.vm).me = e.platform.stackLimits s.me := X.limits
  have hb9 : (T.setVm s.vm).me.stackBytes = s.me.stackBytes := X.bytes
  refine ⟨X.admits, X.cas, X.clock, hF, ?_, X.hears, X.method, X.code, X.here, X.tail, X.warmed, ?_, ?_, ?_⟩
  · have h := X.room
    have hU : ((T.setVm s.vm).setFrames (.invoking m args :: below)).localsInUse = s.localsInUse := by
      rw [State.localsInUse_invoking hF (meth := meth) (c := c) X.method X.code, State.localsInUse_invoking X.frames X.method X.code]
    simp only [State.hasRoom, Bool.and_eq_true, decide_eq_true_eq] at h ⊢
    obtain ⟨⟨⟨⟨h1, h2, h3, h4, h5, h6⟩, h7⟩, h8⟩, h9⟩ := h
    rw [X.frames, List.length_cons] at h2 h3
    have q1 := X.heapSize
    have q2 := X.used
    simp only [hF, hU, List.length_cons, State.stackLimits_setFrames, State.stackBytes_setFrames, hl9, hb9]
    refine ⟨⟨⟨⟨by omega, by omega, by omega, by omega, by omega, h6⟩, ?_⟩, ?_⟩, X.book⟩
    · show T.heap.size + R'.cells ≤ e.platform.maxCells
      omega
    · show T.slotsUsed + R'.slots ≤ e.platform.maxSlots
      omega
  · rw [State.stackLimits_setFrames]; rfl
  · rw [State.stackBytes_setFrames]; rfl
  · refine ⟨?_, Nat.le_refl _, Nat.le_refl _, ?_, ?_, fun a c9 h9 => ⟨c9, h9, rfl, rfl, fun _ _ => rfl⟩⟩
    · obtain ⟨t, ht, -⟩ := State.frames_cons hr
      show T.setVm s.vm = { ((T.setVm s.vm).setFrames (.invoking m args :: below)).setFrames (T.setVm s.vm).frames with heap := T.heap, slotsUsed := T.slotsUsed }
      rw [State.setFrames_setFrames, State.setFrames_self ht]
      rfl
    · show T.slotsUsed = T.slotsUsed + ((T.heap.toList.drop T.heap.size).map (·.slots.size)).sum
      rw [List.drop_eq_nil_of_le (Nat.le_of_eq Array.length_toList)]
      rfl
    · show ((T.heap.toList.drop T.heap.size).map (·.slots.size)).sum ≤ 0
      rw [List.drop_eq_nil_of_le (Nat.le_of_eq Array.length_toList)]
      exact Nat.le_refl _
/-- 'throw new E()': new; dup; invokespecial; athrow -/
theorem vx_throw0 {cc : ByteArray} {pc : Nat} (hexec : p.tables.exec = Jvm.exec) (hb : c.code = cc) (hl : l.stackTraces = false) {own cls : String} {names : List String} {ik ic mc ms : Nat} {A : Nat → Prop}
    (hown : s.vm.findClass own = some m.cls) (hcls : Bundle.fit cls = true) (hnames : ∀ n ∈ names, Bundle.fit n = true)
    (hk : (Cond.classLink own ik cls).before args s = true) (hini : (Cond.initialized cls).before args s = true) (hat : ∀ w ∈ vx_at0 own ic cls names, w.before args s = true)
    (hgood : ∀ w ∈ Cond.classLink own ik cls :: Cond.initialized cls :: vx_at0 own ic cls names, vx_ot w = true)
    (hU : vx_Zq Bundle.tN "UNASSIGNED_STACK" Bundle.steD A s s.heap) (hN : vx_Zq Bundle.tN "SUPPRESSED_SENTINEL" Bundle.listD A s s.heap) (hS : va_S A s.heap H locs) (hsize : ls.size = c.maxLocals)
    (d0 : decode cc pc = .ok (.new ik, 3)) (d3 : decode cc (pc + 3) = .ok (.dup, 1)) (d4 : decode cc (pc + 4) = .ok (.invokespecial ic, 3)) (d7 : decode cc (pc + 7) = .ok (.athrow, 1))
    (hout : ∀ x ∈ c.exceptionTable.toList, covers x (pc + 7) = false)
    (hRframes : names.length + 3 < R.frames) (hRlocals : (rest.map fun v => v.category).sum + (13 * (names.length + 1) + 42) ≤ R.locals) (hRcells : cells + 1 ≤ R.cells) (hRslots : slots + 6 ≤ R.slots) (hlocks : meth.locks = false)
    (hx : ∀ t : State, s.vm.Alike t.vm → H.size ≤ t.heap.size → (∀ q : Nat, q < H.size → t.heap[q]? = H[q]?) → XC cls s t)
    (hf : ∀ z ∈ locs, free z.base) (hc : cells + 1 ≤ mc) (hs : slots + 6 ≤ ms) :
    W p l e R s m args below meth c H locs cells slots (vx_MQ below Qc XC args s mc ms free) (F0 m pc ls rest) := by
  intro T hT X
  have htr : e.platform.stackTraces = false := (show e.platform.stackTraces = l.stackTraces by rw [X.admits.platform]).trans hl
  have Y := vx_rebase X (R' := { frames := R.frames, locals := R.locals, cells := 1, slots := 6 }) (Nat.le_refl _) (Nat.le_refl _) hRcells hRslots
  obtain ⟨s', hA⟩ : ∃ z, z = (T.setVm s.vm).setFrames (.invoking m args :: below) := ⟨_, rfl⟩
  rw [← hA] at Y
  have hvm : s'.vm = s.vm := by rw [hA]; rfl
  have hhp : s'.heap = H := by rw [hA]; exact hT
  have hW0 : s.WarmedH s'.vm := by rw [hvm]; exact State.WarmedH.refl s
  have hat' : ∀ w ∈ vx_at0 own ic cls names, w.before args s' = true := fun w hw => vx_ot_at hW0 hvm.symm (hgood w (List.mem_cons_of_mem _ (List.mem_cons_of_mem _ hw))) (hat w hw)
  have hk' : (Cond.classLink own ik cls).before args s' = true := vx_ot_at hW0 hvm.symm (hgood _ List.mem_cons_self) hk
  have hini' : (Cond.initialized cls).before args s' = true := vx_ot_at hW0 hvm.symm (hgood _ (List.mem_cons_of_mem _ List.mem_cons_self)) hini
  have hU' : vx_Zq Bundle.tN "UNASSIGNED_STACK" Bundle.steD A s' s'.heap := by rw [hhp]; exact vx_Zq.moved hW0.alike (hU.kept hS.2.1)
  have hN' : vx_Zq Bundle.tN "SUPPRESSED_SENTINEL" Bundle.listD A s' s'.heap := by rw [hhp]; exact vx_Zq.moved hW0.alike (hN.kept hS.2.1)
  have h : ∀ w ∈ Bundle.ownAtoms0 own ic cls names, w.before args s' = true := vx_own hat' (vx_isRefq hU'.1) (vx_isRefq hN'.1) hU'.2.word hN'.2.word
  have hown' : s'.vm.findClass own = some m.cls := by rw [hvm]; exact hown
  have hins : (Cond.instantiable cls 6).before args s' = true := h _ (by simp [Bundle.ownAtoms0])
  obtain ⟨vm₁, cX, kX, hfX, hkX, -, -, X₁, st1⟩ := Y.newCold hexec (own := own) (C := cls) (index := ik) (n := 6) hown' hk' hins hini'
    (g := F0 m pc ls rest) rfl (by rw [hb]; exact d0) (Nat.le_refl _) (Nat.le_refl _)
  generalize hT1 : (T.setVm vm₁).pushCell { cls := cX, slots := kX.instanceTypes.map defaultValue, vm := .none } = T1 at X₁ st1
  have hcat : (Value.ref T.heap.size).category = 1 := rfl
  have hcellA : T1.heap[T.heap.size]? = some (freshCell cX kX) := by rw [← hT1]; exact State.heap_pushCell_size _ _
  have d3' : decode c.code (pc + 3) = .ok (.dup, 1) := by rw [hb]; exact d3
  obtain ⟨U, hsteps, hrun, hend, hW, hsame, ce, hce, hO⟩ := X₁.ctorThrow0 hexec htr (own := own) (cls := cls) (names := names) (ic := ic) hown' hcls hnames h (fun x hx => nomatch hx) hfX hkX hcellA (by rw [hhp, hT]; exact Nat.le_refl _)
    (g := { method := m, pc := pc + 4, locals := ls, stack := .ref T.heap.size :: .ref T.heap.size :: rest, locked := none }) rfl hsize rfl rfl (rest := rest) rfl
    (by rw [hb]; exact d4) (by rw [hb]; exact d7) hout hRframes (by simp only [List.map_cons, List.sum_cons, hcat]; omega) hlocks
  obtain ⟨f1, f2⟩ := vx_frame hsame
  rw [hhp] at f1 f2
  have hWs : s.WarmedH U.vm := State.WarmedH.trans hW0 hW
  have hcl : s.vm.findClass cls = some ce.cls := by
    have h9 := hO.cls
    rw [hvm] at h9
    exact h9
  have hall : s.sameButNew ({ U with vm := s.vm } : State) locs mc ms := by
    subst hA
    obtain ⟨e1, e2⟩ := hsame
    rw [State.setFrames_setFrames] at e1
    have h2 : (T.setVm s.vm).sameButNew ({ U with vm := s.vm } : State) [] (0 + 1) (0 + 6) := ⟨e1, e2⟩
    have h3 := X.same.trans h2
    rw [List.append_nil] at h3
    exact h3.mono hc hs
  refine ⟨U, ?_, .threw T.heap.size, hrun, hend, Or.inr ⟨T.heap.size, rfl, cls, ce, locs, hx U hWs.alike f1 (fun q hq => f2 q hq (fun z hz => nomatch hz)), hce, hO.vm, hcl, hWs, hall, hf⟩⟩
  refine st1 _ ?_
  show Steps p.tables e below (T1.setTop { method := m, pc := pc + 3, locals := ls, stack := .ref T.heap.size :: rest, locked := none }) _
  jvm_step X₁.here [X₁.here.top, hexec, d3', Value.category]
  exact hsteps
/-- 'throw new E("text")': new; dup; ldc; invokespecial; athrow -/
theorem vx_throwS {cc : ByteArray} {pc : Nat} (hexec : p.tables.exec = Jvm.exec) (hb : c.code = cc) (hl : l.stackTraces = false) {own cls text : String} {names : List String} {ik is ic mc ms sa : Nat} {A : Nat → Prop}
    (hown : s.vm.findClass own = some m.cls) (hcls : Bundle.fit cls = true) (hnames : ∀ n ∈ names, Bundle.fit n = true)
    (hk : (Cond.classLink own ik cls).before args s = true) (hini : (Cond.initialized cls).before args s = true) (hstr : vk_R own is text sa s) (hat : ∀ w ∈ vx_atS own ic cls names, w.before args s = true)
    (hgood : ∀ w ∈ Cond.classLink own ik cls :: Cond.initialized cls :: vx_atS own ic cls names, vx_ot w = true)
    (hU : vx_Zq Bundle.tN "UNASSIGNED_STACK" Bundle.steD A s s.heap) (hN : vx_Zq Bundle.tN "SUPPRESSED_SENTINEL" Bundle.listD A s s.heap) (hS : va_S A s.heap H locs) (hsize : ls.size = c.maxLocals)
    (d0 : decode cc pc = .ok (.new ik, 3)) (d3 : decode cc (pc + 3) = .ok (.dup, 1)) (d4 : decode cc (pc + 4) = .ok (.ldc is, 2)) (d6 : decode cc (pc + 6) = .ok (.invokespecial ic, 3)) (d9 : decode cc (pc + 9) = .ok (.athrow, 1))
    (hout : ∀ x ∈ c.exceptionTable.toList, covers x (pc + 9) = false)
    (hRframes : names.length + 3 < R.frames) (hRlocals : (rest.map fun v => v.category).sum + (13 * (names.length + 1) + 43) ≤ R.locals) (hRcells : cells + 1 ≤ R.cells) (hRslots : slots + 6 ≤ R.slots) (hlocks : meth.locks = false)
    (hx : ∀ t : State, s.vm.Alike t.vm → H.size ≤ t.heap.size → (∀ q : Nat, q < H.size → t.heap[q]? = H[q]?) → XC cls s t)
    (hf : ∀ z ∈ locs, free z.base) (hc : cells + 1 ≤ mc) (hs : slots + 6 ≤ ms) :
    W p l e R s m args below meth c H locs cells slots (vx_MQ below Qc XC args s mc ms free) (F0 m pc ls rest) := by
  intro T hT X
  have htr : e.platform.stackTraces = false := (show e.platform.stackTraces = l.stackTraces by rw [X.admits.platform]).trans hl
  have Y := vx_rebase X (R' := { frames := R.frames, locals := R.locals, cells := 1, slots := 6 }) (Nat.le_refl _) (Nat.le_refl _) hRcells hRslots
  obtain ⟨s', hA⟩ : ∃ z, z = (T.setVm s.vm).setFrames (.invoking m args :: below) := ⟨_, rfl⟩
  rw [← hA] at Y
  have hvm : s'.vm = s.vm := by rw [hA]; rfl
  have hhp : s'.heap = H := by rw [hA]; exact hT
  have hW0 : s.WarmedH s'.vm := by rw [hvm]; exact State.WarmedH.refl s
  have hat' : ∀ w ∈ vx_atS own ic cls names, w.before args s' = true := fun w hw => vx_ot_at hW0 hvm.symm (hgood w (List.mem_cons_of_mem _ (List.mem_cons_of_mem _ hw))) (hat w hw)
  have hk' : (Cond.classLink own ik cls).before args s' = true := vx_ot_at hW0 hvm.symm (hgood _ List.mem_cons_self) hk
  have hini' : (Cond.initialized cls).before args s' = true := vx_ot_at hW0 hvm.symm (hgood _ (List.mem_cons_of_mem _ List.mem_cons_self)) hini
  have hU' : vx_Zq Bundle.tN "UNASSIGNED_STACK" Bundle.steD A s' s'.heap := by rw [hhp]; exact vx_Zq.moved hW0.alike (hU.kept hS.2.1)
  have hN' : vx_Zq Bundle.tN "SUPPRESSED_SENTINEL" Bundle.listD A s' s'.heap := by rw [hhp]; exact vx_Zq.moved hW0.alike (hN.kept hS.2.1)
  have h : ∀ w ∈ Bundle.ownAtoms own ic cls names, w.before args s' = true := vx_own hat' (vx_isRefq hU'.1) (vx_isRefq hN'.1) hU'.2.word hN'.2.word
  have hown' : s'.vm.findClass own = some m.cls := by rw [hvm]; exact hown
  have hins : (Cond.instantiable cls 6).before args s' = true := h _ (by simp [Bundle.ownAtoms])
  obtain ⟨vm₁, cX, kX, hfX, hkX, -, -, X₁, st1⟩ := Y.newCold hexec (own := own) (C := cls) (index := ik) (n := 6) hown' hk' hins hini'
    (g := F0 m pc ls rest) rfl (by rw [hb]; exact d0) (Nat.le_refl _) (Nat.le_refl _)
  generalize hT1 : (T.setVm vm₁).pushCell { cls := cX, slots := kX.instanceTypes.map defaultValue, vm := .none } = T1 at X₁ st1
  have hcat : (Value.ref T.heap.size).category = 1 := rfl
  have hcellA : T1.heap[T.heap.size]? = some (freshCell cX kX) := by rw [← hT1]; exact State.heap_pushCell_size _ _
  have d3' : decode c.code (pc + 3) = .ok (.dup, 1) := by rw [hb]; exact d3
  have d4' : decode c.code (pc + 4) = .ok (.ldc is, 2) := by rw [hb]; exact d4
  have hstr' : vk_R own is text sa s' := vk_R.warm hW0 hstr
  obtain ⟨U, hsteps, hrun, hend, hW, hsame, ce, hce, hO⟩ := X₁.ctorThrowS hexec htr (own := own) (cls := cls) (names := names) (ic := ic) hown' hcls hnames h (fun x hx => nomatch hx) hfX hkX hcellA (by rw [hhp, hT]; exact Nat.le_refl _) (msg := .ref sa) rfl
    (g := { method := m, pc := pc + 6, locals := ls, stack := .ref sa :: .ref T.heap.size :: .ref T.heap.size :: rest, locked := none }) rfl hsize rfl rfl (rest := rest) rfl
    (by rw [hb]; exact d6) (by rw [hb]; exact d9) hout hRframes (by simp only [List.map_cons, List.sum_cons, hcat]; omega) hlocks
  obtain ⟨f1, f2⟩ := vx_frame hsame
  rw [hhp] at f1 f2
  have hWs : s.WarmedH U.vm := State.WarmedH.trans hW0 hW
  have hcl : s.vm.findClass cls = some ce.cls := by
    have h9 := hO.cls
    rw [hvm] at h9
    exact h9
  have hall : s.sameButNew ({ U with vm := s.vm } : State) locs mc ms := by
    subst hA
    obtain ⟨e1, e2⟩ := hsame
    rw [State.setFrames_setFrames] at e1
    have h2 : (T.setVm s.vm).sameButNew ({ U with vm := s.vm } : State) [] (0 + 1) (0 + 6) := ⟨e1, e2⟩
    have h3 := X.same.trans h2
    rw [List.append_nil] at h3
    exact h3.mono hc hs
  refine ⟨U, ?_, .threw T.heap.size, hrun, hend, Or.inr ⟨T.heap.size, rfl, cls, ce, locs, hx U hWs.alike f1 (fun q hq => f2 q hq (fun z hz => nomatch hz)), hce, hO.vm, hcl, hWs, hall, hf⟩⟩
  refine st1 _ ?_
  show Steps p.tables e below (T1.setTop { method := m, pc := pc + 3, locals := ls, stack := .ref T.heap.size :: rest, locked := none }) _
  jvm_step X₁.here [X₁.here.top, hexec, d3', Value.category]
  exact X₁.ldcString hexec (own := own) (text := text) (index := is) (a := sa) hown' hstr'.1 hstr'.2
    (g := { method := m, pc := pc + 4, locals := ls, stack := .ref T.heap.size :: .ref T.heap.size :: rest, locked := none }) rfl d4' _ hsteps
/-- 'throw new E("text")', the text by a wide index -/
theorem vx_throwSW {cc : ByteArray} {pc : Nat} (hexec : p.tables.exec = Jvm.exec) (hb : c.code = cc) (hl : l.stackTraces = false) {own cls text : String} {names : List String} {ik is ic mc ms sa : Nat} {A : Nat → Prop}
    (hown : s.vm.findClass own = some m.cls) (hcls : Bundle.fit cls = true) (hnames : ∀ n ∈ names, Bundle.fit n = true)
    (hk : (Cond.classLink own ik cls).before args s = true) (hini : (Cond.initialized cls).before args s = true) (hstr : vk_R own is text sa s) (hat : ∀ w ∈ vx_atS own ic cls names, w.before args s = true)
    (hgood : ∀ w ∈ Cond.classLink own ik cls :: Cond.initialized cls :: vx_atS own ic cls names, vx_ot w = true)
    (hU : vx_Zq Bundle.tN "UNASSIGNED_STACK" Bundle.steD A s s.heap) (hN : vx_Zq Bundle.tN "SUPPRESSED_SENTINEL" Bundle.listD A s s.heap) (hS : va_S A s.heap H locs) (hsize : ls.size = c.maxLocals)
    (d0 : decode cc pc = .ok (.new ik, 3)) (d3 : decode cc (pc + 3) = .ok (.dup, 1)) (d4 : decode cc (pc + 4) = .ok (.ldc_w is, 3)) (d7 : decode cc (pc + 7) = .ok (.invokespecial ic, 3)) (d10 : decode cc (pc + 10) = .ok (.athrow, 1))
    (hout : ∀ x ∈ c.exceptionTable.toList, covers x (pc + 10) = false)
    (hRframes : names.length + 3 < R.frames) (hRlocals : (rest.map fun v => v.category).sum + (13 * (names.length + 1) + 43) ≤ R.locals) (hRcells : cells + 1 ≤ R.cells) (hRslots : slots + 6 ≤ R.slots) (hlocks : meth.locks = false)
    (hx : ∀ t : State, s.vm.Alike t.vm → H.size ≤ t.heap.size → (∀ q : Nat, q < H.size → t.heap[q]? = H[q]?) → XC cls s t)
    (hf : ∀ z ∈ locs, free z.base) (hc : cells + 1 ≤ mc) (hs : slots + 6 ≤ ms) :
    W p l e R s m args below meth c H locs cells slots (vx_MQ below Qc XC args s mc ms free) (F0 m pc ls rest) := by
  intro T hT X
  have htr : e.platform.stackTraces = false := (show e.platform.stackTraces = l.stackTraces by rw [X.admits.platform]).trans hl
  have Y := vx_rebase X (R' := { frames := R.frames, locals := R.locals, cells := 1, slots := 6 }) (Nat.le_refl _) (Nat.le_refl _) hRcells hRslots
  obtain ⟨s', hA⟩ : ∃ z, z = (T.setVm s.vm).setFrames (.invoking m args :: below) := ⟨_, rfl⟩
  rw [← hA] at Y
  have hvm : s'.vm = s.vm := by rw [hA]; rfl
  have hhp : s'.heap = H := by rw [hA]; exact hT
  have hW0 : s.WarmedH s'.vm := by rw [hvm]; exact State.WarmedH.refl s
  have hat' : ∀ w ∈ vx_atS own ic cls names, w.before args s' = true := fun w hw => vx_ot_at hW0 hvm.symm (hgood w (List.mem_cons_of_mem _ (List.mem_cons_of_mem _ hw))) (hat w hw)
  have hk' : (Cond.classLink own ik cls).before args s' = true := vx_ot_at hW0 hvm.symm (hgood _ List.mem_cons_self) hk
  have hini' : (Cond.initialized cls).before args s' = true := vx_ot_at hW0 hvm.symm (hgood _ (List.mem_cons_of_mem _ List.mem_cons_self)) hini
  have hU' : vx_Zq Bundle.tN "UNASSIGNED_STACK" Bundle.steD A s' s'.heap := by rw [hhp]; exact vx_Zq.moved hW0.alike (hU.kept hS.2.1)
  have hN' : vx_Zq Bundle.tN "SUPPRESSED_SENTINEL" Bundle.listD A s' s'.heap := by rw [hhp]; exact vx_Zq.moved hW0.alike (hN.kept hS.2.1)
  have h : ∀ w ∈ Bundle.ownAtoms own ic cls names, w.before args s' = true := vx_own hat' (vx_isRefq hU'.1) (vx_isRefq hN'.1) hU'.2.word hN'.2.word
  have hown' : s'.vm.findClass own = some m.cls := by rw [hvm]; exact hown
  have hins : (Cond.instantiable cls 6).before args s' = true := h _ (by simp [Bundle.ownAtoms])
  obtain ⟨vm₁, cX, kX, hfX, hkX, -, -, X₁, st1⟩ := Y.newCold hexec (own := own) (C := cls) (index := ik) (n := 6) hown' hk' hins hini'
    (g := F0 m pc ls rest) rfl (by rw [hb]; exact d0) (Nat.le_refl _) (Nat.le_refl _)
  generalize hT1 : (T.setVm vm₁).pushCell { cls := cX, slots := kX.instanceTypes.map defaultValue, vm := .none } = T1 at X₁ st1
  have hcat : (Value.ref T.heap.size).category = 1 := rfl
  have hcellA : T1.heap[T.heap.size]? = some (freshCell cX kX) := by rw [← hT1]; exact State.heap_pushCell_size _ _
  have d3' : decode c.code (pc + 3) = .ok (.dup, 1) := by rw [hb]; exact d3
  have d4' : decode c.code (pc + 4) = .ok (.ldc_w is, 3) := by rw [hb]; exact d4
  have hstr' : vk_R own is text sa s' := vk_R.warm hW0 hstr
  obtain ⟨U, hsteps, hrun, hend, hW, hsame, ce, hce, hO⟩ := X₁.ctorThrowS hexec htr (own := own) (cls := cls) (names := names) (ic := ic) hown' hcls hnames h (fun x hx => nomatch hx) hfX hkX hcellA (by rw [hhp, hT]; exact Nat.le_refl _) (msg := .ref sa) rfl
    (g := { method := m, pc := pc + 7, locals := ls, stack := .ref sa :: .ref T.heap.size :: .ref T.heap.size :: rest, locked := none }) rfl hsize rfl rfl (rest := rest) rfl
    (by rw [hb]; exact d7) (by rw [hb]; exact d10) hout hRframes (by simp only [List.map_cons, List.sum_cons, hcat]; omega) hlocks
  obtain ⟨f1, f2⟩ := vx_frame hsame
  rw [hhp] at f1 f2
  have hWs : s.WarmedH U.vm := State.WarmedH.trans hW0 hW
  have hcl : s.vm.findClass cls = some ce.cls := by
    have h9 := hO.cls
    rw [hvm] at h9
    exact h9
  have hall : s.sameButNew ({ U with vm := s.vm } : State) locs mc ms := by
    subst hA
    obtain ⟨e1, e2⟩ := hsame
    rw [State.setFrames_setFrames] at e1
    have h2 : (T.setVm s.vm).sameButNew ({ U with vm := s.vm } : State) [] (0 + 1) (0 + 6) := ⟨e1, e2⟩
    have h3 := X.same.trans h2
    rw [List.append_nil] at h3
    exact h3.mono hc hs
  refine ⟨U, ?_, .threw T.heap.size, hrun, hend, Or.inr ⟨T.heap.size, rfl, cls, ce, locs, hx U hWs.alike f1 (fun q hq => f2 q hq (fun z hz => nomatch hz)), hce, hO.vm, hcl, hWs, hall, hf⟩⟩
  refine st1 _ ?_
  show Steps p.tables e below (T1.setTop { method := m, pc := pc + 3, locals := ls, stack := .ref T.heap.size :: rest, locked := none }) _
  jvm_step X₁.here [X₁.here.top, hexec, d3', Value.category]
  exact X₁.ldcStringW hexec (own := own) (text := text) (index := is) (a := sa) hown' hstr'.1 hstr'.2
    (g := { method := m, pc := pc + 4, locals := ls, stack := .ref T.heap.size :: .ref T.heap.size :: rest, locked := none }) rfl d4' _ hsteps
end Ends
section Bodies
variable {l : Launch}
theorem vx_ofW {y : MethodName} {ws ws' : List Cond} {rm : Room} {Pc : Array Value → State → Prop} {Qc : Array Value → State → Outcome → State → Prop} {XC : String → State → State → Prop} {mc ms : Nat} {free : Addr → Prop} {cc : ByteArray} {maxL : Nat} {ret : Option FieldType}
    (hy : plainName y.cls = true) (hw : ws = Cond.code y cc maxL ret :: ws')
    (body : ∀ p e s m args below meth c s₁, BodyLoose p l y (headSpec ws rm) cc maxL ret e s m args below meth c s₁ → c.maxLocals = maxL → (∀ x ∈ c.exceptionTable.toList, False) → Pc args s →
      W p l e (headSpec ws rm).room s m args below meth c s.heap [] 0 0 (vx_MQ below Qc XC args s mc ms free) (entryFrame m args maxL)) : vx_Met l y ws rm Pc Qc XC mc ms free := by
  refine MetFree.of_bodyS (code := cc) (maxLocals := maxL) (ret := ret) hy ?_ ?_
  · intro args s m h hn
    obtain ⟨meth, c, h1, h2, h3, h4, h5, h6, -, -⟩ := Cond.code_spec hn (atoms_spec (ws := ws) h _ (by rw [hw]; exact List.mem_cons_self))
    exact ⟨meth, c, h1, h2, h3, h4, h5, h6⟩
  · intro p e s m args below meth c s₁ B hml hP _
    have hh0 : s₁.heap = s.heap := by rw [B.state]; rfl
    have ht : ∀ x ∈ c.exceptionTable.toList, False := by
      obtain ⟨meth9, c9, h1, h2, -, -, -, -, h7, -⟩ := Cond.code_spec B.named (atoms_spec (ws := ws) B.pre _ (by rw [hw]; exact List.mem_cons_self))
      cases Option.some.inj (h1.symm.trans B.method)
      cases Option.some.inj (h2.symm.trans (Stand.of_body B).code)
      intro x hx
      rw [Array.isEmpty_iff.mp h7] at hx
      cases hx
    obtain ⟨t, a1, o, b1, b2, b3⟩ := body p e s m args below meth c s₁ B hml ht hP s₁ hh0 (Stand.of_body B)
    exact ⟨t, o, a1, b1, b2, b3⟩
/-- the table of a body with handlers -/
theorem vx_table {p : Program} {x y : MethodName} {S : Spec} {cc bytes : ByteArray} {maxL maxL' : Nat} {ret ret' : Option FieldType} {e : Env} {s s₁ : State} {m : MethodId} {args : Array Value} {below : List Frame} {meth : Method} {c : Code} {hh : List (Nat × Nat × Nat × Nat)}
    (B : BodyLoose p l y S cc maxL ret e s m args below meth c s₁) (h : (Cond.codeWith y bytes maxL' ret' hh).before args s = true) : c.exceptionTable.toList = tableOf hh := by
  obtain ⟨m9, meth9, c9, hn9, h1, h2, -, -, h6, -⟩ := Cond.codeWith_spec h
  cases Option.some.inj (hn9.symm.trans B.named)
  cases Option.some.inj (h1.symm.trans B.method)
  cases Option.some.inj (h2.symm.trans (Stand.of_body B).code)
  rw [← h6, table_eq]
end Bodies
end VXA
/-! ===== END ===== -/
/-! ===== BEGIN a static call of a method with an exception table ===== -/
section VXS
variable {p : Program} {l : Launch} {e : Env} {R : Room} {s : State} {m : MethodId} {args : Array Value} {below : List Frame} {meth : Method} {c : Code} {T : State} {H : Heap} {locs : List Loc} {cells slots : Nat}
abbrev vx_CSW (R : Room) (s : State) (args : Array Value) (own : String) (index : Nat) (y : MethodName) (bytes : ByteArray) (maxL : Nat) (ret : Option FieldType) (hh : List (Nat × Nat × Nat × Nat)) (ws : List Cond) (rm : Room) (mc ms n : Nat) : Prop :=
  (rm.cells = mc ∧ rm.slots = ms ∧ rm.frames + 1 ≤ R.frames ∧ 8 + (maxL + 11) + rm.locals ≤ R.locals ∧ (∀ w ∈ ws, ∀ (a' : Array Value) (U : State), s.WarmedH U.vm → w.before a' U = true) ∧ Cond.codeWith y bytes maxL ret hh ∈ ws) ∧
  (Cond.codeWith y bytes maxL ret hh).before args s = true ∧ (Cond.initialized y.cls).before args s = true ∧ (y.cls ≠ "java/lang/invoke/MethodHandle" ∧ y.cls ≠ "java/lang/invoke/VarHandle") ∧
  (∀ sig, parseMethodDescriptor y.desc = some sig → n = sig.parameters.length) ∧ (Cond.methodLink own index y).before args s = true ∧ (Cond.static y).before args s = true
theorem vx_cwSW {own : String} {index maxL mc ms : Nat} {y : MethodName} {bytes : ByteArray} {ret : Option FieldType} {hh : List (Nat × Nat × Nat × Nat)} {Ts ws ws' : List Cond} {rm : Room} (n : Nat) (ht : ∀ w ∈ Ts, w.before args s = true) (hT : GoodIn Ts (va_wsS own index y ws)) (hw : ws = Cond.codeWith y bytes maxL ret hh :: ws') (hrc : rm.cells = mc) (hrs : rm.slots = ms)
    (hd : y.cls ≠ "java/lang/invoke/MethodHandle" ∧ y.cls ≠ "java/lang/invoke/VarHandle" ∧ (parseMethodDescriptor y.desc).map (fun d => d.parameters.length) = some n) (hR : rm.frames + 1 ≤ R.frames ∧ 8 + (maxL + 11) + rm.locals ≤ R.locals) :
    vx_CSW R s args own index y bytes maxL ret hh ws rm mc ms n := by
  have ok : ∀ w ∈ va_wsS own index y ws, w.before args s = true := fun w h => ht w (hT w h).1
  have hG : GoodIn Ts ws := fun w h => hT w (by unfold va_wsS; exact List.mem_append_right _ h)
  have hc : Cond.codeWith y bytes maxL ret hh ∈ ws := by rw [hw]; exact List.mem_cons_self
  refine ⟨⟨hrc, hrs, hR.1, hR.2, pay_in ht hG, hc⟩, ht _ (hG _ hc).1, ok _ (by simp [va_wsS]), ⟨hd.1, hd.2.1⟩, fun sig h => ?_, ok _ (by simp [va_wsS]), ok _ (by simp [va_wsS])⟩
  have h2 := hd.2.2
  rw [h] at h2
  exact (Option.some.inj h2).symm
theorem vx_callSW (X : Stand p l e R s m args below meth c T locs cells slots) (hexec : p.tables.exec = Jvm.exec) {own : String} {index : Nat} {y : MethodName} {bytes : ByteArray} {maxL : Nat} {ret : Option FieldType} {hh : List (Nat × Nat × Nat × Nat)}
    (hown : s.vm.findClass own = some m.cls) (hlink : (Cond.methodLink own index y).before args s = true) (hstat : (Cond.static y).before args s = true) (hinit : (Cond.initialized y.cls).before args s = true)
    (hcode : (Cond.codeWith y bytes maxL ret hh).before args s = true) (hy : y.cls ≠ "java/lang/invoke/MethodHandle" ∧ y.cls ≠ "java/lang/invoke/VarHandle")
    {W9 : Nat} {Pre : Pt → Array Value → Prop} {Post : Pt → Array Value → Option Value → Pt → Prop} (hK : Back l R p e below s args y 3 W9 Pre Post)
    {g : JFrame} (hg : g.method = m) (hsize : g.locals.size = c.maxLocals) {argsL rest : List Value} (hlen : ∀ sig, parseMethodDescriptor y.desc = some sig → argsL.length = sig.parameters.length)
    (hstack : g.stack = argsL.reverse ++ rest) (hW : 2 * g.monitorRoom + (rest.map fun v => v.category).sum ≤ W9) (hdg : decode c.code g.pc = .ok (.invokestatic index, 3))
    (hpre : ∀ vm₁, s.WarmedH vm₁ → Pre ⟨T.setVm vm₁, locs, cells, slots⟩ argsL.toArray) :
    ∃ (v : Option Value) (vm₁ : Vm) (B : Pt), s.WarmedH vm₁ ∧ Stand p l e R s m args below meth c B.U B.locs B.cells B.slots ∧ Post ⟨T.setVm vm₁, locs, cells, slots⟩ argsL.toArray v B ∧
      ∀ target, Steps p.tables e below (B.U.setTop { g with pc := g.pc + 3, stack := v.toList ++ rest }) target → Steps p.tables e below (T.setTop g) target := by
  obtain ⟨mk, methM, cM, hnamed, hmethM, -, -, -, -, -, -, hsigM⟩ := Cond.codeWith_spec hcode
  have hstatic : methM.isStatic = true := Cond.static_spec hnamed hmethM hstat
  obtain ⟨kP, hkP, -⟩ := className_of_methodNamed hnamed
  have hinitP : kP.init = .initialized := Cond.initialized_spec (findClass_of_methodNamed hnamed) hkP hinit
  obtain ⟨vm₁, X₁, hstep₁⟩ := X.invokestatic hexec hown hlink hnamed hmethM hstatic hkP hinitP hy (g := g) hg (argsL := argsL) (rest := rest) (hlen _ hsigM) hstack hdg
  obtain ⟨v, B, X', hpost, hsteps⟩ := hK m meth c ⟨T.setVm vm₁, locs, cells, slots⟩ { g with stack := rest } (.invokestatic index) mk argsL.toArray X₁ hg hsize hdg hW (X₁.named hnamed) (hpre vm₁ X₁.warmed)
  exact ⟨v, vm₁, B, X₁.warmed, X', hpost, fun target h => hstep₁ _ fun acts => by rw [doInvoke_state]; exact hsteps.trans h⟩
theorem vx_runSW {y : MethodName} {bytes cc : ByteArray} {maxL nL mc ms n index : Nat} {ret : Option FieldType} {hh : List (Nat × Nat × Nat × Nat)} {ws : List Cond} {rm : Room} {Pc : Array Value → State → Prop} {Qc : Array Value → State → Outcome → State → Prop} {free : Addr → Prop} {Ts : List Cond} {own : String} {As rest : List Value} {g : JFrame}
    (S : CallFix p m c cc nL s args Ts own) (hM : Met l y ws rm Pc Qc mc ms free) (cw : vx_CSW R s args own index y bytes maxL ret hh ws rm mc ms n) (hp : PreS s H Pc As)
    (hg : g.method = m) (hn : As.length = n) (hsize : g.locals.size = nL) (hstack : g.stack = As.reverse ++ rest) (hW : 2 * g.monitorRoom + (rest.map fun v => v.category).sum ≤ 8) (hdg : decode cc g.pc = .ok (.invokestatic index, 3)) (hf : cells + mc ≤ R.cells ∧ slots + ms ≤ R.slots) :
    va_Run p l e R s m args below meth c H locs cells slots mc ms g rest (Qc As.toArray) (free) := by
  obtain ⟨⟨hrc, hrs, hfr, hlo, hws, hcw⟩, hcode, hini, hy, hlen, hl, hstt⟩ := cw
  have hK : Back l R p e below s args y 3 8 (PreOf R mc ms Pc) (PostOf Qc mc ms free) := va_backW (hh := hh) (bytes := bytes) (maxL := maxL) (ret := ret) hM hp.1 hrc hrs hfr hlo hws hcw (fun a' U hW => word_at hW (Or.inl (by first | rfl | simp [Cond.onTables, Cond.keeps, Cond.steady])) hini)
  obtain ⟨hx, hb, hml, ho, -⟩ := S
  intro T hT X
  obtain ⟨v, vm₁, ⟨U', l2, c2, s2⟩, hW₁, X', ⟨g', mk, t, L, e1, e2, hq, h1, hL, h2, h3⟩, st⟩ := vx_callSW X hx (hh := hh) (bytes := bytes) (maxL := maxL) (ret := ret) ho hl hstt hini hcode hy hK hg (hsize.trans hml.symm) (argsL := As) (rest := rest) (fun sig h => hn.trans (hlen sig h)) hstack hW (by rw [hb]; exact hdg)
    (fun vm₁ hW₁ => ⟨hf.1, hf.2, hp.2 (T.setVm vm₁) hT hW₁⟩)
  dsimp only [Pt.U, Pt.locs, Pt.cells, Pt.slots] at X' e1 e2 h1 h2 h3 st
  subst h1; subst h2; subst h3
  exact ⟨v, (T.setVm vm₁).calling g' mk As.toArray, t, U', L, hT, X', hL, e1, e2, hq, st⟩
/-- not caught here, past rows that name other classes: it goes on to the caller -/
theorem vx_outP {p : Program} {l : Launch} {e : Env} {R : Room} {s : State} {m : MethodId} {args : Array Value} {below : List Frame} {meth : Method} {c : Code} {H : Heap} {locs : List Loc} {cells slots : Nat} {free : Addr → Prop} {ls : Array Slot} {rest : List Value} {Qc : Array Value → State → Outcome → State → Prop} {XC : String → State → State → Prop}
    {pc : Nat} {own E : String} {ce : Cell} {q : Addr} {mc ms : Nat} (hown : s.vm.findClass own = some m.cls) (hlocks : meth.locks = false)
    (hpass : ∀ z ∈ c.exceptionTable.toList, covers z pc = false ∨ (z.catchType ≠ 0 ∧ ∃ nm : String, (Cond.classLink own z.catchType nm).before args s = true ∧ va_Nc E nm s)) (hcell : H[q]? = some ce) (hv : ce.vm = .none) (hcl : s.vm.findClass E = some ce.cls)
    (hx : ∀ t : State, t.heap = H → s.vm.Alike t.vm → XC E s t) (hf : ∀ z ∈ locs, free z.base) (hc : cells ≤ mc) (hs : slots ≤ ms) :
    vx_W p l e R s m args below meth c H locs cells slots (vx_MQ below Qc XC args s mc ms free) (F0 m pc ls rest) q := by
  intro T hT X
  have hpl : e.platform.magicAccessors = ({} : Platform).magicAccessors := by rw [X.admits.platform]
  obtain ⟨vm', hW', X', st⟩ := X.outThrough hlocks q (g := F0 m pc ls rest) rfl rfl rfl (cell := ce) (by rw [hT]; exact hcell) (by rw [hv]; rfl)
    (by obtain ⟨k9, h9, -⟩ := Vm.findClass_spec hcl; exact ⟨k9, h9⟩) (fun z hz => by
      rcases hpass z hz with h | ⟨hz0, nm, hl1, hn1⟩
      · exact Or.inl h
      · obtain ⟨c6, hc6, hcl6⟩ := Cond.classLink_spec hown hl1 e.platform hpl
        obtain ⟨a8, b8, h1, h2, h3⟩ := hn1
        cases Option.some.inj (h1.symm.trans hcl)
        cases Option.some.inj (h2.symm.trans hc6)
        exact Or.inr ⟨hz0, _, hcl6, h3⟩)
  obtain ⟨g₀, hfr⟩ := X'.frames_eq
  have hcell9 : ((T.setVm vm').setFrames (.throwing q :: below)).heap[q]? = some ce := by
    show T.heap[q]? = some ce
    rw [hT]; exact hcell
  have hend : Ended ((T.setVm vm').setFrames (.throwing q :: below)) below (.threw q) := State.frames_setFrames _ (State.cur_lt_of_frames hfr)
  refine ⟨(T.setVm vm').setFrames (.throwing q :: below), ?_, .threw q, X'.here.running, hend, Or.inr ⟨q, rfl, E, ce, locs, hx _ hT (X'.ends _).1.alike, hcell9, hv, hcl, (X'.ends _).1, (X'.ends _).2.mono hc hs, hf⟩⟩
  rw [X.pushThrowing_eq]
  exact st
/-- a thing of a world lies in the heap -/
theorem vx_lt {D : va_G} {cl : List vw_C} {ws : va_W} {H1 : Heap} (h : va_P D cl ws H1) {k : Nat} {q : Nat × va_E} (hk : ws[k]? = some q) : q.1 < H1.size := (h k q hk).lt
end VXS
/-! ===== END ===== -/
/-! ===== BEGIN methods with a table of their own: called by a name, returning or throwing ===== -/
section VXH
/-! vx_backW, vx_callVX, vx_callSX, vx_callVW, vx_runVW, vx_runVX, vx_runSX, vx_ofWH follow the same proofs as their sisters above (Free/Laws.lean, Shelf42/LK1.lean); vx_outP calls Shelf42/NT130.lean (outThrough). -/
section
variable {l : Launch} {R : Room} {p : Program} {e : Env} {below : List Frame} {s : State} {sargs : Array Value} {y : MethodName} {len W9 : Nat}
theorem vx_backW {ws : List Cond} {rm : Room} {Pc : Array Value → State → Prop} {Qc : Array Value → State → Outcome → State → Prop} {XC : String → State → State → Prop} {mc ms : Nat} {free : Addr → Prop} {bytes : ByteArray} {maxL : Nat} {ret : Option FieldType} {hh : List (Nat × Nat × Nat × Nat)}
    (hM : vx_Met l y ws rm Pc Qc XC mc ms free) (hblind : FrameBlind Pc) (hrc : rm.cells = mc) (hrs : rm.slots = ms)
    (hframes : rm.frames + 1 ≤ R.frames) (hlocals : W9 + (maxL + 11) + rm.locals ≤ R.locals)
    (hws : ∀ w ∈ ws, ∀ a' U, s.WarmedH U.vm → w.before a' U = true) (hcode : Cond.codeWith y bytes maxL ret hh ∈ ws) (hinit : ∀ a' U, s.WarmedH U.vm → (Cond.initialized y.cls).before a' U = true) :
    vx_Back l R p e below s sargs y len W9 (PreOf R mc ms Pc) (PostOf Qc mc ms free) (vx_Post XC mc ms free) := by
  intro m meth c A g ig mk a X hg hsize hdg hW hn hp
  have h1 : (headSpec ws rm).pre.before a A.U = true := atoms_intro fun w hw => hws w hw _ _ X.warmed
  have h2 : (Cond.codeWith y bytes maxL ret hh).before a A.U = true := hws _ hcode _ _ X.warmed
  have h3 : (Cond.initialized y.cls).before a A.U = true := hinit _ _ X.warmed
  have h4 : A.cells + (headSpec ws rm).room.cells ≤ R.cells := by rw [show (headSpec ws rm).room.cells = mc from hrc]; exact hp.1
  have h5 : A.slots + (headSpec ws rm).room.slots ≤ R.slots := by rw [show (headSpec ws rm).room.slots = ms from hrs]; exact hp.2.1
  have hPc : Pc a (A.U.calling g mk a) := hblind _ _ _ _ hp.2.2
  obtain ⟨U, Ls, c0, s0⟩ := A
  dsimp only [Pt.U, Pt.locs, Pt.cells, Pt.slots] at h1 h2 h3 h4 h5 X hn hPc ⊢
  obtain ⟨m9, methY, cY, hn9, hmY, hcY, -, hlY, -⟩ := Cond.codeWith_spec h2
  cases Option.some.inj (hn9.symm.trans hn)
  obtain ⟨kY, hkY, -⟩ := className_of_methodNamed hn
  have hinitY : kY.init = .initialized := Cond.initialized_spec (findClass_of_methodNamed hn) hkY h3
  have h : At U g.method c below := by rw [hg]; exact X.here
  have hlocals9 : W9 + (maxL + 11) + (headSpec ws rm).room.locals ≤ R.locals := hlocals
  have happ : (headSpec ws rm).appliesLoose y e.platform (U.calling g mk a) = true :=
    Spec.appliesLoose_calling (g := g) h hdg hn hkY hinitY
      (X.room_calling (g := g) (R' := (headSpec ws rm).room) hsize hmY hcY hframes (by rw [hlY]; omega) h4 h5) h1
  obtain ⟨mid, hmid⟩ := h.above
  have hfr : (U.setTop g).frames = (.java g :: mid) ++ below := by rw [State.frames_setTop' g h.top, hmid]; rfl
  obtain ⟨o, s₂, hsteps, -, hend, hq⟩ := Steps.callFree hM p X.admits X.cas X.clock (acts := []) hfr happ hPc trivial
  have hq' : vx_Q Qc XC mc ms free a (U.calling g mk a) o s₂ := hq
  rw [State.frames_setTop' g h.top] at hend
  obtain ⟨g₀, hg0⟩ := Option.isSome_iff_exists.mp h.top
  obtain ⟨r, hr⟩ := State.topJava?_eq_some.mp hg0
  have hr' : (({ U with heap := s₂.heap, slotsUsed := s₂.slotsUsed } : State).setVm s₂.vm).frames = .java g₀ :: r := hr
  rcases hq' with ⟨hqc, L, hfe, hL⟩ | ⟨q, rfl, E, ce, L, hx, hce, hcv, hcl, hW₂, hsm, hL⟩
  · obtain ⟨⟨v, rfl⟩, hW₂, e2, q2, q3, q4, q5, q6⟩ := id hfe
    have e3 : s₂ = ({ (U.calling g mk a).setFrames s₂.frames with heap := s₂.heap, slotsUsed := s₂.slotsUsed } : State).setVm s₂.vm := by
      have : s₂ = ({ s₂ with vm := (U.calling g mk a).vm } : State).setVm s₂.vm := rfl
      rw [e2] at this
      exact this
    obtain ⟨c₂, i₂, len₂, hc₂, hd₂, hf₂⟩ := hend
    have hW' : U.WarmedH s₂.vm := hW₂
    have hcc : c₂ = c := by
      have h1 : s₂.code? g.method = U.code? g.method := by
        rw [State.code?_eq, State.code?_eq, hW'.alike.method?]
      exact Option.some.inj (hc₂.symm.trans (h1.trans h.code))
    subst hcc
    have hlen : len₂ = len := by rw [hdg] at hd₂; cases hd₂; rfl
    subst hlen
    have hs₂ : s₂ = (({ U with heap := s₂.heap, slotsUsed := s₂.slotsUsed } : State).setVm s₂.vm).setTop { g with pc := g.pc + len₂, stack := v.toList ++ g.stack } := by
      refine e3.trans ?_
      rw [hf₂, State.calling_eq h.top, State.setFrames_setFrames, State.setTop_of_frames _ hr', hr]
      rfl
    have hsame : U.sameButNew ({ U with heap := s₂.heap, slotsUsed := s₂.slotsUsed } : State) L mc ms := by
      refine ⟨?_, q2, q3, q4, q5, q6⟩
      obtain ⟨t, ht, -⟩ := State.frames_cons hr
      show ({ U with heap := s₂.heap, slotsUsed := s₂.slotsUsed } : State) = { U.setFrames U.frames with heap := s₂.heap, slotsUsed := s₂.slotsUsed }
      rw [State.setFrames_self ht]
    subst hg
    refine Or.inl ⟨v, ⟨(({ U with heap := s₂.heap, slotsUsed := s₂.slotsUsed } : State).setVm s₂.vm), Ls ++ L, c0 + mc, s0 + ms⟩,
      ⟨X.admits, X.cas, X.clock, X.frames, X.room, X.hears, X.method, X.code, (X.here.setHeapUsed s₂.heap s₂.slotsUsed).setVm hW'.alike, X.tail, State.WarmedH.trans X.warmed hW', X.limits, X.bytes, X.same.trans (hsame.setVm s.vm)⟩,
      ⟨g, mk, s₂, L, rfl, rfl, hqc, rfl, hL, rfl, rfl⟩, ?_⟩
    show Steps p.tables e below _ ((({ U with heap := s₂.heap, slotsUsed := s₂.slotsUsed } : State).setVm s₂.vm).setTop { g with pc := g.pc + len₂, stack := v.toList ++ g.stack })
    rw [← hs₂]
    exact hsteps
  · obtain ⟨e2, q2, q3, q4, q5, q6⟩ := id hsm
    have e3 : s₂ = ({ (U.calling g mk a).setFrames s₂.frames with heap := s₂.heap, slotsUsed := s₂.slotsUsed } : State).setVm s₂.vm := by
      have : s₂ = ({ s₂ with vm := (U.calling g mk a).vm } : State).setVm s₂.vm := rfl
      rw [e2] at this
      exact this
    have hf₂ : s₂.frames = .throwing q :: .java g :: U.frames.tail := hend
    have hW' : U.WarmedH s₂.vm := hW₂
    have hs₂ : s₂ = ((({ U with heap := s₂.heap, slotsUsed := s₂.slotsUsed } : State).setVm s₂.vm).setTop g).pushFrame (.throwing q) := by
      refine e3.trans ?_
      rw [hf₂, State.calling_eq h.top, State.setFrames_setFrames, State.pushFrame, State.frames_setTop _ hr', State.setTop_of_frames _ hr', State.setFrames_setFrames, hr]
      rfl
    have hsame : U.sameButNew ({ U with heap := s₂.heap, slotsUsed := s₂.slotsUsed } : State) L mc ms := by
      refine ⟨?_, q2, q3, q4, q5, q6⟩
      obtain ⟨t, ht, -⟩ := State.frames_cons hr
      show ({ U with heap := s₂.heap, slotsUsed := s₂.slotsUsed } : State) = { U.setFrames U.frames with heap := s₂.heap, slotsUsed := s₂.slotsUsed }
      rw [State.setFrames_self ht]
    subst hg
    refine Or.inr ⟨q, ⟨(({ U with heap := s₂.heap, slotsUsed := s₂.slotsUsed } : State).setVm s₂.vm), Ls ++ L, c0 + mc, s0 + ms⟩,
      ⟨X.admits, X.cas, X.clock, X.frames, X.room, X.hears, X.method, X.code, (X.here.setHeapUsed s₂.heap s₂.slotsUsed).setVm hW'.alike, X.tail, State.WarmedH.trans X.warmed hW', X.limits, X.bytes, X.same.trans (hsame.setVm s.vm)⟩,
      ⟨g, mk, s₂, L, E, ce, rfl, rfl, hx, hce, hcv, hcl, rfl, hL, rfl, rfl⟩, ?_⟩
    show Steps p.tables e below _ (((({ U with heap := s₂.heap, slotsUsed := s₂.slotsUsed } : State).setVm s₂.vm).setTop g).pushFrame (.throwing q))
    rw [← hs₂]
    exact hsteps
end
variable {p : Program} {l : Launch} {e : Env} {R : Room} {s : State} {m : MethodId} {args : Array Value} {below : List Frame} {meth : Method} {c : Code} {T : State} {H : Heap} {locs : List Loc} {cells slots : Nat}
theorem vx_callVX (X : Stand p l e R s m args below meth c T locs cells slots) (hexec : p.tables.exec = Jvm.exec) {own C : String} {index : Nat} {y : MethodName} {bytes : ByteArray} {maxL : Nat} {ret : Option FieldType} {hh : List (Nat × Nat × Nat × Nat)}
    (hown : s.vm.findClass own = some m.cls) (hlink : (Cond.methodLink own index y).before args s = true) (hinst : (Cond.instanceMethod y).before args s = true) (hsel : (Cond.selects C y y).before args s = true)
    (hcode : (Cond.codeWith y bytes maxL ret hh).before args s = true) (hy : y.cls ≠ "java/lang/invoke/MethodHandle" ∧ y.cls ≠ "java/lang/invoke/VarHandle")
    {W9 : Nat} {Pre : Pt → Array Value → Prop} {Post : Pt → Array Value → Option Value → Pt → Prop} {PostX : Pt → Array Value → Addr → Pt → Prop} (hK : vx_Back l R p e below s args y 3 W9 Pre Post PostX)
    {b : Addr} {cellB : Cell} (hcell : T.heap[b]? = some cellB) (hobj : cellB.vm.isStatics = false) (hcls : s.vm.findClass C = some cellB.cls)
    {g : JFrame} (hg : g.method = m) (hsize : g.locals.size = c.maxLocals) {argsL rest : List Value} (hlen : ∀ sig, parseMethodDescriptor y.desc = some sig → argsL.length = sig.parameters.length)
    (hstack : g.stack = argsL.reverse ++ .ref b :: rest) (hW : 2 * g.monitorRoom + (rest.map fun v => v.category).sum ≤ W9) (hdg : decode c.code g.pc = .ok (.invokevirtual index, 3))
    (hpre : ∀ vm₁, s.WarmedH vm₁ → Pre ⟨T.setVm vm₁, locs, cells, slots⟩ (Value.ref b :: argsL).toArray) :
    (∃ (v : Option Value) (vm₁ : Vm) (B : Pt), s.WarmedH vm₁ ∧ Stand p l e R s m args below meth c B.U B.locs B.cells B.slots ∧ Post ⟨T.setVm vm₁, locs, cells, slots⟩ (Value.ref b :: argsL).toArray v B ∧
      ∀ target, Steps p.tables e below (B.U.setTop { g with pc := g.pc + 3, stack := v.toList ++ rest }) target → Steps p.tables e below (T.setTop g) target) ∨
    (∃ (q : Addr) (vm₁ : Vm) (B : Pt), s.WarmedH vm₁ ∧ Stand p l e R s m args below meth c B.U B.locs B.cells B.slots ∧ PostX ⟨T.setVm vm₁, locs, cells, slots⟩ (Value.ref b :: argsL).toArray q B ∧
      Steps p.tables e below (T.setTop g) ((B.U.setTop { g with stack := rest }).pushFrame (.throwing q))) := by
  obtain ⟨mk, methM, hnamed, hmethM, hstM, habM⟩ := Cond.instanceMethod_spec hinst
  obtain ⟨m8, methM', cM, hn8, hmethM', -, -, -, -, -, -, hsigM⟩ := Cond.codeWith_spec hcode
  cases Option.some.inj (hn8.symm.trans hnamed)
  cases hmethM.symm.trans hmethM'
  obtain ⟨c2, r2, m2, q1, q2, q3, q4, kP, hkP, hkPi⟩ := Cond.selects_spec hsel
  cases hcls.symm.trans q1
  cases (State.methodFound?_of_named hnamed hy).symm.trans q2
  cases hnamed.symm.trans q3
  have hselP : selectMethod e.platform s.vm cellB.cls mk = .method mk := by rw [Launch.admits_selectMethod X.admits]; exact q4
  obtain ⟨vm₁, X₁, hstep₁⟩ := X.invokevirtual hexec hown hlink hnamed hmethM hstM hkP hkPi hy (a := b) (cell := cellB) hcell
    (fun z h => by rw [h] at hobj; cases hobj) hselP hmethM habM hkP hkPi (g := g) hg (argsL := argsL) (rest := rest) (hlen _ hsigM) hstack hdg
  rcases hK m meth c ⟨T.setVm vm₁, locs, cells, slots⟩ { g with stack := rest } (.invokevirtual index) mk (Value.ref b :: argsL).toArray X₁ hg hsize hdg hW (X₁.named hnamed) (hpre vm₁ X₁.warmed) with ⟨v, B, X', hpost, hsteps⟩ | ⟨q, B, X', hpost, hsteps⟩
  · exact Or.inl ⟨v, vm₁, B, X₁.warmed, X', hpost, fun target h => hstep₁ _ fun acts => by rw [doInvoke_state]; exact hsteps.trans h⟩
  · exact Or.inr ⟨q, vm₁, B, X₁.warmed, X', hpost, hstep₁ _ fun acts => by rw [doInvoke_state]; exact hsteps⟩
theorem vx_callSX (X : Stand p l e R s m args below meth c T locs cells slots) (hexec : p.tables.exec = Jvm.exec) {own : String} {index : Nat} {y : MethodName} {bytes : ByteArray} {maxL : Nat} {ret : Option FieldType} {hh : List (Nat × Nat × Nat × Nat)}
    (hown : s.vm.findClass own = some m.cls) (hlink : (Cond.methodLink own index y).before args s = true) (hstat : (Cond.static y).before args s = true) (hinit : (Cond.initialized y.cls).before args s = true)
    (hcode : (Cond.codeWith y bytes maxL ret hh).before args s = true) (hy : y.cls ≠ "java/lang/invoke/MethodHandle" ∧ y.cls ≠ "java/lang/invoke/VarHandle")
    {W9 : Nat} {Pre : Pt → Array Value → Prop} {Post : Pt → Array Value → Option Value → Pt → Prop} {PostX : Pt → Array Value → Addr → Pt → Prop} (hK : vx_Back l R p e below s args y 3 W9 Pre Post PostX)
    {g : JFrame} (hg : g.method = m) (hsize : g.locals.size = c.maxLocals) {argsL rest : List Value} (hlen : ∀ sig, parseMethodDescriptor y.desc = some sig → argsL.length = sig.parameters.length)
    (hstack : g.stack = argsL.reverse ++ rest) (hW : 2 * g.monitorRoom + (rest.map fun v => v.category).sum ≤ W9) (hdg : decode c.code g.pc = .ok (.invokestatic index, 3))
    (hpre : ∀ vm₁, s.WarmedH vm₁ → Pre ⟨T.setVm vm₁, locs, cells, slots⟩ argsL.toArray) :
    (∃ (v : Option Value) (vm₁ : Vm) (B : Pt), s.WarmedH vm₁ ∧ Stand p l e R s m args below meth c B.U B.locs B.cells B.slots ∧ Post ⟨T.setVm vm₁, locs, cells, slots⟩ argsL.toArray v B ∧
      ∀ target, Steps p.tables e below (B.U.setTop { g with pc := g.pc + 3, stack := v.toList ++ rest }) target → Steps p.tables e below (T.setTop g) target) ∨
    (∃ (q : Addr) (vm₁ : Vm) (B : Pt), s.WarmedH vm₁ ∧ Stand p l e R s m args below meth c B.U B.locs B.cells B.slots ∧ PostX ⟨T.setVm vm₁, locs, cells, slots⟩ argsL.toArray q B ∧
      Steps p.tables e below (T.setTop g) ((B.U.setTop { g with stack := rest }).pushFrame (.throwing q))) := by
  obtain ⟨mk, methM, cM, hnamed, hmethM, -, -, -, -, -, -, hsigM⟩ := Cond.codeWith_spec hcode
  have hstatic : methM.isStatic = true := Cond.static_spec hnamed hmethM hstat
  obtain ⟨kP, hkP, -⟩ := className_of_methodNamed hnamed
  have hinitP : kP.init = .initialized := Cond.initialized_spec (findClass_of_methodNamed hnamed) hkP hinit
  obtain ⟨vm₁, X₁, hstep₁⟩ := X.invokestatic hexec hown hlink hnamed hmethM hstatic hkP hinitP hy (g := g) hg (argsL := argsL) (rest := rest) (hlen _ hsigM) hstack hdg
  rcases hK m meth c ⟨T.setVm vm₁, locs, cells, slots⟩ { g with stack := rest } (.invokestatic index) mk argsL.toArray X₁ hg hsize hdg hW (X₁.named hnamed) (hpre vm₁ X₁.warmed) with ⟨v, B, X', hpost, hsteps⟩ | ⟨q, B, X', hpost, hsteps⟩
  · exact Or.inl ⟨v, vm₁, B, X₁.warmed, X', hpost, fun target h => hstep₁ _ fun acts => by rw [doInvoke_state]; exact hsteps.trans h⟩
  · exact Or.inr ⟨q, vm₁, B, X₁.warmed, X', hpost, hstep₁ _ fun acts => by rw [doInvoke_state]; exact hsteps⟩
theorem vx_callVW (X : Stand p l e R s m args below meth c T locs cells slots) (hexec : p.tables.exec = Jvm.exec) {own C : String} {index : Nat} {y : MethodName} {bytes : ByteArray} {maxL : Nat} {ret : Option FieldType} {hh : List (Nat × Nat × Nat × Nat)}
    (hown : s.vm.findClass own = some m.cls) (hlink : (Cond.methodLink own index y).before args s = true) (hinst : (Cond.instanceMethod y).before args s = true) (hsel : (Cond.selects C y y).before args s = true)
    (hcode : (Cond.codeWith y bytes maxL ret hh).before args s = true) (hy : y.cls ≠ "java/lang/invoke/MethodHandle" ∧ y.cls ≠ "java/lang/invoke/VarHandle")
    {W9 : Nat} {Pre : Pt → Array Value → Prop} {Post : Pt → Array Value → Option Value → Pt → Prop} (hK : Back l R p e below s args y 3 W9 Pre Post)
    {b : Addr} {cellB : Cell} (hcell : T.heap[b]? = some cellB) (hobj : cellB.vm.isStatics = false) (hcls : s.vm.findClass C = some cellB.cls)
    {g : JFrame} (hg : g.method = m) (hsize : g.locals.size = c.maxLocals) {argsL rest : List Value} (hlen : ∀ sig, parseMethodDescriptor y.desc = some sig → argsL.length = sig.parameters.length)
    (hstack : g.stack = argsL.reverse ++ .ref b :: rest) (hW : 2 * g.monitorRoom + (rest.map fun v => v.category).sum ≤ W9) (hdg : decode c.code g.pc = .ok (.invokevirtual index, 3))
    (hpre : ∀ vm₁, s.WarmedH vm₁ → Pre ⟨T.setVm vm₁, locs, cells, slots⟩ (Value.ref b :: argsL).toArray) :
    ∃ (v : Option Value) (vm₁ : Vm) (B : Pt), s.WarmedH vm₁ ∧ Stand p l e R s m args below meth c B.U B.locs B.cells B.slots ∧ Post ⟨T.setVm vm₁, locs, cells, slots⟩ (Value.ref b :: argsL).toArray v B ∧
      ∀ target, Steps p.tables e below (B.U.setTop { g with pc := g.pc + 3, stack := v.toList ++ rest }) target → Steps p.tables e below (T.setTop g) target := by
  obtain ⟨mk, methM, hnamed, hmethM, hstM, habM⟩ := Cond.instanceMethod_spec hinst
  obtain ⟨m8, methM', cM, hn8, hmethM', -, -, -, -, -, -, hsigM⟩ := Cond.codeWith_spec hcode
  cases Option.some.inj (hn8.symm.trans hnamed)
  cases hmethM.symm.trans hmethM'
  obtain ⟨c2, r2, m2, q1, q2, q3, q4, kP, hkP, hkPi⟩ := Cond.selects_spec hsel
  cases hcls.symm.trans q1
  cases (State.methodFound?_of_named hnamed hy).symm.trans q2
  cases hnamed.symm.trans q3
  have hselP : selectMethod e.platform s.vm cellB.cls mk = .method mk := by rw [Launch.admits_selectMethod X.admits]; exact q4
  obtain ⟨vm₁, X₁, hstep₁⟩ := X.invokevirtual hexec hown hlink hnamed hmethM hstM hkP hkPi hy (a := b) (cell := cellB) hcell
    (fun z h => by rw [h] at hobj; cases hobj) hselP hmethM habM hkP hkPi (g := g) hg (argsL := argsL) (rest := rest) (hlen _ hsigM) hstack hdg
  obtain ⟨v, B, X', hpost, hsteps⟩ := hK m meth c ⟨T.setVm vm₁, locs, cells, slots⟩ { g with stack := rest } (.invokevirtual index) mk (Value.ref b :: argsL).toArray X₁ hg hsize hdg hW (X₁.named hnamed) (hpre vm₁ X₁.warmed)
  exact ⟨v, vm₁, B, X₁.warmed, X', hpost, fun target h => hstep₁ _ fun acts => by rw [doInvoke_state]; exact hsteps.trans h⟩
abbrev vx_CVW (R : Room) (s : State) (args : Array Value) (own C : String) (index : Nat) (y : MethodName) (bytes : ByteArray) (maxL : Nat) (ret : Option FieldType) (hh : List (Nat × Nat × Nat × Nat)) (ws : List Cond) (rm : Room) (mc ms n : Nat) : Prop :=
  (rm.cells = mc ∧ rm.slots = ms ∧ rm.frames + 1 ≤ R.frames ∧ 8 + (maxL + 11) + rm.locals ≤ R.locals ∧ (∀ w ∈ ws, ∀ (a' : Array Value) (U : State), s.WarmedH U.vm → w.before a' U = true) ∧ Cond.codeWith y bytes maxL ret hh ∈ ws) ∧
  (Cond.codeWith y bytes maxL ret hh).before args s = true ∧ (Cond.initialized y.cls).before args s = true ∧ (y.cls ≠ "java/lang/invoke/MethodHandle" ∧ y.cls ≠ "java/lang/invoke/VarHandle") ∧
  (∀ sig, parseMethodDescriptor y.desc = some sig → n = sig.parameters.length) ∧ (Cond.methodLink own index y).before args s = true ∧ (Cond.instanceMethod y).before args s = true ∧ (Cond.selects C y y).before args s = true
theorem vx_cwVW {own C : String} {index maxL mc ms : Nat} {y : MethodName} {bytes : ByteArray} {ret : Option FieldType} {hh : List (Nat × Nat × Nat × Nat)} {Ts ws ws' : List Cond} {rm : Room} (n : Nat) (ht : ∀ w ∈ Ts, w.before args s = true) (hT : GoodIn Ts (wsV own index C y ws)) (hw : ws = Cond.codeWith y bytes maxL ret hh :: ws') (hrc : rm.cells = mc) (hrs : rm.slots = ms)
    (hd : y.cls = C ∧ y.cls ≠ "java/lang/invoke/MethodHandle" ∧ y.cls ≠ "java/lang/invoke/VarHandle" ∧ (parseMethodDescriptor y.desc).map (fun d => d.parameters.length) = some n) (hR : rm.frames + 1 ≤ R.frames ∧ 8 + (maxL + 11) + rm.locals ≤ R.locals) :
    vx_CVW R s args own C index y bytes maxL ret hh ws rm mc ms n := by
  obtain ⟨hC, hd⟩ := hd
  subst hC
  have ok : ∀ w ∈ wsV own index y.cls y ws, w.before args s = true := fun w h => ht w (hT w h).1
  have hG : GoodIn Ts ws := fun w h => hT w (by unfold wsV; exact List.mem_append_right _ h)
  have hc : Cond.codeWith y bytes maxL ret hh ∈ ws := by rw [hw]; exact List.mem_cons_self
  refine ⟨⟨hrc, hrs, hR.1, hR.2, pay_in ht hG, hc⟩, ht _ (hG _ hc).1, ok _ (by simp [wsV]), ⟨hd.1, hd.2.1⟩, fun sig h => ?_, ok _ (by simp [wsV]), ok _ (by simp [wsV]), ok _ (by simp [wsV])⟩
  have h2 := hd.2.2
  rw [h] at h2
  exact (Option.some.inj h2).symm
theorem vx_runVW {y : MethodName} {bytes cc : ByteArray} {maxL nL mc ms n index : Nat} {ret : Option FieldType} {hh : List (Nat × Nat × Nat × Nat)} {ws : List Cond} {rm : Room} {Pc : Array Value → State → Prop} {Qc : Array Value → State → Outcome → State → Prop} {free : Addr → Prop} {Ts : List Cond} {own C : String} {b : Addr} {As rest : List Value} {g : JFrame}
    (S : CallFix p m c cc nL s args Ts own) (hM : Met l y ws rm Pc Qc mc ms free) (cw : vx_CVW R s args own C index y bytes maxL ret hh ws rm mc ms n) (hp : PreV s H C b Pc As)
    (hg : g.method = m) (hn : As.length = n) (hsize : g.locals.size = nL) (hstack : g.stack = As.reverse ++ .ref b :: rest) (hW : 2 * g.monitorRoom + (rest.map fun v => v.category).sum ≤ 8) (hdg : decode cc g.pc = .ok (.invokevirtual index, 3)) (hf : cells + mc ≤ R.cells ∧ slots + ms ≤ R.slots) :
    va_Run p l e R s m args below meth c H locs cells slots mc ms g rest (Qc (Value.ref b :: As).toArray) free := by
  obtain ⟨⟨hrc, hrs, hfr, hlo, hws, hcw⟩, hcode, hini, hy, hlen, hl, hin, hse⟩ := cw
  have hK : Back l R p e below s args y 3 8 (PreOf R mc ms Pc) (PostOf Qc mc ms free) := va_backW (hh := hh) (bytes := bytes) (maxL := maxL) (ret := ret) hM hp.1 hrc hrs hfr hlo hws hcw (fun a' U hW => word_at hW (Or.inl (by first | rfl | simp [Cond.onTables, Cond.keeps, Cond.steady])) hini)
  obtain ⟨hx, hb, hml, ho, -⟩ := S
  obtain ⟨-, ⟨cellB, hcB, hoB, hclB⟩, hPc⟩ := hp
  intro T hT X
  obtain ⟨v, vm₁, ⟨U', l2, c2, s2⟩, hW₁, X', ⟨g', mk, t, L, e1, e2, hq, h1, hL, h2, h3⟩, st⟩ := vx_callVW X hx (C := C) (hh := hh) (bytes := bytes) (maxL := maxL) (ret := ret) ho hl hin hse hcode hy hK (by rw [hT]; exact hcB) hoB hclB hg (hsize.trans hml.symm) (argsL := As) (rest := rest) (fun sig h => hn.trans (hlen sig h)) hstack hW (by rw [hb]; exact hdg)
    (fun vm₁ hW₁ => ⟨hf.1, hf.2, hPc (T.setVm vm₁) hT hW₁⟩)
  dsimp only [Pt.U, Pt.locs, Pt.cells, Pt.slots] at X' e1 e2 h1 h2 h3 st
  subst h1; subst h2; subst h3
  exact ⟨v, (T.setVm vm₁).calling g' mk (Value.ref b :: As).toArray, t, U', L, hT, X', hL, e1, e2, hq, st⟩
section
variable {y : MethodName} {bytes cc : ByteArray} {maxL nL mc ms n index : Nat} {ret : Option FieldType} {ws : List Cond} {rm : Room} {Pc : Array Value → State → Prop} {Qc : Array Value → State → Outcome → State → Prop} {XC : String → State → State → Prop} {free : Addr → Prop} {Ts : List Cond} {own C : String} {b : Addr} {As rest : List Value} {g : JFrame}
theorem vx_runVX {hh : List (Nat × Nat × Nat × Nat)} (S : CallFix p m c cc nL s args Ts own) (hM : vx_Met l y ws rm Pc Qc XC mc ms free) (cw : vx_CVW R s args own C index y bytes maxL ret hh ws rm mc ms n) (hp : PreV s H C b Pc As)
    (hg : g.method = m) (hn : As.length = n) (hsize : g.locals.size = nL) (hstack : g.stack = As.reverse ++ .ref b :: rest) (hW : 2 * g.monitorRoom + (rest.map fun v => v.category).sum ≤ 8) (hdg : decode cc g.pc = .ok (.invokevirtual index, 3)) (hf : cells + mc ≤ R.cells ∧ slots + ms ≤ R.slots) :
    vx_Run p l e R s m args below meth c H locs cells slots mc ms g rest (Qc (Value.ref b :: As).toArray) XC free := by
  obtain ⟨⟨hrc, hrs, hfr, hlo, hws, hcw⟩, hcode, hini, hy, hlen, hl, hin, hse⟩ := cw
  have hK : vx_Back l R p e below s args y 3 8 (PreOf R mc ms Pc) (PostOf Qc mc ms free) (vx_Post XC mc ms free) := vx_backW (hh := hh) (bytes := bytes) (maxL := maxL) (ret := ret) hM hp.1 hrc hrs hfr hlo hws hcw (fun a' U hW => word_at hW (Or.inl (by first | rfl | simp [Cond.onTables, Cond.keeps, Cond.steady])) hini)
  obtain ⟨hx, hb, hml, ho, -⟩ := S
  obtain ⟨-, ⟨cellB, hcB, hoB, hclB⟩, hPc⟩ := hp
  intro T hT X
  rcases vx_callVX X hx (C := C) (hh := hh) (bytes := bytes) (maxL := maxL) (ret := ret) ho hl hin hse hcode hy hK (by rw [hT]; exact hcB) hoB hclB hg (hsize.trans hml.symm) (argsL := As) (rest := rest) (fun sig h => hn.trans (hlen sig h)) hstack hW (by rw [hb]; exact hdg)
    (fun vm₁ hW₁ => ⟨hf.1, hf.2, hPc (T.setVm vm₁) hT hW₁⟩) with ⟨v, vm₁, ⟨U', l2, c2, s2⟩, hW₁, X', ⟨g', mk, t, L, e1, e2, hq, h1, hL, h2, h3⟩, st⟩ | ⟨q, vm₁, ⟨U', l2, c2, s2⟩, hW₁, X', ⟨g', mk, t, L, E, ce, e1, e2, hq, hce, hcv, hcl, h1, hL, h2, h3⟩, st⟩
  · dsimp only [Pt.U, Pt.locs, Pt.cells, Pt.slots] at X' e1 e2 h1 h2 h3 st
    subst h1; subst h2; subst h3
    exact Or.inl ⟨v, (T.setVm vm₁).calling g' mk (Value.ref b :: As).toArray, t, U', L, hT, X', hL, e1, e2, hq, st⟩
  · dsimp only [Pt.U, Pt.locs, Pt.cells, Pt.slots] at X' e1 e2 h1 h2 h3 st hcl
    subst h1; subst h2; subst h3
    exact Or.inr ⟨q, (T.setVm vm₁).calling g' mk (Value.ref b :: As).toArray, t, U', L, E, ce, hT, X', hL, e1, e2, hq, hce, hcv, vx_cls hW₁ hcl, st⟩
theorem vx_runSX {hh : List (Nat × Nat × Nat × Nat)} (S : CallFix p m c cc nL s args Ts own) (hM : vx_Met l y ws rm Pc Qc XC mc ms free) (cw : vx_CSW R s args own index y bytes maxL ret hh ws rm mc ms n) (hp : PreS s H Pc As)
    (hg : g.method = m) (hn : As.length = n) (hsize : g.locals.size = nL) (hstack : g.stack = As.reverse ++ rest) (hW : 2 * g.monitorRoom + (rest.map fun v => v.category).sum ≤ 8) (hdg : decode cc g.pc = .ok (.invokestatic index, 3)) (hf : cells + mc ≤ R.cells ∧ slots + ms ≤ R.slots) :
    vx_Run p l e R s m args below meth c H locs cells slots mc ms g rest (Qc As.toArray) XC free := by
  obtain ⟨⟨hrc, hrs, hfr, hlo, hws, hcw⟩, hcode, hini, hy, hlen, hl, hstt⟩ := cw
  have hK : vx_Back l R p e below s args y 3 8 (PreOf R mc ms Pc) (PostOf Qc mc ms free) (vx_Post XC mc ms free) := vx_backW (hh := hh) (bytes := bytes) (maxL := maxL) (ret := ret) hM hp.1 hrc hrs hfr hlo hws hcw (fun a' U hW => word_at hW (Or.inl (by first | rfl | simp [Cond.onTables, Cond.keeps, Cond.steady])) hini)
  obtain ⟨hx, hb, hml, ho, -⟩ := S
  intro T hT X
  rcases vx_callSX X hx (hh := hh) (bytes := bytes) (maxL := maxL) (ret := ret) ho hl hstt hini hcode hy hK hg (hsize.trans hml.symm) (argsL := As) (rest := rest) (fun sig h => hn.trans (hlen sig h)) hstack hW (by rw [hb]; exact hdg)
    (fun vm₁ hW₁ => ⟨hf.1, hf.2, hp.2 (T.setVm vm₁) hT hW₁⟩) with ⟨v, vm₁, ⟨U', l2, c2, s2⟩, hW₁, X', ⟨g', mk, t, L, e1, e2, hq, h1, hL, h2, h3⟩, st⟩ | ⟨q, vm₁, ⟨U', l2, c2, s2⟩, hW₁, X', ⟨g', mk, t, L, E, ce, e1, e2, hq, hce, hcv, hcl, h1, hL, h2, h3⟩, st⟩
  · dsimp only [Pt.U, Pt.locs, Pt.cells, Pt.slots] at X' e1 e2 h1 h2 h3 st
    subst h1; subst h2; subst h3
    exact Or.inl ⟨v, (T.setVm vm₁).calling g' mk As.toArray, t, U', L, hT, X', hL, e1, e2, hq, st⟩
  · dsimp only [Pt.U, Pt.locs, Pt.cells, Pt.slots] at X' e1 e2 h1 h2 h3 st hcl
    subst h1; subst h2; subst h3
    exact Or.inr ⟨q, (T.setVm vm₁).calling g' mk As.toArray, t, U', L, E, ce, hT, X', hL, e1, e2, hq, hce, hcv, vx_cls hW₁ hcl, st⟩
end
end VXH
theorem vx_ofWH {l : Launch} {y : MethodName} {ws ws' : List Cond} {rm : Room} {Pc : Array Value → State → Prop} {Qc : Array Value → State → Outcome → State → Prop} {XC : String → State → State → Prop} {mc ms : Nat} {free : Addr → Prop} {cc : ByteArray} {maxL : Nat} {ret : Option FieldType} {hh : List (Nat × Nat × Nat × Nat)}
    (hy : plainName y.cls = true) (hw : ws = Cond.codeWith y cc maxL ret hh :: ws')
    (body : ∀ p e s m args below meth c s₁, BodyLoose p l y (headSpec ws rm) cc maxL ret e s m args below meth c s₁ → c.maxLocals = maxL → Pc args s →
      W p l e (headSpec ws rm).room s m args below meth c s.heap [] 0 0 (vx_MQ below Qc XC args s mc ms free) (entryFrame m args maxL)) : vx_Met l y ws rm Pc Qc XC mc ms free := by
  refine MetFree.of_bodyS (code := cc) (maxLocals := maxL) (ret := ret) hy ?_ ?_
  · intro args s m h hn
    obtain ⟨m9, meth, c, hn9, h1, h2, h3, h4, -, h5, h6, -⟩ := Cond.codeWith_spec (atoms_spec (ws := ws) h _ (by rw [hw]; exact List.mem_cons_self))
    cases hn.symm.trans hn9
    exact ⟨meth, c, h1, h2, h3, h4, h5, h6⟩
  · intro p e s m args below meth c s₁ B hml hP _
    have hh0 : s₁.heap = s.heap := by rw [B.state]; rfl
    obtain ⟨t, a1, o, b1, b2, b3⟩ := body p e s m args below meth c s₁ B hml hP s₁ hh0 (Stand.of_body B)
    exact ⟨t, o, a1, b1, b2, b3⟩
/-! ===== END ===== -/
/-- the words of a machine throw with a message, but the four that speak of the heap -/
def vx_atM (X : String) (names : List String) : List Cond := (Bundle.messageArmAtoms X names).filter vx_no
end
section
/-! ===== BEGIN printed: names, fields, word lists, decode rows ===== -/
def RX0 : String := "PathOdds"
def TX0 : u_T := fun k => match k with
  | 0 => ("PathOdds", "startWeights", "[D", true)
  | 1 => ("PathOdds", "moveWeights", "[[D", true)
  | 2 => ("PathOdds", "showWeights", "[[D", true)
  | 3 => ("PathOdds", "row", "[I", true)
  | 4 => ("PathOdds", "stateCount", "I", false)
  | 5 => ("PathOdds", "rowLength", "I", false)
  | 6 => ("PathOdds", "forwardOdds", "[[D", true)
  | 7 => ("PathOdds", "backwardOdds", "[[D", true)
  | 8 => ("PathOdds", "bestOdds", "[[D", true)
  | 9 => ("PathOdds", "bestFrom", "[[I", true)
  | _ => ("PathOdds", "wayCounts", "[[J", true)
def tyX0 : Nat → FieldType := fun k => match k with
  | 0 => .array .double
  | 1 => .array (.array .double)
  | 2 => .array (.array .double)
  | 3 => .array .int
  | 4 => .int
  | 5 => .int
  | 6 => .array (.array .double)
  | 7 => .array (.array .double)
  | 8 => .array (.array .double)
  | 9 => .array (.array .int)
  | _ => .array (.array .long)
abbrev wsX00 : List Cond := u_ws RX0 TX0 11
theorem nmX0 : ∀ a, a < 11 → ∀ b, b < 11 → a ≠ b → (TX0 a).2.1 ≠ (TX0 b).2.1 := by decide +kernel
theorem tyX0_ok : ∀ k, k < 11 → parseFieldDescriptor (TX0 k).2.2.1 = some (tyX0 k) := by decide +kernel
abbrev cX0_init : ByteArray := prog_1_method_1_code
def yX0_init : MethodName := ⟨RX0, "<init>", "()V"⟩
abbrev cX0_states : ByteArray := prog_1_method_2_code
def yX0_states : MethodName := ⟨RX0, "states", "(I)Z"⟩
abbrev cX0_size : ByteArray := prog_1_method_3_code
def yX0_size : MethodName := ⟨RX0, "size", "()I"⟩
abbrev cX0_start : ByteArray := prog_1_method_4_code
def yX0_start : MethodName := ⟨RX0, "start", "(ID)Z"⟩
abbrev cX0_move : ByteArray := prog_1_method_5_code
def yX0_move : MethodName := ⟨RX0, "move", "(IID)Z"⟩
abbrev cX0_show : ByteArray := prog_1_method_6_code
def yX0_show : MethodName := ⟨RX0, "show", "(IID)Z"⟩
abbrev cX0_read : ByteArray := prog_1_method_7_code
def yX0_read : MethodName := ⟨RX0, "read", "(I)Z"⟩
abbrev cX0_unread : ByteArray := prog_1_method_8_code
def yX0_unread : MethodName := ⟨RX0, "unread", "()Z"⟩
abbrev cX0_length : ByteArray := prog_1_method_9_code
def yX0_length : MethodName := ⟨RX0, "length", "()I"⟩
abbrev cX0_forward : ByteArray := prog_1_method_10_code
def yX0_forward : MethodName := ⟨RX0, "forward", "(II)D"⟩
abbrev cX0_backward : ByteArray := prog_1_method_11_code
def yX0_backward : MethodName := ⟨RX0, "backward", "(II)D"⟩
abbrev cX0_total : ByteArray := prog_1_method_12_code
def yX0_total : MethodName := ⟨RX0, "total", "()D"⟩
abbrev cX0_best : ByteArray := prog_1_method_13_code
def yX0_best : MethodName := ⟨RX0, "best", "()D"⟩
abbrev cX0_bestState : ByteArray := prog_1_method_14_code
def yX0_bestState : MethodName := ⟨RX0, "bestState", "(I)I"⟩
abbrev cX0_share : ByteArray := prog_1_method_15_code
def yX0_share : MethodName := ⟨RX0, "share", "(II)D"⟩
abbrev cX0_possible : ByteArray := prog_1_method_16_code
def yX0_possible : MethodName := ⟨RX0, "possible", "()J"⟩
abbrev cX0_isState : ByteArray := prog_1_method_17_code
def yX0_isState : MethodName := ⟨RX0, "isState", "(I)Z"⟩
abbrev cX0_isPlace : ByteArray := prog_1_method_18_code
def yX0_isPlace : MethodName := ⟨RX0, "isPlace", "(I)Z"⟩
abbrev cX0_isSymbol : ByteArray := prog_1_method_19_code
def yX0_isSymbol : MethodName := ⟨RX0, "isSymbol", "(I)Z"⟩
abbrev cX0_isWeight : ByteArray := prog_1_method_20_code
def yX0_isWeight : MethodName := ⟨RX0, "isWeight", "(D)Z"⟩
abbrev cX0_refuseWrongPlaceOrState : ByteArray := prog_1_method_21_code
def yX0_refuseWrongPlaceOrState : MethodName := ⟨RX0, "refuseWrongPlaceOrState", "(II)V"⟩
abbrev cX0_clearWeights : ByteArray := prog_1_method_22_code
def yX0_clearWeights : MethodName := ⟨RX0, "clearWeights", "()V"⟩
abbrev cX0_fillForward : ByteArray := prog_1_method_23_code
def yX0_fillForward : MethodName := ⟨RX0, "fillForward", "()V"⟩
abbrev cX0_forwardInto : ByteArray := prog_1_method_24_code
def yX0_forwardInto : MethodName := ⟨RX0, "forwardInto", "(II)D"⟩
abbrev cX0_sumOfLastForward : ByteArray := prog_1_method_25_code
def yX0_sumOfLastForward : MethodName := ⟨RX0, "sumOfLastForward", "()D"⟩
abbrev cX0_fillBackward : ByteArray := prog_1_method_26_code
def yX0_fillBackward : MethodName := ⟨RX0, "fillBackward", "()V"⟩
abbrev cX0_backwardFrom : ByteArray := prog_1_method_27_code
def yX0_backwardFrom : MethodName := ⟨RX0, "backwardFrom", "(II)D"⟩
abbrev cX0_fillBest : ByteArray := prog_1_method_28_code
def yX0_fillBest : MethodName := ⟨RX0, "fillBest", "()V"⟩
abbrev cX0_bestInto : ByteArray := prog_1_method_29_code
def yX0_bestInto : MethodName := ⟨RX0, "bestInto", "(II)D"⟩
abbrev cX0_lastBestState : ByteArray := prog_1_method_30_code
def yX0_lastBestState : MethodName := ⟨RX0, "lastBestState", "()I"⟩
abbrev cX0_fillWayCounts : ByteArray := prog_1_method_31_code
def yX0_fillWayCounts : MethodName := ⟨RX0, "fillWayCounts", "()V"⟩
abbrev cX0_waysInto : ByteArray := prog_1_method_32_code
def yX0_waysInto : MethodName := ⟨RX0, "waysInto", "(II)J"⟩
def RX1 : String := "PathOddsModel"
def TX1 : u_T := fun k => match k with
  | 0 => ("PathOddsModel", "n", "I", false)
  | 1 => ("PathOddsModel", "length", "I", false)
  | 2 => ("PathOddsModel", "thrown", "I", false)
  | 3 => ("PathOddsModel", "starts", "[D", true)
  | 4 => ("PathOddsModel", "moves", "[D", true)
  | 5 => ("PathOddsModel", "shows", "[D", true)
  | 6 => ("PathOddsModel", "row", "[I", true)
  | 7 => ("PathOddsModel", "now", "[D", true)
  | 8 => ("PathOddsModel", "old", "[D", true)
  | 9 => ("PathOddsModel", "counts", "[J", true)
  | _ => ("PathOddsModel", "before", "[J", true)
def tyX1 : Nat → FieldType := fun k => match k with
  | 0 => .int
  | 1 => .int
  | 2 => .int
  | 3 => .array .double
  | 4 => .array .double
  | 5 => .array .double
  | 6 => .array .int
  | 7 => .array .double
  | 8 => .array .double
  | 9 => .array .long
  | _ => .array .long
abbrev wsX10 : List Cond := u_ws RX1 TX1 11
theorem nmX1 : ∀ a, a < 11 → ∀ b, b < 11 → a ≠ b → (TX1 a).2.1 ≠ (TX1 b).2.1 := by decide +kernel
theorem tyX1_ok : ∀ k, k < 11 → parseFieldDescriptor (TX1 k).2.2.1 = some (tyX1 k) := by decide +kernel
abbrev cX1_init : ByteArray := prog_3_method_1_code
def yX1_init : MethodName := ⟨RX1, "<init>", "()V"⟩
abbrev cX1_thrown : ByteArray := prog_3_method_2_code
def yX1_thrown : MethodName := ⟨RX1, "thrown", "()I"⟩
abbrev cX1_unit : ByteArray := prog_3_method_3_code
def yX1_unit : MethodName := ⟨RX1, "unit", "(D)Z"⟩
abbrev cX1_state : ByteArray := prog_3_method_4_code
def yX1_state : MethodName := ⟨RX1, "state", "(I)Z"⟩
abbrev cX1_symbol : ByteArray := prog_3_method_5_code
def yX1_symbol : MethodName := ⟨RX1, "symbol", "(I)Z"⟩
abbrev cX1_states : ByteArray := prog_3_method_6_code
def yX1_states : MethodName := ⟨RX1, "states", "(I)Z"⟩
abbrev cX1_size : ByteArray := prog_3_method_7_code
def yX1_size : MethodName := ⟨RX1, "size", "()I"⟩
abbrev cX1_start : ByteArray := prog_3_method_8_code
def yX1_start : MethodName := ⟨RX1, "start", "(ID)Z"⟩
abbrev cX1_move : ByteArray := prog_3_method_9_code
def yX1_move : MethodName := ⟨RX1, "move", "(IID)Z"⟩
abbrev cX1_show : ByteArray := prog_3_method_10_code
def yX1_show : MethodName := ⟨RX1, "show", "(IID)Z"⟩
abbrev cX1_read : ByteArray := prog_3_method_11_code
def yX1_read : MethodName := ⟨RX1, "read", "(I)Z"⟩
abbrev cX1_unread : ByteArray := prog_3_method_12_code
def yX1_unread : MethodName := ⟨RX1, "unread", "()Z"⟩
abbrev cX1_length : ByteArray := prog_3_method_13_code
def yX1_length : MethodName := ⟨RX1, "length", "()I"⟩
abbrev cX1_shown : ByteArray := prog_3_method_14_code
def yX1_shown : MethodName := ⟨RX1, "shown", "(II)D"⟩
abbrev cX1_shift : ByteArray := prog_3_method_15_code
def yX1_shift : MethodName := ⟨RX1, "shift", "()V"⟩
abbrev cX1_ahead : ByteArray := prog_3_method_16_code
def yX1_ahead : MethodName := ⟨RX1, "ahead", "(I)V"⟩
abbrev cX1_behind : ByteArray := prog_3_method_17_code
def yX1_behind : MethodName := ⟨RX1, "behind", "(I)V"⟩
abbrev cX1_greatest : ByteArray := prog_3_method_18_code
def yX1_greatest : MethodName := ⟨RX1, "greatest", "(I)V"⟩
abbrev cX1_from : ByteArray := prog_3_method_19_code
def yX1_from : MethodName := ⟨RX1, "from", "(I)I"⟩
abbrev cX1_fault : ByteArray := prog_3_method_20_code
def yX1_fault : MethodName := ⟨RX1, "fault", "(II)I"⟩
abbrev cX1_forward : ByteArray := prog_3_method_21_code
def yX1_forward : MethodName := ⟨RX1, "forward", "(II)D"⟩
abbrev cX1_backward : ByteArray := prog_3_method_22_code
def yX1_backward : MethodName := ⟨RX1, "backward", "(II)D"⟩
abbrev cX1_all : ByteArray := prog_3_method_23_code
def yX1_all : MethodName := ⟨RX1, "all", "()D"⟩
abbrev cX1_total : ByteArray := prog_3_method_24_code
def yX1_total : MethodName := ⟨RX1, "total", "()D"⟩
abbrev cX1_last : ByteArray := prog_3_method_25_code
def yX1_last : MethodName := ⟨RX1, "last", "()I"⟩
abbrev cX1_best : ByteArray := prog_3_method_26_code
def yX1_best : MethodName := ⟨RX1, "best", "()D"⟩
abbrev cX1_bestState : ByteArray := prog_3_method_27_code
def yX1_bestState : MethodName := ⟨RX1, "bestState", "(I)I"⟩
abbrev cX1_share : ByteArray := prog_3_method_28_code
def yX1_share : MethodName := ⟨RX1, "share", "(II)D"⟩
abbrev cX1_possible : ByteArray := prog_3_method_29_code
def yX1_possible : MethodName := ⟨RX1, "possible", "()J"⟩
def RJx00060 : String := "java/lang/ArrayIndexOutOfBoundsException"
def TJx00060 : u_T := fun k => match k with
  | 0 => ("java/lang/Throwable", "backtrace", "Ljava/lang/Object;", false)
  | 1 => ("java/lang/Throwable", "detailMessage", "Ljava/lang/String;", false)
  | 2 => ("java/lang/Throwable", "cause", "Ljava/lang/Throwable;", false)
  | 3 => ("java/lang/Throwable", "stackTrace", "[Ljava/lang/StackTraceElement;", false)
  | 4 => ("java/lang/Throwable", "depth", "I", false)
  | _ => ("java/lang/Throwable", "suppressedExceptions", "Ljava/util/List;", false)
def tyJx00060 : Nat → FieldType := fun k => match k with
  | 0 => .object "java/lang/Object"
  | 1 => .object "java/lang/String"
  | 2 => .object "java/lang/Throwable"
  | 3 => .array (.object "java/lang/StackTraceElement")
  | 4 => .int
  | _ => .object "java/util/List"
abbrev wsJx000600 : List Cond := u_ws RJx00060 TJx00060 6
theorem nmJx00060 : ∀ a, a < 6 → ∀ b, b < 6 → a ≠ b → (TJx00060 a).2.1 ≠ (TJx00060 b).2.1 := by decide +kernel
theorem tyJx00060_ok : ∀ k, k < 6 → parseFieldDescriptor (TJx00060 k).2.2.1 = some (tyJx00060 k) := by decide +kernel
abbrev cJx00060_init_a7421 : ByteArray := prog_5_method_2_code
def yJx00060_init_a7421 : MethodName := ⟨RJx00060, "<init>", "(Ljava/lang/String;)V"⟩
def RJ0 : String := "java/lang/String"
def TJ0 : u_T := fun k => match k with
  | 0 => ("java/lang/String", "value", "[B", true)
  | _ => ("java/lang/String", "coder", "B", true)
def tyJ0 : Nat → FieldType := fun k => match k with
  | 0 => .array .byte
  | _ => .byte
abbrev wsJ00 : List Cond := u_ws RJ0 TJ0 2
theorem nmJ0 : ∀ a, a < 2 → ∀ b, b < 2 → a ≠ b → (TJ0 a).2.1 ≠ (TJ0 b).2.1 := by decide +kernel
theorem tyJ0_ok : ∀ k, k < 2 → parseFieldDescriptor (TJ0 k).2.2.1 = some (tyJ0 k) := by decide +kernel
def RL : String := "PathOddsLaw"
abbrev cL_forward : ByteArray := method_3_code
def yL_forward : MethodName := ⟨RL, "forward", "(LPathOdds;II[D)I"⟩
abbrev cL_backward : ByteArray := method_4_code
def yL_backward : MethodName := ⟨RL, "backward", "(LPathOdds;II[D)I"⟩
abbrev cL_share : ByteArray := method_5_code
def yL_share : MethodName := ⟨RL, "share", "(LPathOdds;II[D)I"⟩
abbrev cL_law : ByteArray := code
def yL_law : MethodName := ⟨RL, "law", "([I)Z"⟩
def wsX0_init : List Cond := .code yX0_init cX0_init 1 none :: ([.methodLink RX0 1 objectInit, .instanceMethod objectInit, .code objectInit ⟨#[0xb1]⟩ 1 none, .arrayClass .double, .fieldLink RX0 9 "PathOdds" "startWeights" "[D", .classLink RX0 13 "[[D", .fieldLink RX0 15 "PathOdds" "moveWeights" "[[D", .fieldLink RX0 18 "PathOdds" "showWeights" "[[D", .arrayClass .int, .fieldLink RX0 21 "PathOdds" "row" "[I", .fieldLink RX0 25 "PathOdds" "stateCount" "I", .fieldLink RX0 29 "PathOdds" "rowLength" "I", .fieldLink RX0 32 "PathOdds" "forwardOdds" "[[D", .fieldLink RX0 35 "PathOdds" "backwardOdds" "[[D", .fieldLink RX0 38 "PathOdds" "bestOdds" "[[D", .classLink RX0 41 "[[I", .fieldLink RX0 43 "PathOdds" "bestFrom" "[[I", .classLink RX0 46 "[[J", .arrayClass .long, .fieldLink RX0 48 "PathOdds" "wayCounts" "[[J"] ++ wsX00)
def wsX0_clearWeights : List Cond := .code yX0_clearWeights cX0_clearWeights 3 none :: ([.fieldLink RX0 9 "PathOdds" "startWeights" "[D", .fieldLink RX0 15 "PathOdds" "moveWeights" "[[D", .fieldLink RX0 18 "PathOdds" "showWeights" "[[D"] ++ wsX00 ++ (vx_atM "java/lang/ArrayIndexOutOfBoundsException" ["java/lang/IndexOutOfBoundsException", "java/lang/RuntimeException", "java/lang/Exception"]).filter goodWord)
def wsX0_states : List Cond := .code yX0_states cX0_states 2 (some .boolean) :: ([.fieldLink RX0 25 "PathOdds" "stateCount" "I", .fieldLink RX0 29 "PathOdds" "rowLength" "I", .methodLink RX0 51 yX0_clearWeights, .instanceMethod yX0_clearWeights, .selects RX0 yX0_clearWeights yX0_clearWeights, .initialized RX0, .code yX0_clearWeights cX0_clearWeights 3 none, .fieldLink RX0 9 "PathOdds" "startWeights" "[D", .fieldLink RX0 15 "PathOdds" "moveWeights" "[[D", .fieldLink RX0 18 "PathOdds" "showWeights" "[[D"] ++ wsX00 ++ (vx_atM "java/lang/ArrayIndexOutOfBoundsException" ["java/lang/IndexOutOfBoundsException", "java/lang/RuntimeException", "java/lang/Exception"]).filter goodWord)
def wsX0_size : List Cond := .code yX0_size cX0_size 1 (some .int) :: ([.fieldLink RX0 25 "PathOdds" "stateCount" "I"] ++ wsX00)
def wsX0_isState : List Cond := .code yX0_isState cX0_isState 2 (some .boolean) :: ([.fieldLink RX0 25 "PathOdds" "stateCount" "I"] ++ wsX00)
def wsX0_isWeight : List Cond := .code yX0_isWeight cX0_isWeight 2 (some .boolean) :: ([])
def wsX0_start : List Cond := .code yX0_start cX0_start 4 (some .boolean) :: ([.fieldLink RX0 9 "PathOdds" "startWeights" "[D", .methodLink RX0 54 yX0_isState, .instanceMethod yX0_isState, .selects RX0 yX0_isState yX0_isState, .initialized RX0, .code yX0_isState cX0_isState 2 (some .boolean), .fieldLink RX0 25 "PathOdds" "stateCount" "I", .methodLink RX0 58 yX0_isWeight, .static yX0_isWeight, .code yX0_isWeight cX0_isWeight 2 (some .boolean)] ++ wsX00 ++ (vx_atM "java/lang/ArrayIndexOutOfBoundsException" ["java/lang/IndexOutOfBoundsException", "java/lang/RuntimeException", "java/lang/Exception"]).filter goodWord)
def wsX0_move : List Cond := .code yX0_move cX0_move 5 (some .boolean) :: ([.fieldLink RX0 15 "PathOdds" "moveWeights" "[[D", .methodLink RX0 54 yX0_isState, .instanceMethod yX0_isState, .selects RX0 yX0_isState yX0_isState, .initialized RX0, .code yX0_isState cX0_isState 2 (some .boolean), .fieldLink RX0 25 "PathOdds" "stateCount" "I", .methodLink RX0 58 yX0_isWeight, .static yX0_isWeight, .code yX0_isWeight cX0_isWeight 2 (some .boolean)] ++ wsX00 ++ (vx_atM "java/lang/ArrayIndexOutOfBoundsException" ["java/lang/IndexOutOfBoundsException", "java/lang/RuntimeException", "java/lang/Exception"]).filter goodWord)
def wsX0_isSymbol : List Cond := .code yX0_isSymbol cX0_isSymbol 1 (some .boolean) :: ([])
def wsX0_show : List Cond := .code yX0_show cX0_show 5 (some .boolean) :: ([.fieldLink RX0 18 "PathOdds" "showWeights" "[[D", .methodLink RX0 54 yX0_isState, .instanceMethod yX0_isState, .selects RX0 yX0_isState yX0_isState, .initialized RX0, .code yX0_isState cX0_isState 2 (some .boolean), .fieldLink RX0 25 "PathOdds" "stateCount" "I", .methodLink RX0 62 yX0_isSymbol, .static yX0_isSymbol, .code yX0_isSymbol cX0_isSymbol 1 (some .boolean), .methodLink RX0 58 yX0_isWeight, .static yX0_isWeight, .code yX0_isWeight cX0_isWeight 2 (some .boolean)] ++ wsX00 ++ (vx_atM "java/lang/ArrayIndexOutOfBoundsException" ["java/lang/IndexOutOfBoundsException", "java/lang/RuntimeException", "java/lang/Exception"]).filter goodWord)
def wsX0_read : List Cond := .code yX0_read cX0_read 2 (some .boolean) :: ([.fieldLink RX0 29 "PathOdds" "rowLength" "I", .fieldLink RX0 21 "PathOdds" "row" "[I", .methodLink RX0 62 yX0_isSymbol, .static yX0_isSymbol, .initialized RX0, .code yX0_isSymbol cX0_isSymbol 1 (some .boolean)] ++ wsX00 ++ (vx_atM "java/lang/ArrayIndexOutOfBoundsException" ["java/lang/IndexOutOfBoundsException", "java/lang/RuntimeException", "java/lang/Exception"]).filter goodWord)
def wsX0_unread : List Cond := .code yX0_unread cX0_unread 1 (some .boolean) :: ([.fieldLink RX0 29 "PathOdds" "rowLength" "I"] ++ wsX00)
def wsX0_length : List Cond := .code yX0_length cX0_length 1 (some .int) :: ([.fieldLink RX0 29 "PathOdds" "rowLength" "I"] ++ wsX00)
def wsX0_isPlace : List Cond := .code yX0_isPlace cX0_isPlace 2 (some .boolean) :: ([.fieldLink RX0 29 "PathOdds" "rowLength" "I"] ++ wsX00)
def wsX0_refuseWrongPlaceOrState : List Cond := .code yX0_refuseWrongPlaceOrState cX0_refuseWrongPlaceOrState 3 none :: ([.classLink RX0 99 "java/lang/IndexOutOfBoundsException", .initialized "java/lang/IndexOutOfBoundsException", .classLink RX0 104 "java/lang/IllegalArgumentException", .initialized "java/lang/IllegalArgumentException", .methodLink RX0 86 yX0_isPlace, .instanceMethod yX0_isPlace, .selects RX0 yX0_isPlace yX0_isPlace, .initialized RX0, .code yX0_isPlace cX0_isPlace 2 (some .boolean), .fieldLink RX0 29 "PathOdds" "rowLength" "I", .methodLink RX0 54 yX0_isState, .instanceMethod yX0_isState, .selects RX0 yX0_isState yX0_isState, .code yX0_isState cX0_isState 2 (some .boolean), .fieldLink RX0 25 "PathOdds" "stateCount" "I"] ++ wsX00 ++ (vx_atS RX0 103 "java/lang/IndexOutOfBoundsException" ["java/lang/RuntimeException", "java/lang/Exception"]).filter goodWord ++ (vx_atS RX0 108 "java/lang/IllegalArgumentException" ["java/lang/RuntimeException", "java/lang/Exception"]).filter goodWord)
def wsX0_forwardInto : List Cond := .code yX0_forwardInto cX0_forwardInto 6 (some .double) :: ([.fieldLink RX0 9 "PathOdds" "startWeights" "[D", .fieldLink RX0 25 "PathOdds" "stateCount" "I", .fieldLink RX0 32 "PathOdds" "forwardOdds" "[[D", .fieldLink RX0 15 "PathOdds" "moveWeights" "[[D"] ++ wsX00 ++ (vx_atM "java/lang/ArrayIndexOutOfBoundsException" ["java/lang/IndexOutOfBoundsException", "java/lang/RuntimeException", "java/lang/Exception"]).filter goodWord)
def wsX0_fillForward : List Cond := .code yX0_fillForward cX0_fillForward 4 none :: ([.fieldLink RX0 29 "PathOdds" "rowLength" "I", .fieldLink RX0 21 "PathOdds" "row" "[I", .fieldLink RX0 25 "PathOdds" "stateCount" "I", .fieldLink RX0 32 "PathOdds" "forwardOdds" "[[D", .fieldLink RX0 18 "PathOdds" "showWeights" "[[D", .methodLink RX0 109 yX0_forwardInto, .instanceMethod yX0_forwardInto, .selects RX0 yX0_forwardInto yX0_forwardInto, .initialized RX0, .code yX0_forwardInto cX0_forwardInto 6 (some .double), .fieldLink RX0 9 "PathOdds" "startWeights" "[D", .fieldLink RX0 15 "PathOdds" "moveWeights" "[[D"] ++ wsX00 ++ (vx_atM "java/lang/ArrayIndexOutOfBoundsException" ["java/lang/IndexOutOfBoundsException", "java/lang/RuntimeException", "java/lang/Exception"]).filter goodWord)
def wsX0_forward_r1 : List Cond := [Cond.fieldLink RX0 32 "PathOdds" "forwardOdds" "[[D", Cond.methodLink RX0 65 yX0_refuseWrongPlaceOrState, Cond.instanceMethod yX0_refuseWrongPlaceOrState, Cond.selects RX0 yX0_refuseWrongPlaceOrState yX0_refuseWrongPlaceOrState, Cond.initialized RX0, Cond.code yX0_refuseWrongPlaceOrState cX0_refuseWrongPlaceOrState 3 none, Cond.classLink RX0 99 "java/lang/IndexOutOfBoundsException", Cond.initialized "java/lang/IndexOutOfBoundsException", Cond.classLink RX0 104 "java/lang/IllegalArgumentException", Cond.initialized "java/lang/IllegalArgumentException", Cond.methodLink RX0 86 yX0_isPlace, Cond.instanceMethod yX0_isPlace, Cond.selects RX0 yX0_isPlace yX0_isPlace, Cond.code yX0_isPlace cX0_isPlace 2 (some .boolean), Cond.fieldLink RX0 29 "PathOdds" "rowLength" "I", Cond.methodLink RX0 54 yX0_isState, Cond.instanceMethod yX0_isState, Cond.selects RX0 yX0_isState yX0_isState, Cond.code yX0_isState cX0_isState 2 (some .boolean), Cond.fieldLink RX0 25 "PathOdds" "stateCount" "I", Cond.methodLink RX0 69 yX0_fillForward, Cond.instanceMethod yX0_fillForward, Cond.selects RX0 yX0_fillForward yX0_fillForward, Cond.code yX0_fillForward cX0_fillForward 4 none]
def wsX0_forward_r2 : List Cond := [Cond.fieldLink RX0 21 "PathOdds" "row" "[I", Cond.fieldLink RX0 18 "PathOdds" "showWeights" "[[D", Cond.methodLink RX0 109 yX0_forwardInto, Cond.instanceMethod yX0_forwardInto, Cond.selects RX0 yX0_forwardInto yX0_forwardInto, Cond.code yX0_forwardInto cX0_forwardInto 6 (some .double), Cond.fieldLink RX0 9 "PathOdds" "startWeights" "[D", Cond.fieldLink RX0 15 "PathOdds" "moveWeights" "[[D"]
def wsX0_forward : List Cond := .code yX0_forward cX0_forward 3 (some .double) :: ((wsX0_forward_r1 ++ wsX0_forward_r2) ++ wsX00 ++ (vx_atM "java/lang/ArrayIndexOutOfBoundsException" ["java/lang/IndexOutOfBoundsException", "java/lang/RuntimeException", "java/lang/Exception"]).filter goodWord ++ (vx_atS RX0 103 "java/lang/IndexOutOfBoundsException" ["java/lang/RuntimeException", "java/lang/Exception"]).filter goodWord ++ (vx_atS RX0 108 "java/lang/IllegalArgumentException" ["java/lang/RuntimeException", "java/lang/Exception"]).filter goodWord)
def wsX0_backwardFrom : List Cond := .code yX0_backwardFrom cX0_backwardFrom 7 (some .double) :: ([.fieldLink RX0 29 "PathOdds" "rowLength" "I", .fieldLink RX0 21 "PathOdds" "row" "[I", .fieldLink RX0 25 "PathOdds" "stateCount" "I", .fieldLink RX0 15 "PathOdds" "moveWeights" "[[D", .fieldLink RX0 18 "PathOdds" "showWeights" "[[D", .fieldLink RX0 35 "PathOdds" "backwardOdds" "[[D"] ++ wsX00 ++ (vx_atM "java/lang/ArrayIndexOutOfBoundsException" ["java/lang/IndexOutOfBoundsException", "java/lang/RuntimeException", "java/lang/Exception"]).filter goodWord)
def wsX0_fillBackward : List Cond := .code yX0_fillBackward cX0_fillBackward 3 none :: ([.fieldLink RX0 29 "PathOdds" "rowLength" "I", .fieldLink RX0 25 "PathOdds" "stateCount" "I", .fieldLink RX0 35 "PathOdds" "backwardOdds" "[[D", .methodLink RX0 113 yX0_backwardFrom, .instanceMethod yX0_backwardFrom, .selects RX0 yX0_backwardFrom yX0_backwardFrom, .initialized RX0, .code yX0_backwardFrom cX0_backwardFrom 7 (some .double), .fieldLink RX0 21 "PathOdds" "row" "[I", .fieldLink RX0 15 "PathOdds" "moveWeights" "[[D", .fieldLink RX0 18 "PathOdds" "showWeights" "[[D"] ++ wsX00 ++ (vx_atM "java/lang/ArrayIndexOutOfBoundsException" ["java/lang/IndexOutOfBoundsException", "java/lang/RuntimeException", "java/lang/Exception"]).filter goodWord)
def wsX0_backward_r1 : List Cond := [Cond.fieldLink RX0 35 "PathOdds" "backwardOdds" "[[D", Cond.methodLink RX0 65 yX0_refuseWrongPlaceOrState, Cond.instanceMethod yX0_refuseWrongPlaceOrState, Cond.selects RX0 yX0_refuseWrongPlaceOrState yX0_refuseWrongPlaceOrState, Cond.initialized RX0, Cond.code yX0_refuseWrongPlaceOrState cX0_refuseWrongPlaceOrState 3 none, Cond.classLink RX0 99 "java/lang/IndexOutOfBoundsException", Cond.initialized "java/lang/IndexOutOfBoundsException", Cond.classLink RX0 104 "java/lang/IllegalArgumentException", Cond.initialized "java/lang/IllegalArgumentException", Cond.methodLink RX0 86 yX0_isPlace, Cond.instanceMethod yX0_isPlace, Cond.selects RX0 yX0_isPlace yX0_isPlace, Cond.code yX0_isPlace cX0_isPlace 2 (some .boolean), Cond.fieldLink RX0 29 "PathOdds" "rowLength" "I", Cond.methodLink RX0 54 yX0_isState, Cond.instanceMethod yX0_isState, Cond.selects RX0 yX0_isState yX0_isState, Cond.code yX0_isState cX0_isState 2 (some .boolean), Cond.fieldLink RX0 25 "PathOdds" "stateCount" "I", Cond.methodLink RX0 72 yX0_fillBackward, Cond.instanceMethod yX0_fillBackward, Cond.selects RX0 yX0_fillBackward yX0_fillBackward, Cond.code yX0_fillBackward cX0_fillBackward 3 none]
def wsX0_backward_r2 : List Cond := [Cond.methodLink RX0 113 yX0_backwardFrom, Cond.instanceMethod yX0_backwardFrom, Cond.selects RX0 yX0_backwardFrom yX0_backwardFrom, Cond.code yX0_backwardFrom cX0_backwardFrom 7 (some .double), Cond.fieldLink RX0 21 "PathOdds" "row" "[I", Cond.fieldLink RX0 15 "PathOdds" "moveWeights" "[[D", Cond.fieldLink RX0 18 "PathOdds" "showWeights" "[[D"]
def wsX0_backward : List Cond := .code yX0_backward cX0_backward 3 (some .double) :: ((wsX0_backward_r1 ++ wsX0_backward_r2) ++ wsX00 ++ (vx_atM "java/lang/ArrayIndexOutOfBoundsException" ["java/lang/IndexOutOfBoundsException", "java/lang/RuntimeException", "java/lang/Exception"]).filter goodWord ++ (vx_atS RX0 103 "java/lang/IndexOutOfBoundsException" ["java/lang/RuntimeException", "java/lang/Exception"]).filter goodWord ++ (vx_atS RX0 108 "java/lang/IllegalArgumentException" ["java/lang/RuntimeException", "java/lang/Exception"]).filter goodWord)
def wsX0_sumOfLastForward : List Cond := .code yX0_sumOfLastForward cX0_sumOfLastForward 4 (some .double) :: ([.fieldLink RX0 25 "PathOdds" "stateCount" "I", .fieldLink RX0 32 "PathOdds" "forwardOdds" "[[D", .fieldLink RX0 29 "PathOdds" "rowLength" "I"] ++ wsX00 ++ (vx_atM "java/lang/ArrayIndexOutOfBoundsException" ["java/lang/IndexOutOfBoundsException", "java/lang/RuntimeException", "java/lang/Exception"]).filter goodWord)
def wsX0_total : List Cond := .code yX0_total cX0_total 1 (some .double) :: ([.fieldLink RX0 29 "PathOdds" "rowLength" "I", .methodLink RX0 69 yX0_fillForward, .instanceMethod yX0_fillForward, .selects RX0 yX0_fillForward yX0_fillForward, .initialized RX0, .code yX0_fillForward cX0_fillForward 4 none, .fieldLink RX0 21 "PathOdds" "row" "[I", .fieldLink RX0 25 "PathOdds" "stateCount" "I", .fieldLink RX0 32 "PathOdds" "forwardOdds" "[[D", .fieldLink RX0 18 "PathOdds" "showWeights" "[[D", .methodLink RX0 109 yX0_forwardInto, .instanceMethod yX0_forwardInto, .selects RX0 yX0_forwardInto yX0_forwardInto, .code yX0_forwardInto cX0_forwardInto 6 (some .double), .fieldLink RX0 9 "PathOdds" "startWeights" "[D", .fieldLink RX0 15 "PathOdds" "moveWeights" "[[D", .methodLink RX0 75 yX0_sumOfLastForward, .instanceMethod yX0_sumOfLastForward, .selects RX0 yX0_sumOfLastForward yX0_sumOfLastForward, .code yX0_sumOfLastForward cX0_sumOfLastForward 4 (some .double)] ++ wsX00 ++ (vx_atM "java/lang/ArrayIndexOutOfBoundsException" ["java/lang/IndexOutOfBoundsException", "java/lang/RuntimeException", "java/lang/Exception"]).filter goodWord)
def wsX0_bestInto : List Cond := .code yX0_bestInto cX0_bestInto 9 (some .double) :: ([.fieldLink RX0 9 "PathOdds" "startWeights" "[D", .fieldLink RX0 38 "PathOdds" "bestOdds" "[[D", .fieldLink RX0 15 "PathOdds" "moveWeights" "[[D", .fieldLink RX0 25 "PathOdds" "stateCount" "I", .fieldLink RX0 43 "PathOdds" "bestFrom" "[[I"] ++ wsX00 ++ (vx_atM "java/lang/ArrayIndexOutOfBoundsException" ["java/lang/IndexOutOfBoundsException", "java/lang/RuntimeException", "java/lang/Exception"]).filter goodWord)
def wsX0_fillBest : List Cond := .code yX0_fillBest cX0_fillBest 4 none :: ([.fieldLink RX0 29 "PathOdds" "rowLength" "I", .fieldLink RX0 21 "PathOdds" "row" "[I", .fieldLink RX0 25 "PathOdds" "stateCount" "I", .fieldLink RX0 38 "PathOdds" "bestOdds" "[[D", .fieldLink RX0 18 "PathOdds" "showWeights" "[[D", .methodLink RX0 116 yX0_bestInto, .instanceMethod yX0_bestInto, .selects RX0 yX0_bestInto yX0_bestInto, .initialized RX0, .code yX0_bestInto cX0_bestInto 9 (some .double), .fieldLink RX0 9 "PathOdds" "startWeights" "[D", .fieldLink RX0 15 "PathOdds" "moveWeights" "[[D", .fieldLink RX0 43 "PathOdds" "bestFrom" "[[I"] ++ wsX00 ++ (vx_atM "java/lang/ArrayIndexOutOfBoundsException" ["java/lang/IndexOutOfBoundsException", "java/lang/RuntimeException", "java/lang/Exception"]).filter goodWord)
def wsX0_lastBestState : List Cond := .code yX0_lastBestState cX0_lastBestState 3 (some .int) :: ([.fieldLink RX0 25 "PathOdds" "stateCount" "I", .fieldLink RX0 38 "PathOdds" "bestOdds" "[[D", .fieldLink RX0 29 "PathOdds" "rowLength" "I"] ++ wsX00 ++ (vx_atM "java/lang/ArrayIndexOutOfBoundsException" ["java/lang/IndexOutOfBoundsException", "java/lang/RuntimeException", "java/lang/Exception"]).filter goodWord)
def wsX0_best : List Cond := .code yX0_best cX0_best 1 (some .double) :: ([.fieldLink RX0 29 "PathOdds" "rowLength" "I", .fieldLink RX0 38 "PathOdds" "bestOdds" "[[D", .methodLink RX0 79 yX0_fillBest, .instanceMethod yX0_fillBest, .selects RX0 yX0_fillBest yX0_fillBest, .initialized RX0, .code yX0_fillBest cX0_fillBest 4 none, .fieldLink RX0 21 "PathOdds" "row" "[I", .fieldLink RX0 25 "PathOdds" "stateCount" "I", .fieldLink RX0 18 "PathOdds" "showWeights" "[[D", .methodLink RX0 116 yX0_bestInto, .instanceMethod yX0_bestInto, .selects RX0 yX0_bestInto yX0_bestInto, .code yX0_bestInto cX0_bestInto 9 (some .double), .fieldLink RX0 9 "PathOdds" "startWeights" "[D", .fieldLink RX0 15 "PathOdds" "moveWeights" "[[D", .fieldLink RX0 43 "PathOdds" "bestFrom" "[[I", .methodLink RX0 82 yX0_lastBestState, .instanceMethod yX0_lastBestState, .selects RX0 yX0_lastBestState yX0_lastBestState, .code yX0_lastBestState cX0_lastBestState 3 (some .int)] ++ wsX00 ++ (vx_atM "java/lang/ArrayIndexOutOfBoundsException" ["java/lang/IndexOutOfBoundsException", "java/lang/RuntimeException", "java/lang/Exception"]).filter goodWord)
def wsX0_bestState_r1 : List Cond := [Cond.fieldLink RX0 29 "PathOdds" "rowLength" "I", Cond.fieldLink RX0 43 "PathOdds" "bestFrom" "[[I", Cond.methodLink RX0 86 yX0_isPlace, Cond.instanceMethod yX0_isPlace, Cond.selects RX0 yX0_isPlace yX0_isPlace, Cond.initialized RX0, Cond.code yX0_isPlace cX0_isPlace 2 (some .boolean), Cond.methodLink RX0 79 yX0_fillBest, Cond.instanceMethod yX0_fillBest, Cond.selects RX0 yX0_fillBest yX0_fillBest, Cond.code yX0_fillBest cX0_fillBest 4 none, Cond.fieldLink RX0 21 "PathOdds" "row" "[I", Cond.fieldLink RX0 25 "PathOdds" "stateCount" "I", Cond.fieldLink RX0 38 "PathOdds" "bestOdds" "[[D", Cond.fieldLink RX0 18 "PathOdds" "showWeights" "[[D", Cond.methodLink RX0 116 yX0_bestInto, Cond.instanceMethod yX0_bestInto, Cond.selects RX0 yX0_bestInto yX0_bestInto, Cond.code yX0_bestInto cX0_bestInto 9 (some .double), Cond.fieldLink RX0 9 "PathOdds" "startWeights" "[D", Cond.fieldLink RX0 15 "PathOdds" "moveWeights" "[[D", Cond.methodLink RX0 82 yX0_lastBestState, Cond.instanceMethod yX0_lastBestState, Cond.selects RX0 yX0_lastBestState yX0_lastBestState]
def wsX0_bestState_r2 : List Cond := [Cond.code yX0_lastBestState cX0_lastBestState 3 (some .int)]
def wsX0_bestState : List Cond := .code yX0_bestState cX0_bestState 4 (some .int) :: ((wsX0_bestState_r1 ++ wsX0_bestState_r2) ++ wsX00 ++ (vx_atM "java/lang/ArrayIndexOutOfBoundsException" ["java/lang/IndexOutOfBoundsException", "java/lang/RuntimeException", "java/lang/Exception"]).filter goodWord)
def wsX0_share_r1 : List Cond := [Cond.classLink RX0 89 "java/lang/ArithmeticException", Cond.initialized "java/lang/ArithmeticException", Cond.fieldLink RX0 32 "PathOdds" "forwardOdds" "[[D", Cond.fieldLink RX0 35 "PathOdds" "backwardOdds" "[[D", Cond.methodLink RX0 65 yX0_refuseWrongPlaceOrState, Cond.instanceMethod yX0_refuseWrongPlaceOrState, Cond.selects RX0 yX0_refuseWrongPlaceOrState yX0_refuseWrongPlaceOrState, Cond.initialized RX0, Cond.code yX0_refuseWrongPlaceOrState cX0_refuseWrongPlaceOrState 3 none, Cond.classLink RX0 99 "java/lang/IndexOutOfBoundsException", Cond.initialized "java/lang/IndexOutOfBoundsException", Cond.classLink RX0 104 "java/lang/IllegalArgumentException", Cond.initialized "java/lang/IllegalArgumentException", Cond.methodLink RX0 86 yX0_isPlace, Cond.instanceMethod yX0_isPlace, Cond.selects RX0 yX0_isPlace yX0_isPlace, Cond.code yX0_isPlace cX0_isPlace 2 (some .boolean), Cond.fieldLink RX0 29 "PathOdds" "rowLength" "I", Cond.methodLink RX0 54 yX0_isState, Cond.instanceMethod yX0_isState, Cond.selects RX0 yX0_isState yX0_isState, Cond.code yX0_isState cX0_isState 2 (some .boolean), Cond.fieldLink RX0 25 "PathOdds" "stateCount" "I", Cond.methodLink RX0 69 yX0_fillForward]
def wsX0_share_r2 : List Cond := [Cond.instanceMethod yX0_fillForward, Cond.selects RX0 yX0_fillForward yX0_fillForward, Cond.code yX0_fillForward cX0_fillForward 4 none, Cond.fieldLink RX0 21 "PathOdds" "row" "[I", Cond.fieldLink RX0 18 "PathOdds" "showWeights" "[[D", Cond.methodLink RX0 109 yX0_forwardInto, Cond.instanceMethod yX0_forwardInto, Cond.selects RX0 yX0_forwardInto yX0_forwardInto, Cond.code yX0_forwardInto cX0_forwardInto 6 (some .double), Cond.fieldLink RX0 9 "PathOdds" "startWeights" "[D", Cond.fieldLink RX0 15 "PathOdds" "moveWeights" "[[D", Cond.methodLink RX0 75 yX0_sumOfLastForward, Cond.instanceMethod yX0_sumOfLastForward, Cond.selects RX0 yX0_sumOfLastForward yX0_sumOfLastForward, Cond.code yX0_sumOfLastForward cX0_sumOfLastForward 4 (some .double), Cond.methodLink RX0 72 yX0_fillBackward, Cond.instanceMethod yX0_fillBackward, Cond.selects RX0 yX0_fillBackward yX0_fillBackward, Cond.code yX0_fillBackward cX0_fillBackward 3 none, Cond.methodLink RX0 113 yX0_backwardFrom, Cond.instanceMethod yX0_backwardFrom, Cond.selects RX0 yX0_backwardFrom yX0_backwardFrom, Cond.code yX0_backwardFrom cX0_backwardFrom 7 (some .double)]
def wsX0_share : List Cond := .code yX0_share cX0_share 5 (some .double) :: ((wsX0_share_r1 ++ wsX0_share_r2) ++ wsX00 ++ (vx_atS RX0 93 "java/lang/ArithmeticException" ["java/lang/RuntimeException", "java/lang/Exception"]).filter goodWord ++ (vx_atM "java/lang/ArrayIndexOutOfBoundsException" ["java/lang/IndexOutOfBoundsException", "java/lang/RuntimeException", "java/lang/Exception"]).filter goodWord ++ (vx_atS RX0 103 "java/lang/IndexOutOfBoundsException" ["java/lang/RuntimeException", "java/lang/Exception"]).filter goodWord ++ (vx_atS RX0 108 "java/lang/IllegalArgumentException" ["java/lang/RuntimeException", "java/lang/Exception"]).filter goodWord)
def wsX0_waysInto : List Cond := .code yX0_waysInto cX0_waysInto 6 (some .long) :: ([.fieldLink RX0 9 "PathOdds" "startWeights" "[D", .fieldLink RX0 25 "PathOdds" "stateCount" "I", .fieldLink RX0 15 "PathOdds" "moveWeights" "[[D", .fieldLink RX0 48 "PathOdds" "wayCounts" "[[J"] ++ wsX00 ++ (vx_atM "java/lang/ArrayIndexOutOfBoundsException" ["java/lang/IndexOutOfBoundsException", "java/lang/RuntimeException", "java/lang/Exception"]).filter goodWord)
def wsX0_fillWayCounts : List Cond := .code yX0_fillWayCounts cX0_fillWayCounts 4 none :: ([.fieldLink RX0 29 "PathOdds" "rowLength" "I", .fieldLink RX0 21 "PathOdds" "row" "[I", .fieldLink RX0 25 "PathOdds" "stateCount" "I", .fieldLink RX0 48 "PathOdds" "wayCounts" "[[J", .fieldLink RX0 18 "PathOdds" "showWeights" "[[D", .methodLink RX0 119 yX0_waysInto, .instanceMethod yX0_waysInto, .selects RX0 yX0_waysInto yX0_waysInto, .initialized RX0, .code yX0_waysInto cX0_waysInto 6 (some .long), .fieldLink RX0 9 "PathOdds" "startWeights" "[D", .fieldLink RX0 15 "PathOdds" "moveWeights" "[[D"] ++ wsX00 ++ (vx_atM "java/lang/ArrayIndexOutOfBoundsException" ["java/lang/IndexOutOfBoundsException", "java/lang/RuntimeException", "java/lang/Exception"]).filter goodWord)
def wsX0_possible : List Cond := .code yX0_possible cX0_possible 4 (some .long) :: ([.fieldLink RX0 29 "PathOdds" "rowLength" "I", .fieldLink RX0 25 "PathOdds" "stateCount" "I", .fieldLink RX0 48 "PathOdds" "wayCounts" "[[J", .methodLink RX0 96 yX0_fillWayCounts, .instanceMethod yX0_fillWayCounts, .selects RX0 yX0_fillWayCounts yX0_fillWayCounts, .initialized RX0, .code yX0_fillWayCounts cX0_fillWayCounts 4 none, .fieldLink RX0 21 "PathOdds" "row" "[I", .fieldLink RX0 18 "PathOdds" "showWeights" "[[D", .methodLink RX0 119 yX0_waysInto, .instanceMethod yX0_waysInto, .selects RX0 yX0_waysInto yX0_waysInto, .code yX0_waysInto cX0_waysInto 6 (some .long), .fieldLink RX0 9 "PathOdds" "startWeights" "[D", .fieldLink RX0 15 "PathOdds" "moveWeights" "[[D"] ++ wsX00 ++ (vx_atM "java/lang/ArrayIndexOutOfBoundsException" ["java/lang/IndexOutOfBoundsException", "java/lang/RuntimeException", "java/lang/Exception"]).filter goodWord)
def wsX1_init : List Cond := .code yX1_init cX1_init 1 none :: ([.methodLink RX1 1 objectInit, .instanceMethod objectInit, .code objectInit ⟨#[0xb1]⟩ 1 none, .arrayClass .double, .fieldLink RX1 7 "PathOddsModel" "starts" "[D", .fieldLink RX1 13 "PathOddsModel" "moves" "[D", .fieldLink RX1 16 "PathOddsModel" "shows" "[D", .arrayClass .int, .fieldLink RX1 19 "PathOddsModel" "row" "[I", .fieldLink RX1 23 "PathOddsModel" "now" "[D", .fieldLink RX1 26 "PathOddsModel" "old" "[D", .arrayClass .long, .fieldLink RX1 29 "PathOddsModel" "counts" "[J", .fieldLink RX1 33 "PathOddsModel" "before" "[J", .fieldLink RX1 36 "PathOddsModel" "n" "I"] ++ wsX10)
def wsX1_thrown : List Cond := .code yX1_thrown cX1_thrown 1 (some .int) :: ([.fieldLink RX1 40 "PathOddsModel" "thrown" "I"] ++ wsX10)
def wsX1_unit : List Cond := .code yX1_unit cX1_unit 2 (some .boolean) :: ([])
def wsX1_state : List Cond := .code yX1_state cX1_state 2 (some .boolean) :: ([.fieldLink RX1 36 "PathOddsModel" "n" "I"] ++ wsX10)
def wsX1_symbol : List Cond := .code yX1_symbol cX1_symbol 1 (some .boolean) :: ([])
def wsX1_states : List Cond := .code yX1_states cX1_states 3 (some .boolean) :: ([.fieldLink RX1 40 "PathOddsModel" "thrown" "I", .fieldLink RX1 36 "PathOddsModel" "n" "I", .fieldLink RX1 43 "PathOddsModel" "length" "I", .fieldLink RX1 7 "PathOddsModel" "starts" "[D", .fieldLink RX1 13 "PathOddsModel" "moves" "[D", .fieldLink RX1 16 "PathOddsModel" "shows" "[D"] ++ wsX10 ++ (vx_atM "java/lang/ArrayIndexOutOfBoundsException" ["java/lang/IndexOutOfBoundsException", "java/lang/RuntimeException", "java/lang/Exception"]).filter goodWord)
def wsX1_size : List Cond := .code yX1_size cX1_size 1 (some .int) :: ([.fieldLink RX1 40 "PathOddsModel" "thrown" "I", .fieldLink RX1 36 "PathOddsModel" "n" "I"] ++ wsX10)
def wsX1_start : List Cond := .code yX1_start cX1_start 4 (some .boolean) :: ([.fieldLink RX1 40 "PathOddsModel" "thrown" "I", .fieldLink RX1 7 "PathOddsModel" "starts" "[D", .methodLink RX1 46 yX1_state, .instanceMethod yX1_state, .selects RX1 yX1_state yX1_state, .initialized RX1, .code yX1_state cX1_state 2 (some .boolean), .fieldLink RX1 36 "PathOddsModel" "n" "I", .methodLink RX1 50 yX1_unit, .static yX1_unit, .code yX1_unit cX1_unit 2 (some .boolean)] ++ wsX10 ++ (vx_atM "java/lang/ArrayIndexOutOfBoundsException" ["java/lang/IndexOutOfBoundsException", "java/lang/RuntimeException", "java/lang/Exception"]).filter goodWord)
def wsX1_move : List Cond := .code yX1_move cX1_move 5 (some .boolean) :: ([.fieldLink RX1 40 "PathOddsModel" "thrown" "I", .fieldLink RX1 13 "PathOddsModel" "moves" "[D", .methodLink RX1 46 yX1_state, .instanceMethod yX1_state, .selects RX1 yX1_state yX1_state, .initialized RX1, .code yX1_state cX1_state 2 (some .boolean), .fieldLink RX1 36 "PathOddsModel" "n" "I", .methodLink RX1 50 yX1_unit, .static yX1_unit, .code yX1_unit cX1_unit 2 (some .boolean)] ++ wsX10 ++ (vx_atM "java/lang/ArrayIndexOutOfBoundsException" ["java/lang/IndexOutOfBoundsException", "java/lang/RuntimeException", "java/lang/Exception"]).filter goodWord)
def wsX1_show : List Cond := .code yX1_show cX1_show 5 (some .boolean) :: ([.fieldLink RX1 40 "PathOddsModel" "thrown" "I", .fieldLink RX1 16 "PathOddsModel" "shows" "[D", .methodLink RX1 46 yX1_state, .instanceMethod yX1_state, .selects RX1 yX1_state yX1_state, .initialized RX1, .code yX1_state cX1_state 2 (some .boolean), .fieldLink RX1 36 "PathOddsModel" "n" "I", .methodLink RX1 54 yX1_symbol, .static yX1_symbol, .code yX1_symbol cX1_symbol 1 (some .boolean), .methodLink RX1 50 yX1_unit, .static yX1_unit, .code yX1_unit cX1_unit 2 (some .boolean)] ++ wsX10 ++ (vx_atM "java/lang/ArrayIndexOutOfBoundsException" ["java/lang/IndexOutOfBoundsException", "java/lang/RuntimeException", "java/lang/Exception"]).filter goodWord)
def wsX1_read : List Cond := .code yX1_read cX1_read 2 (some .boolean) :: ([.fieldLink RX1 40 "PathOddsModel" "thrown" "I", .fieldLink RX1 43 "PathOddsModel" "length" "I", .fieldLink RX1 19 "PathOddsModel" "row" "[I", .methodLink RX1 54 yX1_symbol, .static yX1_symbol, .initialized RX1, .code yX1_symbol cX1_symbol 1 (some .boolean)] ++ wsX10 ++ (vx_atM "java/lang/ArrayIndexOutOfBoundsException" ["java/lang/IndexOutOfBoundsException", "java/lang/RuntimeException", "java/lang/Exception"]).filter goodWord)
def wsX1_unread : List Cond := .code yX1_unread cX1_unread 1 (some .boolean) :: ([.fieldLink RX1 40 "PathOddsModel" "thrown" "I", .fieldLink RX1 43 "PathOddsModel" "length" "I"] ++ wsX10)
def wsX1_length : List Cond := .code yX1_length cX1_length 1 (some .int) :: ([.fieldLink RX1 40 "PathOddsModel" "thrown" "I", .fieldLink RX1 43 "PathOddsModel" "length" "I"] ++ wsX10)
def wsX1_shown : List Cond := .code yX1_shown cX1_shown 3 (some .double) :: ([.fieldLink RX1 16 "PathOddsModel" "shows" "[D", .fieldLink RX1 19 "PathOddsModel" "row" "[I"] ++ wsX10 ++ (vx_atM "java/lang/ArrayIndexOutOfBoundsException" ["java/lang/IndexOutOfBoundsException", "java/lang/RuntimeException", "java/lang/Exception"]).filter goodWord)
def wsX1_shift : List Cond := .code yX1_shift cX1_shift 2 none :: ([.fieldLink RX1 26 "PathOddsModel" "old" "[D", .fieldLink RX1 23 "PathOddsModel" "now" "[D"] ++ wsX10 ++ (vx_atM "java/lang/ArrayIndexOutOfBoundsException" ["java/lang/IndexOutOfBoundsException", "java/lang/RuntimeException", "java/lang/Exception"]).filter goodWord)
def wsX1_ahead : List Cond := .code yX1_ahead cX1_ahead 7 none :: ([.fieldLink RX1 36 "PathOddsModel" "n" "I", .fieldLink RX1 23 "PathOddsModel" "now" "[D", .fieldLink RX1 7 "PathOddsModel" "starts" "[D", .fieldLink RX1 26 "PathOddsModel" "old" "[D", .fieldLink RX1 13 "PathOddsModel" "moves" "[D", .methodLink RX1 57 yX1_shown, .instanceMethod yX1_shown, .selects RX1 yX1_shown yX1_shown, .initialized RX1, .code yX1_shown cX1_shown 3 (some .double), .fieldLink RX1 16 "PathOddsModel" "shows" "[D", .fieldLink RX1 19 "PathOddsModel" "row" "[I", .methodLink RX1 61 yX1_shift, .instanceMethod yX1_shift, .selects RX1 yX1_shift yX1_shift, .code yX1_shift cX1_shift 2 none] ++ wsX10 ++ (vx_atM "java/lang/ArrayIndexOutOfBoundsException" ["java/lang/IndexOutOfBoundsException", "java/lang/RuntimeException", "java/lang/Exception"]).filter goodWord)
def wsX1_behind : List Cond := .code yX1_behind cX1_behind 7 none :: ([.fieldLink RX1 36 "PathOddsModel" "n" "I", .fieldLink RX1 23 "PathOddsModel" "now" "[D", .fieldLink RX1 43 "PathOddsModel" "length" "I", .fieldLink RX1 13 "PathOddsModel" "moves" "[D", .fieldLink RX1 26 "PathOddsModel" "old" "[D", .methodLink RX1 61 yX1_shift, .instanceMethod yX1_shift, .selects RX1 yX1_shift yX1_shift, .initialized RX1, .code yX1_shift cX1_shift 2 none, .methodLink RX1 57 yX1_shown, .instanceMethod yX1_shown, .selects RX1 yX1_shown yX1_shown, .code yX1_shown cX1_shown 3 (some .double), .fieldLink RX1 16 "PathOddsModel" "shows" "[D", .fieldLink RX1 19 "PathOddsModel" "row" "[I"] ++ wsX10 ++ (vx_atM "java/lang/ArrayIndexOutOfBoundsException" ["java/lang/IndexOutOfBoundsException", "java/lang/RuntimeException", "java/lang/Exception"]).filter goodWord)
def wsX1_from : List Cond := .code yX1_from cX1_from 4 (some .int) :: ([.fieldLink RX1 36 "PathOddsModel" "n" "I", .fieldLink RX1 26 "PathOddsModel" "old" "[D", .fieldLink RX1 13 "PathOddsModel" "moves" "[D"] ++ wsX10 ++ (vx_atM "java/lang/ArrayIndexOutOfBoundsException" ["java/lang/IndexOutOfBoundsException", "java/lang/RuntimeException", "java/lang/Exception"]).filter goodWord)
def wsX1_greatest : List Cond := .code yX1_greatest cX1_greatest 4 none :: ([.fieldLink RX1 36 "PathOddsModel" "n" "I", .fieldLink RX1 23 "PathOddsModel" "now" "[D", .fieldLink RX1 7 "PathOddsModel" "starts" "[D", .fieldLink RX1 26 "PathOddsModel" "old" "[D", .fieldLink RX1 13 "PathOddsModel" "moves" "[D", .methodLink RX1 57 yX1_shown, .instanceMethod yX1_shown, .selects RX1 yX1_shown yX1_shown, .initialized RX1, .code yX1_shown cX1_shown 3 (some .double), .fieldLink RX1 16 "PathOddsModel" "shows" "[D", .fieldLink RX1 19 "PathOddsModel" "row" "[I", .methodLink RX1 61 yX1_shift, .instanceMethod yX1_shift, .selects RX1 yX1_shift yX1_shift, .code yX1_shift cX1_shift 2 none, .methodLink RX1 64 yX1_from, .instanceMethod yX1_from, .selects RX1 yX1_from yX1_from, .code yX1_from cX1_from 4 (some .int)] ++ wsX10 ++ (vx_atM "java/lang/ArrayIndexOutOfBoundsException" ["java/lang/IndexOutOfBoundsException", "java/lang/RuntimeException", "java/lang/Exception"]).filter goodWord)
def wsX1_fault : List Cond := .code yX1_fault cX1_fault 3 (some .int) :: ([.fieldLink RX1 43 "PathOddsModel" "length" "I", .methodLink RX1 46 yX1_state, .instanceMethod yX1_state, .selects RX1 yX1_state yX1_state, .initialized RX1, .code yX1_state cX1_state 2 (some .boolean), .fieldLink RX1 36 "PathOddsModel" "n" "I"] ++ wsX10)
def wsX1_forward_r1 : List Cond := [Cond.fieldLink RX1 40 "PathOddsModel" "thrown" "I", Cond.fieldLink RX1 23 "PathOddsModel" "now" "[D", Cond.methodLink RX1 68 yX1_fault, Cond.instanceMethod yX1_fault, Cond.selects RX1 yX1_fault yX1_fault, Cond.initialized RX1, Cond.code yX1_fault cX1_fault 3 (some .int), Cond.fieldLink RX1 43 "PathOddsModel" "length" "I", Cond.methodLink RX1 46 yX1_state, Cond.instanceMethod yX1_state, Cond.selects RX1 yX1_state yX1_state, Cond.code yX1_state cX1_state 2 (some .boolean), Cond.fieldLink RX1 36 "PathOddsModel" "n" "I", Cond.methodLink RX1 72 yX1_ahead, Cond.instanceMethod yX1_ahead, Cond.selects RX1 yX1_ahead yX1_ahead, Cond.code yX1_ahead cX1_ahead 7 none, Cond.fieldLink RX1 7 "PathOddsModel" "starts" "[D", Cond.fieldLink RX1 26 "PathOddsModel" "old" "[D", Cond.fieldLink RX1 13 "PathOddsModel" "moves" "[D", Cond.methodLink RX1 57 yX1_shown, Cond.instanceMethod yX1_shown, Cond.selects RX1 yX1_shown yX1_shown, Cond.code yX1_shown cX1_shown 3 (some .double)]
def wsX1_forward_r2 : List Cond := [Cond.fieldLink RX1 16 "PathOddsModel" "shows" "[D", Cond.fieldLink RX1 19 "PathOddsModel" "row" "[I", Cond.methodLink RX1 61 yX1_shift, Cond.instanceMethod yX1_shift, Cond.selects RX1 yX1_shift yX1_shift, Cond.code yX1_shift cX1_shift 2 none]
def wsX1_forward : List Cond := .code yX1_forward cX1_forward 3 (some .double) :: ((wsX1_forward_r1 ++ wsX1_forward_r2) ++ wsX10 ++ (vx_atM "java/lang/ArrayIndexOutOfBoundsException" ["java/lang/IndexOutOfBoundsException", "java/lang/RuntimeException", "java/lang/Exception"]).filter goodWord)
def wsX1_backward_r1 : List Cond := [Cond.fieldLink RX1 40 "PathOddsModel" "thrown" "I", Cond.fieldLink RX1 23 "PathOddsModel" "now" "[D", Cond.methodLink RX1 68 yX1_fault, Cond.instanceMethod yX1_fault, Cond.selects RX1 yX1_fault yX1_fault, Cond.initialized RX1, Cond.code yX1_fault cX1_fault 3 (some .int), Cond.fieldLink RX1 43 "PathOddsModel" "length" "I", Cond.methodLink RX1 46 yX1_state, Cond.instanceMethod yX1_state, Cond.selects RX1 yX1_state yX1_state, Cond.code yX1_state cX1_state 2 (some .boolean), Cond.fieldLink RX1 36 "PathOddsModel" "n" "I", Cond.methodLink RX1 76 yX1_behind, Cond.instanceMethod yX1_behind, Cond.selects RX1 yX1_behind yX1_behind, Cond.code yX1_behind cX1_behind 7 none, Cond.fieldLink RX1 13 "PathOddsModel" "moves" "[D", Cond.fieldLink RX1 26 "PathOddsModel" "old" "[D", Cond.methodLink RX1 61 yX1_shift, Cond.instanceMethod yX1_shift, Cond.selects RX1 yX1_shift yX1_shift, Cond.code yX1_shift cX1_shift 2 none, Cond.methodLink RX1 57 yX1_shown]
def wsX1_backward_r2 : List Cond := [Cond.instanceMethod yX1_shown, Cond.selects RX1 yX1_shown yX1_shown, Cond.code yX1_shown cX1_shown 3 (some .double), Cond.fieldLink RX1 16 "PathOddsModel" "shows" "[D", Cond.fieldLink RX1 19 "PathOddsModel" "row" "[I"]
def wsX1_backward : List Cond := .code yX1_backward cX1_backward 3 (some .double) :: ((wsX1_backward_r1 ++ wsX1_backward_r2) ++ wsX10 ++ (vx_atM "java/lang/ArrayIndexOutOfBoundsException" ["java/lang/IndexOutOfBoundsException", "java/lang/RuntimeException", "java/lang/Exception"]).filter goodWord)
def wsX1_all : List Cond := .code yX1_all cX1_all 4 (some .double) :: ([.fieldLink RX1 43 "PathOddsModel" "length" "I", .fieldLink RX1 36 "PathOddsModel" "n" "I", .fieldLink RX1 23 "PathOddsModel" "now" "[D", .methodLink RX1 72 yX1_ahead, .instanceMethod yX1_ahead, .selects RX1 yX1_ahead yX1_ahead, .initialized RX1, .code yX1_ahead cX1_ahead 7 none, .fieldLink RX1 7 "PathOddsModel" "starts" "[D", .fieldLink RX1 26 "PathOddsModel" "old" "[D", .fieldLink RX1 13 "PathOddsModel" "moves" "[D", .methodLink RX1 57 yX1_shown, .instanceMethod yX1_shown, .selects RX1 yX1_shown yX1_shown, .code yX1_shown cX1_shown 3 (some .double), .fieldLink RX1 16 "PathOddsModel" "shows" "[D", .fieldLink RX1 19 "PathOddsModel" "row" "[I", .methodLink RX1 61 yX1_shift, .instanceMethod yX1_shift, .selects RX1 yX1_shift yX1_shift, .code yX1_shift cX1_shift 2 none] ++ wsX10 ++ (vx_atM "java/lang/ArrayIndexOutOfBoundsException" ["java/lang/IndexOutOfBoundsException", "java/lang/RuntimeException", "java/lang/Exception"]).filter goodWord)
def wsX1_total_r1 : List Cond := [Cond.fieldLink RX1 40 "PathOddsModel" "thrown" "I", Cond.methodLink RX1 79 yX1_all, Cond.instanceMethod yX1_all, Cond.selects RX1 yX1_all yX1_all, Cond.initialized RX1, Cond.code yX1_all cX1_all 4 (some .double), Cond.fieldLink RX1 43 "PathOddsModel" "length" "I", Cond.fieldLink RX1 36 "PathOddsModel" "n" "I", Cond.fieldLink RX1 23 "PathOddsModel" "now" "[D", Cond.methodLink RX1 72 yX1_ahead, Cond.instanceMethod yX1_ahead, Cond.selects RX1 yX1_ahead yX1_ahead, Cond.code yX1_ahead cX1_ahead 7 none, Cond.fieldLink RX1 7 "PathOddsModel" "starts" "[D", Cond.fieldLink RX1 26 "PathOddsModel" "old" "[D", Cond.fieldLink RX1 13 "PathOddsModel" "moves" "[D", Cond.methodLink RX1 57 yX1_shown, Cond.instanceMethod yX1_shown, Cond.selects RX1 yX1_shown yX1_shown, Cond.code yX1_shown cX1_shown 3 (some .double), Cond.fieldLink RX1 16 "PathOddsModel" "shows" "[D", Cond.fieldLink RX1 19 "PathOddsModel" "row" "[I", Cond.methodLink RX1 61 yX1_shift, Cond.instanceMethod yX1_shift]
def wsX1_total_r2 : List Cond := [Cond.selects RX1 yX1_shift yX1_shift, Cond.code yX1_shift cX1_shift 2 none]
def wsX1_total : List Cond := .code yX1_total cX1_total 1 (some .double) :: ((wsX1_total_r1 ++ wsX1_total_r2) ++ wsX10 ++ (vx_atM "java/lang/ArrayIndexOutOfBoundsException" ["java/lang/IndexOutOfBoundsException", "java/lang/RuntimeException", "java/lang/Exception"]).filter goodWord)
def wsX1_last : List Cond := .code yX1_last cX1_last 3 (some .int) :: ([.fieldLink RX1 36 "PathOddsModel" "n" "I", .fieldLink RX1 23 "PathOddsModel" "now" "[D"] ++ wsX10 ++ (vx_atM "java/lang/ArrayIndexOutOfBoundsException" ["java/lang/IndexOutOfBoundsException", "java/lang/RuntimeException", "java/lang/Exception"]).filter goodWord)
def wsX1_best_r1 : List Cond := [Cond.fieldLink RX1 40 "PathOddsModel" "thrown" "I", Cond.fieldLink RX1 43 "PathOddsModel" "length" "I", Cond.fieldLink RX1 23 "PathOddsModel" "now" "[D", Cond.methodLink RX1 83 yX1_greatest, Cond.instanceMethod yX1_greatest, Cond.selects RX1 yX1_greatest yX1_greatest, Cond.initialized RX1, Cond.code yX1_greatest cX1_greatest 4 none, Cond.fieldLink RX1 36 "PathOddsModel" "n" "I", Cond.fieldLink RX1 7 "PathOddsModel" "starts" "[D", Cond.fieldLink RX1 26 "PathOddsModel" "old" "[D", Cond.fieldLink RX1 13 "PathOddsModel" "moves" "[D", Cond.methodLink RX1 57 yX1_shown, Cond.instanceMethod yX1_shown, Cond.selects RX1 yX1_shown yX1_shown, Cond.code yX1_shown cX1_shown 3 (some .double), Cond.fieldLink RX1 16 "PathOddsModel" "shows" "[D", Cond.fieldLink RX1 19 "PathOddsModel" "row" "[I", Cond.methodLink RX1 61 yX1_shift, Cond.instanceMethod yX1_shift, Cond.selects RX1 yX1_shift yX1_shift, Cond.code yX1_shift cX1_shift 2 none, Cond.methodLink RX1 64 yX1_from, Cond.instanceMethod yX1_from]
def wsX1_best_r2 : List Cond := [Cond.selects RX1 yX1_from yX1_from, Cond.code yX1_from cX1_from 4 (some .int), Cond.methodLink RX1 86 yX1_last, Cond.instanceMethod yX1_last, Cond.selects RX1 yX1_last yX1_last, Cond.code yX1_last cX1_last 3 (some .int)]
def wsX1_best : List Cond := .code yX1_best cX1_best 1 (some .double) :: ((wsX1_best_r1 ++ wsX1_best_r2) ++ wsX10 ++ (vx_atM "java/lang/ArrayIndexOutOfBoundsException" ["java/lang/IndexOutOfBoundsException", "java/lang/RuntimeException", "java/lang/Exception"]).filter goodWord)
def wsX1_bestState_r1 : List Cond := [Cond.fieldLink RX1 40 "PathOddsModel" "thrown" "I", Cond.fieldLink RX1 43 "PathOddsModel" "length" "I", Cond.methodLink RX1 83 yX1_greatest, Cond.instanceMethod yX1_greatest, Cond.selects RX1 yX1_greatest yX1_greatest, Cond.initialized RX1, Cond.code yX1_greatest cX1_greatest 4 none, Cond.fieldLink RX1 36 "PathOddsModel" "n" "I", Cond.fieldLink RX1 23 "PathOddsModel" "now" "[D", Cond.fieldLink RX1 7 "PathOddsModel" "starts" "[D", Cond.fieldLink RX1 26 "PathOddsModel" "old" "[D", Cond.fieldLink RX1 13 "PathOddsModel" "moves" "[D", Cond.methodLink RX1 57 yX1_shown, Cond.instanceMethod yX1_shown, Cond.selects RX1 yX1_shown yX1_shown, Cond.code yX1_shown cX1_shown 3 (some .double), Cond.fieldLink RX1 16 "PathOddsModel" "shows" "[D", Cond.fieldLink RX1 19 "PathOddsModel" "row" "[I", Cond.methodLink RX1 61 yX1_shift, Cond.instanceMethod yX1_shift, Cond.selects RX1 yX1_shift yX1_shift, Cond.code yX1_shift cX1_shift 2 none, Cond.methodLink RX1 64 yX1_from, Cond.instanceMethod yX1_from]
def wsX1_bestState_r2 : List Cond := [Cond.selects RX1 yX1_from yX1_from, Cond.code yX1_from cX1_from 4 (some .int), Cond.methodLink RX1 86 yX1_last, Cond.instanceMethod yX1_last, Cond.selects RX1 yX1_last yX1_last, Cond.code yX1_last cX1_last 3 (some .int)]
def wsX1_bestState : List Cond := .code yX1_bestState cX1_bestState 4 (some .int) :: ((wsX1_bestState_r1 ++ wsX1_bestState_r2) ++ wsX10 ++ (vx_atM "java/lang/ArrayIndexOutOfBoundsException" ["java/lang/IndexOutOfBoundsException", "java/lang/RuntimeException", "java/lang/Exception"]).filter goodWord)
def wsX1_share_r1 : List Cond := [Cond.fieldLink RX1 40 "PathOddsModel" "thrown" "I", Cond.fieldLink RX1 23 "PathOddsModel" "now" "[D", Cond.methodLink RX1 68 yX1_fault, Cond.instanceMethod yX1_fault, Cond.selects RX1 yX1_fault yX1_fault, Cond.initialized RX1, Cond.code yX1_fault cX1_fault 3 (some .int), Cond.fieldLink RX1 43 "PathOddsModel" "length" "I", Cond.methodLink RX1 46 yX1_state, Cond.instanceMethod yX1_state, Cond.selects RX1 yX1_state yX1_state, Cond.code yX1_state cX1_state 2 (some .boolean), Cond.fieldLink RX1 36 "PathOddsModel" "n" "I", Cond.methodLink RX1 79 yX1_all, Cond.instanceMethod yX1_all, Cond.selects RX1 yX1_all yX1_all, Cond.code yX1_all cX1_all 4 (some .double), Cond.methodLink RX1 72 yX1_ahead, Cond.instanceMethod yX1_ahead, Cond.selects RX1 yX1_ahead yX1_ahead, Cond.code yX1_ahead cX1_ahead 7 none, Cond.fieldLink RX1 7 "PathOddsModel" "starts" "[D", Cond.fieldLink RX1 26 "PathOddsModel" "old" "[D", Cond.fieldLink RX1 13 "PathOddsModel" "moves" "[D"]
def wsX1_share_r2 : List Cond := [Cond.methodLink RX1 57 yX1_shown, Cond.instanceMethod yX1_shown, Cond.selects RX1 yX1_shown yX1_shown, Cond.code yX1_shown cX1_shown 3 (some .double), Cond.fieldLink RX1 16 "PathOddsModel" "shows" "[D", Cond.fieldLink RX1 19 "PathOddsModel" "row" "[I", Cond.methodLink RX1 61 yX1_shift, Cond.instanceMethod yX1_shift, Cond.selects RX1 yX1_shift yX1_shift, Cond.code yX1_shift cX1_shift 2 none, Cond.methodLink RX1 76 yX1_behind, Cond.instanceMethod yX1_behind, Cond.selects RX1 yX1_behind yX1_behind, Cond.code yX1_behind cX1_behind 7 none]
def wsX1_share : List Cond := .code yX1_share cX1_share 7 (some .double) :: ((wsX1_share_r1 ++ wsX1_share_r2) ++ wsX10 ++ (vx_atM "java/lang/ArrayIndexOutOfBoundsException" ["java/lang/IndexOutOfBoundsException", "java/lang/RuntimeException", "java/lang/Exception"]).filter goodWord)
def wsX1_possible : List Cond := .code yX1_possible cX1_possible 4 (some .long) :: ([.fieldLink RX1 40 "PathOddsModel" "thrown" "I", .fieldLink RX1 43 "PathOddsModel" "length" "I", .fieldLink RX1 29 "PathOddsModel" "counts" "[J", .fieldLink RX1 36 "PathOddsModel" "n" "I", .fieldLink RX1 7 "PathOddsModel" "starts" "[D", .fieldLink RX1 33 "PathOddsModel" "before" "[J", .fieldLink RX1 13 "PathOddsModel" "moves" "[D", .methodLink RX1 57 yX1_shown, .instanceMethod yX1_shown, .selects RX1 yX1_shown yX1_shown, .initialized RX1, .code yX1_shown cX1_shown 3 (some .double), .fieldLink RX1 16 "PathOddsModel" "shows" "[D", .fieldLink RX1 19 "PathOddsModel" "row" "[I"] ++ wsX10 ++ (vx_atM "java/lang/ArrayIndexOutOfBoundsException" ["java/lang/IndexOutOfBoundsException", "java/lang/RuntimeException", "java/lang/Exception"]).filter goodWord)
def wsJx00060_init_a7421 : List Cond := .code yJx00060_init_a7421 cJx00060_init_a7421 2 none :: ([])
def wsL_forward_r1 : List Cond := [Cond.classLink RL 13 "java/lang/IndexOutOfBoundsException", Cond.classLink RL 15 "java/lang/IllegalArgumentException", Cond.methodLink RL 7 yX0_forward, Cond.instanceMethod yX0_forward, Cond.selects RX0 yX0_forward yX0_forward, Cond.initialized RX0, Cond.code yX0_forward cX0_forward 3 (some .double), Cond.fieldLink RX0 32 "PathOdds" "forwardOdds" "[[D", Cond.methodLink RX0 65 yX0_refuseWrongPlaceOrState, Cond.instanceMethod yX0_refuseWrongPlaceOrState, Cond.selects RX0 yX0_refuseWrongPlaceOrState yX0_refuseWrongPlaceOrState, Cond.code yX0_refuseWrongPlaceOrState cX0_refuseWrongPlaceOrState 3 none, Cond.classLink RX0 99 "java/lang/IndexOutOfBoundsException", Cond.initialized "java/lang/IndexOutOfBoundsException", Cond.classLink RX0 104 "java/lang/IllegalArgumentException", Cond.initialized "java/lang/IllegalArgumentException", Cond.methodLink RX0 86 yX0_isPlace, Cond.instanceMethod yX0_isPlace, Cond.selects RX0 yX0_isPlace yX0_isPlace, Cond.code yX0_isPlace cX0_isPlace 2 (some .boolean), Cond.fieldLink RX0 29 "PathOdds" "rowLength" "I", Cond.methodLink RX0 54 yX0_isState, Cond.instanceMethod yX0_isState, Cond.selects RX0 yX0_isState yX0_isState]
def wsL_forward_r2 : List Cond := [Cond.code yX0_isState cX0_isState 2 (some .boolean), Cond.fieldLink RX0 25 "PathOdds" "stateCount" "I", Cond.methodLink RX0 69 yX0_fillForward, Cond.instanceMethod yX0_fillForward, Cond.selects RX0 yX0_fillForward yX0_fillForward, Cond.code yX0_fillForward cX0_fillForward 4 none, Cond.fieldLink RX0 21 "PathOdds" "row" "[I", Cond.fieldLink RX0 18 "PathOdds" "showWeights" "[[D", Cond.methodLink RX0 109 yX0_forwardInto, Cond.instanceMethod yX0_forwardInto, Cond.selects RX0 yX0_forwardInto yX0_forwardInto, Cond.code yX0_forwardInto cX0_forwardInto 6 (some .double), Cond.fieldLink RX0 9 "PathOdds" "startWeights" "[D", Cond.fieldLink RX0 15 "PathOdds" "moveWeights" "[[D"]
def wsL_forward : List Cond := .codeWith yL_forward cL_forward 5 (some .int) [(0, 9, 12, 13), (0, 9, 16, 15)] :: ((wsL_forward_r1 ++ wsL_forward_r2) ++ wsX00 ++ (vx_atM "java/lang/ArrayIndexOutOfBoundsException" ["java/lang/IndexOutOfBoundsException", "java/lang/RuntimeException", "java/lang/Exception"]).filter goodWord ++ (vx_atS RX0 103 "java/lang/IndexOutOfBoundsException" ["java/lang/RuntimeException", "java/lang/Exception"]).filter goodWord ++ (vx_atS RX0 108 "java/lang/IllegalArgumentException" ["java/lang/RuntimeException", "java/lang/Exception"]).filter goodWord)
def wsL_backward_r1 : List Cond := [Cond.classLink RL 13 "java/lang/IndexOutOfBoundsException", Cond.classLink RL 15 "java/lang/IllegalArgumentException", Cond.methodLink RL 17 yX0_backward, Cond.instanceMethod yX0_backward, Cond.selects RX0 yX0_backward yX0_backward, Cond.initialized RX0, Cond.code yX0_backward cX0_backward 3 (some .double), Cond.fieldLink RX0 35 "PathOdds" "backwardOdds" "[[D", Cond.methodLink RX0 65 yX0_refuseWrongPlaceOrState, Cond.instanceMethod yX0_refuseWrongPlaceOrState, Cond.selects RX0 yX0_refuseWrongPlaceOrState yX0_refuseWrongPlaceOrState, Cond.code yX0_refuseWrongPlaceOrState cX0_refuseWrongPlaceOrState 3 none, Cond.classLink RX0 99 "java/lang/IndexOutOfBoundsException", Cond.initialized "java/lang/IndexOutOfBoundsException", Cond.classLink RX0 104 "java/lang/IllegalArgumentException", Cond.initialized "java/lang/IllegalArgumentException", Cond.methodLink RX0 86 yX0_isPlace, Cond.instanceMethod yX0_isPlace, Cond.selects RX0 yX0_isPlace yX0_isPlace, Cond.code yX0_isPlace cX0_isPlace 2 (some .boolean), Cond.fieldLink RX0 29 "PathOdds" "rowLength" "I", Cond.methodLink RX0 54 yX0_isState, Cond.instanceMethod yX0_isState, Cond.selects RX0 yX0_isState yX0_isState]
def wsL_backward_r2 : List Cond := [Cond.code yX0_isState cX0_isState 2 (some .boolean), Cond.fieldLink RX0 25 "PathOdds" "stateCount" "I", Cond.methodLink RX0 72 yX0_fillBackward, Cond.instanceMethod yX0_fillBackward, Cond.selects RX0 yX0_fillBackward yX0_fillBackward, Cond.code yX0_fillBackward cX0_fillBackward 3 none, Cond.methodLink RX0 113 yX0_backwardFrom, Cond.instanceMethod yX0_backwardFrom, Cond.selects RX0 yX0_backwardFrom yX0_backwardFrom, Cond.code yX0_backwardFrom cX0_backwardFrom 7 (some .double), Cond.fieldLink RX0 21 "PathOdds" "row" "[I", Cond.fieldLink RX0 15 "PathOdds" "moveWeights" "[[D", Cond.fieldLink RX0 18 "PathOdds" "showWeights" "[[D"]
def wsL_backward : List Cond := .codeWith yL_backward cL_backward 5 (some .int) [(0, 9, 12, 13), (0, 9, 16, 15)] :: ((wsL_backward_r1 ++ wsL_backward_r2) ++ wsX00 ++ (vx_atM "java/lang/ArrayIndexOutOfBoundsException" ["java/lang/IndexOutOfBoundsException", "java/lang/RuntimeException", "java/lang/Exception"]).filter goodWord ++ (vx_atS RX0 103 "java/lang/IndexOutOfBoundsException" ["java/lang/RuntimeException", "java/lang/Exception"]).filter goodWord ++ (vx_atS RX0 108 "java/lang/IllegalArgumentException" ["java/lang/RuntimeException", "java/lang/Exception"]).filter goodWord)
def wsL_share_r1 : List Cond := [Cond.classLink RL 13 "java/lang/IndexOutOfBoundsException", Cond.classLink RL 15 "java/lang/IllegalArgumentException", Cond.classLink RL 23 "java/lang/ArithmeticException", Cond.methodLink RL 20 yX0_share, Cond.instanceMethod yX0_share, Cond.selects RX0 yX0_share yX0_share, Cond.initialized RX0, Cond.code yX0_share cX0_share 5 (some .double), Cond.classLink RX0 89 "java/lang/ArithmeticException", Cond.initialized "java/lang/ArithmeticException", Cond.fieldLink RX0 32 "PathOdds" "forwardOdds" "[[D", Cond.fieldLink RX0 35 "PathOdds" "backwardOdds" "[[D", Cond.methodLink RX0 65 yX0_refuseWrongPlaceOrState, Cond.instanceMethod yX0_refuseWrongPlaceOrState, Cond.selects RX0 yX0_refuseWrongPlaceOrState yX0_refuseWrongPlaceOrState, Cond.code yX0_refuseWrongPlaceOrState cX0_refuseWrongPlaceOrState 3 none, Cond.classLink RX0 99 "java/lang/IndexOutOfBoundsException", Cond.initialized "java/lang/IndexOutOfBoundsException", Cond.classLink RX0 104 "java/lang/IllegalArgumentException", Cond.initialized "java/lang/IllegalArgumentException", Cond.methodLink RX0 86 yX0_isPlace, Cond.instanceMethod yX0_isPlace, Cond.selects RX0 yX0_isPlace yX0_isPlace, Cond.code yX0_isPlace cX0_isPlace 2 (some .boolean)]
def wsL_share_r2 : List Cond := [Cond.fieldLink RX0 29 "PathOdds" "rowLength" "I", Cond.methodLink RX0 54 yX0_isState, Cond.instanceMethod yX0_isState, Cond.selects RX0 yX0_isState yX0_isState, Cond.code yX0_isState cX0_isState 2 (some .boolean), Cond.fieldLink RX0 25 "PathOdds" "stateCount" "I", Cond.methodLink RX0 69 yX0_fillForward, Cond.instanceMethod yX0_fillForward, Cond.selects RX0 yX0_fillForward yX0_fillForward, Cond.code yX0_fillForward cX0_fillForward 4 none, Cond.fieldLink RX0 21 "PathOdds" "row" "[I", Cond.fieldLink RX0 18 "PathOdds" "showWeights" "[[D", Cond.methodLink RX0 109 yX0_forwardInto, Cond.instanceMethod yX0_forwardInto, Cond.selects RX0 yX0_forwardInto yX0_forwardInto, Cond.code yX0_forwardInto cX0_forwardInto 6 (some .double), Cond.fieldLink RX0 9 "PathOdds" "startWeights" "[D", Cond.fieldLink RX0 15 "PathOdds" "moveWeights" "[[D", Cond.methodLink RX0 75 yX0_sumOfLastForward, Cond.instanceMethod yX0_sumOfLastForward, Cond.selects RX0 yX0_sumOfLastForward yX0_sumOfLastForward, Cond.code yX0_sumOfLastForward cX0_sumOfLastForward 4 (some .double), Cond.methodLink RX0 72 yX0_fillBackward, Cond.instanceMethod yX0_fillBackward]
def wsL_share_r3 : List Cond := [Cond.selects RX0 yX0_fillBackward yX0_fillBackward, Cond.code yX0_fillBackward cX0_fillBackward 3 none, Cond.methodLink RX0 113 yX0_backwardFrom, Cond.instanceMethod yX0_backwardFrom, Cond.selects RX0 yX0_backwardFrom yX0_backwardFrom, Cond.code yX0_backwardFrom cX0_backwardFrom 7 (some .double)]
def wsL_share : List Cond := .codeWith yL_share cL_share 5 (some .int) [(0, 9, 12, 13), (0, 9, 16, 15), (0, 9, 20, 23)] :: ((wsL_share_r1 ++ (wsL_share_r2 ++ wsL_share_r3)) ++ wsX00 ++ (vx_atM "java/lang/ArrayIndexOutOfBoundsException" ["java/lang/IndexOutOfBoundsException", "java/lang/RuntimeException", "java/lang/Exception"]).filter goodWord ++ (vx_atS RX0 93 "java/lang/ArithmeticException" ["java/lang/RuntimeException", "java/lang/Exception"]).filter goodWord ++ (vx_atS RX0 103 "java/lang/IndexOutOfBoundsException" ["java/lang/RuntimeException", "java/lang/Exception"]).filter goodWord ++ (vx_atS RX0 108 "java/lang/IllegalArgumentException" ["java/lang/RuntimeException", "java/lang/Exception"]).filter goodWord)
def wsL_law0_r1 : List Cond := [Cond.classLink RL 8 RX0, Cond.instantiable RX0 11, Cond.initialized RX0, Cond.classLink RL 26 RX1, Cond.instantiable RX1 11, Cond.initialized RX1, Cond.arrayClass .double, Cond.constantDouble RL 39 (4593671619917905920), Cond.methodLink RL 25 yX0_init, Cond.instanceMethod yX0_init, Cond.code yX0_init cX0_init 1 none, Cond.methodLink RX0 1 objectInit, Cond.instanceMethod objectInit, Cond.code objectInit ⟨#[0xb1]⟩ 1 none, Cond.fieldLink RX0 9 "PathOdds" "startWeights" "[D", Cond.classLink RX0 13 "[[D", Cond.fieldLink RX0 15 "PathOdds" "moveWeights" "[[D", Cond.fieldLink RX0 18 "PathOdds" "showWeights" "[[D", Cond.arrayClass .int, Cond.fieldLink RX0 21 "PathOdds" "row" "[I", Cond.fieldLink RX0 25 "PathOdds" "stateCount" "I", Cond.fieldLink RX0 29 "PathOdds" "rowLength" "I", Cond.fieldLink RX0 32 "PathOdds" "forwardOdds" "[[D", Cond.fieldLink RX0 35 "PathOdds" "backwardOdds" "[[D"]
def wsL_law0_r2 : List Cond := [Cond.fieldLink RX0 38 "PathOdds" "bestOdds" "[[D", Cond.classLink RX0 41 "[[I", Cond.fieldLink RX0 43 "PathOdds" "bestFrom" "[[I", Cond.classLink RX0 46 "[[J", Cond.arrayClass .long, Cond.fieldLink RX0 48 "PathOdds" "wayCounts" "[[J", Cond.methodLink RL 28 yX1_init, Cond.instanceMethod yX1_init, Cond.code yX1_init cX1_init 1 none, Cond.methodLink RX1 1 objectInit, Cond.fieldLink RX1 7 "PathOddsModel" "starts" "[D", Cond.fieldLink RX1 13 "PathOddsModel" "moves" "[D", Cond.fieldLink RX1 16 "PathOddsModel" "shows" "[D", Cond.fieldLink RX1 19 "PathOddsModel" "row" "[I", Cond.fieldLink RX1 23 "PathOddsModel" "now" "[D", Cond.fieldLink RX1 26 "PathOddsModel" "old" "[D", Cond.fieldLink RX1 29 "PathOddsModel" "counts" "[J", Cond.fieldLink RX1 33 "PathOddsModel" "before" "[J", Cond.fieldLink RX1 36 "PathOddsModel" "n" "I", Cond.methodLink RL 29 yX0_states, Cond.instanceMethod yX0_states, Cond.selects RX0 yX0_states yX0_states, Cond.code yX0_states cX0_states 2 (some .boolean), Cond.methodLink RX0 51 yX0_clearWeights]
def wsL_law0_r3 : List Cond := [Cond.instanceMethod yX0_clearWeights, Cond.selects RX0 yX0_clearWeights yX0_clearWeights, Cond.code yX0_clearWeights cX0_clearWeights 3 none, Cond.methodLink RL 33 yX1_states, Cond.instanceMethod yX1_states, Cond.selects RX1 yX1_states yX1_states, Cond.code yX1_states cX1_states 3 (some .boolean), Cond.fieldLink RX1 40 "PathOddsModel" "thrown" "I", Cond.fieldLink RX1 43 "PathOddsModel" "length" "I", Cond.methodLink RL 34 yX0_size, Cond.instanceMethod yX0_size, Cond.selects RX0 yX0_size yX0_size, Cond.code yX0_size cX0_size 1 (some .int), Cond.methodLink RL 38 yX1_size, Cond.instanceMethod yX1_size, Cond.selects RX1 yX1_size yX1_size, Cond.code yX1_size cX1_size 1 (some .int), Cond.methodLink RL 41 yX0_start, Cond.instanceMethod yX0_start, Cond.selects RX0 yX0_start yX0_start, Cond.code yX0_start cX0_start 4 (some .boolean), Cond.methodLink RX0 54 yX0_isState, Cond.instanceMethod yX0_isState, Cond.selects RX0 yX0_isState yX0_isState]
def wsL_law0_r4 : List Cond := [Cond.code yX0_isState cX0_isState 2 (some .boolean), Cond.methodLink RX0 58 yX0_isWeight, Cond.static yX0_isWeight, Cond.code yX0_isWeight cX0_isWeight 2 (some .boolean), Cond.methodLink RL 45 yX1_start, Cond.instanceMethod yX1_start, Cond.selects RX1 yX1_start yX1_start, Cond.code yX1_start cX1_start 4 (some .boolean), Cond.methodLink RX1 46 yX1_state, Cond.instanceMethod yX1_state, Cond.selects RX1 yX1_state yX1_state, Cond.code yX1_state cX1_state 2 (some .boolean), Cond.methodLink RX1 50 yX1_unit, Cond.static yX1_unit, Cond.code yX1_unit cX1_unit 2 (some .boolean), Cond.methodLink RL 46 yX0_move, Cond.instanceMethod yX0_move, Cond.selects RX0 yX0_move yX0_move, Cond.code yX0_move cX0_move 5 (some .boolean), Cond.methodLink RL 50 yX1_move, Cond.instanceMethod yX1_move, Cond.selects RX1 yX1_move yX1_move, Cond.code yX1_move cX1_move 5 (some .boolean), Cond.methodLink RL 51 yX0_show]
def wsL_law0_r5 : List Cond := [Cond.instanceMethod yX0_show, Cond.selects RX0 yX0_show yX0_show, Cond.code yX0_show cX0_show 5 (some .boolean), Cond.methodLink RX0 62 yX0_isSymbol, Cond.static yX0_isSymbol, Cond.code yX0_isSymbol cX0_isSymbol 1 (some .boolean), Cond.methodLink RL 54 yX1_show, Cond.instanceMethod yX1_show, Cond.selects RX1 yX1_show yX1_show, Cond.code yX1_show cX1_show 5 (some .boolean), Cond.methodLink RX1 54 yX1_symbol, Cond.static yX1_symbol, Cond.code yX1_symbol cX1_symbol 1 (some .boolean), Cond.methodLink RL 55 yX0_read, Cond.instanceMethod yX0_read, Cond.selects RX0 yX0_read yX0_read, Cond.code yX0_read cX0_read 2 (some .boolean), Cond.methodLink RL 58 yX1_read, Cond.instanceMethod yX1_read, Cond.selects RX1 yX1_read yX1_read, Cond.code yX1_read cX1_read 2 (some .boolean), Cond.methodLink RL 59 yX0_unread, Cond.instanceMethod yX0_unread, Cond.selects RX0 yX0_unread yX0_unread]
def wsL_law0_r6 : List Cond := [Cond.code yX0_unread cX0_unread 1 (some .boolean), Cond.methodLink RL 63 yX1_unread, Cond.instanceMethod yX1_unread, Cond.selects RX1 yX1_unread yX1_unread, Cond.code yX1_unread cX1_unread 1 (some .boolean), Cond.methodLink RL 64 yX0_length, Cond.instanceMethod yX0_length, Cond.selects RX0 yX0_length yX0_length, Cond.code yX0_length cX0_length 1 (some .int), Cond.methodLink RL 67 yX1_length, Cond.instanceMethod yX1_length, Cond.selects RX1 yX1_length yX1_length, Cond.code yX1_length cX1_length 1 (some .int), Cond.methodLink RL 68 yL_forward, Cond.static yL_forward, Cond.initialized RL, Cond.codeWith yL_forward cL_forward 5 (some .int) [(0, 9, 12, 13), (0, 9, 16, 15)], Cond.classLink RL 13 "java/lang/IndexOutOfBoundsException", Cond.classLink RL 15 "java/lang/IllegalArgumentException", Cond.methodLink RL 7 yX0_forward, Cond.instanceMethod yX0_forward, Cond.selects RX0 yX0_forward yX0_forward, Cond.code yX0_forward cX0_forward 3 (some .double), Cond.methodLink RX0 65 yX0_refuseWrongPlaceOrState]
def wsL_law0_r7 : List Cond := [Cond.instanceMethod yX0_refuseWrongPlaceOrState, Cond.selects RX0 yX0_refuseWrongPlaceOrState yX0_refuseWrongPlaceOrState, Cond.code yX0_refuseWrongPlaceOrState cX0_refuseWrongPlaceOrState 3 none, Cond.classLink RX0 99 "java/lang/IndexOutOfBoundsException", Cond.initialized "java/lang/IndexOutOfBoundsException", Cond.classLink RX0 104 "java/lang/IllegalArgumentException", Cond.initialized "java/lang/IllegalArgumentException", Cond.methodLink RX0 86 yX0_isPlace, Cond.instanceMethod yX0_isPlace, Cond.selects RX0 yX0_isPlace yX0_isPlace, Cond.code yX0_isPlace cX0_isPlace 2 (some .boolean), Cond.methodLink RX0 69 yX0_fillForward, Cond.instanceMethod yX0_fillForward, Cond.selects RX0 yX0_fillForward yX0_fillForward, Cond.code yX0_fillForward cX0_fillForward 4 none, Cond.methodLink RX0 109 yX0_forwardInto, Cond.instanceMethod yX0_forwardInto, Cond.selects RX0 yX0_forwardInto yX0_forwardInto, Cond.code yX0_forwardInto cX0_forwardInto 6 (some .double), Cond.methodLink RL 73 yX1_forward, Cond.instanceMethod yX1_forward, Cond.selects RX1 yX1_forward yX1_forward, Cond.code yX1_forward cX1_forward 3 (some .double), Cond.methodLink RX1 68 yX1_fault]
def wsL_law0_r8 : List Cond := [Cond.instanceMethod yX1_fault, Cond.selects RX1 yX1_fault yX1_fault, Cond.code yX1_fault cX1_fault 3 (some .int), Cond.methodLink RX1 72 yX1_ahead, Cond.instanceMethod yX1_ahead, Cond.selects RX1 yX1_ahead yX1_ahead, Cond.code yX1_ahead cX1_ahead 7 none, Cond.methodLink RX1 57 yX1_shown, Cond.instanceMethod yX1_shown, Cond.selects RX1 yX1_shown yX1_shown, Cond.code yX1_shown cX1_shown 3 (some .double), Cond.methodLink RX1 61 yX1_shift, Cond.instanceMethod yX1_shift, Cond.selects RX1 yX1_shift yX1_shift, Cond.code yX1_shift cX1_shift 2 none, Cond.methodLink RL 74 yX1_thrown, Cond.instanceMethod yX1_thrown, Cond.selects RX1 yX1_thrown yX1_thrown, Cond.code yX1_thrown cX1_thrown 1 (some .int), Cond.methodLink RL 77 yL_backward, Cond.static yL_backward, Cond.codeWith yL_backward cL_backward 5 (some .int) [(0, 9, 12, 13), (0, 9, 16, 15)], Cond.methodLink RL 17 yX0_backward, Cond.instanceMethod yX0_backward]
def wsL_law0_r9 : List Cond := [Cond.selects RX0 yX0_backward yX0_backward, Cond.code yX0_backward cX0_backward 3 (some .double), Cond.methodLink RX0 72 yX0_fillBackward, Cond.instanceMethod yX0_fillBackward, Cond.selects RX0 yX0_fillBackward yX0_fillBackward, Cond.code yX0_fillBackward cX0_fillBackward 3 none, Cond.methodLink RX0 113 yX0_backwardFrom, Cond.instanceMethod yX0_backwardFrom, Cond.selects RX0 yX0_backwardFrom yX0_backwardFrom, Cond.code yX0_backwardFrom cX0_backwardFrom 7 (some .double), Cond.methodLink RL 79 yX1_backward, Cond.instanceMethod yX1_backward, Cond.selects RX1 yX1_backward yX1_backward, Cond.code yX1_backward cX1_backward 3 (some .double), Cond.methodLink RX1 76 yX1_behind, Cond.instanceMethod yX1_behind, Cond.selects RX1 yX1_behind yX1_behind, Cond.code yX1_behind cX1_behind 7 none, Cond.methodLink RL 80 yX0_total, Cond.instanceMethod yX0_total, Cond.selects RX0 yX0_total yX0_total, Cond.code yX0_total cX0_total 1 (some .double), Cond.methodLink RX0 75 yX0_sumOfLastForward, Cond.instanceMethod yX0_sumOfLastForward]
def wsL_law0_r10 : List Cond := [Cond.selects RX0 yX0_sumOfLastForward yX0_sumOfLastForward, Cond.code yX0_sumOfLastForward cX0_sumOfLastForward 4 (some .double), Cond.methodLink RL 84 yX1_total, Cond.instanceMethod yX1_total, Cond.selects RX1 yX1_total yX1_total, Cond.code yX1_total cX1_total 1 (some .double), Cond.methodLink RX1 79 yX1_all, Cond.instanceMethod yX1_all, Cond.selects RX1 yX1_all yX1_all, Cond.code yX1_all cX1_all 4 (some .double), Cond.methodLink RL 85 yX0_best, Cond.instanceMethod yX0_best, Cond.selects RX0 yX0_best yX0_best, Cond.code yX0_best cX0_best 1 (some .double), Cond.methodLink RX0 79 yX0_fillBest, Cond.instanceMethod yX0_fillBest, Cond.selects RX0 yX0_fillBest yX0_fillBest, Cond.code yX0_fillBest cX0_fillBest 4 none, Cond.methodLink RX0 116 yX0_bestInto, Cond.instanceMethod yX0_bestInto, Cond.selects RX0 yX0_bestInto yX0_bestInto, Cond.code yX0_bestInto cX0_bestInto 9 (some .double), Cond.methodLink RX0 82 yX0_lastBestState, Cond.instanceMethod yX0_lastBestState]
def wsL_law0_r11 : List Cond := [Cond.selects RX0 yX0_lastBestState yX0_lastBestState, Cond.code yX0_lastBestState cX0_lastBestState 3 (some .int), Cond.methodLink RL 88 yX1_best, Cond.instanceMethod yX1_best, Cond.selects RX1 yX1_best yX1_best, Cond.code yX1_best cX1_best 1 (some .double), Cond.methodLink RX1 83 yX1_greatest, Cond.instanceMethod yX1_greatest, Cond.selects RX1 yX1_greatest yX1_greatest, Cond.code yX1_greatest cX1_greatest 4 none, Cond.methodLink RX1 64 yX1_from, Cond.instanceMethod yX1_from, Cond.selects RX1 yX1_from yX1_from, Cond.code yX1_from cX1_from 4 (some .int), Cond.methodLink RX1 86 yX1_last, Cond.instanceMethod yX1_last, Cond.selects RX1 yX1_last yX1_last, Cond.code yX1_last cX1_last 3 (some .int), Cond.methodLink RL 89 yX0_bestState, Cond.instanceMethod yX0_bestState, Cond.selects RX0 yX0_bestState yX0_bestState, Cond.code yX0_bestState cX0_bestState 4 (some .int), Cond.methodLink RL 93 yX1_bestState, Cond.instanceMethod yX1_bestState]
def wsL_law0_r12 : List Cond := [Cond.selects RX1 yX1_bestState yX1_bestState, Cond.code yX1_bestState cX1_bestState 4 (some .int), Cond.methodLink RL 94 yL_share, Cond.static yL_share, Cond.codeWith yL_share cL_share 5 (some .int) [(0, 9, 12, 13), (0, 9, 16, 15), (0, 9, 20, 23)], Cond.classLink RL 23 "java/lang/ArithmeticException", Cond.methodLink RL 20 yX0_share, Cond.instanceMethod yX0_share, Cond.selects RX0 yX0_share yX0_share, Cond.code yX0_share cX0_share 5 (some .double), Cond.classLink RX0 89 "java/lang/ArithmeticException", Cond.initialized "java/lang/ArithmeticException", Cond.methodLink RL 96 yX1_share, Cond.instanceMethod yX1_share, Cond.selects RX1 yX1_share yX1_share, Cond.code yX1_share cX1_share 7 (some .double), Cond.methodLink RL 97 yX0_possible, Cond.instanceMethod yX0_possible, Cond.selects RX0 yX0_possible yX0_possible, Cond.code yX0_possible cX0_possible 4 (some .long), Cond.methodLink RX0 96 yX0_fillWayCounts, Cond.instanceMethod yX0_fillWayCounts, Cond.selects RX0 yX0_fillWayCounts yX0_fillWayCounts, Cond.code yX0_fillWayCounts cX0_fillWayCounts 4 none]
def wsL_law0_r13 : List Cond := [Cond.methodLink RX0 119 yX0_waysInto, Cond.instanceMethod yX0_waysInto, Cond.selects RX0 yX0_waysInto yX0_waysInto, Cond.code yX0_waysInto cX0_waysInto 6 (some .long), Cond.methodLink RL 101 yX1_possible, Cond.instanceMethod yX1_possible, Cond.selects RX1 yX1_possible yX1_possible, Cond.code yX1_possible cX1_possible 4 (some .long)]
def wsL_law0 : List Cond := (wsL_law0_r1 ++ (wsL_law0_r2 ++ (wsL_law0_r3 ++ (wsL_law0_r4 ++ (wsL_law0_r5 ++ (wsL_law0_r6 ++ (wsL_law0_r7 ++ (wsL_law0_r8 ++ (wsL_law0_r9 ++ (wsL_law0_r10 ++ (wsL_law0_r11 ++ (wsL_law0_r12 ++ wsL_law0_r13)))))))))))) ++ wsX00 ++ wsX10 ++ ([] : List Cond)
def wsL_law : List Cond := wsL_law0 ++ (vx_atM "java/lang/ArrayIndexOutOfBoundsException" ["java/lang/IndexOutOfBoundsException", "java/lang/RuntimeException", "java/lang/Exception"]).filter goodWord ++ (vx_atS RX0 103 "java/lang/IndexOutOfBoundsException" ["java/lang/RuntimeException", "java/lang/Exception"]).filter goodWord ++ (vx_atS RX0 108 "java/lang/IllegalArgumentException" ["java/lang/RuntimeException", "java/lang/Exception"]).filter goodWord ++ (vx_atS RX0 93 "java/lang/ArithmeticException" ["java/lang/RuntimeException", "java/lang/Exception"]).filter goodWord
set_option maxRecDepth 20000 in
theorem wsL_law_in0 : ∀ w ∈ wsL_law0, w ∈ lw_tbl := fun w h => (goodIn_p wsL_law0 [40, 43, 346, 90, 94, 389, 98, 393, 102, 106, 109, 397, 401, 404, 113, 408, 117, 120, 412, 415, 124, 419, 128, 423, 132, 427, 269, 273, 172, 140, 144, 431, 435, 439, 443, 447, 385, 309, 313, 317, 451, 455, 136, 148, 459, 463, 152, 156, 160, 164, 467, 471, 475, 479, 168, 483, 338, 487, 176, 180, 184, 491] (by decide +kernel) (by decide +kernel) w h).1
theorem wsL_law_x0 : ∀ w ∈ (vx_atM "java/lang/ArrayIndexOutOfBoundsException" ["java/lang/IndexOutOfBoundsException", "java/lang/RuntimeException", "java/lang/Exception"]).filter goodWord, w ∈ lw_tbl := by decide +kernel
theorem wsL_law_x1 : ∀ w ∈ (vx_atS RX0 103 "java/lang/IndexOutOfBoundsException" ["java/lang/RuntimeException", "java/lang/Exception"]).filter goodWord, w ∈ lw_tbl := by decide +kernel
theorem wsL_law_x2 : ∀ w ∈ (vx_atS RX0 108 "java/lang/IllegalArgumentException" ["java/lang/RuntimeException", "java/lang/Exception"]).filter goodWord, w ∈ lw_tbl := by decide +kernel
theorem wsL_law_x3 : ∀ w ∈ (vx_atS RX0 93 "java/lang/ArithmeticException" ["java/lang/RuntimeException", "java/lang/Exception"]).filter goodWord, w ∈ lw_tbl := by decide +kernel
theorem wsL_law_in : ∀ w ∈ wsL_law, w ∈ lw_tbl := fun w h => (List.mem_append.mp h).elim (fun h => (List.mem_append.mp h).elim (fun h => (List.mem_append.mp h).elim (fun h => (List.mem_append.mp h).elim (fun h => wsL_law_in0 w h) (fun h => wsL_law_x0 w h)) (fun h => wsL_law_x1 w h)) (fun h => wsL_law_x2 w h)) (fun h => wsL_law_x3 w h)
theorem inlX0 : ∀ w ∈ wsX00, w ∈ wsL_law := fun _ h => List.mem_append_left _ (List.mem_append_left _ (List.mem_append_left _ (List.mem_append_left _ (List.mem_append_left _ (List.mem_append_left _ (List.mem_append_right _ h))))))
theorem inX0 : ∀ w ∈ wsX00, w ∈ lw_tbl := fun w h => wsL_law_in w (inlX0 w h)
theorem inlX1 : ∀ w ∈ wsX10, w ∈ wsL_law := fun _ h => List.mem_append_left _ (List.mem_append_left _ (List.mem_append_left _ (List.mem_append_left _ (List.mem_append_left _ (List.mem_append_right _ h)))))
theorem inX1 : ∀ w ∈ wsX10, w ∈ lw_tbl := fun w h => wsL_law_in w (inlX1 w h)
theorem inJx00060 : ∀ w ∈ wsJx000600, w ∈ lw_tbl := by decide +kernel
theorem inJ0 : ∀ w ∈ wsJ00, w ∈ lw_tbl := by decide +kernel
end
section
theorem dX0_init_0 : decode cX0_init 0 = .ok (.aload_n 0, 1) := by decide +kernel
theorem dX0_init_1 : decode cX0_init 1 = .ok (.invokespecial 1, 3) := by decide +kernel
theorem dX0_init_4 : decode cX0_init 4 = .ok (.aload_n 0, 1) := by decide +kernel
theorem dX0_init_5 : decode cX0_init 5 = .ok (.bipush 6, 2) := by decide +kernel
theorem dX0_init_7 : decode cX0_init 7 = .ok (.newarray .double, 2) := by decide +kernel
theorem dX0_init_9 : decode cX0_init 9 = .ok (.putfield 9, 3) := by decide +kernel
theorem dX0_init_12 : decode cX0_init 12 = .ok (.aload_n 0, 1) := by decide +kernel
theorem dX0_init_13 : decode cX0_init 13 = .ok (.bipush 6, 2) := by decide +kernel
theorem dX0_init_15 : decode cX0_init 15 = .ok (.bipush 6, 2) := by decide +kernel
theorem dX0_init_17 : decode cX0_init 17 = .ok (.multianewarray 13 2, 4) := by decide +kernel
theorem dX0_init_21 : decode cX0_init 21 = .ok (.putfield 15, 3) := by decide +kernel
theorem dX0_init_24 : decode cX0_init 24 = .ok (.aload_n 0, 1) := by decide +kernel
theorem dX0_init_25 : decode cX0_init 25 = .ok (.bipush 6, 2) := by decide +kernel
theorem dX0_init_27 : decode cX0_init 27 = .ok (.iconst 4, 1) := by decide +kernel
theorem dX0_init_28 : decode cX0_init 28 = .ok (.multianewarray 13 2, 4) := by decide +kernel
theorem dX0_init_32 : decode cX0_init 32 = .ok (.putfield 18, 3) := by decide +kernel
theorem dX0_init_35 : decode cX0_init 35 = .ok (.aload_n 0, 1) := by decide +kernel
theorem dX0_init_36 : decode cX0_init 36 = .ok (.bipush 12, 2) := by decide +kernel
theorem dX0_init_38 : decode cX0_init 38 = .ok (.newarray .int, 2) := by decide +kernel
theorem dX0_init_40 : decode cX0_init 40 = .ok (.putfield 21, 3) := by decide +kernel
theorem dX0_init_43 : decode cX0_init 43 = .ok (.aload_n 0, 1) := by decide +kernel
theorem dX0_init_44 : decode cX0_init 44 = .ok (.iconst 1, 1) := by decide +kernel
theorem dX0_init_45 : decode cX0_init 45 = .ok (.putfield 25, 3) := by decide +kernel
theorem dX0_init_48 : decode cX0_init 48 = .ok (.aload_n 0, 1) := by decide +kernel
theorem dX0_init_49 : decode cX0_init 49 = .ok (.iconst 0, 1) := by decide +kernel
theorem dX0_init_50 : decode cX0_init 50 = .ok (.putfield 29, 3) := by decide +kernel
theorem dX0_init_53 : decode cX0_init 53 = .ok (.aload_n 0, 1) := by decide +kernel
theorem dX0_init_54 : decode cX0_init 54 = .ok (.bipush 12, 2) := by decide +kernel
theorem dX0_init_56 : decode cX0_init 56 = .ok (.bipush 6, 2) := by decide +kernel
theorem dX0_init_58 : decode cX0_init 58 = .ok (.multianewarray 13 2, 4) := by decide +kernel
theorem dX0_init_62 : decode cX0_init 62 = .ok (.putfield 32, 3) := by decide +kernel
theorem dX0_init_65 : decode cX0_init 65 = .ok (.aload_n 0, 1) := by decide +kernel
theorem dX0_init_66 : decode cX0_init 66 = .ok (.bipush 12, 2) := by decide +kernel
theorem dX0_init_68 : decode cX0_init 68 = .ok (.bipush 6, 2) := by decide +kernel
theorem dX0_init_70 : decode cX0_init 70 = .ok (.multianewarray 13 2, 4) := by decide +kernel
theorem dX0_init_74 : decode cX0_init 74 = .ok (.putfield 35, 3) := by decide +kernel
theorem dX0_init_77 : decode cX0_init 77 = .ok (.aload_n 0, 1) := by decide +kernel
theorem dX0_init_78 : decode cX0_init 78 = .ok (.bipush 12, 2) := by decide +kernel
theorem dX0_init_80 : decode cX0_init 80 = .ok (.bipush 6, 2) := by decide +kernel
theorem dX0_init_82 : decode cX0_init 82 = .ok (.multianewarray 13 2, 4) := by decide +kernel
theorem dX0_init_86 : decode cX0_init 86 = .ok (.putfield 38, 3) := by decide +kernel
theorem dX0_init_89 : decode cX0_init 89 = .ok (.aload_n 0, 1) := by decide +kernel
theorem dX0_init_90 : decode cX0_init 90 = .ok (.bipush 12, 2) := by decide +kernel
theorem dX0_init_92 : decode cX0_init 92 = .ok (.bipush 6, 2) := by decide +kernel
theorem dX0_init_94 : decode cX0_init 94 = .ok (.multianewarray 41 2, 4) := by decide +kernel
theorem dX0_init_98 : decode cX0_init 98 = .ok (.putfield 43, 3) := by decide +kernel
theorem dX0_init_101 : decode cX0_init 101 = .ok (.aload_n 0, 1) := by decide +kernel
theorem dX0_init_102 : decode cX0_init 102 = .ok (.bipush 12, 2) := by decide +kernel
theorem dX0_init_104 : decode cX0_init 104 = .ok (.bipush 6, 2) := by decide +kernel
theorem dX0_init_106 : decode cX0_init 106 = .ok (.multianewarray 46 2, 4) := by decide +kernel
theorem dX0_init_110 : decode cX0_init 110 = .ok (.putfield 48, 3) := by decide +kernel
theorem dX0_init_113 : decode cX0_init 113 = .ok (.return_, 1) := by decide +kernel
set_option maxRecDepth 20000 in
theorem ggX0_states_X0_clearWeights : GoodIn wsX0_states wsX0_clearWeights := goodIn_ca (goodIn_r _ [7, 8, 9, 10, 11, 12, 13, 14, 15, 16, 17, 18, 19, 20, 21] (by decide +kernel) (by decide +kernel)) (goodIn_sub (fun _ h => List.mem_cons_of_mem _ (List.mem_append_right _ h)) (by decide +kernel))
set_option maxRecDepth 20000 in
theorem gX0_states_X0_clearWeights : GoodIn wsX0_states (wsV RX0 51 RX0 yX0_clearWeights wsX0_clearWeights) := goodIn_app (goodIn_of _ (by decide +kernel)) ggX0_states_X0_clearWeights
theorem dX0_states_0 : decode cX0_states 0 = .ok (.iload_n 1, 1) := by decide +kernel
theorem dX0_states_1 : decode cX0_states 1 = .ok (.iconst 1, 1) := by decide +kernel
theorem dX0_states_2 : decode cX0_states 2 = .ok (.if_icmp .lt 9, 3) := by decide +kernel
theorem dX0_states_5 : decode cX0_states 5 = .ok (.iload_n 1, 1) := by decide +kernel
theorem dX0_states_6 : decode cX0_states 6 = .ok (.bipush 6, 2) := by decide +kernel
theorem dX0_states_8 : decode cX0_states 8 = .ok (.if_icmp .le 5, 3) := by decide +kernel
theorem dX0_states_11 : decode cX0_states 11 = .ok (.iconst 0, 1) := by decide +kernel
theorem dX0_states_12 : decode cX0_states 12 = .ok (.ireturn, 1) := by decide +kernel
theorem dX0_states_13 : decode cX0_states 13 = .ok (.aload_n 0, 1) := by decide +kernel
theorem dX0_states_14 : decode cX0_states 14 = .ok (.invokevirtual 51, 3) := by decide +kernel
theorem dX0_states_17 : decode cX0_states 17 = .ok (.aload_n 0, 1) := by decide +kernel
theorem dX0_states_18 : decode cX0_states 18 = .ok (.iload_n 1, 1) := by decide +kernel
theorem dX0_states_19 : decode cX0_states 19 = .ok (.putfield 25, 3) := by decide +kernel
theorem dX0_states_22 : decode cX0_states 22 = .ok (.aload_n 0, 1) := by decide +kernel
theorem dX0_states_23 : decode cX0_states 23 = .ok (.iconst 0, 1) := by decide +kernel
theorem dX0_states_24 : decode cX0_states 24 = .ok (.putfield 29, 3) := by decide +kernel
theorem dX0_states_27 : decode cX0_states 27 = .ok (.iconst 1, 1) := by decide +kernel
theorem dX0_states_28 : decode cX0_states 28 = .ok (.ireturn, 1) := by decide +kernel
theorem dX0_size_0 : decode cX0_size 0 = .ok (.aload_n 0, 1) := by decide +kernel
theorem dX0_size_1 : decode cX0_size 1 = .ok (.getfield 25, 3) := by decide +kernel
theorem dX0_size_4 : decode cX0_size 4 = .ok (.ireturn, 1) := by decide +kernel
set_option maxRecDepth 20000 in
theorem ggX0_start_X0_isState : GoodIn wsX0_start wsX0_isState := goodIn_r _ [6, 7, 11, 12, 13, 14, 15, 16, 17, 18, 19, 20, 21] (by decide +kernel) (by decide +kernel)
set_option maxRecDepth 20000 in
theorem gX0_start_X0_isState : GoodIn wsX0_start (wsV RX0 54 RX0 yX0_isState wsX0_isState) := goodIn_app (goodIn_of _ (by decide +kernel)) ggX0_start_X0_isState
set_option maxRecDepth 20000 in
theorem ggX0_start_X0_isWeight : GoodIn wsX0_start wsX0_isWeight := goodIn_r _ [10] (by decide +kernel) (by decide +kernel)
set_option maxRecDepth 20000 in
theorem gX0_start_X0_isWeight : GoodIn wsX0_start (va_wsS RX0 58 yX0_isWeight wsX0_isWeight) := goodIn_app (goodIn_of _ (by decide +kernel)) ggX0_start_X0_isWeight
theorem dX0_start_0 : decode cX0_start 0 = .ok (.aload_n 0, 1) := by decide +kernel
theorem dX0_start_1 : decode cX0_start 1 = .ok (.iload_n 1, 1) := by decide +kernel
theorem dX0_start_2 : decode cX0_start 2 = .ok (.invokevirtual 54, 3) := by decide +kernel
theorem dX0_start_5 : decode cX0_start 5 = .ok (.ifCond .eq 10, 3) := by decide +kernel
theorem dX0_start_8 : decode cX0_start 8 = .ok (.dload_n 2, 1) := by decide +kernel
theorem dX0_start_9 : decode cX0_start 9 = .ok (.invokestatic 58, 3) := by decide +kernel
theorem dX0_start_12 : decode cX0_start 12 = .ok (.ifCond .ne 5, 3) := by decide +kernel
theorem dX0_start_15 : decode cX0_start 15 = .ok (.iconst 0, 1) := by decide +kernel
theorem dX0_start_16 : decode cX0_start 16 = .ok (.ireturn, 1) := by decide +kernel
theorem dX0_start_17 : decode cX0_start 17 = .ok (.aload_n 0, 1) := by decide +kernel
theorem dX0_start_18 : decode cX0_start 18 = .ok (.getfield 9, 3) := by decide +kernel
theorem dX0_start_21 : decode cX0_start 21 = .ok (.iload_n 1, 1) := by decide +kernel
theorem dX0_start_22 : decode cX0_start 22 = .ok (.dload_n 2, 1) := by decide +kernel
theorem dX0_start_23 : decode cX0_start 23 = .ok (.dastore, 1) := by decide +kernel
theorem dX0_start_24 : decode cX0_start 24 = .ok (.iconst 1, 1) := by decide +kernel
theorem dX0_start_25 : decode cX0_start 25 = .ok (.ireturn, 1) := by decide +kernel
set_option maxRecDepth 20000 in
theorem ggX0_move_X0_isState : GoodIn wsX0_move wsX0_isState := goodIn_r _ [6, 7, 11, 12, 13, 14, 15, 16, 17, 18, 19, 20, 21] (by decide +kernel) (by decide +kernel)
set_option maxRecDepth 20000 in
theorem gX0_move_X0_isState : GoodIn wsX0_move (wsV RX0 54 RX0 yX0_isState wsX0_isState) := goodIn_app (goodIn_of _ (by decide +kernel)) ggX0_move_X0_isState
set_option maxRecDepth 20000 in
theorem ggX0_move_X0_isWeight : GoodIn wsX0_move wsX0_isWeight := goodIn_r _ [10] (by decide +kernel) (by decide +kernel)
set_option maxRecDepth 20000 in
theorem gX0_move_X0_isWeight : GoodIn wsX0_move (va_wsS RX0 58 yX0_isWeight wsX0_isWeight) := goodIn_app (goodIn_of _ (by decide +kernel)) ggX0_move_X0_isWeight
theorem dX0_move_0 : decode cX0_move 0 = .ok (.aload_n 0, 1) := by decide +kernel
theorem dX0_move_1 : decode cX0_move 1 = .ok (.iload_n 1, 1) := by decide +kernel
theorem dX0_move_2 : decode cX0_move 2 = .ok (.invokevirtual 54, 3) := by decide +kernel
theorem dX0_move_5 : decode cX0_move 5 = .ok (.ifCond .eq 18, 3) := by decide +kernel
theorem dX0_move_8 : decode cX0_move 8 = .ok (.aload_n 0, 1) := by decide +kernel
theorem dX0_move_9 : decode cX0_move 9 = .ok (.iload_n 2, 1) := by decide +kernel
theorem dX0_move_10 : decode cX0_move 10 = .ok (.invokevirtual 54, 3) := by decide +kernel
theorem dX0_move_13 : decode cX0_move 13 = .ok (.ifCond .eq 10, 3) := by decide +kernel
theorem dX0_move_16 : decode cX0_move 16 = .ok (.dload_n 3, 1) := by decide +kernel
theorem dX0_move_17 : decode cX0_move 17 = .ok (.invokestatic 58, 3) := by decide +kernel
theorem dX0_move_20 : decode cX0_move 20 = .ok (.ifCond .ne 5, 3) := by decide +kernel
theorem dX0_move_23 : decode cX0_move 23 = .ok (.iconst 0, 1) := by decide +kernel
theorem dX0_move_24 : decode cX0_move 24 = .ok (.ireturn, 1) := by decide +kernel
theorem dX0_move_25 : decode cX0_move 25 = .ok (.aload_n 0, 1) := by decide +kernel
theorem dX0_move_26 : decode cX0_move 26 = .ok (.getfield 15, 3) := by decide +kernel
theorem dX0_move_29 : decode cX0_move 29 = .ok (.iload_n 1, 1) := by decide +kernel
theorem dX0_move_30 : decode cX0_move 30 = .ok (.aaload, 1) := by decide +kernel
theorem dX0_move_31 : decode cX0_move 31 = .ok (.iload_n 2, 1) := by decide +kernel
theorem dX0_move_32 : decode cX0_move 32 = .ok (.dload_n 3, 1) := by decide +kernel
theorem dX0_move_33 : decode cX0_move 33 = .ok (.dastore, 1) := by decide +kernel
theorem dX0_move_34 : decode cX0_move 34 = .ok (.iconst 1, 1) := by decide +kernel
theorem dX0_move_35 : decode cX0_move 35 = .ok (.ireturn, 1) := by decide +kernel
set_option maxRecDepth 20000 in
theorem ggX0_show_X0_isState : GoodIn wsX0_show wsX0_isState := goodIn_r _ [6, 7, 14, 15, 16, 17, 18, 19, 20, 21, 22, 23, 24] (by decide +kernel) (by decide +kernel)
set_option maxRecDepth 20000 in
theorem gX0_show_X0_isState : GoodIn wsX0_show (wsV RX0 54 RX0 yX0_isState wsX0_isState) := goodIn_app (goodIn_of _ (by decide +kernel)) ggX0_show_X0_isState
set_option maxRecDepth 20000 in
theorem ggX0_show_X0_isSymbol : GoodIn wsX0_show wsX0_isSymbol := goodIn_r _ [10] (by decide +kernel) (by decide +kernel)
set_option maxRecDepth 20000 in
theorem gX0_show_X0_isSymbol : GoodIn wsX0_show (va_wsS RX0 62 yX0_isSymbol wsX0_isSymbol) := goodIn_app (goodIn_of _ (by decide +kernel)) ggX0_show_X0_isSymbol
set_option maxRecDepth 20000 in
theorem ggX0_show_X0_isWeight : GoodIn wsX0_show wsX0_isWeight := goodIn_r _ [13] (by decide +kernel) (by decide +kernel)
set_option maxRecDepth 20000 in
theorem gX0_show_X0_isWeight : GoodIn wsX0_show (va_wsS RX0 58 yX0_isWeight wsX0_isWeight) := goodIn_app (goodIn_of _ (by decide +kernel)) ggX0_show_X0_isWeight
theorem dX0_show_0 : decode cX0_show 0 = .ok (.aload_n 0, 1) := by decide +kernel
theorem dX0_show_1 : decode cX0_show 1 = .ok (.iload_n 1, 1) := by decide +kernel
theorem dX0_show_2 : decode cX0_show 2 = .ok (.invokevirtual 54, 3) := by decide +kernel
theorem dX0_show_5 : decode cX0_show 5 = .ok (.ifCond .eq 17, 3) := by decide +kernel
theorem dX0_show_8 : decode cX0_show 8 = .ok (.iload_n 2, 1) := by decide +kernel
theorem dX0_show_9 : decode cX0_show 9 = .ok (.invokestatic 62, 3) := by decide +kernel
theorem dX0_show_12 : decode cX0_show 12 = .ok (.ifCond .eq 10, 3) := by decide +kernel
theorem dX0_show_15 : decode cX0_show 15 = .ok (.dload_n 3, 1) := by decide +kernel
theorem dX0_show_16 : decode cX0_show 16 = .ok (.invokestatic 58, 3) := by decide +kernel
theorem dX0_show_19 : decode cX0_show 19 = .ok (.ifCond .ne 5, 3) := by decide +kernel
theorem dX0_show_22 : decode cX0_show 22 = .ok (.iconst 0, 1) := by decide +kernel
theorem dX0_show_23 : decode cX0_show 23 = .ok (.ireturn, 1) := by decide +kernel
theorem dX0_show_24 : decode cX0_show 24 = .ok (.aload_n 0, 1) := by decide +kernel
theorem dX0_show_25 : decode cX0_show 25 = .ok (.getfield 18, 3) := by decide +kernel
theorem dX0_show_28 : decode cX0_show 28 = .ok (.iload_n 1, 1) := by decide +kernel
theorem dX0_show_29 : decode cX0_show 29 = .ok (.aaload, 1) := by decide +kernel
theorem dX0_show_30 : decode cX0_show 30 = .ok (.iload_n 2, 1) := by decide +kernel
theorem dX0_show_31 : decode cX0_show 31 = .ok (.dload_n 3, 1) := by decide +kernel
theorem dX0_show_32 : decode cX0_show 32 = .ok (.dastore, 1) := by decide +kernel
theorem dX0_show_33 : decode cX0_show 33 = .ok (.iconst 1, 1) := by decide +kernel
theorem dX0_show_34 : decode cX0_show 34 = .ok (.ireturn, 1) := by decide +kernel
set_option maxRecDepth 20000 in
theorem ggX0_read_X0_isSymbol : GoodIn wsX0_read wsX0_isSymbol := goodIn_r _ [6] (by decide +kernel) (by decide +kernel)
set_option maxRecDepth 20000 in
theorem gX0_read_X0_isSymbol : GoodIn wsX0_read (va_wsS RX0 62 yX0_isSymbol wsX0_isSymbol) := goodIn_app (goodIn_of _ (by decide +kernel)) ggX0_read_X0_isSymbol
theorem dX0_read_0 : decode cX0_read 0 = .ok (.iload_n 1, 1) := by decide +kernel
theorem dX0_read_1 : decode cX0_read 1 = .ok (.invokestatic 62, 3) := by decide +kernel
theorem dX0_read_4 : decode cX0_read 4 = .ok (.ifCond .eq 12, 3) := by decide +kernel
theorem dX0_read_7 : decode cX0_read 7 = .ok (.aload_n 0, 1) := by decide +kernel
theorem dX0_read_8 : decode cX0_read 8 = .ok (.getfield 29, 3) := by decide +kernel
theorem dX0_read_11 : decode cX0_read 11 = .ok (.bipush 12, 2) := by decide +kernel
theorem dX0_read_13 : decode cX0_read 13 = .ok (.if_icmp .lt 5, 3) := by decide +kernel
theorem dX0_read_16 : decode cX0_read 16 = .ok (.iconst 0, 1) := by decide +kernel
theorem dX0_read_17 : decode cX0_read 17 = .ok (.ireturn, 1) := by decide +kernel
theorem dX0_read_18 : decode cX0_read 18 = .ok (.aload_n 0, 1) := by decide +kernel
theorem dX0_read_19 : decode cX0_read 19 = .ok (.getfield 21, 3) := by decide +kernel
theorem dX0_read_22 : decode cX0_read 22 = .ok (.aload_n 0, 1) := by decide +kernel
theorem dX0_read_23 : decode cX0_read 23 = .ok (.getfield 29, 3) := by decide +kernel
theorem dX0_read_26 : decode cX0_read 26 = .ok (.iload_n 1, 1) := by decide +kernel
theorem dX0_read_27 : decode cX0_read 27 = .ok (.iastore, 1) := by decide +kernel
theorem dX0_read_28 : decode cX0_read 28 = .ok (.aload_n 0, 1) := by decide +kernel
theorem dX0_read_29 : decode cX0_read 29 = .ok (.dup, 1) := by decide +kernel
theorem dX0_read_30 : decode cX0_read 30 = .ok (.getfield 29, 3) := by decide +kernel
theorem dX0_read_33 : decode cX0_read 33 = .ok (.iconst 1, 1) := by decide +kernel
theorem dX0_read_34 : decode cX0_read 34 = .ok (.iadd, 1) := by decide +kernel
theorem dX0_read_35 : decode cX0_read 35 = .ok (.putfield 29, 3) := by decide +kernel
theorem dX0_read_38 : decode cX0_read 38 = .ok (.iconst 1, 1) := by decide +kernel
theorem dX0_read_39 : decode cX0_read 39 = .ok (.ireturn, 1) := by decide +kernel
theorem dX0_unread_0 : decode cX0_unread 0 = .ok (.aload_n 0, 1) := by decide +kernel
theorem dX0_unread_1 : decode cX0_unread 1 = .ok (.getfield 29, 3) := by decide +kernel
theorem dX0_unread_4 : decode cX0_unread 4 = .ok (.ifCond .ne 5, 3) := by decide +kernel
theorem dX0_unread_7 : decode cX0_unread 7 = .ok (.iconst 0, 1) := by decide +kernel
theorem dX0_unread_8 : decode cX0_unread 8 = .ok (.ireturn, 1) := by decide +kernel
theorem dX0_unread_9 : decode cX0_unread 9 = .ok (.aload_n 0, 1) := by decide +kernel
theorem dX0_unread_10 : decode cX0_unread 10 = .ok (.dup, 1) := by decide +kernel
theorem dX0_unread_11 : decode cX0_unread 11 = .ok (.getfield 29, 3) := by decide +kernel
theorem dX0_unread_14 : decode cX0_unread 14 = .ok (.iconst 1, 1) := by decide +kernel
theorem dX0_unread_15 : decode cX0_unread 15 = .ok (.isub, 1) := by decide +kernel
theorem dX0_unread_16 : decode cX0_unread 16 = .ok (.putfield 29, 3) := by decide +kernel
theorem dX0_unread_19 : decode cX0_unread 19 = .ok (.iconst 1, 1) := by decide +kernel
theorem dX0_unread_20 : decode cX0_unread 20 = .ok (.ireturn, 1) := by decide +kernel
theorem dX0_length_0 : decode cX0_length 0 = .ok (.aload_n 0, 1) := by decide +kernel
theorem dX0_length_1 : decode cX0_length 1 = .ok (.getfield 29, 3) := by decide +kernel
theorem dX0_length_4 : decode cX0_length 4 = .ok (.ireturn, 1) := by decide +kernel
set_option maxRecDepth 20000 in
theorem ggX0_forward_X0_refuseWrongPlaceOrState : GoodIn wsX0_forward wsX0_refuseWrongPlaceOrState := goodIn_ca (goodIn_ca (goodIn_r _ [6, 7, 8, 9, 10, 11, 12, 13, 5, 14, 15, 16, 17, 18, 19, 20, 33, 34, 35, 36, 37, 38, 39, 40, 41, 42, 43] (by decide +kernel) (by decide +kernel)) (goodIn_sub (fun _ h => List.mem_cons_of_mem _ (List.mem_append_left _ (List.mem_append_right _ h))) (by decide +kernel))) (goodIn_sub (fun _ h => List.mem_cons_of_mem _ (List.mem_append_right _ h)) (by decide +kernel))
set_option maxRecDepth 20000 in
theorem gX0_forward_X0_refuseWrongPlaceOrState : GoodIn wsX0_forward (wsV RX0 65 RX0 yX0_refuseWrongPlaceOrState wsX0_refuseWrongPlaceOrState) := goodIn_app (goodIn_of _ (by decide +kernel)) ggX0_forward_X0_refuseWrongPlaceOrState
set_option maxRecDepth 20000 in
theorem ggX0_forward_X0_fillForward : GoodIn wsX0_forward wsX0_fillForward := goodIn_ca (goodIn_r _ [24, 15, 25, 20, 1, 26, 27, 28, 29, 5, 30, 31, 32, 33, 34, 35, 36, 37, 38, 39, 40, 41, 42, 43] (by decide +kernel) (by decide +kernel)) (goodIn_sub (fun _ h => List.mem_cons_of_mem _ (List.mem_append_left _ (List.mem_append_left _ (List.mem_append_right _ h)))) (by decide +kernel))
set_option maxRecDepth 20000 in
theorem gX0_forward_X0_fillForward : GoodIn wsX0_forward (wsV RX0 69 RX0 yX0_fillForward wsX0_fillForward) := goodIn_app (goodIn_of _ (by decide +kernel)) ggX0_forward_X0_fillForward
theorem dX0_forward_0 : decode cX0_forward 0 = .ok (.aload_n 0, 1) := by decide +kernel
theorem dX0_forward_1 : decode cX0_forward 1 = .ok (.iload_n 1, 1) := by decide +kernel
theorem dX0_forward_2 : decode cX0_forward 2 = .ok (.iload_n 2, 1) := by decide +kernel
theorem dX0_forward_3 : decode cX0_forward 3 = .ok (.invokevirtual 65, 3) := by decide +kernel
theorem dX0_forward_6 : decode cX0_forward 6 = .ok (.aload_n 0, 1) := by decide +kernel
theorem dX0_forward_7 : decode cX0_forward 7 = .ok (.invokevirtual 69, 3) := by decide +kernel
theorem dX0_forward_10 : decode cX0_forward 10 = .ok (.aload_n 0, 1) := by decide +kernel
theorem dX0_forward_11 : decode cX0_forward 11 = .ok (.getfield 32, 3) := by decide +kernel
theorem dX0_forward_14 : decode cX0_forward 14 = .ok (.iload_n 1, 1) := by decide +kernel
theorem dX0_forward_15 : decode cX0_forward 15 = .ok (.aaload, 1) := by decide +kernel
theorem dX0_forward_16 : decode cX0_forward 16 = .ok (.iload_n 2, 1) := by decide +kernel
theorem dX0_forward_17 : decode cX0_forward 17 = .ok (.daload, 1) := by decide +kernel
theorem dX0_forward_18 : decode cX0_forward 18 = .ok (.dreturn, 1) := by decide +kernel
set_option maxRecDepth 20000 in
theorem ggX0_backward_X0_refuseWrongPlaceOrState : GoodIn wsX0_backward wsX0_refuseWrongPlaceOrState := goodIn_ca (goodIn_ca (goodIn_r _ [6, 7, 8, 9, 10, 11, 12, 13, 5, 14, 15, 16, 17, 18, 19, 20, 32, 33, 34, 35, 36, 37, 38, 39, 40, 41, 42] (by decide +kernel) (by decide +kernel)) (goodIn_sub (fun _ h => List.mem_cons_of_mem _ (List.mem_append_left _ (List.mem_append_right _ h))) (by decide +kernel))) (goodIn_sub (fun _ h => List.mem_cons_of_mem _ (List.mem_append_right _ h)) (by decide +kernel))
set_option maxRecDepth 20000 in
theorem gX0_backward_X0_refuseWrongPlaceOrState : GoodIn wsX0_backward (wsV RX0 65 RX0 yX0_refuseWrongPlaceOrState wsX0_refuseWrongPlaceOrState) := goodIn_app (goodIn_of _ (by decide +kernel)) ggX0_backward_X0_refuseWrongPlaceOrState
set_option maxRecDepth 20000 in
theorem ggX0_backward_X0_fillBackward : GoodIn wsX0_backward wsX0_fillBackward := goodIn_ca (goodIn_r _ [24, 15, 20, 1, 25, 26, 27, 5, 28, 29, 30, 31, 32, 33, 34, 35, 36, 37, 38, 39, 40, 41, 42] (by decide +kernel) (by decide +kernel)) (goodIn_sub (fun _ h => List.mem_cons_of_mem _ (List.mem_append_left _ (List.mem_append_left _ (List.mem_append_right _ h)))) (by decide +kernel))
set_option maxRecDepth 20000 in
theorem gX0_backward_X0_fillBackward : GoodIn wsX0_backward (wsV RX0 72 RX0 yX0_fillBackward wsX0_fillBackward) := goodIn_app (goodIn_of _ (by decide +kernel)) ggX0_backward_X0_fillBackward
theorem dX0_backward_0 : decode cX0_backward 0 = .ok (.aload_n 0, 1) := by decide +kernel
theorem dX0_backward_1 : decode cX0_backward 1 = .ok (.iload_n 1, 1) := by decide +kernel
theorem dX0_backward_2 : decode cX0_backward 2 = .ok (.iload_n 2, 1) := by decide +kernel
theorem dX0_backward_3 : decode cX0_backward 3 = .ok (.invokevirtual 65, 3) := by decide +kernel
theorem dX0_backward_6 : decode cX0_backward 6 = .ok (.aload_n 0, 1) := by decide +kernel
theorem dX0_backward_7 : decode cX0_backward 7 = .ok (.invokevirtual 72, 3) := by decide +kernel
theorem dX0_backward_10 : decode cX0_backward 10 = .ok (.aload_n 0, 1) := by decide +kernel
theorem dX0_backward_11 : decode cX0_backward 11 = .ok (.getfield 35, 3) := by decide +kernel
theorem dX0_backward_14 : decode cX0_backward 14 = .ok (.iload_n 1, 1) := by decide +kernel
theorem dX0_backward_15 : decode cX0_backward 15 = .ok (.aaload, 1) := by decide +kernel
theorem dX0_backward_16 : decode cX0_backward 16 = .ok (.iload_n 2, 1) := by decide +kernel
theorem dX0_backward_17 : decode cX0_backward 17 = .ok (.daload, 1) := by decide +kernel
theorem dX0_backward_18 : decode cX0_backward 18 = .ok (.dreturn, 1) := by decide +kernel
set_option maxRecDepth 20000 in
theorem ggX0_total_X0_fillForward : GoodIn wsX0_total wsX0_fillForward := goodIn_ca (goodIn_r _ [6, 1, 7, 8, 9, 10, 11, 12, 13, 5, 14, 15, 16, 21, 22, 23, 24, 25, 26, 27, 28, 29, 30, 31] (by decide +kernel) (by decide +kernel)) (goodIn_sub (fun _ h => List.mem_cons_of_mem _ (List.mem_append_right _ h)) (by decide +kernel))
set_option maxRecDepth 20000 in
theorem gX0_total_X0_fillForward : GoodIn wsX0_total (wsV RX0 69 RX0 yX0_fillForward wsX0_fillForward) := goodIn_app (goodIn_of _ (by decide +kernel)) ggX0_total_X0_fillForward
set_option maxRecDepth 20000 in
theorem ggX0_total_X0_sumOfLastForward : GoodIn wsX0_total wsX0_sumOfLastForward := goodIn_ca (goodIn_r _ [20, 8, 9, 1, 21, 22, 23, 24, 25, 26, 27, 28, 29, 30, 31] (by decide +kernel) (by decide +kernel)) (goodIn_sub (fun _ h => List.mem_cons_of_mem _ (List.mem_append_right _ h)) (by decide +kernel))
set_option maxRecDepth 20000 in
theorem gX0_total_X0_sumOfLastForward : GoodIn wsX0_total (wsV RX0 75 RX0 yX0_sumOfLastForward wsX0_sumOfLastForward) := goodIn_app (goodIn_of _ (by decide +kernel)) ggX0_total_X0_sumOfLastForward
theorem dX0_total_0 : decode cX0_total 0 = .ok (.aload_n 0, 1) := by decide +kernel
theorem dX0_total_1 : decode cX0_total 1 = .ok (.getfield 29, 3) := by decide +kernel
theorem dX0_total_4 : decode cX0_total 4 = .ok (.ifCond .ne 5, 3) := by decide +kernel
theorem dX0_total_7 : decode cX0_total 7 = .ok (.dconst 1, 1) := by decide +kernel
theorem dX0_total_8 : decode cX0_total 8 = .ok (.dreturn, 1) := by decide +kernel
theorem dX0_total_9 : decode cX0_total 9 = .ok (.aload_n 0, 1) := by decide +kernel
theorem dX0_total_10 : decode cX0_total 10 = .ok (.invokevirtual 69, 3) := by decide +kernel
theorem dX0_total_13 : decode cX0_total 13 = .ok (.aload_n 0, 1) := by decide +kernel
theorem dX0_total_14 : decode cX0_total 14 = .ok (.invokevirtual 75, 3) := by decide +kernel
theorem dX0_total_17 : decode cX0_total 17 = .ok (.dreturn, 1) := by decide +kernel
set_option maxRecDepth 20000 in
theorem ggX0_best_X0_fillBest : GoodIn wsX0_best wsX0_fillBest := goodIn_ca (goodIn_r _ [7, 1, 8, 9, 2, 10, 11, 12, 13, 6, 14, 15, 16, 17, 22, 23, 24, 25, 26, 27, 28, 29, 30, 31, 32] (by decide +kernel) (by decide +kernel)) (goodIn_sub (fun _ h => List.mem_cons_of_mem _ (List.mem_append_right _ h)) (by decide +kernel))
set_option maxRecDepth 20000 in
theorem gX0_best_X0_fillBest : GoodIn wsX0_best (wsV RX0 79 RX0 yX0_fillBest wsX0_fillBest) := goodIn_app (goodIn_of _ (by decide +kernel)) ggX0_best_X0_fillBest
set_option maxRecDepth 20000 in
theorem ggX0_best_X0_lastBestState : GoodIn wsX0_best wsX0_lastBestState := goodIn_ca (goodIn_r _ [21, 9, 2, 1, 22, 23, 24, 25, 26, 27, 28, 29, 30, 31, 32] (by decide +kernel) (by decide +kernel)) (goodIn_sub (fun _ h => List.mem_cons_of_mem _ (List.mem_append_right _ h)) (by decide +kernel))
set_option maxRecDepth 20000 in
theorem gX0_best_X0_lastBestState : GoodIn wsX0_best (wsV RX0 82 RX0 yX0_lastBestState wsX0_lastBestState) := goodIn_app (goodIn_of _ (by decide +kernel)) ggX0_best_X0_lastBestState
theorem dX0_best_0 : decode cX0_best 0 = .ok (.aload_n 0, 1) := by decide +kernel
theorem dX0_best_1 : decode cX0_best 1 = .ok (.getfield 29, 3) := by decide +kernel
theorem dX0_best_4 : decode cX0_best 4 = .ok (.ifCond .ne 5, 3) := by decide +kernel
theorem dX0_best_7 : decode cX0_best 7 = .ok (.dconst 1, 1) := by decide +kernel
theorem dX0_best_8 : decode cX0_best 8 = .ok (.dreturn, 1) := by decide +kernel
theorem dX0_best_9 : decode cX0_best 9 = .ok (.aload_n 0, 1) := by decide +kernel
theorem dX0_best_10 : decode cX0_best 10 = .ok (.invokevirtual 79, 3) := by decide +kernel
theorem dX0_best_13 : decode cX0_best 13 = .ok (.aload_n 0, 1) := by decide +kernel
theorem dX0_best_14 : decode cX0_best 14 = .ok (.getfield 38, 3) := by decide +kernel
theorem dX0_best_17 : decode cX0_best 17 = .ok (.aload_n 0, 1) := by decide +kernel
theorem dX0_best_18 : decode cX0_best 18 = .ok (.getfield 29, 3) := by decide +kernel
theorem dX0_best_21 : decode cX0_best 21 = .ok (.iconst 1, 1) := by decide +kernel
theorem dX0_best_22 : decode cX0_best 22 = .ok (.isub, 1) := by decide +kernel
theorem dX0_best_23 : decode cX0_best 23 = .ok (.aaload, 1) := by decide +kernel
theorem dX0_best_24 : decode cX0_best 24 = .ok (.aload_n 0, 1) := by decide +kernel
theorem dX0_best_25 : decode cX0_best 25 = .ok (.invokevirtual 82, 3) := by decide +kernel
theorem dX0_best_28 : decode cX0_best 28 = .ok (.daload, 1) := by decide +kernel
theorem dX0_best_29 : decode cX0_best 29 = .ok (.dreturn, 1) := by decide +kernel
set_option maxRecDepth 20000 in
theorem ggX0_bestState_X0_isPlace : GoodIn wsX0_bestState wsX0_isPlace := goodIn_r _ [7, 1, 26, 27, 28, 29, 30, 31, 32, 33, 34, 35, 36] (by decide +kernel) (by decide +kernel)
set_option maxRecDepth 20000 in
theorem gX0_bestState_X0_isPlace : GoodIn wsX0_bestState (wsV RX0 86 RX0 yX0_isPlace wsX0_isPlace) := goodIn_app (goodIn_of _ (by decide +kernel)) ggX0_bestState_X0_isPlace
set_option maxRecDepth 20000 in
theorem ggX0_bestState_X0_fillBest : GoodIn wsX0_bestState wsX0_fillBest := goodIn_ca (goodIn_r _ [11, 1, 12, 13, 14, 15, 16, 17, 18, 6, 19, 20, 21, 2, 26, 27, 28, 29, 30, 31, 32, 33, 34, 35, 36] (by decide +kernel) (by decide +kernel)) (goodIn_sub (fun _ h => List.mem_cons_of_mem _ (List.mem_append_right _ h)) (by decide +kernel))
set_option maxRecDepth 20000 in
theorem gX0_bestState_X0_fillBest : GoodIn wsX0_bestState (wsV RX0 79 RX0 yX0_fillBest wsX0_fillBest) := goodIn_app (goodIn_of _ (by decide +kernel)) ggX0_bestState_X0_fillBest
set_option maxRecDepth 20000 in
theorem ggX0_bestState_X0_lastBestState : GoodIn wsX0_bestState wsX0_lastBestState := goodIn_ca (goodIn_r _ [25, 13, 14, 1, 26, 27, 28, 29, 30, 31, 32, 33, 34, 35, 36] (by decide +kernel) (by decide +kernel)) (goodIn_sub (fun _ h => List.mem_cons_of_mem _ (List.mem_append_right _ h)) (by decide +kernel))
set_option maxRecDepth 20000 in
theorem gX0_bestState_X0_lastBestState : GoodIn wsX0_bestState (wsV RX0 82 RX0 yX0_lastBestState wsX0_lastBestState) := goodIn_app (goodIn_of _ (by decide +kernel)) ggX0_bestState_X0_lastBestState
theorem dX0_bestState_0 : decode cX0_bestState 0 = .ok (.aload_n 0, 1) := by decide +kernel
theorem dX0_bestState_1 : decode cX0_bestState 1 = .ok (.iload_n 1, 1) := by decide +kernel
theorem dX0_bestState_2 : decode cX0_bestState 2 = .ok (.invokevirtual 86, 3) := by decide +kernel
theorem dX0_bestState_5 : decode cX0_bestState 5 = .ok (.ifCond .ne 5, 3) := by decide +kernel
theorem dX0_bestState_8 : decode cX0_bestState 8 = .ok (.iconst (-1), 1) := by decide +kernel
theorem dX0_bestState_9 : decode cX0_bestState 9 = .ok (.ireturn, 1) := by decide +kernel
theorem dX0_bestState_10 : decode cX0_bestState 10 = .ok (.aload_n 0, 1) := by decide +kernel
theorem dX0_bestState_11 : decode cX0_bestState 11 = .ok (.invokevirtual 79, 3) := by decide +kernel
theorem dX0_bestState_14 : decode cX0_bestState 14 = .ok (.aload_n 0, 1) := by decide +kernel
theorem dX0_bestState_15 : decode cX0_bestState 15 = .ok (.invokevirtual 82, 3) := by decide +kernel
theorem dX0_bestState_18 : decode cX0_bestState 18 = .ok (.istore_n 2, 1) := by decide +kernel
theorem dX0_bestState_19 : decode cX0_bestState 19 = .ok (.aload_n 0, 1) := by decide +kernel
theorem dX0_bestState_20 : decode cX0_bestState 20 = .ok (.getfield 29, 3) := by decide +kernel
theorem dX0_bestState_23 : decode cX0_bestState 23 = .ok (.iconst 1, 1) := by decide +kernel
theorem dX0_bestState_24 : decode cX0_bestState 24 = .ok (.isub, 1) := by decide +kernel
theorem dX0_bestState_25 : decode cX0_bestState 25 = .ok (.istore_n 3, 1) := by decide +kernel
theorem dX0_bestState_26 : decode cX0_bestState 26 = .ok (.iload_n 3, 1) := by decide +kernel
theorem dX0_bestState_27 : decode cX0_bestState 27 = .ok (.iload_n 1, 1) := by decide +kernel
theorem dX0_bestState_28 : decode cX0_bestState 28 = .ok (.if_icmp .le 18, 3) := by decide +kernel
theorem dX0_bestState_31 : decode cX0_bestState 31 = .ok (.aload_n 0, 1) := by decide +kernel
theorem dX0_bestState_32 : decode cX0_bestState 32 = .ok (.getfield 43, 3) := by decide +kernel
theorem dX0_bestState_35 : decode cX0_bestState 35 = .ok (.iload_n 3, 1) := by decide +kernel
theorem dX0_bestState_36 : decode cX0_bestState 36 = .ok (.aaload, 1) := by decide +kernel
theorem dX0_bestState_37 : decode cX0_bestState 37 = .ok (.iload_n 2, 1) := by decide +kernel
theorem dX0_bestState_38 : decode cX0_bestState 38 = .ok (.iaload, 1) := by decide +kernel
theorem dX0_bestState_39 : decode cX0_bestState 39 = .ok (.istore_n 2, 1) := by decide +kernel
theorem dX0_bestState_40 : decode cX0_bestState 40 = .ok (.iinc 3 (-1), 3) := by decide +kernel
theorem dX0_bestState_43 : decode cX0_bestState 43 = .ok (.goto (-17), 3) := by decide +kernel
theorem dX0_bestState_46 : decode cX0_bestState 46 = .ok (.iload_n 2, 1) := by decide +kernel
theorem dX0_bestState_47 : decode cX0_bestState 47 = .ok (.ireturn, 1) := by decide +kernel
set_option maxRecDepth 20000 in
theorem ggX0_share_X0_refuseWrongPlaceOrState : GoodIn wsX0_share wsX0_refuseWrongPlaceOrState := goodIn_ca (goodIn_ca (goodIn_r _ [9, 10, 11, 12, 13, 14, 15, 16, 8, 17, 18, 19, 20, 21, 22, 23, 48, 49, 50, 51, 52, 53, 54, 55, 56, 57, 58] (by decide +kernel) (by decide +kernel)) (goodIn_sub (fun _ h => List.mem_cons_of_mem _ (List.mem_append_left _ (List.mem_append_right _ h))) (by decide +kernel))) (goodIn_sub (fun _ h => List.mem_cons_of_mem _ (List.mem_append_right _ h)) (by decide +kernel))
set_option maxRecDepth 20000 in
theorem gX0_share_X0_refuseWrongPlaceOrState : GoodIn wsX0_share (wsV RX0 65 RX0 yX0_refuseWrongPlaceOrState wsX0_refuseWrongPlaceOrState) := goodIn_app (goodIn_of _ (by decide +kernel)) ggX0_share_X0_refuseWrongPlaceOrState
set_option maxRecDepth 20000 in
theorem ggX0_share_X0_fillForward : GoodIn wsX0_share wsX0_fillForward := goodIn_ca (goodIn_r _ [27, 18, 28, 23, 3, 29, 30, 31, 32, 8, 33, 34, 35, 48, 49, 50, 51, 52, 53, 54, 55, 56, 57, 58] (by decide +kernel) (by decide +kernel)) (goodIn_sub (fun _ h => List.mem_cons_of_mem _ (List.mem_append_left _ (List.mem_append_left _ (List.mem_append_right _ h)))) (by decide +kernel))
set_option maxRecDepth 20000 in
theorem gX0_share_X0_fillForward : GoodIn wsX0_share (wsV RX0 69 RX0 yX0_fillForward wsX0_fillForward) := goodIn_app (goodIn_of _ (by decide +kernel)) ggX0_share_X0_fillForward
set_option maxRecDepth 20000 in
theorem ggX0_share_X0_sumOfLastForward : GoodIn wsX0_share wsX0_sumOfLastForward := goodIn_ca (goodIn_r _ [39, 23, 3, 18, 48, 49, 50, 51, 52, 53, 54, 55, 56, 57, 58] (by decide +kernel) (by decide +kernel)) (goodIn_sub (fun _ h => List.mem_cons_of_mem _ (List.mem_append_left _ (List.mem_append_left _ (List.mem_append_right _ h)))) (by decide +kernel))
set_option maxRecDepth 20000 in
theorem gX0_share_X0_sumOfLastForward : GoodIn wsX0_share (wsV RX0 75 RX0 yX0_sumOfLastForward wsX0_sumOfLastForward) := goodIn_app (goodIn_of _ (by decide +kernel)) ggX0_share_X0_sumOfLastForward
set_option maxRecDepth 20000 in
theorem ggX0_share_X0_fillBackward : GoodIn wsX0_share wsX0_fillBackward := goodIn_ca (goodIn_r _ [43, 18, 23, 4, 44, 45, 46, 8, 47, 28, 35, 29, 48, 49, 50, 51, 52, 53, 54, 55, 56, 57, 58] (by decide +kernel) (by decide +kernel)) (goodIn_sub (fun _ h => List.mem_cons_of_mem _ (List.mem_append_left _ (List.mem_append_left _ (List.mem_append_right _ h)))) (by decide +kernel))
set_option maxRecDepth 20000 in
theorem gX0_share_X0_fillBackward : GoodIn wsX0_share (wsV RX0 72 RX0 yX0_fillBackward wsX0_fillBackward) := goodIn_app (goodIn_of _ (by decide +kernel)) ggX0_share_X0_fillBackward
theorem dX0_share_0 : decode cX0_share 0 = .ok (.aload_n 0, 1) := by decide +kernel
theorem dX0_share_1 : decode cX0_share 1 = .ok (.iload_n 1, 1) := by decide +kernel
theorem dX0_share_2 : decode cX0_share 2 = .ok (.iload_n 2, 1) := by decide +kernel
theorem dX0_share_3 : decode cX0_share 3 = .ok (.invokevirtual 65, 3) := by decide +kernel
theorem dX0_share_6 : decode cX0_share 6 = .ok (.aload_n 0, 1) := by decide +kernel
theorem dX0_share_7 : decode cX0_share 7 = .ok (.invokevirtual 69, 3) := by decide +kernel
theorem dX0_share_10 : decode cX0_share 10 = .ok (.aload_n 0, 1) := by decide +kernel
theorem dX0_share_11 : decode cX0_share 11 = .ok (.invokevirtual 75, 3) := by decide +kernel
theorem dX0_share_14 : decode cX0_share 14 = .ok (.dstore_n 3, 1) := by decide +kernel
theorem dX0_share_15 : decode cX0_share 15 = .ok (.dload_n 3, 1) := by decide +kernel
theorem dX0_share_16 : decode cX0_share 16 = .ok (.dconst 0, 1) := by decide +kernel
theorem dX0_share_17 : decode cX0_share 17 = .ok (.dcmp .l, 1) := by decide +kernel
theorem dX0_share_18 : decode cX0_share 18 = .ok (.ifCond .ne 13, 3) := by decide +kernel
theorem dX0_share_21 : decode cX0_share 21 = .ok (.new 89, 3) := by decide +kernel
theorem dX0_share_24 : decode cX0_share 24 = .ok (.dup, 1) := by decide +kernel
theorem dX0_share_25 : decode cX0_share 25 = .ok (.ldc 91, 2) := by decide +kernel
theorem dX0_share_27 : decode cX0_share 27 = .ok (.invokespecial 93, 3) := by decide +kernel
theorem dX0_share_30 : decode cX0_share 30 = .ok (.athrow, 1) := by decide +kernel
theorem dX0_share_31 : decode cX0_share 31 = .ok (.aload_n 0, 1) := by decide +kernel
theorem dX0_share_32 : decode cX0_share 32 = .ok (.invokevirtual 72, 3) := by decide +kernel
theorem dX0_share_35 : decode cX0_share 35 = .ok (.aload_n 0, 1) := by decide +kernel
theorem dX0_share_36 : decode cX0_share 36 = .ok (.getfield 32, 3) := by decide +kernel
theorem dX0_share_39 : decode cX0_share 39 = .ok (.iload_n 1, 1) := by decide +kernel
theorem dX0_share_40 : decode cX0_share 40 = .ok (.aaload, 1) := by decide +kernel
theorem dX0_share_41 : decode cX0_share 41 = .ok (.iload_n 2, 1) := by decide +kernel
theorem dX0_share_42 : decode cX0_share 42 = .ok (.daload, 1) := by decide +kernel
theorem dX0_share_43 : decode cX0_share 43 = .ok (.aload_n 0, 1) := by decide +kernel
theorem dX0_share_44 : decode cX0_share 44 = .ok (.getfield 35, 3) := by decide +kernel
theorem dX0_share_47 : decode cX0_share 47 = .ok (.iload_n 1, 1) := by decide +kernel
theorem dX0_share_48 : decode cX0_share 48 = .ok (.aaload, 1) := by decide +kernel
theorem dX0_share_49 : decode cX0_share 49 = .ok (.iload_n 2, 1) := by decide +kernel
theorem dX0_share_50 : decode cX0_share 50 = .ok (.daload, 1) := by decide +kernel
theorem dX0_share_51 : decode cX0_share 51 = .ok (.dmul, 1) := by decide +kernel
theorem dX0_share_52 : decode cX0_share 52 = .ok (.dload_n 3, 1) := by decide +kernel
theorem dX0_share_53 : decode cX0_share 53 = .ok (.ddiv, 1) := by decide +kernel
theorem dX0_share_54 : decode cX0_share 54 = .ok (.dreturn, 1) := by decide +kernel
set_option maxRecDepth 20000 in
theorem ggX0_possible_X0_fillWayCounts : GoodIn wsX0_possible wsX0_fillWayCounts := goodIn_ca (goodIn_r _ [8, 1, 9, 2, 3, 10, 11, 12, 13, 7, 14, 15, 16, 17, 18, 19, 20, 21, 22, 23, 24, 25, 26, 27] (by decide +kernel) (by decide +kernel)) (goodIn_sub (fun _ h => List.mem_cons_of_mem _ (List.mem_append_right _ h)) (by decide +kernel))
set_option maxRecDepth 20000 in
theorem gX0_possible_X0_fillWayCounts : GoodIn wsX0_possible (wsV RX0 96 RX0 yX0_fillWayCounts wsX0_fillWayCounts) := goodIn_app (goodIn_of _ (by decide +kernel)) ggX0_possible_X0_fillWayCounts
theorem dX0_possible_0 : decode cX0_possible 0 = .ok (.aload_n 0, 1) := by decide +kernel
theorem dX0_possible_1 : decode cX0_possible 1 = .ok (.getfield 29, 3) := by decide +kernel
theorem dX0_possible_4 : decode cX0_possible 4 = .ok (.ifCond .ne 5, 3) := by decide +kernel
theorem dX0_possible_7 : decode cX0_possible 7 = .ok (.lconst 1, 1) := by decide +kernel
theorem dX0_possible_8 : decode cX0_possible 8 = .ok (.lreturn, 1) := by decide +kernel
theorem dX0_possible_9 : decode cX0_possible 9 = .ok (.aload_n 0, 1) := by decide +kernel
theorem dX0_possible_10 : decode cX0_possible 10 = .ok (.invokevirtual 96, 3) := by decide +kernel
theorem dX0_possible_13 : decode cX0_possible 13 = .ok (.lconst 0, 1) := by decide +kernel
theorem dX0_possible_14 : decode cX0_possible 14 = .ok (.lstore_n 1, 1) := by decide +kernel
theorem dX0_possible_15 : decode cX0_possible 15 = .ok (.iconst 0, 1) := by decide +kernel
theorem dX0_possible_16 : decode cX0_possible 16 = .ok (.istore_n 3, 1) := by decide +kernel
theorem dX0_possible_17 : decode cX0_possible 17 = .ok (.iload_n 3, 1) := by decide +kernel
theorem dX0_possible_18 : decode cX0_possible 18 = .ok (.aload_n 0, 1) := by decide +kernel
theorem dX0_possible_19 : decode cX0_possible 19 = .ok (.getfield 25, 3) := by decide +kernel
theorem dX0_possible_22 : decode cX0_possible 22 = .ok (.if_icmp .ge 25, 3) := by decide +kernel
theorem dX0_possible_25 : decode cX0_possible 25 = .ok (.lload_n 1, 1) := by decide +kernel
theorem dX0_possible_26 : decode cX0_possible 26 = .ok (.aload_n 0, 1) := by decide +kernel
theorem dX0_possible_27 : decode cX0_possible 27 = .ok (.getfield 48, 3) := by decide +kernel
theorem dX0_possible_30 : decode cX0_possible 30 = .ok (.aload_n 0, 1) := by decide +kernel
theorem dX0_possible_31 : decode cX0_possible 31 = .ok (.getfield 29, 3) := by decide +kernel
theorem dX0_possible_34 : decode cX0_possible 34 = .ok (.iconst 1, 1) := by decide +kernel
theorem dX0_possible_35 : decode cX0_possible 35 = .ok (.isub, 1) := by decide +kernel
theorem dX0_possible_36 : decode cX0_possible 36 = .ok (.aaload, 1) := by decide +kernel
theorem dX0_possible_37 : decode cX0_possible 37 = .ok (.iload_n 3, 1) := by decide +kernel
theorem dX0_possible_38 : decode cX0_possible 38 = .ok (.laload, 1) := by decide +kernel
theorem dX0_possible_39 : decode cX0_possible 39 = .ok (.ladd, 1) := by decide +kernel
theorem dX0_possible_40 : decode cX0_possible 40 = .ok (.lstore_n 1, 1) := by decide +kernel
theorem dX0_possible_41 : decode cX0_possible 41 = .ok (.iinc 3 1, 3) := by decide +kernel
theorem dX0_possible_44 : decode cX0_possible 44 = .ok (.goto (-27), 3) := by decide +kernel
theorem dX0_possible_47 : decode cX0_possible 47 = .ok (.lload_n 1, 1) := by decide +kernel
theorem dX0_possible_48 : decode cX0_possible 48 = .ok (.lreturn, 1) := by decide +kernel
theorem dX0_isState_0 : decode cX0_isState 0 = .ok (.iload_n 1, 1) := by decide +kernel
theorem dX0_isState_1 : decode cX0_isState 1 = .ok (.ifCond .lt 15, 3) := by decide +kernel
theorem dX0_isState_4 : decode cX0_isState 4 = .ok (.iload_n 1, 1) := by decide +kernel
theorem dX0_isState_5 : decode cX0_isState 5 = .ok (.aload_n 0, 1) := by decide +kernel
theorem dX0_isState_6 : decode cX0_isState 6 = .ok (.getfield 25, 3) := by decide +kernel
theorem dX0_isState_9 : decode cX0_isState 9 = .ok (.if_icmp .ge 7, 3) := by decide +kernel
theorem dX0_isState_12 : decode cX0_isState 12 = .ok (.iconst 1, 1) := by decide +kernel
theorem dX0_isState_13 : decode cX0_isState 13 = .ok (.goto 4, 3) := by decide +kernel
theorem dX0_isState_16 : decode cX0_isState 16 = .ok (.iconst 0, 1) := by decide +kernel
theorem dX0_isState_17 : decode cX0_isState 17 = .ok (.ireturn, 1) := by decide +kernel
theorem dX0_isPlace_0 : decode cX0_isPlace 0 = .ok (.iload_n 1, 1) := by decide +kernel
theorem dX0_isPlace_1 : decode cX0_isPlace 1 = .ok (.ifCond .lt 15, 3) := by decide +kernel
theorem dX0_isPlace_4 : decode cX0_isPlace 4 = .ok (.iload_n 1, 1) := by decide +kernel
theorem dX0_isPlace_5 : decode cX0_isPlace 5 = .ok (.aload_n 0, 1) := by decide +kernel
theorem dX0_isPlace_6 : decode cX0_isPlace 6 = .ok (.getfield 29, 3) := by decide +kernel
theorem dX0_isPlace_9 : decode cX0_isPlace 9 = .ok (.if_icmp .ge 7, 3) := by decide +kernel
theorem dX0_isPlace_12 : decode cX0_isPlace 12 = .ok (.iconst 1, 1) := by decide +kernel
theorem dX0_isPlace_13 : decode cX0_isPlace 13 = .ok (.goto 4, 3) := by decide +kernel
theorem dX0_isPlace_16 : decode cX0_isPlace 16 = .ok (.iconst 0, 1) := by decide +kernel
theorem dX0_isPlace_17 : decode cX0_isPlace 17 = .ok (.ireturn, 1) := by decide +kernel
theorem dX0_isSymbol_0 : decode cX0_isSymbol 0 = .ok (.iload_n 0, 1) := by decide +kernel
theorem dX0_isSymbol_1 : decode cX0_isSymbol 1 = .ok (.ifCond .lt 12, 3) := by decide +kernel
theorem dX0_isSymbol_4 : decode cX0_isSymbol 4 = .ok (.iload_n 0, 1) := by decide +kernel
theorem dX0_isSymbol_5 : decode cX0_isSymbol 5 = .ok (.iconst 4, 1) := by decide +kernel
theorem dX0_isSymbol_6 : decode cX0_isSymbol 6 = .ok (.if_icmp .ge 7, 3) := by decide +kernel
theorem dX0_isSymbol_9 : decode cX0_isSymbol 9 = .ok (.iconst 1, 1) := by decide +kernel
theorem dX0_isSymbol_10 : decode cX0_isSymbol 10 = .ok (.goto 4, 3) := by decide +kernel
theorem dX0_isSymbol_13 : decode cX0_isSymbol 13 = .ok (.iconst 0, 1) := by decide +kernel
theorem dX0_isSymbol_14 : decode cX0_isSymbol 14 = .ok (.ireturn, 1) := by decide +kernel
theorem dX0_isWeight_0 : decode cX0_isWeight 0 = .ok (.dload_n 0, 1) := by decide +kernel
theorem dX0_isWeight_1 : decode cX0_isWeight 1 = .ok (.dconst 0, 1) := by decide +kernel
theorem dX0_isWeight_2 : decode cX0_isWeight 2 = .ok (.dcmp .l, 1) := by decide +kernel
theorem dX0_isWeight_3 : decode cX0_isWeight 3 = .ok (.ifCond .lt 13, 3) := by decide +kernel
theorem dX0_isWeight_6 : decode cX0_isWeight 6 = .ok (.dload_n 0, 1) := by decide +kernel
theorem dX0_isWeight_7 : decode cX0_isWeight 7 = .ok (.dconst 1, 1) := by decide +kernel
theorem dX0_isWeight_8 : decode cX0_isWeight 8 = .ok (.dcmp .g, 1) := by decide +kernel
theorem dX0_isWeight_9 : decode cX0_isWeight 9 = .ok (.ifCond .gt 7, 3) := by decide +kernel
theorem dX0_isWeight_12 : decode cX0_isWeight 12 = .ok (.iconst 1, 1) := by decide +kernel
theorem dX0_isWeight_13 : decode cX0_isWeight 13 = .ok (.goto 4, 3) := by decide +kernel
theorem dX0_isWeight_16 : decode cX0_isWeight 16 = .ok (.iconst 0, 1) := by decide +kernel
theorem dX0_isWeight_17 : decode cX0_isWeight 17 = .ok (.ireturn, 1) := by decide +kernel
set_option maxRecDepth 20000 in
theorem ggX0_refuseWrongPlaceOrState_X0_isPlace : GoodIn wsX0_refuseWrongPlaceOrState wsX0_isPlace := goodIn_r _ [9, 10, 16, 17, 18, 19, 20, 21, 22, 23, 24, 25, 26] (by decide +kernel) (by decide +kernel)
set_option maxRecDepth 20000 in
theorem gX0_refuseWrongPlaceOrState_X0_isPlace : GoodIn wsX0_refuseWrongPlaceOrState (wsV RX0 86 RX0 yX0_isPlace wsX0_isPlace) := goodIn_app (goodIn_of _ (by decide +kernel)) ggX0_refuseWrongPlaceOrState_X0_isPlace
set_option maxRecDepth 20000 in
theorem ggX0_refuseWrongPlaceOrState_X0_isState : GoodIn wsX0_refuseWrongPlaceOrState wsX0_isState := goodIn_r _ [14, 15, 16, 17, 18, 19, 20, 21, 22, 23, 24, 25, 26] (by decide +kernel) (by decide +kernel)
set_option maxRecDepth 20000 in
theorem gX0_refuseWrongPlaceOrState_X0_isState : GoodIn wsX0_refuseWrongPlaceOrState (wsV RX0 54 RX0 yX0_isState wsX0_isState) := goodIn_app (goodIn_of _ (by decide +kernel)) ggX0_refuseWrongPlaceOrState_X0_isState
theorem dX0_refuseWrongPlaceOrState_0 : decode cX0_refuseWrongPlaceOrState 0 = .ok (.aload_n 0, 1) := by decide +kernel
theorem dX0_refuseWrongPlaceOrState_1 : decode cX0_refuseWrongPlaceOrState 1 = .ok (.iload_n 1, 1) := by decide +kernel
theorem dX0_refuseWrongPlaceOrState_2 : decode cX0_refuseWrongPlaceOrState 2 = .ok (.invokevirtual 86, 3) := by decide +kernel
theorem dX0_refuseWrongPlaceOrState_5 : decode cX0_refuseWrongPlaceOrState 5 = .ok (.ifCond .ne 13, 3) := by decide +kernel
theorem dX0_refuseWrongPlaceOrState_8 : decode cX0_refuseWrongPlaceOrState 8 = .ok (.new 99, 3) := by decide +kernel
theorem dX0_refuseWrongPlaceOrState_11 : decode cX0_refuseWrongPlaceOrState 11 = .ok (.dup, 1) := by decide +kernel
theorem dX0_refuseWrongPlaceOrState_12 : decode cX0_refuseWrongPlaceOrState 12 = .ok (.ldc 101, 2) := by decide +kernel
theorem dX0_refuseWrongPlaceOrState_14 : decode cX0_refuseWrongPlaceOrState 14 = .ok (.invokespecial 103, 3) := by decide +kernel
theorem dX0_refuseWrongPlaceOrState_17 : decode cX0_refuseWrongPlaceOrState 17 = .ok (.athrow, 1) := by decide +kernel
theorem dX0_refuseWrongPlaceOrState_18 : decode cX0_refuseWrongPlaceOrState 18 = .ok (.aload_n 0, 1) := by decide +kernel
theorem dX0_refuseWrongPlaceOrState_19 : decode cX0_refuseWrongPlaceOrState 19 = .ok (.iload_n 2, 1) := by decide +kernel
theorem dX0_refuseWrongPlaceOrState_20 : decode cX0_refuseWrongPlaceOrState 20 = .ok (.invokevirtual 54, 3) := by decide +kernel
theorem dX0_refuseWrongPlaceOrState_23 : decode cX0_refuseWrongPlaceOrState 23 = .ok (.ifCond .ne 13, 3) := by decide +kernel
theorem dX0_refuseWrongPlaceOrState_26 : decode cX0_refuseWrongPlaceOrState 26 = .ok (.new 104, 3) := by decide +kernel
theorem dX0_refuseWrongPlaceOrState_29 : decode cX0_refuseWrongPlaceOrState 29 = .ok (.dup, 1) := by decide +kernel
theorem dX0_refuseWrongPlaceOrState_30 : decode cX0_refuseWrongPlaceOrState 30 = .ok (.ldc 106, 2) := by decide +kernel
theorem dX0_refuseWrongPlaceOrState_32 : decode cX0_refuseWrongPlaceOrState 32 = .ok (.invokespecial 108, 3) := by decide +kernel
theorem dX0_refuseWrongPlaceOrState_35 : decode cX0_refuseWrongPlaceOrState 35 = .ok (.athrow, 1) := by decide +kernel
theorem dX0_refuseWrongPlaceOrState_36 : decode cX0_refuseWrongPlaceOrState 36 = .ok (.return_, 1) := by decide +kernel
theorem dX0_clearWeights_0 : decode cX0_clearWeights 0 = .ok (.iconst 0, 1) := by decide +kernel
theorem dX0_clearWeights_1 : decode cX0_clearWeights 1 = .ok (.istore_n 1, 1) := by decide +kernel
theorem dX0_clearWeights_2 : decode cX0_clearWeights 2 = .ok (.iload_n 1, 1) := by decide +kernel
theorem dX0_clearWeights_3 : decode cX0_clearWeights 3 = .ok (.bipush 6, 2) := by decide +kernel
theorem dX0_clearWeights_5 : decode cX0_clearWeights 5 = .ok (.if_icmp .ge 61, 3) := by decide +kernel
theorem dX0_clearWeights_8 : decode cX0_clearWeights 8 = .ok (.aload_n 0, 1) := by decide +kernel
theorem dX0_clearWeights_9 : decode cX0_clearWeights 9 = .ok (.getfield 9, 3) := by decide +kernel
theorem dX0_clearWeights_12 : decode cX0_clearWeights 12 = .ok (.iload_n 1, 1) := by decide +kernel
theorem dX0_clearWeights_13 : decode cX0_clearWeights 13 = .ok (.dconst 0, 1) := by decide +kernel
theorem dX0_clearWeights_14 : decode cX0_clearWeights 14 = .ok (.dastore, 1) := by decide +kernel
theorem dX0_clearWeights_15 : decode cX0_clearWeights 15 = .ok (.iconst 0, 1) := by decide +kernel
theorem dX0_clearWeights_16 : decode cX0_clearWeights 16 = .ok (.istore_n 2, 1) := by decide +kernel
theorem dX0_clearWeights_17 : decode cX0_clearWeights 17 = .ok (.iload_n 2, 1) := by decide +kernel
theorem dX0_clearWeights_18 : decode cX0_clearWeights 18 = .ok (.bipush 6, 2) := by decide +kernel
theorem dX0_clearWeights_20 : decode cX0_clearWeights 20 = .ok (.if_icmp .ge 18, 3) := by decide +kernel
theorem dX0_clearWeights_23 : decode cX0_clearWeights 23 = .ok (.aload_n 0, 1) := by decide +kernel
theorem dX0_clearWeights_24 : decode cX0_clearWeights 24 = .ok (.getfield 15, 3) := by decide +kernel
theorem dX0_clearWeights_27 : decode cX0_clearWeights 27 = .ok (.iload_n 1, 1) := by decide +kernel
theorem dX0_clearWeights_28 : decode cX0_clearWeights 28 = .ok (.aaload, 1) := by decide +kernel
theorem dX0_clearWeights_29 : decode cX0_clearWeights 29 = .ok (.iload_n 2, 1) := by decide +kernel
theorem dX0_clearWeights_30 : decode cX0_clearWeights 30 = .ok (.dconst 0, 1) := by decide +kernel
theorem dX0_clearWeights_31 : decode cX0_clearWeights 31 = .ok (.dastore, 1) := by decide +kernel
theorem dX0_clearWeights_32 : decode cX0_clearWeights 32 = .ok (.iinc 2 1, 3) := by decide +kernel
theorem dX0_clearWeights_35 : decode cX0_clearWeights 35 = .ok (.goto (-18), 3) := by decide +kernel
theorem dX0_clearWeights_38 : decode cX0_clearWeights 38 = .ok (.iconst 0, 1) := by decide +kernel
theorem dX0_clearWeights_39 : decode cX0_clearWeights 39 = .ok (.istore_n 2, 1) := by decide +kernel
theorem dX0_clearWeights_40 : decode cX0_clearWeights 40 = .ok (.iload_n 2, 1) := by decide +kernel
theorem dX0_clearWeights_41 : decode cX0_clearWeights 41 = .ok (.iconst 4, 1) := by decide +kernel
theorem dX0_clearWeights_42 : decode cX0_clearWeights 42 = .ok (.if_icmp .ge 18, 3) := by decide +kernel
theorem dX0_clearWeights_45 : decode cX0_clearWeights 45 = .ok (.aload_n 0, 1) := by decide +kernel
theorem dX0_clearWeights_46 : decode cX0_clearWeights 46 = .ok (.getfield 18, 3) := by decide +kernel
theorem dX0_clearWeights_49 : decode cX0_clearWeights 49 = .ok (.iload_n 1, 1) := by decide +kernel
theorem dX0_clearWeights_50 : decode cX0_clearWeights 50 = .ok (.aaload, 1) := by decide +kernel
theorem dX0_clearWeights_51 : decode cX0_clearWeights 51 = .ok (.iload_n 2, 1) := by decide +kernel
theorem dX0_clearWeights_52 : decode cX0_clearWeights 52 = .ok (.dconst 0, 1) := by decide +kernel
theorem dX0_clearWeights_53 : decode cX0_clearWeights 53 = .ok (.dastore, 1) := by decide +kernel
theorem dX0_clearWeights_54 : decode cX0_clearWeights 54 = .ok (.iinc 2 1, 3) := by decide +kernel
theorem dX0_clearWeights_57 : decode cX0_clearWeights 57 = .ok (.goto (-17), 3) := by decide +kernel
theorem dX0_clearWeights_60 : decode cX0_clearWeights 60 = .ok (.iinc 1 1, 3) := by decide +kernel
theorem dX0_clearWeights_63 : decode cX0_clearWeights 63 = .ok (.goto (-61), 3) := by decide +kernel
theorem dX0_clearWeights_66 : decode cX0_clearWeights 66 = .ok (.return_, 1) := by decide +kernel
set_option maxRecDepth 20000 in
theorem ggX0_fillForward_X0_forwardInto : GoodIn wsX0_fillForward wsX0_forwardInto := goodIn_ca (goodIn_r _ [10, 11, 3, 4, 12, 13, 14, 15, 16, 17, 18, 19, 20, 21, 22, 23] (by decide +kernel) (by decide +kernel)) (goodIn_sub (fun _ h => List.mem_cons_of_mem _ (List.mem_append_right _ h)) (by decide +kernel))
set_option maxRecDepth 20000 in
theorem gX0_fillForward_X0_forwardInto : GoodIn wsX0_fillForward (wsV RX0 109 RX0 yX0_forwardInto wsX0_forwardInto) := goodIn_app (goodIn_of _ (by decide +kernel)) ggX0_fillForward_X0_forwardInto
theorem dX0_fillForward_0 : decode cX0_fillForward 0 = .ok (.iconst 0, 1) := by decide +kernel
theorem dX0_fillForward_1 : decode cX0_fillForward 1 = .ok (.istore_n 1, 1) := by decide +kernel
theorem dX0_fillForward_2 : decode cX0_fillForward 2 = .ok (.iload_n 1, 1) := by decide +kernel
theorem dX0_fillForward_3 : decode cX0_fillForward 3 = .ok (.aload_n 0, 1) := by decide +kernel
theorem dX0_fillForward_4 : decode cX0_fillForward 4 = .ok (.getfield 29, 3) := by decide +kernel
theorem dX0_fillForward_7 : decode cX0_fillForward 7 = .ok (.if_icmp .ge 55, 3) := by decide +kernel
theorem dX0_fillForward_10 : decode cX0_fillForward 10 = .ok (.aload_n 0, 1) := by decide +kernel
theorem dX0_fillForward_11 : decode cX0_fillForward 11 = .ok (.getfield 21, 3) := by decide +kernel
theorem dX0_fillForward_14 : decode cX0_fillForward 14 = .ok (.iload_n 1, 1) := by decide +kernel
theorem dX0_fillForward_15 : decode cX0_fillForward 15 = .ok (.iaload, 1) := by decide +kernel
theorem dX0_fillForward_16 : decode cX0_fillForward 16 = .ok (.istore_n 2, 1) := by decide +kernel
theorem dX0_fillForward_17 : decode cX0_fillForward 17 = .ok (.iconst 0, 1) := by decide +kernel
theorem dX0_fillForward_18 : decode cX0_fillForward 18 = .ok (.istore_n 3, 1) := by decide +kernel
theorem dX0_fillForward_19 : decode cX0_fillForward 19 = .ok (.iload_n 3, 1) := by decide +kernel
theorem dX0_fillForward_20 : decode cX0_fillForward 20 = .ok (.aload_n 0, 1) := by decide +kernel
theorem dX0_fillForward_21 : decode cX0_fillForward 21 = .ok (.getfield 25, 3) := by decide +kernel
theorem dX0_fillForward_24 : decode cX0_fillForward 24 = .ok (.if_icmp .ge 32, 3) := by decide +kernel
theorem dX0_fillForward_27 : decode cX0_fillForward 27 = .ok (.aload_n 0, 1) := by decide +kernel
theorem dX0_fillForward_28 : decode cX0_fillForward 28 = .ok (.getfield 32, 3) := by decide +kernel
theorem dX0_fillForward_31 : decode cX0_fillForward 31 = .ok (.iload_n 1, 1) := by decide +kernel
theorem dX0_fillForward_32 : decode cX0_fillForward 32 = .ok (.aaload, 1) := by decide +kernel
theorem dX0_fillForward_33 : decode cX0_fillForward 33 = .ok (.iload_n 3, 1) := by decide +kernel
theorem dX0_fillForward_34 : decode cX0_fillForward 34 = .ok (.aload_n 0, 1) := by decide +kernel
theorem dX0_fillForward_35 : decode cX0_fillForward 35 = .ok (.iload_n 1, 1) := by decide +kernel
theorem dX0_fillForward_36 : decode cX0_fillForward 36 = .ok (.iload_n 3, 1) := by decide +kernel
theorem dX0_fillForward_37 : decode cX0_fillForward 37 = .ok (.invokevirtual 109, 3) := by decide +kernel
theorem dX0_fillForward_40 : decode cX0_fillForward 40 = .ok (.aload_n 0, 1) := by decide +kernel
theorem dX0_fillForward_41 : decode cX0_fillForward 41 = .ok (.getfield 18, 3) := by decide +kernel
theorem dX0_fillForward_44 : decode cX0_fillForward 44 = .ok (.iload_n 3, 1) := by decide +kernel
theorem dX0_fillForward_45 : decode cX0_fillForward 45 = .ok (.aaload, 1) := by decide +kernel
theorem dX0_fillForward_46 : decode cX0_fillForward 46 = .ok (.iload_n 2, 1) := by decide +kernel
theorem dX0_fillForward_47 : decode cX0_fillForward 47 = .ok (.daload, 1) := by decide +kernel
theorem dX0_fillForward_48 : decode cX0_fillForward 48 = .ok (.dmul, 1) := by decide +kernel
theorem dX0_fillForward_49 : decode cX0_fillForward 49 = .ok (.dastore, 1) := by decide +kernel
theorem dX0_fillForward_50 : decode cX0_fillForward 50 = .ok (.iinc 3 1, 3) := by decide +kernel
theorem dX0_fillForward_53 : decode cX0_fillForward 53 = .ok (.goto (-34), 3) := by decide +kernel
theorem dX0_fillForward_56 : decode cX0_fillForward 56 = .ok (.iinc 1 1, 3) := by decide +kernel
theorem dX0_fillForward_59 : decode cX0_fillForward 59 = .ok (.goto (-57), 3) := by decide +kernel
theorem dX0_fillForward_62 : decode cX0_fillForward 62 = .ok (.return_, 1) := by decide +kernel
theorem dX0_forwardInto_0 : decode cX0_forwardInto 0 = .ok (.iload_n 1, 1) := by decide +kernel
theorem dX0_forwardInto_1 : decode cX0_forwardInto 1 = .ok (.ifCond .ne 10, 3) := by decide +kernel
theorem dX0_forwardInto_4 : decode cX0_forwardInto 4 = .ok (.aload_n 0, 1) := by decide +kernel
theorem dX0_forwardInto_5 : decode cX0_forwardInto 5 = .ok (.getfield 9, 3) := by decide +kernel
theorem dX0_forwardInto_8 : decode cX0_forwardInto 8 = .ok (.iload_n 2, 1) := by decide +kernel
theorem dX0_forwardInto_9 : decode cX0_forwardInto 9 = .ok (.daload, 1) := by decide +kernel
theorem dX0_forwardInto_10 : decode cX0_forwardInto 10 = .ok (.dreturn, 1) := by decide +kernel
theorem dX0_forwardInto_11 : decode cX0_forwardInto 11 = .ok (.dconst 0, 1) := by decide +kernel
theorem dX0_forwardInto_12 : decode cX0_forwardInto 12 = .ok (.dstore_n 3, 1) := by decide +kernel
theorem dX0_forwardInto_13 : decode cX0_forwardInto 13 = .ok (.iconst 0, 1) := by decide +kernel
theorem dX0_forwardInto_14 : decode cX0_forwardInto 14 = .ok (.istore 5, 2) := by decide +kernel
theorem dX0_forwardInto_16 : decode cX0_forwardInto 16 = .ok (.iload 5, 2) := by decide +kernel
theorem dX0_forwardInto_18 : decode cX0_forwardInto 18 = .ok (.aload_n 0, 1) := by decide +kernel
theorem dX0_forwardInto_19 : decode cX0_forwardInto 19 = .ok (.getfield 25, 3) := by decide +kernel
theorem dX0_forwardInto_22 : decode cX0_forwardInto 22 = .ok (.if_icmp .ge 33, 3) := by decide +kernel
theorem dX0_forwardInto_25 : decode cX0_forwardInto 25 = .ok (.dload_n 3, 1) := by decide +kernel
theorem dX0_forwardInto_26 : decode cX0_forwardInto 26 = .ok (.aload_n 0, 1) := by decide +kernel
theorem dX0_forwardInto_27 : decode cX0_forwardInto 27 = .ok (.getfield 32, 3) := by decide +kernel
theorem dX0_forwardInto_30 : decode cX0_forwardInto 30 = .ok (.iload_n 1, 1) := by decide +kernel
theorem dX0_forwardInto_31 : decode cX0_forwardInto 31 = .ok (.iconst 1, 1) := by decide +kernel
theorem dX0_forwardInto_32 : decode cX0_forwardInto 32 = .ok (.isub, 1) := by decide +kernel
theorem dX0_forwardInto_33 : decode cX0_forwardInto 33 = .ok (.aaload, 1) := by decide +kernel
theorem dX0_forwardInto_34 : decode cX0_forwardInto 34 = .ok (.iload 5, 2) := by decide +kernel
theorem dX0_forwardInto_36 : decode cX0_forwardInto 36 = .ok (.daload, 1) := by decide +kernel
theorem dX0_forwardInto_37 : decode cX0_forwardInto 37 = .ok (.aload_n 0, 1) := by decide +kernel
theorem dX0_forwardInto_38 : decode cX0_forwardInto 38 = .ok (.getfield 15, 3) := by decide +kernel
theorem dX0_forwardInto_41 : decode cX0_forwardInto 41 = .ok (.iload 5, 2) := by decide +kernel
theorem dX0_forwardInto_43 : decode cX0_forwardInto 43 = .ok (.aaload, 1) := by decide +kernel
theorem dX0_forwardInto_44 : decode cX0_forwardInto 44 = .ok (.iload_n 2, 1) := by decide +kernel
theorem dX0_forwardInto_45 : decode cX0_forwardInto 45 = .ok (.daload, 1) := by decide +kernel
theorem dX0_forwardInto_46 : decode cX0_forwardInto 46 = .ok (.dmul, 1) := by decide +kernel
theorem dX0_forwardInto_47 : decode cX0_forwardInto 47 = .ok (.dadd, 1) := by decide +kernel
theorem dX0_forwardInto_48 : decode cX0_forwardInto 48 = .ok (.dstore_n 3, 1) := by decide +kernel
theorem dX0_forwardInto_49 : decode cX0_forwardInto 49 = .ok (.iinc 5 1, 3) := by decide +kernel
theorem dX0_forwardInto_52 : decode cX0_forwardInto 52 = .ok (.goto (-36), 3) := by decide +kernel
theorem dX0_forwardInto_55 : decode cX0_forwardInto 55 = .ok (.dload_n 3, 1) := by decide +kernel
theorem dX0_forwardInto_56 : decode cX0_forwardInto 56 = .ok (.dreturn, 1) := by decide +kernel
theorem dX0_sumOfLastForward_0 : decode cX0_sumOfLastForward 0 = .ok (.dconst 0, 1) := by decide +kernel
theorem dX0_sumOfLastForward_1 : decode cX0_sumOfLastForward 1 = .ok (.dstore_n 1, 1) := by decide +kernel
theorem dX0_sumOfLastForward_2 : decode cX0_sumOfLastForward 2 = .ok (.iconst 0, 1) := by decide +kernel
theorem dX0_sumOfLastForward_3 : decode cX0_sumOfLastForward 3 = .ok (.istore_n 3, 1) := by decide +kernel
theorem dX0_sumOfLastForward_4 : decode cX0_sumOfLastForward 4 = .ok (.iload_n 3, 1) := by decide +kernel
theorem dX0_sumOfLastForward_5 : decode cX0_sumOfLastForward 5 = .ok (.aload_n 0, 1) := by decide +kernel
theorem dX0_sumOfLastForward_6 : decode cX0_sumOfLastForward 6 = .ok (.getfield 25, 3) := by decide +kernel
theorem dX0_sumOfLastForward_9 : decode cX0_sumOfLastForward 9 = .ok (.if_icmp .ge 25, 3) := by decide +kernel
theorem dX0_sumOfLastForward_12 : decode cX0_sumOfLastForward 12 = .ok (.dload_n 1, 1) := by decide +kernel
theorem dX0_sumOfLastForward_13 : decode cX0_sumOfLastForward 13 = .ok (.aload_n 0, 1) := by decide +kernel
theorem dX0_sumOfLastForward_14 : decode cX0_sumOfLastForward 14 = .ok (.getfield 32, 3) := by decide +kernel
theorem dX0_sumOfLastForward_17 : decode cX0_sumOfLastForward 17 = .ok (.aload_n 0, 1) := by decide +kernel
theorem dX0_sumOfLastForward_18 : decode cX0_sumOfLastForward 18 = .ok (.getfield 29, 3) := by decide +kernel
theorem dX0_sumOfLastForward_21 : decode cX0_sumOfLastForward 21 = .ok (.iconst 1, 1) := by decide +kernel
theorem dX0_sumOfLastForward_22 : decode cX0_sumOfLastForward 22 = .ok (.isub, 1) := by decide +kernel
theorem dX0_sumOfLastForward_23 : decode cX0_sumOfLastForward 23 = .ok (.aaload, 1) := by decide +kernel
theorem dX0_sumOfLastForward_24 : decode cX0_sumOfLastForward 24 = .ok (.iload_n 3, 1) := by decide +kernel
theorem dX0_sumOfLastForward_25 : decode cX0_sumOfLastForward 25 = .ok (.daload, 1) := by decide +kernel
theorem dX0_sumOfLastForward_26 : decode cX0_sumOfLastForward 26 = .ok (.dadd, 1) := by decide +kernel
theorem dX0_sumOfLastForward_27 : decode cX0_sumOfLastForward 27 = .ok (.dstore_n 1, 1) := by decide +kernel
theorem dX0_sumOfLastForward_28 : decode cX0_sumOfLastForward 28 = .ok (.iinc 3 1, 3) := by decide +kernel
theorem dX0_sumOfLastForward_31 : decode cX0_sumOfLastForward 31 = .ok (.goto (-27), 3) := by decide +kernel
theorem dX0_sumOfLastForward_34 : decode cX0_sumOfLastForward 34 = .ok (.dload_n 1, 1) := by decide +kernel
theorem dX0_sumOfLastForward_35 : decode cX0_sumOfLastForward 35 = .ok (.dreturn, 1) := by decide +kernel
set_option maxRecDepth 20000 in
theorem ggX0_fillBackward_X0_backwardFrom : GoodIn wsX0_fillBackward wsX0_backwardFrom := goodIn_ca (goodIn_r _ [8, 1, 9, 2, 10, 11, 3, 12, 13, 14, 15, 16, 17, 18, 19, 20, 21, 22] (by decide +kernel) (by decide +kernel)) (goodIn_sub (fun _ h => List.mem_cons_of_mem _ (List.mem_append_right _ h)) (by decide +kernel))
set_option maxRecDepth 20000 in
theorem gX0_fillBackward_X0_backwardFrom : GoodIn wsX0_fillBackward (wsV RX0 113 RX0 yX0_backwardFrom wsX0_backwardFrom) := goodIn_app (goodIn_of _ (by decide +kernel)) ggX0_fillBackward_X0_backwardFrom
theorem dX0_fillBackward_0 : decode cX0_fillBackward 0 = .ok (.aload_n 0, 1) := by decide +kernel
theorem dX0_fillBackward_1 : decode cX0_fillBackward 1 = .ok (.getfield 29, 3) := by decide +kernel
theorem dX0_fillBackward_4 : decode cX0_fillBackward 4 = .ok (.iconst 1, 1) := by decide +kernel
theorem dX0_fillBackward_5 : decode cX0_fillBackward 5 = .ok (.isub, 1) := by decide +kernel
theorem dX0_fillBackward_6 : decode cX0_fillBackward 6 = .ok (.istore_n 1, 1) := by decide +kernel
theorem dX0_fillBackward_7 : decode cX0_fillBackward 7 = .ok (.iload_n 1, 1) := by decide +kernel
theorem dX0_fillBackward_8 : decode cX0_fillBackward 8 = .ok (.ifCond .lt 39, 3) := by decide +kernel
theorem dX0_fillBackward_11 : decode cX0_fillBackward 11 = .ok (.iconst 0, 1) := by decide +kernel
theorem dX0_fillBackward_12 : decode cX0_fillBackward 12 = .ok (.istore_n 2, 1) := by decide +kernel
theorem dX0_fillBackward_13 : decode cX0_fillBackward 13 = .ok (.iload_n 2, 1) := by decide +kernel
theorem dX0_fillBackward_14 : decode cX0_fillBackward 14 = .ok (.aload_n 0, 1) := by decide +kernel
theorem dX0_fillBackward_15 : decode cX0_fillBackward 15 = .ok (.getfield 25, 3) := by decide +kernel
theorem dX0_fillBackward_18 : decode cX0_fillBackward 18 = .ok (.if_icmp .ge 23, 3) := by decide +kernel
theorem dX0_fillBackward_21 : decode cX0_fillBackward 21 = .ok (.aload_n 0, 1) := by decide +kernel
theorem dX0_fillBackward_22 : decode cX0_fillBackward 22 = .ok (.getfield 35, 3) := by decide +kernel
theorem dX0_fillBackward_25 : decode cX0_fillBackward 25 = .ok (.iload_n 1, 1) := by decide +kernel
theorem dX0_fillBackward_26 : decode cX0_fillBackward 26 = .ok (.aaload, 1) := by decide +kernel
theorem dX0_fillBackward_27 : decode cX0_fillBackward 27 = .ok (.iload_n 2, 1) := by decide +kernel
theorem dX0_fillBackward_28 : decode cX0_fillBackward 28 = .ok (.aload_n 0, 1) := by decide +kernel
theorem dX0_fillBackward_29 : decode cX0_fillBackward 29 = .ok (.iload_n 1, 1) := by decide +kernel
theorem dX0_fillBackward_30 : decode cX0_fillBackward 30 = .ok (.iload_n 2, 1) := by decide +kernel
theorem dX0_fillBackward_31 : decode cX0_fillBackward 31 = .ok (.invokevirtual 113, 3) := by decide +kernel
theorem dX0_fillBackward_34 : decode cX0_fillBackward 34 = .ok (.dastore, 1) := by decide +kernel
theorem dX0_fillBackward_35 : decode cX0_fillBackward 35 = .ok (.iinc 2 1, 3) := by decide +kernel
theorem dX0_fillBackward_38 : decode cX0_fillBackward 38 = .ok (.goto (-25), 3) := by decide +kernel
theorem dX0_fillBackward_41 : decode cX0_fillBackward 41 = .ok (.iinc 1 (-1), 3) := by decide +kernel
theorem dX0_fillBackward_44 : decode cX0_fillBackward 44 = .ok (.goto (-37), 3) := by decide +kernel
theorem dX0_fillBackward_47 : decode cX0_fillBackward 47 = .ok (.return_, 1) := by decide +kernel
theorem dX0_backwardFrom_0 : decode cX0_backwardFrom 0 = .ok (.iload_n 1, 1) := by decide +kernel
theorem dX0_backwardFrom_1 : decode cX0_backwardFrom 1 = .ok (.aload_n 0, 1) := by decide +kernel
theorem dX0_backwardFrom_2 : decode cX0_backwardFrom 2 = .ok (.getfield 29, 3) := by decide +kernel
theorem dX0_backwardFrom_5 : decode cX0_backwardFrom 5 = .ok (.iconst 1, 1) := by decide +kernel
theorem dX0_backwardFrom_6 : decode cX0_backwardFrom 6 = .ok (.isub, 1) := by decide +kernel
theorem dX0_backwardFrom_7 : decode cX0_backwardFrom 7 = .ok (.if_icmp .ne 5, 3) := by decide +kernel
theorem dX0_backwardFrom_10 : decode cX0_backwardFrom 10 = .ok (.dconst 1, 1) := by decide +kernel
theorem dX0_backwardFrom_11 : decode cX0_backwardFrom 11 = .ok (.dreturn, 1) := by decide +kernel
theorem dX0_backwardFrom_12 : decode cX0_backwardFrom 12 = .ok (.aload_n 0, 1) := by decide +kernel
theorem dX0_backwardFrom_13 : decode cX0_backwardFrom 13 = .ok (.getfield 21, 3) := by decide +kernel
theorem dX0_backwardFrom_16 : decode cX0_backwardFrom 16 = .ok (.iload_n 1, 1) := by decide +kernel
theorem dX0_backwardFrom_17 : decode cX0_backwardFrom 17 = .ok (.iconst 1, 1) := by decide +kernel
theorem dX0_backwardFrom_18 : decode cX0_backwardFrom 18 = .ok (.iadd, 1) := by decide +kernel
theorem dX0_backwardFrom_19 : decode cX0_backwardFrom 19 = .ok (.iaload, 1) := by decide +kernel
theorem dX0_backwardFrom_20 : decode cX0_backwardFrom 20 = .ok (.istore_n 3, 1) := by decide +kernel
theorem dX0_backwardFrom_21 : decode cX0_backwardFrom 21 = .ok (.dconst 0, 1) := by decide +kernel
theorem dX0_backwardFrom_22 : decode cX0_backwardFrom 22 = .ok (.dstore 4, 2) := by decide +kernel
theorem dX0_backwardFrom_24 : decode cX0_backwardFrom 24 = .ok (.iconst 0, 1) := by decide +kernel
theorem dX0_backwardFrom_25 : decode cX0_backwardFrom 25 = .ok (.istore 6, 2) := by decide +kernel
theorem dX0_backwardFrom_27 : decode cX0_backwardFrom 27 = .ok (.iload 6, 2) := by decide +kernel
theorem dX0_backwardFrom_29 : decode cX0_backwardFrom 29 = .ok (.aload_n 0, 1) := by decide +kernel
theorem dX0_backwardFrom_30 : decode cX0_backwardFrom 30 = .ok (.getfield 25, 3) := by decide +kernel
theorem dX0_backwardFrom_33 : decode cX0_backwardFrom 33 = .ok (.if_icmp .ge 45, 3) := by decide +kernel
theorem dX0_backwardFrom_36 : decode cX0_backwardFrom 36 = .ok (.dload 4, 2) := by decide +kernel
theorem dX0_backwardFrom_38 : decode cX0_backwardFrom 38 = .ok (.aload_n 0, 1) := by decide +kernel
theorem dX0_backwardFrom_39 : decode cX0_backwardFrom 39 = .ok (.getfield 15, 3) := by decide +kernel
theorem dX0_backwardFrom_42 : decode cX0_backwardFrom 42 = .ok (.iload_n 2, 1) := by decide +kernel
theorem dX0_backwardFrom_43 : decode cX0_backwardFrom 43 = .ok (.aaload, 1) := by decide +kernel
theorem dX0_backwardFrom_44 : decode cX0_backwardFrom 44 = .ok (.iload 6, 2) := by decide +kernel
theorem dX0_backwardFrom_46 : decode cX0_backwardFrom 46 = .ok (.daload, 1) := by decide +kernel
theorem dX0_backwardFrom_47 : decode cX0_backwardFrom 47 = .ok (.aload_n 0, 1) := by decide +kernel
theorem dX0_backwardFrom_48 : decode cX0_backwardFrom 48 = .ok (.getfield 18, 3) := by decide +kernel
theorem dX0_backwardFrom_51 : decode cX0_backwardFrom 51 = .ok (.iload 6, 2) := by decide +kernel
theorem dX0_backwardFrom_53 : decode cX0_backwardFrom 53 = .ok (.aaload, 1) := by decide +kernel
theorem dX0_backwardFrom_54 : decode cX0_backwardFrom 54 = .ok (.iload_n 3, 1) := by decide +kernel
theorem dX0_backwardFrom_55 : decode cX0_backwardFrom 55 = .ok (.daload, 1) := by decide +kernel
theorem dX0_backwardFrom_56 : decode cX0_backwardFrom 56 = .ok (.dmul, 1) := by decide +kernel
theorem dX0_backwardFrom_57 : decode cX0_backwardFrom 57 = .ok (.aload_n 0, 1) := by decide +kernel
theorem dX0_backwardFrom_58 : decode cX0_backwardFrom 58 = .ok (.getfield 35, 3) := by decide +kernel
theorem dX0_backwardFrom_61 : decode cX0_backwardFrom 61 = .ok (.iload_n 1, 1) := by decide +kernel
theorem dX0_backwardFrom_62 : decode cX0_backwardFrom 62 = .ok (.iconst 1, 1) := by decide +kernel
theorem dX0_backwardFrom_63 : decode cX0_backwardFrom 63 = .ok (.iadd, 1) := by decide +kernel
theorem dX0_backwardFrom_64 : decode cX0_backwardFrom 64 = .ok (.aaload, 1) := by decide +kernel
theorem dX0_backwardFrom_65 : decode cX0_backwardFrom 65 = .ok (.iload 6, 2) := by decide +kernel
theorem dX0_backwardFrom_67 : decode cX0_backwardFrom 67 = .ok (.daload, 1) := by decide +kernel
theorem dX0_backwardFrom_68 : decode cX0_backwardFrom 68 = .ok (.dmul, 1) := by decide +kernel
theorem dX0_backwardFrom_69 : decode cX0_backwardFrom 69 = .ok (.dadd, 1) := by decide +kernel
theorem dX0_backwardFrom_70 : decode cX0_backwardFrom 70 = .ok (.dstore 4, 2) := by decide +kernel
theorem dX0_backwardFrom_72 : decode cX0_backwardFrom 72 = .ok (.iinc 6 1, 3) := by decide +kernel
theorem dX0_backwardFrom_75 : decode cX0_backwardFrom 75 = .ok (.goto (-48), 3) := by decide +kernel
theorem dX0_backwardFrom_78 : decode cX0_backwardFrom 78 = .ok (.dload 4, 2) := by decide +kernel
theorem dX0_backwardFrom_80 : decode cX0_backwardFrom 80 = .ok (.dreturn, 1) := by decide +kernel
set_option maxRecDepth 20000 in
theorem ggX0_fillBest_X0_bestInto : GoodIn wsX0_fillBest wsX0_bestInto := goodIn_ca (goodIn_r _ [10, 11, 4, 12, 3, 13, 14, 15, 16, 17, 18, 19, 20, 21, 22, 23, 24] (by decide +kernel) (by decide +kernel)) (goodIn_sub (fun _ h => List.mem_cons_of_mem _ (List.mem_append_right _ h)) (by decide +kernel))
set_option maxRecDepth 20000 in
theorem gX0_fillBest_X0_bestInto : GoodIn wsX0_fillBest (wsV RX0 116 RX0 yX0_bestInto wsX0_bestInto) := goodIn_app (goodIn_of _ (by decide +kernel)) ggX0_fillBest_X0_bestInto
theorem dX0_fillBest_0 : decode cX0_fillBest 0 = .ok (.iconst 0, 1) := by decide +kernel
theorem dX0_fillBest_1 : decode cX0_fillBest 1 = .ok (.istore_n 1, 1) := by decide +kernel
theorem dX0_fillBest_2 : decode cX0_fillBest 2 = .ok (.iload_n 1, 1) := by decide +kernel
theorem dX0_fillBest_3 : decode cX0_fillBest 3 = .ok (.aload_n 0, 1) := by decide +kernel
theorem dX0_fillBest_4 : decode cX0_fillBest 4 = .ok (.getfield 29, 3) := by decide +kernel
theorem dX0_fillBest_7 : decode cX0_fillBest 7 = .ok (.if_icmp .ge 55, 3) := by decide +kernel
theorem dX0_fillBest_10 : decode cX0_fillBest 10 = .ok (.aload_n 0, 1) := by decide +kernel
theorem dX0_fillBest_11 : decode cX0_fillBest 11 = .ok (.getfield 21, 3) := by decide +kernel
theorem dX0_fillBest_14 : decode cX0_fillBest 14 = .ok (.iload_n 1, 1) := by decide +kernel
theorem dX0_fillBest_15 : decode cX0_fillBest 15 = .ok (.iaload, 1) := by decide +kernel
theorem dX0_fillBest_16 : decode cX0_fillBest 16 = .ok (.istore_n 2, 1) := by decide +kernel
theorem dX0_fillBest_17 : decode cX0_fillBest 17 = .ok (.iconst 0, 1) := by decide +kernel
theorem dX0_fillBest_18 : decode cX0_fillBest 18 = .ok (.istore_n 3, 1) := by decide +kernel
theorem dX0_fillBest_19 : decode cX0_fillBest 19 = .ok (.iload_n 3, 1) := by decide +kernel
theorem dX0_fillBest_20 : decode cX0_fillBest 20 = .ok (.aload_n 0, 1) := by decide +kernel
theorem dX0_fillBest_21 : decode cX0_fillBest 21 = .ok (.getfield 25, 3) := by decide +kernel
theorem dX0_fillBest_24 : decode cX0_fillBest 24 = .ok (.if_icmp .ge 32, 3) := by decide +kernel
theorem dX0_fillBest_27 : decode cX0_fillBest 27 = .ok (.aload_n 0, 1) := by decide +kernel
theorem dX0_fillBest_28 : decode cX0_fillBest 28 = .ok (.getfield 38, 3) := by decide +kernel
theorem dX0_fillBest_31 : decode cX0_fillBest 31 = .ok (.iload_n 1, 1) := by decide +kernel
theorem dX0_fillBest_32 : decode cX0_fillBest 32 = .ok (.aaload, 1) := by decide +kernel
theorem dX0_fillBest_33 : decode cX0_fillBest 33 = .ok (.iload_n 3, 1) := by decide +kernel
theorem dX0_fillBest_34 : decode cX0_fillBest 34 = .ok (.aload_n 0, 1) := by decide +kernel
theorem dX0_fillBest_35 : decode cX0_fillBest 35 = .ok (.iload_n 1, 1) := by decide +kernel
theorem dX0_fillBest_36 : decode cX0_fillBest 36 = .ok (.iload_n 3, 1) := by decide +kernel
theorem dX0_fillBest_37 : decode cX0_fillBest 37 = .ok (.invokevirtual 116, 3) := by decide +kernel
theorem dX0_fillBest_40 : decode cX0_fillBest 40 = .ok (.aload_n 0, 1) := by decide +kernel
theorem dX0_fillBest_41 : decode cX0_fillBest 41 = .ok (.getfield 18, 3) := by decide +kernel
theorem dX0_fillBest_44 : decode cX0_fillBest 44 = .ok (.iload_n 3, 1) := by decide +kernel
theorem dX0_fillBest_45 : decode cX0_fillBest 45 = .ok (.aaload, 1) := by decide +kernel
theorem dX0_fillBest_46 : decode cX0_fillBest 46 = .ok (.iload_n 2, 1) := by decide +kernel
theorem dX0_fillBest_47 : decode cX0_fillBest 47 = .ok (.daload, 1) := by decide +kernel
theorem dX0_fillBest_48 : decode cX0_fillBest 48 = .ok (.dmul, 1) := by decide +kernel
theorem dX0_fillBest_49 : decode cX0_fillBest 49 = .ok (.dastore, 1) := by decide +kernel
theorem dX0_fillBest_50 : decode cX0_fillBest 50 = .ok (.iinc 3 1, 3) := by decide +kernel
theorem dX0_fillBest_53 : decode cX0_fillBest 53 = .ok (.goto (-34), 3) := by decide +kernel
theorem dX0_fillBest_56 : decode cX0_fillBest 56 = .ok (.iinc 1 1, 3) := by decide +kernel
theorem dX0_fillBest_59 : decode cX0_fillBest 59 = .ok (.goto (-57), 3) := by decide +kernel
theorem dX0_fillBest_62 : decode cX0_fillBest 62 = .ok (.return_, 1) := by decide +kernel
theorem dX0_bestInto_0 : decode cX0_bestInto 0 = .ok (.iload_n 1, 1) := by decide +kernel
theorem dX0_bestInto_1 : decode cX0_bestInto 1 = .ok (.ifCond .ne 10, 3) := by decide +kernel
theorem dX0_bestInto_4 : decode cX0_bestInto 4 = .ok (.aload_n 0, 1) := by decide +kernel
theorem dX0_bestInto_5 : decode cX0_bestInto 5 = .ok (.getfield 9, 3) := by decide +kernel
theorem dX0_bestInto_8 : decode cX0_bestInto 8 = .ok (.iload_n 2, 1) := by decide +kernel
theorem dX0_bestInto_9 : decode cX0_bestInto 9 = .ok (.daload, 1) := by decide +kernel
theorem dX0_bestInto_10 : decode cX0_bestInto 10 = .ok (.dreturn, 1) := by decide +kernel
theorem dX0_bestInto_11 : decode cX0_bestInto 11 = .ok (.iconst 0, 1) := by decide +kernel
theorem dX0_bestInto_12 : decode cX0_bestInto 12 = .ok (.istore_n 3, 1) := by decide +kernel
theorem dX0_bestInto_13 : decode cX0_bestInto 13 = .ok (.aload_n 0, 1) := by decide +kernel
theorem dX0_bestInto_14 : decode cX0_bestInto 14 = .ok (.getfield 38, 3) := by decide +kernel
theorem dX0_bestInto_17 : decode cX0_bestInto 17 = .ok (.iload_n 1, 1) := by decide +kernel
theorem dX0_bestInto_18 : decode cX0_bestInto 18 = .ok (.iconst 1, 1) := by decide +kernel
theorem dX0_bestInto_19 : decode cX0_bestInto 19 = .ok (.isub, 1) := by decide +kernel
theorem dX0_bestInto_20 : decode cX0_bestInto 20 = .ok (.aaload, 1) := by decide +kernel
theorem dX0_bestInto_21 : decode cX0_bestInto 21 = .ok (.iconst 0, 1) := by decide +kernel
theorem dX0_bestInto_22 : decode cX0_bestInto 22 = .ok (.daload, 1) := by decide +kernel
theorem dX0_bestInto_23 : decode cX0_bestInto 23 = .ok (.aload_n 0, 1) := by decide +kernel
theorem dX0_bestInto_24 : decode cX0_bestInto 24 = .ok (.getfield 15, 3) := by decide +kernel
theorem dX0_bestInto_27 : decode cX0_bestInto 27 = .ok (.iconst 0, 1) := by decide +kernel
theorem dX0_bestInto_28 : decode cX0_bestInto 28 = .ok (.aaload, 1) := by decide +kernel
theorem dX0_bestInto_29 : decode cX0_bestInto 29 = .ok (.iload_n 2, 1) := by decide +kernel
theorem dX0_bestInto_30 : decode cX0_bestInto 30 = .ok (.daload, 1) := by decide +kernel
theorem dX0_bestInto_31 : decode cX0_bestInto 31 = .ok (.dmul, 1) := by decide +kernel
theorem dX0_bestInto_32 : decode cX0_bestInto 32 = .ok (.dstore 4, 2) := by decide +kernel
theorem dX0_bestInto_34 : decode cX0_bestInto 34 = .ok (.iconst 1, 1) := by decide +kernel
theorem dX0_bestInto_35 : decode cX0_bestInto 35 = .ok (.istore 6, 2) := by decide +kernel
theorem dX0_bestInto_37 : decode cX0_bestInto 37 = .ok (.iload 6, 2) := by decide +kernel
theorem dX0_bestInto_39 : decode cX0_bestInto 39 = .ok (.aload_n 0, 1) := by decide +kernel
theorem dX0_bestInto_40 : decode cX0_bestInto 40 = .ok (.getfield 25, 3) := by decide +kernel
theorem dX0_bestInto_43 : decode cX0_bestInto 43 = .ok (.if_icmp .ge 47, 3) := by decide +kernel
theorem dX0_bestInto_46 : decode cX0_bestInto 46 = .ok (.aload_n 0, 1) := by decide +kernel
theorem dX0_bestInto_47 : decode cX0_bestInto 47 = .ok (.getfield 38, 3) := by decide +kernel
theorem dX0_bestInto_50 : decode cX0_bestInto 50 = .ok (.iload_n 1, 1) := by decide +kernel
theorem dX0_bestInto_51 : decode cX0_bestInto 51 = .ok (.iconst 1, 1) := by decide +kernel
theorem dX0_bestInto_52 : decode cX0_bestInto 52 = .ok (.isub, 1) := by decide +kernel
theorem dX0_bestInto_53 : decode cX0_bestInto 53 = .ok (.aaload, 1) := by decide +kernel
theorem dX0_bestInto_54 : decode cX0_bestInto 54 = .ok (.iload 6, 2) := by decide +kernel
theorem dX0_bestInto_56 : decode cX0_bestInto 56 = .ok (.daload, 1) := by decide +kernel
theorem dX0_bestInto_57 : decode cX0_bestInto 57 = .ok (.aload_n 0, 1) := by decide +kernel
theorem dX0_bestInto_58 : decode cX0_bestInto 58 = .ok (.getfield 15, 3) := by decide +kernel
theorem dX0_bestInto_61 : decode cX0_bestInto 61 = .ok (.iload 6, 2) := by decide +kernel
theorem dX0_bestInto_63 : decode cX0_bestInto 63 = .ok (.aaload, 1) := by decide +kernel
theorem dX0_bestInto_64 : decode cX0_bestInto 64 = .ok (.iload_n 2, 1) := by decide +kernel
theorem dX0_bestInto_65 : decode cX0_bestInto 65 = .ok (.daload, 1) := by decide +kernel
theorem dX0_bestInto_66 : decode cX0_bestInto 66 = .ok (.dmul, 1) := by decide +kernel
theorem dX0_bestInto_67 : decode cX0_bestInto 67 = .ok (.dstore 7, 2) := by decide +kernel
theorem dX0_bestInto_69 : decode cX0_bestInto 69 = .ok (.dload 7, 2) := by decide +kernel
theorem dX0_bestInto_71 : decode cX0_bestInto 71 = .ok (.dload 4, 2) := by decide +kernel
theorem dX0_bestInto_73 : decode cX0_bestInto 73 = .ok (.dcmp .l, 1) := by decide +kernel
theorem dX0_bestInto_74 : decode cX0_bestInto 74 = .ok (.ifCond .le 10, 3) := by decide +kernel
theorem dX0_bestInto_77 : decode cX0_bestInto 77 = .ok (.dload 7, 2) := by decide +kernel
theorem dX0_bestInto_79 : decode cX0_bestInto 79 = .ok (.dstore 4, 2) := by decide +kernel
theorem dX0_bestInto_81 : decode cX0_bestInto 81 = .ok (.iload 6, 2) := by decide +kernel
theorem dX0_bestInto_83 : decode cX0_bestInto 83 = .ok (.istore_n 3, 1) := by decide +kernel
theorem dX0_bestInto_84 : decode cX0_bestInto 84 = .ok (.iinc 6 1, 3) := by decide +kernel
theorem dX0_bestInto_87 : decode cX0_bestInto 87 = .ok (.goto (-50), 3) := by decide +kernel
theorem dX0_bestInto_90 : decode cX0_bestInto 90 = .ok (.aload_n 0, 1) := by decide +kernel
theorem dX0_bestInto_91 : decode cX0_bestInto 91 = .ok (.getfield 43, 3) := by decide +kernel
theorem dX0_bestInto_94 : decode cX0_bestInto 94 = .ok (.iload_n 1, 1) := by decide +kernel
theorem dX0_bestInto_95 : decode cX0_bestInto 95 = .ok (.aaload, 1) := by decide +kernel
theorem dX0_bestInto_96 : decode cX0_bestInto 96 = .ok (.iload_n 2, 1) := by decide +kernel
theorem dX0_bestInto_97 : decode cX0_bestInto 97 = .ok (.iload_n 3, 1) := by decide +kernel
theorem dX0_bestInto_98 : decode cX0_bestInto 98 = .ok (.iastore, 1) := by decide +kernel
theorem dX0_bestInto_99 : decode cX0_bestInto 99 = .ok (.dload 4, 2) := by decide +kernel
theorem dX0_bestInto_101 : decode cX0_bestInto 101 = .ok (.dreturn, 1) := by decide +kernel
theorem dX0_lastBestState_0 : decode cX0_lastBestState 0 = .ok (.iconst 0, 1) := by decide +kernel
theorem dX0_lastBestState_1 : decode cX0_lastBestState 1 = .ok (.istore_n 1, 1) := by decide +kernel
theorem dX0_lastBestState_2 : decode cX0_lastBestState 2 = .ok (.iconst 1, 1) := by decide +kernel
theorem dX0_lastBestState_3 : decode cX0_lastBestState 3 = .ok (.istore_n 2, 1) := by decide +kernel
theorem dX0_lastBestState_4 : decode cX0_lastBestState 4 = .ok (.iload_n 2, 1) := by decide +kernel
theorem dX0_lastBestState_5 : decode cX0_lastBestState 5 = .ok (.aload_n 0, 1) := by decide +kernel
theorem dX0_lastBestState_6 : decode cX0_lastBestState 6 = .ok (.getfield 25, 3) := by decide +kernel
theorem dX0_lastBestState_9 : decode cX0_lastBestState 9 = .ok (.if_icmp .ge 41, 3) := by decide +kernel
theorem dX0_lastBestState_12 : decode cX0_lastBestState 12 = .ok (.aload_n 0, 1) := by decide +kernel
theorem dX0_lastBestState_13 : decode cX0_lastBestState 13 = .ok (.getfield 38, 3) := by decide +kernel
theorem dX0_lastBestState_16 : decode cX0_lastBestState 16 = .ok (.aload_n 0, 1) := by decide +kernel
theorem dX0_lastBestState_17 : decode cX0_lastBestState 17 = .ok (.getfield 29, 3) := by decide +kernel
theorem dX0_lastBestState_20 : decode cX0_lastBestState 20 = .ok (.iconst 1, 1) := by decide +kernel
theorem dX0_lastBestState_21 : decode cX0_lastBestState 21 = .ok (.isub, 1) := by decide +kernel
theorem dX0_lastBestState_22 : decode cX0_lastBestState 22 = .ok (.aaload, 1) := by decide +kernel
theorem dX0_lastBestState_23 : decode cX0_lastBestState 23 = .ok (.iload_n 2, 1) := by decide +kernel
theorem dX0_lastBestState_24 : decode cX0_lastBestState 24 = .ok (.daload, 1) := by decide +kernel
theorem dX0_lastBestState_25 : decode cX0_lastBestState 25 = .ok (.aload_n 0, 1) := by decide +kernel
theorem dX0_lastBestState_26 : decode cX0_lastBestState 26 = .ok (.getfield 38, 3) := by decide +kernel
theorem dX0_lastBestState_29 : decode cX0_lastBestState 29 = .ok (.aload_n 0, 1) := by decide +kernel
theorem dX0_lastBestState_30 : decode cX0_lastBestState 30 = .ok (.getfield 29, 3) := by decide +kernel
theorem dX0_lastBestState_33 : decode cX0_lastBestState 33 = .ok (.iconst 1, 1) := by decide +kernel
theorem dX0_lastBestState_34 : decode cX0_lastBestState 34 = .ok (.isub, 1) := by decide +kernel
theorem dX0_lastBestState_35 : decode cX0_lastBestState 35 = .ok (.aaload, 1) := by decide +kernel
theorem dX0_lastBestState_36 : decode cX0_lastBestState 36 = .ok (.iload_n 1, 1) := by decide +kernel
theorem dX0_lastBestState_37 : decode cX0_lastBestState 37 = .ok (.daload, 1) := by decide +kernel
theorem dX0_lastBestState_38 : decode cX0_lastBestState 38 = .ok (.dcmp .l, 1) := by decide +kernel
theorem dX0_lastBestState_39 : decode cX0_lastBestState 39 = .ok (.ifCond .le 5, 3) := by decide +kernel
theorem dX0_lastBestState_42 : decode cX0_lastBestState 42 = .ok (.iload_n 2, 1) := by decide +kernel
theorem dX0_lastBestState_43 : decode cX0_lastBestState 43 = .ok (.istore_n 1, 1) := by decide +kernel
theorem dX0_lastBestState_44 : decode cX0_lastBestState 44 = .ok (.iinc 2 1, 3) := by decide +kernel
theorem dX0_lastBestState_47 : decode cX0_lastBestState 47 = .ok (.goto (-43), 3) := by decide +kernel
theorem dX0_lastBestState_50 : decode cX0_lastBestState 50 = .ok (.iload_n 1, 1) := by decide +kernel
theorem dX0_lastBestState_51 : decode cX0_lastBestState 51 = .ok (.ireturn, 1) := by decide +kernel
set_option maxRecDepth 20000 in
theorem ggX0_fillWayCounts_X0_waysInto : GoodIn wsX0_fillWayCounts wsX0_waysInto := goodIn_ca (goodIn_r _ [10, 11, 3, 12, 4, 13, 14, 15, 16, 17, 18, 19, 20, 21, 22, 23] (by decide +kernel) (by decide +kernel)) (goodIn_sub (fun _ h => List.mem_cons_of_mem _ (List.mem_append_right _ h)) (by decide +kernel))
set_option maxRecDepth 20000 in
theorem gX0_fillWayCounts_X0_waysInto : GoodIn wsX0_fillWayCounts (wsV RX0 119 RX0 yX0_waysInto wsX0_waysInto) := goodIn_app (goodIn_of _ (by decide +kernel)) ggX0_fillWayCounts_X0_waysInto
theorem dX0_fillWayCounts_0 : decode cX0_fillWayCounts 0 = .ok (.iconst 0, 1) := by decide +kernel
theorem dX0_fillWayCounts_1 : decode cX0_fillWayCounts 1 = .ok (.istore_n 1, 1) := by decide +kernel
theorem dX0_fillWayCounts_2 : decode cX0_fillWayCounts 2 = .ok (.iload_n 1, 1) := by decide +kernel
theorem dX0_fillWayCounts_3 : decode cX0_fillWayCounts 3 = .ok (.aload_n 0, 1) := by decide +kernel
theorem dX0_fillWayCounts_4 : decode cX0_fillWayCounts 4 = .ok (.getfield 29, 3) := by decide +kernel
theorem dX0_fillWayCounts_7 : decode cX0_fillWayCounts 7 = .ok (.if_icmp .ge 63, 3) := by decide +kernel
theorem dX0_fillWayCounts_10 : decode cX0_fillWayCounts 10 = .ok (.aload_n 0, 1) := by decide +kernel
theorem dX0_fillWayCounts_11 : decode cX0_fillWayCounts 11 = .ok (.getfield 21, 3) := by decide +kernel
theorem dX0_fillWayCounts_14 : decode cX0_fillWayCounts 14 = .ok (.iload_n 1, 1) := by decide +kernel
theorem dX0_fillWayCounts_15 : decode cX0_fillWayCounts 15 = .ok (.iaload, 1) := by decide +kernel
theorem dX0_fillWayCounts_16 : decode cX0_fillWayCounts 16 = .ok (.istore_n 2, 1) := by decide +kernel
theorem dX0_fillWayCounts_17 : decode cX0_fillWayCounts 17 = .ok (.iconst 0, 1) := by decide +kernel
theorem dX0_fillWayCounts_18 : decode cX0_fillWayCounts 18 = .ok (.istore_n 3, 1) := by decide +kernel
theorem dX0_fillWayCounts_19 : decode cX0_fillWayCounts 19 = .ok (.iload_n 3, 1) := by decide +kernel
theorem dX0_fillWayCounts_20 : decode cX0_fillWayCounts 20 = .ok (.aload_n 0, 1) := by decide +kernel
theorem dX0_fillWayCounts_21 : decode cX0_fillWayCounts 21 = .ok (.getfield 25, 3) := by decide +kernel
theorem dX0_fillWayCounts_24 : decode cX0_fillWayCounts 24 = .ok (.if_icmp .ge 40, 3) := by decide +kernel
theorem dX0_fillWayCounts_27 : decode cX0_fillWayCounts 27 = .ok (.aload_n 0, 1) := by decide +kernel
theorem dX0_fillWayCounts_28 : decode cX0_fillWayCounts 28 = .ok (.getfield 48, 3) := by decide +kernel
theorem dX0_fillWayCounts_31 : decode cX0_fillWayCounts 31 = .ok (.iload_n 1, 1) := by decide +kernel
theorem dX0_fillWayCounts_32 : decode cX0_fillWayCounts 32 = .ok (.aaload, 1) := by decide +kernel
theorem dX0_fillWayCounts_33 : decode cX0_fillWayCounts 33 = .ok (.iload_n 3, 1) := by decide +kernel
theorem dX0_fillWayCounts_34 : decode cX0_fillWayCounts 34 = .ok (.aload_n 0, 1) := by decide +kernel
theorem dX0_fillWayCounts_35 : decode cX0_fillWayCounts 35 = .ok (.getfield 18, 3) := by decide +kernel
theorem dX0_fillWayCounts_38 : decode cX0_fillWayCounts 38 = .ok (.iload_n 3, 1) := by decide +kernel
theorem dX0_fillWayCounts_39 : decode cX0_fillWayCounts 39 = .ok (.aaload, 1) := by decide +kernel
theorem dX0_fillWayCounts_40 : decode cX0_fillWayCounts 40 = .ok (.iload_n 2, 1) := by decide +kernel
theorem dX0_fillWayCounts_41 : decode cX0_fillWayCounts 41 = .ok (.daload, 1) := by decide +kernel
theorem dX0_fillWayCounts_42 : decode cX0_fillWayCounts 42 = .ok (.dconst 0, 1) := by decide +kernel
theorem dX0_fillWayCounts_43 : decode cX0_fillWayCounts 43 = .ok (.dcmp .l, 1) := by decide +kernel
theorem dX0_fillWayCounts_44 : decode cX0_fillWayCounts 44 = .ok (.ifCond .le 12, 3) := by decide +kernel
theorem dX0_fillWayCounts_47 : decode cX0_fillWayCounts 47 = .ok (.aload_n 0, 1) := by decide +kernel
theorem dX0_fillWayCounts_48 : decode cX0_fillWayCounts 48 = .ok (.iload_n 1, 1) := by decide +kernel
theorem dX0_fillWayCounts_49 : decode cX0_fillWayCounts 49 = .ok (.iload_n 3, 1) := by decide +kernel
theorem dX0_fillWayCounts_50 : decode cX0_fillWayCounts 50 = .ok (.invokevirtual 119, 3) := by decide +kernel
theorem dX0_fillWayCounts_53 : decode cX0_fillWayCounts 53 = .ok (.goto 4, 3) := by decide +kernel
theorem dX0_fillWayCounts_56 : decode cX0_fillWayCounts 56 = .ok (.lconst 0, 1) := by decide +kernel
theorem dX0_fillWayCounts_57 : decode cX0_fillWayCounts 57 = .ok (.lastore, 1) := by decide +kernel
theorem dX0_fillWayCounts_58 : decode cX0_fillWayCounts 58 = .ok (.iinc 3 1, 3) := by decide +kernel
theorem dX0_fillWayCounts_61 : decode cX0_fillWayCounts 61 = .ok (.goto (-42), 3) := by decide +kernel
theorem dX0_fillWayCounts_64 : decode cX0_fillWayCounts 64 = .ok (.iinc 1 1, 3) := by decide +kernel
theorem dX0_fillWayCounts_67 : decode cX0_fillWayCounts 67 = .ok (.goto (-65), 3) := by decide +kernel
theorem dX0_fillWayCounts_70 : decode cX0_fillWayCounts 70 = .ok (.return_, 1) := by decide +kernel
theorem dX0_waysInto_0 : decode cX0_waysInto 0 = .ok (.iload_n 1, 1) := by decide +kernel
theorem dX0_waysInto_1 : decode cX0_waysInto 1 = .ok (.ifCond .ne 20, 3) := by decide +kernel
theorem dX0_waysInto_4 : decode cX0_waysInto 4 = .ok (.aload_n 0, 1) := by decide +kernel
theorem dX0_waysInto_5 : decode cX0_waysInto 5 = .ok (.getfield 9, 3) := by decide +kernel
theorem dX0_waysInto_8 : decode cX0_waysInto 8 = .ok (.iload_n 2, 1) := by decide +kernel
theorem dX0_waysInto_9 : decode cX0_waysInto 9 = .ok (.daload, 1) := by decide +kernel
theorem dX0_waysInto_10 : decode cX0_waysInto 10 = .ok (.dconst 0, 1) := by decide +kernel
theorem dX0_waysInto_11 : decode cX0_waysInto 11 = .ok (.dcmp .l, 1) := by decide +kernel
theorem dX0_waysInto_12 : decode cX0_waysInto 12 = .ok (.ifCond .le 7, 3) := by decide +kernel
theorem dX0_waysInto_15 : decode cX0_waysInto 15 = .ok (.lconst 1, 1) := by decide +kernel
theorem dX0_waysInto_16 : decode cX0_waysInto 16 = .ok (.goto 4, 3) := by decide +kernel
theorem dX0_waysInto_19 : decode cX0_waysInto 19 = .ok (.lconst 0, 1) := by decide +kernel
theorem dX0_waysInto_20 : decode cX0_waysInto 20 = .ok (.lreturn, 1) := by decide +kernel
theorem dX0_waysInto_21 : decode cX0_waysInto 21 = .ok (.lconst 0, 1) := by decide +kernel
theorem dX0_waysInto_22 : decode cX0_waysInto 22 = .ok (.lstore_n 3, 1) := by decide +kernel
theorem dX0_waysInto_23 : decode cX0_waysInto 23 = .ok (.iconst 0, 1) := by decide +kernel
theorem dX0_waysInto_24 : decode cX0_waysInto 24 = .ok (.istore 5, 2) := by decide +kernel
theorem dX0_waysInto_26 : decode cX0_waysInto 26 = .ok (.iload 5, 2) := by decide +kernel
theorem dX0_waysInto_28 : decode cX0_waysInto 28 = .ok (.aload_n 0, 1) := by decide +kernel
theorem dX0_waysInto_29 : decode cX0_waysInto 29 = .ok (.getfield 25, 3) := by decide +kernel
theorem dX0_waysInto_32 : decode cX0_waysInto 32 = .ok (.if_icmp .ge 37, 3) := by decide +kernel
theorem dX0_waysInto_35 : decode cX0_waysInto 35 = .ok (.aload_n 0, 1) := by decide +kernel
theorem dX0_waysInto_36 : decode cX0_waysInto 36 = .ok (.getfield 15, 3) := by decide +kernel
theorem dX0_waysInto_39 : decode cX0_waysInto 39 = .ok (.iload 5, 2) := by decide +kernel
theorem dX0_waysInto_41 : decode cX0_waysInto 41 = .ok (.aaload, 1) := by decide +kernel
theorem dX0_waysInto_42 : decode cX0_waysInto 42 = .ok (.iload_n 2, 1) := by decide +kernel
theorem dX0_waysInto_43 : decode cX0_waysInto 43 = .ok (.daload, 1) := by decide +kernel
theorem dX0_waysInto_44 : decode cX0_waysInto 44 = .ok (.dconst 0, 1) := by decide +kernel
theorem dX0_waysInto_45 : decode cX0_waysInto 45 = .ok (.dcmp .l, 1) := by decide +kernel
theorem dX0_waysInto_46 : decode cX0_waysInto 46 = .ok (.ifCond .le 17, 3) := by decide +kernel
theorem dX0_waysInto_49 : decode cX0_waysInto 49 = .ok (.lload_n 3, 1) := by decide +kernel
theorem dX0_waysInto_50 : decode cX0_waysInto 50 = .ok (.aload_n 0, 1) := by decide +kernel
theorem dX0_waysInto_51 : decode cX0_waysInto 51 = .ok (.getfield 48, 3) := by decide +kernel
theorem dX0_waysInto_54 : decode cX0_waysInto 54 = .ok (.iload_n 1, 1) := by decide +kernel
theorem dX0_waysInto_55 : decode cX0_waysInto 55 = .ok (.iconst 1, 1) := by decide +kernel
theorem dX0_waysInto_56 : decode cX0_waysInto 56 = .ok (.isub, 1) := by decide +kernel
theorem dX0_waysInto_57 : decode cX0_waysInto 57 = .ok (.aaload, 1) := by decide +kernel
theorem dX0_waysInto_58 : decode cX0_waysInto 58 = .ok (.iload 5, 2) := by decide +kernel
theorem dX0_waysInto_60 : decode cX0_waysInto 60 = .ok (.laload, 1) := by decide +kernel
theorem dX0_waysInto_61 : decode cX0_waysInto 61 = .ok (.ladd, 1) := by decide +kernel
theorem dX0_waysInto_62 : decode cX0_waysInto 62 = .ok (.lstore_n 3, 1) := by decide +kernel
theorem dX0_waysInto_63 : decode cX0_waysInto 63 = .ok (.iinc 5 1, 3) := by decide +kernel
theorem dX0_waysInto_66 : decode cX0_waysInto 66 = .ok (.goto (-40), 3) := by decide +kernel
theorem dX0_waysInto_69 : decode cX0_waysInto 69 = .ok (.lload_n 3, 1) := by decide +kernel
theorem dX0_waysInto_70 : decode cX0_waysInto 70 = .ok (.lreturn, 1) := by decide +kernel
end
section
theorem dX1_init_0 : decode cX1_init 0 = .ok (.aload_n 0, 1) := by decide +kernel
theorem dX1_init_1 : decode cX1_init 1 = .ok (.invokespecial 1, 3) := by decide +kernel
theorem dX1_init_4 : decode cX1_init 4 = .ok (.aload_n 0, 1) := by decide +kernel
theorem dX1_init_5 : decode cX1_init 5 = .ok (.bipush 6, 2) := by decide +kernel
theorem dX1_init_7 : decode cX1_init 7 = .ok (.newarray .double, 2) := by decide +kernel
theorem dX1_init_9 : decode cX1_init 9 = .ok (.putfield 7, 3) := by decide +kernel
theorem dX1_init_12 : decode cX1_init 12 = .ok (.aload_n 0, 1) := by decide +kernel
theorem dX1_init_13 : decode cX1_init 13 = .ok (.bipush 36, 2) := by decide +kernel
theorem dX1_init_15 : decode cX1_init 15 = .ok (.newarray .double, 2) := by decide +kernel
theorem dX1_init_17 : decode cX1_init 17 = .ok (.putfield 13, 3) := by decide +kernel
theorem dX1_init_20 : decode cX1_init 20 = .ok (.aload_n 0, 1) := by decide +kernel
theorem dX1_init_21 : decode cX1_init 21 = .ok (.bipush 24, 2) := by decide +kernel
theorem dX1_init_23 : decode cX1_init 23 = .ok (.newarray .double, 2) := by decide +kernel
theorem dX1_init_25 : decode cX1_init 25 = .ok (.putfield 16, 3) := by decide +kernel
theorem dX1_init_28 : decode cX1_init 28 = .ok (.aload_n 0, 1) := by decide +kernel
theorem dX1_init_29 : decode cX1_init 29 = .ok (.bipush 12, 2) := by decide +kernel
theorem dX1_init_31 : decode cX1_init 31 = .ok (.newarray .int, 2) := by decide +kernel
theorem dX1_init_33 : decode cX1_init 33 = .ok (.putfield 19, 3) := by decide +kernel
theorem dX1_init_36 : decode cX1_init 36 = .ok (.aload_n 0, 1) := by decide +kernel
theorem dX1_init_37 : decode cX1_init 37 = .ok (.bipush 6, 2) := by decide +kernel
theorem dX1_init_39 : decode cX1_init 39 = .ok (.newarray .double, 2) := by decide +kernel
theorem dX1_init_41 : decode cX1_init 41 = .ok (.putfield 23, 3) := by decide +kernel
theorem dX1_init_44 : decode cX1_init 44 = .ok (.aload_n 0, 1) := by decide +kernel
theorem dX1_init_45 : decode cX1_init 45 = .ok (.bipush 6, 2) := by decide +kernel
theorem dX1_init_47 : decode cX1_init 47 = .ok (.newarray .double, 2) := by decide +kernel
theorem dX1_init_49 : decode cX1_init 49 = .ok (.putfield 26, 3) := by decide +kernel
theorem dX1_init_52 : decode cX1_init 52 = .ok (.aload_n 0, 1) := by decide +kernel
theorem dX1_init_53 : decode cX1_init 53 = .ok (.bipush 6, 2) := by decide +kernel
theorem dX1_init_55 : decode cX1_init 55 = .ok (.newarray .long, 2) := by decide +kernel
theorem dX1_init_57 : decode cX1_init 57 = .ok (.putfield 29, 3) := by decide +kernel
theorem dX1_init_60 : decode cX1_init 60 = .ok (.aload_n 0, 1) := by decide +kernel
theorem dX1_init_61 : decode cX1_init 61 = .ok (.bipush 6, 2) := by decide +kernel
theorem dX1_init_63 : decode cX1_init 63 = .ok (.newarray .long, 2) := by decide +kernel
theorem dX1_init_65 : decode cX1_init 65 = .ok (.putfield 33, 3) := by decide +kernel
theorem dX1_init_68 : decode cX1_init 68 = .ok (.aload_n 0, 1) := by decide +kernel
theorem dX1_init_69 : decode cX1_init 69 = .ok (.iconst 1, 1) := by decide +kernel
theorem dX1_init_70 : decode cX1_init 70 = .ok (.putfield 36, 3) := by decide +kernel
theorem dX1_init_73 : decode cX1_init 73 = .ok (.return_, 1) := by decide +kernel
theorem dX1_thrown_0 : decode cX1_thrown 0 = .ok (.aload_n 0, 1) := by decide +kernel
theorem dX1_thrown_1 : decode cX1_thrown 1 = .ok (.getfield 40, 3) := by decide +kernel
theorem dX1_thrown_4 : decode cX1_thrown 4 = .ok (.ireturn, 1) := by decide +kernel
theorem dX1_unit_0 : decode cX1_unit 0 = .ok (.dload_n 0, 1) := by decide +kernel
theorem dX1_unit_1 : decode cX1_unit 1 = .ok (.dconst 0, 1) := by decide +kernel
theorem dX1_unit_2 : decode cX1_unit 2 = .ok (.dcmp .l, 1) := by decide +kernel
theorem dX1_unit_3 : decode cX1_unit 3 = .ok (.ifCond .lt 13, 3) := by decide +kernel
theorem dX1_unit_6 : decode cX1_unit 6 = .ok (.dload_n 0, 1) := by decide +kernel
theorem dX1_unit_7 : decode cX1_unit 7 = .ok (.dconst 1, 1) := by decide +kernel
theorem dX1_unit_8 : decode cX1_unit 8 = .ok (.dcmp .g, 1) := by decide +kernel
theorem dX1_unit_9 : decode cX1_unit 9 = .ok (.ifCond .gt 7, 3) := by decide +kernel
theorem dX1_unit_12 : decode cX1_unit 12 = .ok (.iconst 1, 1) := by decide +kernel
theorem dX1_unit_13 : decode cX1_unit 13 = .ok (.goto 4, 3) := by decide +kernel
theorem dX1_unit_16 : decode cX1_unit 16 = .ok (.iconst 0, 1) := by decide +kernel
theorem dX1_unit_17 : decode cX1_unit 17 = .ok (.ireturn, 1) := by decide +kernel
theorem dX1_state_0 : decode cX1_state 0 = .ok (.iload_n 1, 1) := by decide +kernel
theorem dX1_state_1 : decode cX1_state 1 = .ok (.ifCond .lt 15, 3) := by decide +kernel
theorem dX1_state_4 : decode cX1_state 4 = .ok (.iload_n 1, 1) := by decide +kernel
theorem dX1_state_5 : decode cX1_state 5 = .ok (.aload_n 0, 1) := by decide +kernel
theorem dX1_state_6 : decode cX1_state 6 = .ok (.getfield 36, 3) := by decide +kernel
theorem dX1_state_9 : decode cX1_state 9 = .ok (.if_icmp .ge 7, 3) := by decide +kernel
theorem dX1_state_12 : decode cX1_state 12 = .ok (.iconst 1, 1) := by decide +kernel
theorem dX1_state_13 : decode cX1_state 13 = .ok (.goto 4, 3) := by decide +kernel
theorem dX1_state_16 : decode cX1_state 16 = .ok (.iconst 0, 1) := by decide +kernel
theorem dX1_state_17 : decode cX1_state 17 = .ok (.ireturn, 1) := by decide +kernel
theorem dX1_symbol_0 : decode cX1_symbol 0 = .ok (.iload_n 0, 1) := by decide +kernel
theorem dX1_symbol_1 : decode cX1_symbol 1 = .ok (.ifCond .lt 12, 3) := by decide +kernel
theorem dX1_symbol_4 : decode cX1_symbol 4 = .ok (.iload_n 0, 1) := by decide +kernel
theorem dX1_symbol_5 : decode cX1_symbol 5 = .ok (.iconst 3, 1) := by decide +kernel
theorem dX1_symbol_6 : decode cX1_symbol 6 = .ok (.if_icmp .gt 7, 3) := by decide +kernel
theorem dX1_symbol_9 : decode cX1_symbol 9 = .ok (.iconst 1, 1) := by decide +kernel
theorem dX1_symbol_10 : decode cX1_symbol 10 = .ok (.goto 4, 3) := by decide +kernel
theorem dX1_symbol_13 : decode cX1_symbol 13 = .ok (.iconst 0, 1) := by decide +kernel
theorem dX1_symbol_14 : decode cX1_symbol 14 = .ok (.ireturn, 1) := by decide +kernel
theorem dX1_states_0 : decode cX1_states 0 = .ok (.aload_n 0, 1) := by decide +kernel
theorem dX1_states_1 : decode cX1_states 1 = .ok (.iconst 0, 1) := by decide +kernel
theorem dX1_states_2 : decode cX1_states 2 = .ok (.putfield 40, 3) := by decide +kernel
theorem dX1_states_5 : decode cX1_states 5 = .ok (.iload_n 1, 1) := by decide +kernel
theorem dX1_states_6 : decode cX1_states 6 = .ok (.iconst 1, 1) := by decide +kernel
theorem dX1_states_7 : decode cX1_states 7 = .ok (.if_icmp .lt 9, 3) := by decide +kernel
theorem dX1_states_10 : decode cX1_states 10 = .ok (.iload_n 1, 1) := by decide +kernel
theorem dX1_states_11 : decode cX1_states 11 = .ok (.bipush 6, 2) := by decide +kernel
theorem dX1_states_13 : decode cX1_states 13 = .ok (.if_icmp .le 5, 3) := by decide +kernel
theorem dX1_states_16 : decode cX1_states 16 = .ok (.iconst 0, 1) := by decide +kernel
theorem dX1_states_17 : decode cX1_states 17 = .ok (.ireturn, 1) := by decide +kernel
theorem dX1_states_18 : decode cX1_states 18 = .ok (.aload_n 0, 1) := by decide +kernel
theorem dX1_states_19 : decode cX1_states 19 = .ok (.iload_n 1, 1) := by decide +kernel
theorem dX1_states_20 : decode cX1_states 20 = .ok (.putfield 36, 3) := by decide +kernel
theorem dX1_states_23 : decode cX1_states 23 = .ok (.aload_n 0, 1) := by decide +kernel
theorem dX1_states_24 : decode cX1_states 24 = .ok (.iconst 0, 1) := by decide +kernel
theorem dX1_states_25 : decode cX1_states 25 = .ok (.putfield 43, 3) := by decide +kernel
theorem dX1_states_28 : decode cX1_states 28 = .ok (.iconst 0, 1) := by decide +kernel
theorem dX1_states_29 : decode cX1_states 29 = .ok (.istore_n 2, 1) := by decide +kernel
theorem dX1_states_30 : decode cX1_states 30 = .ok (.iload_n 2, 1) := by decide +kernel
theorem dX1_states_31 : decode cX1_states 31 = .ok (.bipush 6, 2) := by decide +kernel
theorem dX1_states_33 : decode cX1_states 33 = .ok (.if_icmp .ge 16, 3) := by decide +kernel
theorem dX1_states_36 : decode cX1_states 36 = .ok (.aload_n 0, 1) := by decide +kernel
theorem dX1_states_37 : decode cX1_states 37 = .ok (.getfield 7, 3) := by decide +kernel
theorem dX1_states_40 : decode cX1_states 40 = .ok (.iload_n 2, 1) := by decide +kernel
theorem dX1_states_41 : decode cX1_states 41 = .ok (.dconst 0, 1) := by decide +kernel
theorem dX1_states_42 : decode cX1_states 42 = .ok (.dastore, 1) := by decide +kernel
theorem dX1_states_43 : decode cX1_states 43 = .ok (.iinc 2 1, 3) := by decide +kernel
theorem dX1_states_46 : decode cX1_states 46 = .ok (.goto (-16), 3) := by decide +kernel
theorem dX1_states_49 : decode cX1_states 49 = .ok (.iconst 0, 1) := by decide +kernel
theorem dX1_states_50 : decode cX1_states 50 = .ok (.istore_n 2, 1) := by decide +kernel
theorem dX1_states_51 : decode cX1_states 51 = .ok (.iload_n 2, 1) := by decide +kernel
theorem dX1_states_52 : decode cX1_states 52 = .ok (.bipush 36, 2) := by decide +kernel
theorem dX1_states_54 : decode cX1_states 54 = .ok (.if_icmp .ge 16, 3) := by decide +kernel
theorem dX1_states_57 : decode cX1_states 57 = .ok (.aload_n 0, 1) := by decide +kernel
theorem dX1_states_58 : decode cX1_states 58 = .ok (.getfield 13, 3) := by decide +kernel
theorem dX1_states_61 : decode cX1_states 61 = .ok (.iload_n 2, 1) := by decide +kernel
theorem dX1_states_62 : decode cX1_states 62 = .ok (.dconst 0, 1) := by decide +kernel
theorem dX1_states_63 : decode cX1_states 63 = .ok (.dastore, 1) := by decide +kernel
theorem dX1_states_64 : decode cX1_states 64 = .ok (.iinc 2 1, 3) := by decide +kernel
theorem dX1_states_67 : decode cX1_states 67 = .ok (.goto (-16), 3) := by decide +kernel
theorem dX1_states_70 : decode cX1_states 70 = .ok (.iconst 0, 1) := by decide +kernel
theorem dX1_states_71 : decode cX1_states 71 = .ok (.istore_n 2, 1) := by decide +kernel
theorem dX1_states_72 : decode cX1_states 72 = .ok (.iload_n 2, 1) := by decide +kernel
theorem dX1_states_73 : decode cX1_states 73 = .ok (.bipush 24, 2) := by decide +kernel
theorem dX1_states_75 : decode cX1_states 75 = .ok (.if_icmp .ge 16, 3) := by decide +kernel
theorem dX1_states_78 : decode cX1_states 78 = .ok (.aload_n 0, 1) := by decide +kernel
theorem dX1_states_79 : decode cX1_states 79 = .ok (.getfield 16, 3) := by decide +kernel
theorem dX1_states_82 : decode cX1_states 82 = .ok (.iload_n 2, 1) := by decide +kernel
theorem dX1_states_83 : decode cX1_states 83 = .ok (.dconst 0, 1) := by decide +kernel
theorem dX1_states_84 : decode cX1_states 84 = .ok (.dastore, 1) := by decide +kernel
theorem dX1_states_85 : decode cX1_states 85 = .ok (.iinc 2 1, 3) := by decide +kernel
theorem dX1_states_88 : decode cX1_states 88 = .ok (.goto (-16), 3) := by decide +kernel
theorem dX1_states_91 : decode cX1_states 91 = .ok (.iconst 1, 1) := by decide +kernel
theorem dX1_states_92 : decode cX1_states 92 = .ok (.ireturn, 1) := by decide +kernel
theorem dX1_size_0 : decode cX1_size 0 = .ok (.aload_n 0, 1) := by decide +kernel
theorem dX1_size_1 : decode cX1_size 1 = .ok (.iconst 0, 1) := by decide +kernel
theorem dX1_size_2 : decode cX1_size 2 = .ok (.putfield 40, 3) := by decide +kernel
theorem dX1_size_5 : decode cX1_size 5 = .ok (.aload_n 0, 1) := by decide +kernel
theorem dX1_size_6 : decode cX1_size 6 = .ok (.getfield 36, 3) := by decide +kernel
theorem dX1_size_9 : decode cX1_size 9 = .ok (.ireturn, 1) := by decide +kernel
set_option maxRecDepth 20000 in
theorem ggX1_start_X1_state : GoodIn wsX1_start wsX1_state := goodIn_r _ [7, 8, 12, 13, 14, 15, 16, 17, 18, 19, 20, 21, 22] (by decide +kernel) (by decide +kernel)
set_option maxRecDepth 20000 in
theorem gX1_start_X1_state : GoodIn wsX1_start (wsV RX1 46 RX1 yX1_state wsX1_state) := goodIn_app (goodIn_of _ (by decide +kernel)) ggX1_start_X1_state
set_option maxRecDepth 20000 in
theorem ggX1_start_X1_unit : GoodIn wsX1_start wsX1_unit := goodIn_r _ [11] (by decide +kernel) (by decide +kernel)
set_option maxRecDepth 20000 in
theorem gX1_start_X1_unit : GoodIn wsX1_start (va_wsS RX1 50 yX1_unit wsX1_unit) := goodIn_app (goodIn_of _ (by decide +kernel)) ggX1_start_X1_unit
theorem dX1_start_0 : decode cX1_start 0 = .ok (.aload_n 0, 1) := by decide +kernel
theorem dX1_start_1 : decode cX1_start 1 = .ok (.iconst 0, 1) := by decide +kernel
theorem dX1_start_2 : decode cX1_start 2 = .ok (.putfield 40, 3) := by decide +kernel
theorem dX1_start_5 : decode cX1_start 5 = .ok (.aload_n 0, 1) := by decide +kernel
theorem dX1_start_6 : decode cX1_start 6 = .ok (.iload_n 1, 1) := by decide +kernel
theorem dX1_start_7 : decode cX1_start 7 = .ok (.invokevirtual 46, 3) := by decide +kernel
theorem dX1_start_10 : decode cX1_start 10 = .ok (.ifCond .eq 10, 3) := by decide +kernel
theorem dX1_start_13 : decode cX1_start 13 = .ok (.dload_n 2, 1) := by decide +kernel
theorem dX1_start_14 : decode cX1_start 14 = .ok (.invokestatic 50, 3) := by decide +kernel
theorem dX1_start_17 : decode cX1_start 17 = .ok (.ifCond .ne 5, 3) := by decide +kernel
theorem dX1_start_20 : decode cX1_start 20 = .ok (.iconst 0, 1) := by decide +kernel
theorem dX1_start_21 : decode cX1_start 21 = .ok (.ireturn, 1) := by decide +kernel
theorem dX1_start_22 : decode cX1_start 22 = .ok (.aload_n 0, 1) := by decide +kernel
theorem dX1_start_23 : decode cX1_start 23 = .ok (.getfield 7, 3) := by decide +kernel
theorem dX1_start_26 : decode cX1_start 26 = .ok (.iload_n 1, 1) := by decide +kernel
theorem dX1_start_27 : decode cX1_start 27 = .ok (.dload_n 2, 1) := by decide +kernel
theorem dX1_start_28 : decode cX1_start 28 = .ok (.dastore, 1) := by decide +kernel
theorem dX1_start_29 : decode cX1_start 29 = .ok (.iconst 1, 1) := by decide +kernel
theorem dX1_start_30 : decode cX1_start 30 = .ok (.ireturn, 1) := by decide +kernel
set_option maxRecDepth 20000 in
theorem ggX1_move_X1_state : GoodIn wsX1_move wsX1_state := goodIn_r _ [7, 8, 12, 13, 14, 15, 16, 17, 18, 19, 20, 21, 22] (by decide +kernel) (by decide +kernel)
set_option maxRecDepth 20000 in
theorem gX1_move_X1_state : GoodIn wsX1_move (wsV RX1 46 RX1 yX1_state wsX1_state) := goodIn_app (goodIn_of _ (by decide +kernel)) ggX1_move_X1_state
set_option maxRecDepth 20000 in
theorem ggX1_move_X1_unit : GoodIn wsX1_move wsX1_unit := goodIn_r _ [11] (by decide +kernel) (by decide +kernel)
set_option maxRecDepth 20000 in
theorem gX1_move_X1_unit : GoodIn wsX1_move (va_wsS RX1 50 yX1_unit wsX1_unit) := goodIn_app (goodIn_of _ (by decide +kernel)) ggX1_move_X1_unit
theorem dX1_move_0 : decode cX1_move 0 = .ok (.aload_n 0, 1) := by decide +kernel
theorem dX1_move_1 : decode cX1_move 1 = .ok (.iconst 0, 1) := by decide +kernel
theorem dX1_move_2 : decode cX1_move 2 = .ok (.putfield 40, 3) := by decide +kernel
theorem dX1_move_5 : decode cX1_move 5 = .ok (.aload_n 0, 1) := by decide +kernel
theorem dX1_move_6 : decode cX1_move 6 = .ok (.iload_n 1, 1) := by decide +kernel
theorem dX1_move_7 : decode cX1_move 7 = .ok (.invokevirtual 46, 3) := by decide +kernel
theorem dX1_move_10 : decode cX1_move 10 = .ok (.ifCond .eq 18, 3) := by decide +kernel
theorem dX1_move_13 : decode cX1_move 13 = .ok (.aload_n 0, 1) := by decide +kernel
theorem dX1_move_14 : decode cX1_move 14 = .ok (.iload_n 2, 1) := by decide +kernel
theorem dX1_move_15 : decode cX1_move 15 = .ok (.invokevirtual 46, 3) := by decide +kernel
theorem dX1_move_18 : decode cX1_move 18 = .ok (.ifCond .eq 10, 3) := by decide +kernel
theorem dX1_move_21 : decode cX1_move 21 = .ok (.dload_n 3, 1) := by decide +kernel
theorem dX1_move_22 : decode cX1_move 22 = .ok (.invokestatic 50, 3) := by decide +kernel
theorem dX1_move_25 : decode cX1_move 25 = .ok (.ifCond .ne 5, 3) := by decide +kernel
theorem dX1_move_28 : decode cX1_move 28 = .ok (.iconst 0, 1) := by decide +kernel
theorem dX1_move_29 : decode cX1_move 29 = .ok (.ireturn, 1) := by decide +kernel
theorem dX1_move_30 : decode cX1_move 30 = .ok (.aload_n 0, 1) := by decide +kernel
theorem dX1_move_31 : decode cX1_move 31 = .ok (.getfield 13, 3) := by decide +kernel
theorem dX1_move_34 : decode cX1_move 34 = .ok (.bipush 6, 2) := by decide +kernel
theorem dX1_move_36 : decode cX1_move 36 = .ok (.iload_n 1, 1) := by decide +kernel
theorem dX1_move_37 : decode cX1_move 37 = .ok (.imul, 1) := by decide +kernel
theorem dX1_move_38 : decode cX1_move 38 = .ok (.iload_n 2, 1) := by decide +kernel
theorem dX1_move_39 : decode cX1_move 39 = .ok (.iadd, 1) := by decide +kernel
theorem dX1_move_40 : decode cX1_move 40 = .ok (.dload_n 3, 1) := by decide +kernel
theorem dX1_move_41 : decode cX1_move 41 = .ok (.dastore, 1) := by decide +kernel
theorem dX1_move_42 : decode cX1_move 42 = .ok (.iconst 1, 1) := by decide +kernel
theorem dX1_move_43 : decode cX1_move 43 = .ok (.ireturn, 1) := by decide +kernel
set_option maxRecDepth 20000 in
theorem ggX1_show_X1_state : GoodIn wsX1_show wsX1_state := goodIn_r _ [7, 8, 15, 16, 17, 18, 19, 20, 21, 22, 23, 24, 25] (by decide +kernel) (by decide +kernel)
set_option maxRecDepth 20000 in
theorem gX1_show_X1_state : GoodIn wsX1_show (wsV RX1 46 RX1 yX1_state wsX1_state) := goodIn_app (goodIn_of _ (by decide +kernel)) ggX1_show_X1_state
set_option maxRecDepth 20000 in
theorem ggX1_show_X1_symbol : GoodIn wsX1_show wsX1_symbol := goodIn_r _ [11] (by decide +kernel) (by decide +kernel)
set_option maxRecDepth 20000 in
theorem gX1_show_X1_symbol : GoodIn wsX1_show (va_wsS RX1 54 yX1_symbol wsX1_symbol) := goodIn_app (goodIn_of _ (by decide +kernel)) ggX1_show_X1_symbol
set_option maxRecDepth 20000 in
theorem ggX1_show_X1_unit : GoodIn wsX1_show wsX1_unit := goodIn_r _ [14] (by decide +kernel) (by decide +kernel)
set_option maxRecDepth 20000 in
theorem gX1_show_X1_unit : GoodIn wsX1_show (va_wsS RX1 50 yX1_unit wsX1_unit) := goodIn_app (goodIn_of _ (by decide +kernel)) ggX1_show_X1_unit
theorem dX1_show_0 : decode cX1_show 0 = .ok (.aload_n 0, 1) := by decide +kernel
theorem dX1_show_1 : decode cX1_show 1 = .ok (.iconst 0, 1) := by decide +kernel
theorem dX1_show_2 : decode cX1_show 2 = .ok (.putfield 40, 3) := by decide +kernel
theorem dX1_show_5 : decode cX1_show 5 = .ok (.aload_n 0, 1) := by decide +kernel
theorem dX1_show_6 : decode cX1_show 6 = .ok (.iload_n 1, 1) := by decide +kernel
theorem dX1_show_7 : decode cX1_show 7 = .ok (.invokevirtual 46, 3) := by decide +kernel
theorem dX1_show_10 : decode cX1_show 10 = .ok (.ifCond .eq 17, 3) := by decide +kernel
theorem dX1_show_13 : decode cX1_show 13 = .ok (.iload_n 2, 1) := by decide +kernel
theorem dX1_show_14 : decode cX1_show 14 = .ok (.invokestatic 54, 3) := by decide +kernel
theorem dX1_show_17 : decode cX1_show 17 = .ok (.ifCond .eq 10, 3) := by decide +kernel
theorem dX1_show_20 : decode cX1_show 20 = .ok (.dload_n 3, 1) := by decide +kernel
theorem dX1_show_21 : decode cX1_show 21 = .ok (.invokestatic 50, 3) := by decide +kernel
theorem dX1_show_24 : decode cX1_show 24 = .ok (.ifCond .ne 5, 3) := by decide +kernel
theorem dX1_show_27 : decode cX1_show 27 = .ok (.iconst 0, 1) := by decide +kernel
theorem dX1_show_28 : decode cX1_show 28 = .ok (.ireturn, 1) := by decide +kernel
theorem dX1_show_29 : decode cX1_show 29 = .ok (.aload_n 0, 1) := by decide +kernel
theorem dX1_show_30 : decode cX1_show 30 = .ok (.getfield 16, 3) := by decide +kernel
theorem dX1_show_33 : decode cX1_show 33 = .ok (.iconst 4, 1) := by decide +kernel
theorem dX1_show_34 : decode cX1_show 34 = .ok (.iload_n 1, 1) := by decide +kernel
theorem dX1_show_35 : decode cX1_show 35 = .ok (.imul, 1) := by decide +kernel
theorem dX1_show_36 : decode cX1_show 36 = .ok (.iload_n 2, 1) := by decide +kernel
theorem dX1_show_37 : decode cX1_show 37 = .ok (.iadd, 1) := by decide +kernel
theorem dX1_show_38 : decode cX1_show 38 = .ok (.dload_n 3, 1) := by decide +kernel
theorem dX1_show_39 : decode cX1_show 39 = .ok (.dastore, 1) := by decide +kernel
theorem dX1_show_40 : decode cX1_show 40 = .ok (.iconst 1, 1) := by decide +kernel
theorem dX1_show_41 : decode cX1_show 41 = .ok (.ireturn, 1) := by decide +kernel
set_option maxRecDepth 20000 in
theorem ggX1_read_X1_symbol : GoodIn wsX1_read wsX1_symbol := goodIn_r _ [7] (by decide +kernel) (by decide +kernel)
set_option maxRecDepth 20000 in
theorem gX1_read_X1_symbol : GoodIn wsX1_read (va_wsS RX1 54 yX1_symbol wsX1_symbol) := goodIn_app (goodIn_of _ (by decide +kernel)) ggX1_read_X1_symbol
theorem dX1_read_0 : decode cX1_read 0 = .ok (.aload_n 0, 1) := by decide +kernel
theorem dX1_read_1 : decode cX1_read 1 = .ok (.iconst 0, 1) := by decide +kernel
theorem dX1_read_2 : decode cX1_read 2 = .ok (.putfield 40, 3) := by decide +kernel
theorem dX1_read_5 : decode cX1_read 5 = .ok (.iload_n 1, 1) := by decide +kernel
theorem dX1_read_6 : decode cX1_read 6 = .ok (.invokestatic 54, 3) := by decide +kernel
theorem dX1_read_9 : decode cX1_read 9 = .ok (.ifCond .eq 12, 3) := by decide +kernel
theorem dX1_read_12 : decode cX1_read 12 = .ok (.aload_n 0, 1) := by decide +kernel
theorem dX1_read_13 : decode cX1_read 13 = .ok (.getfield 43, 3) := by decide +kernel
theorem dX1_read_16 : decode cX1_read 16 = .ok (.bipush 12, 2) := by decide +kernel
theorem dX1_read_18 : decode cX1_read 18 = .ok (.if_icmp .ne 5, 3) := by decide +kernel
theorem dX1_read_21 : decode cX1_read 21 = .ok (.iconst 0, 1) := by decide +kernel
theorem dX1_read_22 : decode cX1_read 22 = .ok (.ireturn, 1) := by decide +kernel
theorem dX1_read_23 : decode cX1_read 23 = .ok (.aload_n 0, 1) := by decide +kernel
theorem dX1_read_24 : decode cX1_read 24 = .ok (.getfield 19, 3) := by decide +kernel
theorem dX1_read_27 : decode cX1_read 27 = .ok (.aload_n 0, 1) := by decide +kernel
theorem dX1_read_28 : decode cX1_read 28 = .ok (.getfield 43, 3) := by decide +kernel
theorem dX1_read_31 : decode cX1_read 31 = .ok (.iload_n 1, 1) := by decide +kernel
theorem dX1_read_32 : decode cX1_read 32 = .ok (.iastore, 1) := by decide +kernel
theorem dX1_read_33 : decode cX1_read 33 = .ok (.aload_n 0, 1) := by decide +kernel
theorem dX1_read_34 : decode cX1_read 34 = .ok (.aload_n 0, 1) := by decide +kernel
theorem dX1_read_35 : decode cX1_read 35 = .ok (.getfield 43, 3) := by decide +kernel
theorem dX1_read_38 : decode cX1_read 38 = .ok (.iconst 1, 1) := by decide +kernel
theorem dX1_read_39 : decode cX1_read 39 = .ok (.iadd, 1) := by decide +kernel
theorem dX1_read_40 : decode cX1_read 40 = .ok (.putfield 43, 3) := by decide +kernel
theorem dX1_read_43 : decode cX1_read 43 = .ok (.iconst 1, 1) := by decide +kernel
theorem dX1_read_44 : decode cX1_read 44 = .ok (.ireturn, 1) := by decide +kernel
theorem dX1_unread_0 : decode cX1_unread 0 = .ok (.aload_n 0, 1) := by decide +kernel
theorem dX1_unread_1 : decode cX1_unread 1 = .ok (.iconst 0, 1) := by decide +kernel
theorem dX1_unread_2 : decode cX1_unread 2 = .ok (.putfield 40, 3) := by decide +kernel
theorem dX1_unread_5 : decode cX1_unread 5 = .ok (.aload_n 0, 1) := by decide +kernel
theorem dX1_unread_6 : decode cX1_unread 6 = .ok (.getfield 43, 3) := by decide +kernel
theorem dX1_unread_9 : decode cX1_unread 9 = .ok (.ifCond .ne 5, 3) := by decide +kernel
theorem dX1_unread_12 : decode cX1_unread 12 = .ok (.iconst 0, 1) := by decide +kernel
theorem dX1_unread_13 : decode cX1_unread 13 = .ok (.ireturn, 1) := by decide +kernel
theorem dX1_unread_14 : decode cX1_unread 14 = .ok (.aload_n 0, 1) := by decide +kernel
theorem dX1_unread_15 : decode cX1_unread 15 = .ok (.aload_n 0, 1) := by decide +kernel
theorem dX1_unread_16 : decode cX1_unread 16 = .ok (.getfield 43, 3) := by decide +kernel
theorem dX1_unread_19 : decode cX1_unread 19 = .ok (.iconst 1, 1) := by decide +kernel
theorem dX1_unread_20 : decode cX1_unread 20 = .ok (.isub, 1) := by decide +kernel
theorem dX1_unread_21 : decode cX1_unread 21 = .ok (.putfield 43, 3) := by decide +kernel
theorem dX1_unread_24 : decode cX1_unread 24 = .ok (.iconst 1, 1) := by decide +kernel
theorem dX1_unread_25 : decode cX1_unread 25 = .ok (.ireturn, 1) := by decide +kernel
theorem dX1_length_0 : decode cX1_length 0 = .ok (.aload_n 0, 1) := by decide +kernel
theorem dX1_length_1 : decode cX1_length 1 = .ok (.iconst 0, 1) := by decide +kernel
theorem dX1_length_2 : decode cX1_length 2 = .ok (.putfield 40, 3) := by decide +kernel
theorem dX1_length_5 : decode cX1_length 5 = .ok (.aload_n 0, 1) := by decide +kernel
theorem dX1_length_6 : decode cX1_length 6 = .ok (.getfield 43, 3) := by decide +kernel
theorem dX1_length_9 : decode cX1_length 9 = .ok (.ireturn, 1) := by decide +kernel
theorem dX1_shown_0 : decode cX1_shown 0 = .ok (.aload_n 0, 1) := by decide +kernel
theorem dX1_shown_1 : decode cX1_shown 1 = .ok (.getfield 16, 3) := by decide +kernel
theorem dX1_shown_4 : decode cX1_shown 4 = .ok (.iconst 4, 1) := by decide +kernel
theorem dX1_shown_5 : decode cX1_shown 5 = .ok (.iload_n 1, 1) := by decide +kernel
theorem dX1_shown_6 : decode cX1_shown 6 = .ok (.imul, 1) := by decide +kernel
theorem dX1_shown_7 : decode cX1_shown 7 = .ok (.aload_n 0, 1) := by decide +kernel
theorem dX1_shown_8 : decode cX1_shown 8 = .ok (.getfield 19, 3) := by decide +kernel
theorem dX1_shown_11 : decode cX1_shown 11 = .ok (.iload_n 2, 1) := by decide +kernel
theorem dX1_shown_12 : decode cX1_shown 12 = .ok (.iaload, 1) := by decide +kernel
theorem dX1_shown_13 : decode cX1_shown 13 = .ok (.iadd, 1) := by decide +kernel
theorem dX1_shown_14 : decode cX1_shown 14 = .ok (.daload, 1) := by decide +kernel
theorem dX1_shown_15 : decode cX1_shown 15 = .ok (.dreturn, 1) := by decide +kernel
theorem dX1_shift_0 : decode cX1_shift 0 = .ok (.iconst 0, 1) := by decide +kernel
theorem dX1_shift_1 : decode cX1_shift 1 = .ok (.istore_n 1, 1) := by decide +kernel
theorem dX1_shift_2 : decode cX1_shift 2 = .ok (.iload_n 1, 1) := by decide +kernel
theorem dX1_shift_3 : decode cX1_shift 3 = .ok (.bipush 6, 2) := by decide +kernel
theorem dX1_shift_5 : decode cX1_shift 5 = .ok (.if_icmp .ge 21, 3) := by decide +kernel
theorem dX1_shift_8 : decode cX1_shift 8 = .ok (.aload_n 0, 1) := by decide +kernel
theorem dX1_shift_9 : decode cX1_shift 9 = .ok (.getfield 26, 3) := by decide +kernel
theorem dX1_shift_12 : decode cX1_shift 12 = .ok (.iload_n 1, 1) := by decide +kernel
theorem dX1_shift_13 : decode cX1_shift 13 = .ok (.aload_n 0, 1) := by decide +kernel
theorem dX1_shift_14 : decode cX1_shift 14 = .ok (.getfield 23, 3) := by decide +kernel
theorem dX1_shift_17 : decode cX1_shift 17 = .ok (.iload_n 1, 1) := by decide +kernel
theorem dX1_shift_18 : decode cX1_shift 18 = .ok (.daload, 1) := by decide +kernel
theorem dX1_shift_19 : decode cX1_shift 19 = .ok (.dastore, 1) := by decide +kernel
theorem dX1_shift_20 : decode cX1_shift 20 = .ok (.iinc 1 1, 3) := by decide +kernel
theorem dX1_shift_23 : decode cX1_shift 23 = .ok (.goto (-21), 3) := by decide +kernel
theorem dX1_shift_26 : decode cX1_shift 26 = .ok (.return_, 1) := by decide +kernel
set_option maxRecDepth 20000 in
theorem ggX1_ahead_X1_shown : GoodIn wsX1_ahead wsX1_shown := goodIn_ca (goodIn_r _ [10, 11, 12, 17, 18, 19, 20, 21, 22, 23, 24, 25, 26, 27] (by decide +kernel) (by decide +kernel)) (goodIn_sub (fun _ h => List.mem_cons_of_mem _ (List.mem_append_right _ h)) (by decide +kernel))
set_option maxRecDepth 20000 in
theorem gX1_ahead_X1_shown : GoodIn wsX1_ahead (wsV RX1 57 RX1 yX1_shown wsX1_shown) := goodIn_app (goodIn_of _ (by decide +kernel)) ggX1_ahead_X1_shown
set_option maxRecDepth 20000 in
theorem ggX1_ahead_X1_shift : GoodIn wsX1_ahead wsX1_shift := goodIn_ca (goodIn_r _ [16, 4, 2, 17, 18, 19, 20, 21, 22, 23, 24, 25, 26, 27] (by decide +kernel) (by decide +kernel)) (goodIn_sub (fun _ h => List.mem_cons_of_mem _ (List.mem_append_right _ h)) (by decide +kernel))
set_option maxRecDepth 20000 in
theorem gX1_ahead_X1_shift : GoodIn wsX1_ahead (wsV RX1 61 RX1 yX1_shift wsX1_shift) := goodIn_app (goodIn_of _ (by decide +kernel)) ggX1_ahead_X1_shift
theorem dX1_ahead_0 : decode cX1_ahead 0 = .ok (.iconst 0, 1) := by decide +kernel
theorem dX1_ahead_1 : decode cX1_ahead 1 = .ok (.istore_n 2, 1) := by decide +kernel
theorem dX1_ahead_2 : decode cX1_ahead 2 = .ok (.iload_n 2, 1) := by decide +kernel
theorem dX1_ahead_3 : decode cX1_ahead 3 = .ok (.aload_n 0, 1) := by decide +kernel
theorem dX1_ahead_4 : decode cX1_ahead 4 = .ok (.getfield 36, 3) := by decide +kernel
theorem dX1_ahead_7 : decode cX1_ahead 7 = .ok (.if_icmp .ge 28, 3) := by decide +kernel
theorem dX1_ahead_10 : decode cX1_ahead 10 = .ok (.aload_n 0, 1) := by decide +kernel
theorem dX1_ahead_11 : decode cX1_ahead 11 = .ok (.getfield 23, 3) := by decide +kernel
theorem dX1_ahead_14 : decode cX1_ahead 14 = .ok (.iload_n 2, 1) := by decide +kernel
theorem dX1_ahead_15 : decode cX1_ahead 15 = .ok (.aload_n 0, 1) := by decide +kernel
theorem dX1_ahead_16 : decode cX1_ahead 16 = .ok (.getfield 7, 3) := by decide +kernel
theorem dX1_ahead_19 : decode cX1_ahead 19 = .ok (.iload_n 2, 1) := by decide +kernel
theorem dX1_ahead_20 : decode cX1_ahead 20 = .ok (.daload, 1) := by decide +kernel
theorem dX1_ahead_21 : decode cX1_ahead 21 = .ok (.aload_n 0, 1) := by decide +kernel
theorem dX1_ahead_22 : decode cX1_ahead 22 = .ok (.iload_n 2, 1) := by decide +kernel
theorem dX1_ahead_23 : decode cX1_ahead 23 = .ok (.iconst 0, 1) := by decide +kernel
theorem dX1_ahead_24 : decode cX1_ahead 24 = .ok (.invokevirtual 57, 3) := by decide +kernel
theorem dX1_ahead_27 : decode cX1_ahead 27 = .ok (.dmul, 1) := by decide +kernel
theorem dX1_ahead_28 : decode cX1_ahead 28 = .ok (.dastore, 1) := by decide +kernel
theorem dX1_ahead_29 : decode cX1_ahead 29 = .ok (.iinc 2 1, 3) := by decide +kernel
theorem dX1_ahead_32 : decode cX1_ahead 32 = .ok (.goto (-30), 3) := by decide +kernel
theorem dX1_ahead_35 : decode cX1_ahead 35 = .ok (.iconst 1, 1) := by decide +kernel
theorem dX1_ahead_36 : decode cX1_ahead 36 = .ok (.istore_n 2, 1) := by decide +kernel
theorem dX1_ahead_37 : decode cX1_ahead 37 = .ok (.iload_n 2, 1) := by decide +kernel
theorem dX1_ahead_38 : decode cX1_ahead 38 = .ok (.iload_n 1, 1) := by decide +kernel
theorem dX1_ahead_39 : decode cX1_ahead 39 = .ok (.if_icmp .gt 90, 3) := by decide +kernel
theorem dX1_ahead_42 : decode cX1_ahead 42 = .ok (.aload_n 0, 1) := by decide +kernel
theorem dX1_ahead_43 : decode cX1_ahead 43 = .ok (.invokevirtual 61, 3) := by decide +kernel
theorem dX1_ahead_46 : decode cX1_ahead 46 = .ok (.iconst 0, 1) := by decide +kernel
theorem dX1_ahead_47 : decode cX1_ahead 47 = .ok (.istore_n 3, 1) := by decide +kernel
theorem dX1_ahead_48 : decode cX1_ahead 48 = .ok (.iload_n 3, 1) := by decide +kernel
theorem dX1_ahead_49 : decode cX1_ahead 49 = .ok (.aload_n 0, 1) := by decide +kernel
theorem dX1_ahead_50 : decode cX1_ahead 50 = .ok (.getfield 36, 3) := by decide +kernel
theorem dX1_ahead_53 : decode cX1_ahead 53 = .ok (.if_icmp .ge 70, 3) := by decide +kernel
theorem dX1_ahead_56 : decode cX1_ahead 56 = .ok (.dconst 0, 1) := by decide +kernel
theorem dX1_ahead_57 : decode cX1_ahead 57 = .ok (.dstore 4, 2) := by decide +kernel
theorem dX1_ahead_59 : decode cX1_ahead 59 = .ok (.iconst 0, 1) := by decide +kernel
theorem dX1_ahead_60 : decode cX1_ahead 60 = .ok (.istore 6, 2) := by decide +kernel
theorem dX1_ahead_62 : decode cX1_ahead 62 = .ok (.iload 6, 2) := by decide +kernel
theorem dX1_ahead_64 : decode cX1_ahead 64 = .ok (.aload_n 0, 1) := by decide +kernel
theorem dX1_ahead_65 : decode cX1_ahead 65 = .ok (.getfield 36, 3) := by decide +kernel
theorem dX1_ahead_68 : decode cX1_ahead 68 = .ok (.if_icmp .ge 34, 3) := by decide +kernel
theorem dX1_ahead_71 : decode cX1_ahead 71 = .ok (.dload 4, 2) := by decide +kernel
theorem dX1_ahead_73 : decode cX1_ahead 73 = .ok (.aload_n 0, 1) := by decide +kernel
theorem dX1_ahead_74 : decode cX1_ahead 74 = .ok (.getfield 26, 3) := by decide +kernel
theorem dX1_ahead_77 : decode cX1_ahead 77 = .ok (.iload 6, 2) := by decide +kernel
theorem dX1_ahead_79 : decode cX1_ahead 79 = .ok (.daload, 1) := by decide +kernel
theorem dX1_ahead_80 : decode cX1_ahead 80 = .ok (.aload_n 0, 1) := by decide +kernel
theorem dX1_ahead_81 : decode cX1_ahead 81 = .ok (.getfield 13, 3) := by decide +kernel
theorem dX1_ahead_84 : decode cX1_ahead 84 = .ok (.bipush 6, 2) := by decide +kernel
theorem dX1_ahead_86 : decode cX1_ahead 86 = .ok (.iload 6, 2) := by decide +kernel
theorem dX1_ahead_88 : decode cX1_ahead 88 = .ok (.imul, 1) := by decide +kernel
theorem dX1_ahead_89 : decode cX1_ahead 89 = .ok (.iload_n 3, 1) := by decide +kernel
theorem dX1_ahead_90 : decode cX1_ahead 90 = .ok (.iadd, 1) := by decide +kernel
theorem dX1_ahead_91 : decode cX1_ahead 91 = .ok (.daload, 1) := by decide +kernel
theorem dX1_ahead_92 : decode cX1_ahead 92 = .ok (.dmul, 1) := by decide +kernel
theorem dX1_ahead_93 : decode cX1_ahead 93 = .ok (.dadd, 1) := by decide +kernel
theorem dX1_ahead_94 : decode cX1_ahead 94 = .ok (.dstore 4, 2) := by decide +kernel
theorem dX1_ahead_96 : decode cX1_ahead 96 = .ok (.iinc 6 1, 3) := by decide +kernel
theorem dX1_ahead_99 : decode cX1_ahead 99 = .ok (.goto (-37), 3) := by decide +kernel
theorem dX1_ahead_102 : decode cX1_ahead 102 = .ok (.aload_n 0, 1) := by decide +kernel
theorem dX1_ahead_103 : decode cX1_ahead 103 = .ok (.getfield 23, 3) := by decide +kernel
theorem dX1_ahead_106 : decode cX1_ahead 106 = .ok (.iload_n 3, 1) := by decide +kernel
theorem dX1_ahead_107 : decode cX1_ahead 107 = .ok (.dload 4, 2) := by decide +kernel
theorem dX1_ahead_109 : decode cX1_ahead 109 = .ok (.aload_n 0, 1) := by decide +kernel
theorem dX1_ahead_110 : decode cX1_ahead 110 = .ok (.iload_n 3, 1) := by decide +kernel
theorem dX1_ahead_111 : decode cX1_ahead 111 = .ok (.iload_n 2, 1) := by decide +kernel
theorem dX1_ahead_112 : decode cX1_ahead 112 = .ok (.invokevirtual 57, 3) := by decide +kernel
theorem dX1_ahead_115 : decode cX1_ahead 115 = .ok (.dmul, 1) := by decide +kernel
theorem dX1_ahead_116 : decode cX1_ahead 116 = .ok (.dastore, 1) := by decide +kernel
theorem dX1_ahead_117 : decode cX1_ahead 117 = .ok (.iinc 3 1, 3) := by decide +kernel
theorem dX1_ahead_120 : decode cX1_ahead 120 = .ok (.goto (-72), 3) := by decide +kernel
theorem dX1_ahead_123 : decode cX1_ahead 123 = .ok (.iinc 2 1, 3) := by decide +kernel
theorem dX1_ahead_126 : decode cX1_ahead 126 = .ok (.goto (-89), 3) := by decide +kernel
theorem dX1_ahead_129 : decode cX1_ahead 129 = .ok (.return_, 1) := by decide +kernel
set_option maxRecDepth 20000 in
theorem ggX1_behind_X1_shift : GoodIn wsX1_behind wsX1_shift := goodIn_ca (goodIn_r _ [10, 5, 2, 17, 18, 19, 20, 21, 22, 23, 24, 25, 26, 27] (by decide +kernel) (by decide +kernel)) (goodIn_sub (fun _ h => List.mem_cons_of_mem _ (List.mem_append_right _ h)) (by decide +kernel))
set_option maxRecDepth 20000 in
theorem gX1_behind_X1_shift : GoodIn wsX1_behind (wsV RX1 61 RX1 yX1_shift wsX1_shift) := goodIn_app (goodIn_of _ (by decide +kernel)) ggX1_behind_X1_shift
set_option maxRecDepth 20000 in
theorem ggX1_behind_X1_shown : GoodIn wsX1_behind wsX1_shown := goodIn_ca (goodIn_r _ [14, 15, 16, 17, 18, 19, 20, 21, 22, 23, 24, 25, 26, 27] (by decide +kernel) (by decide +kernel)) (goodIn_sub (fun _ h => List.mem_cons_of_mem _ (List.mem_append_right _ h)) (by decide +kernel))
set_option maxRecDepth 20000 in
theorem gX1_behind_X1_shown : GoodIn wsX1_behind (wsV RX1 57 RX1 yX1_shown wsX1_shown) := goodIn_app (goodIn_of _ (by decide +kernel)) ggX1_behind_X1_shown
theorem dX1_behind_0 : decode cX1_behind 0 = .ok (.iconst 0, 1) := by decide +kernel
theorem dX1_behind_1 : decode cX1_behind 1 = .ok (.istore_n 2, 1) := by decide +kernel
theorem dX1_behind_2 : decode cX1_behind 2 = .ok (.iload_n 2, 1) := by decide +kernel
theorem dX1_behind_3 : decode cX1_behind 3 = .ok (.aload_n 0, 1) := by decide +kernel
theorem dX1_behind_4 : decode cX1_behind 4 = .ok (.getfield 36, 3) := by decide +kernel
theorem dX1_behind_7 : decode cX1_behind 7 = .ok (.if_icmp .ge 16, 3) := by decide +kernel
theorem dX1_behind_10 : decode cX1_behind 10 = .ok (.aload_n 0, 1) := by decide +kernel
theorem dX1_behind_11 : decode cX1_behind 11 = .ok (.getfield 23, 3) := by decide +kernel
theorem dX1_behind_14 : decode cX1_behind 14 = .ok (.iload_n 2, 1) := by decide +kernel
theorem dX1_behind_15 : decode cX1_behind 15 = .ok (.dconst 1, 1) := by decide +kernel
theorem dX1_behind_16 : decode cX1_behind 16 = .ok (.dastore, 1) := by decide +kernel
theorem dX1_behind_17 : decode cX1_behind 17 = .ok (.iinc 2 1, 3) := by decide +kernel
theorem dX1_behind_20 : decode cX1_behind 20 = .ok (.goto (-18), 3) := by decide +kernel
theorem dX1_behind_23 : decode cX1_behind 23 = .ok (.aload_n 0, 1) := by decide +kernel
theorem dX1_behind_24 : decode cX1_behind 24 = .ok (.getfield 43, 3) := by decide +kernel
theorem dX1_behind_27 : decode cX1_behind 27 = .ok (.iconst 2, 1) := by decide +kernel
theorem dX1_behind_28 : decode cX1_behind 28 = .ok (.isub, 1) := by decide +kernel
theorem dX1_behind_29 : decode cX1_behind 29 = .ok (.istore_n 2, 1) := by decide +kernel
theorem dX1_behind_30 : decode cX1_behind 30 = .ok (.iload_n 2, 1) := by decide +kernel
theorem dX1_behind_31 : decode cX1_behind 31 = .ok (.iload_n 1, 1) := by decide +kernel
theorem dX1_behind_32 : decode cX1_behind 32 = .ok (.if_icmp .lt 93, 3) := by decide +kernel
theorem dX1_behind_35 : decode cX1_behind 35 = .ok (.aload_n 0, 1) := by decide +kernel
theorem dX1_behind_36 : decode cX1_behind 36 = .ok (.invokevirtual 61, 3) := by decide +kernel
theorem dX1_behind_39 : decode cX1_behind 39 = .ok (.iconst 0, 1) := by decide +kernel
theorem dX1_behind_40 : decode cX1_behind 40 = .ok (.istore_n 3, 1) := by decide +kernel
theorem dX1_behind_41 : decode cX1_behind 41 = .ok (.iload_n 3, 1) := by decide +kernel
theorem dX1_behind_42 : decode cX1_behind 42 = .ok (.aload_n 0, 1) := by decide +kernel
theorem dX1_behind_43 : decode cX1_behind 43 = .ok (.getfield 36, 3) := by decide +kernel
theorem dX1_behind_46 : decode cX1_behind 46 = .ok (.if_icmp .ge 73, 3) := by decide +kernel
theorem dX1_behind_49 : decode cX1_behind 49 = .ok (.dconst 0, 1) := by decide +kernel
theorem dX1_behind_50 : decode cX1_behind 50 = .ok (.dstore 4, 2) := by decide +kernel
theorem dX1_behind_52 : decode cX1_behind 52 = .ok (.iconst 0, 1) := by decide +kernel
theorem dX1_behind_53 : decode cX1_behind 53 = .ok (.istore 6, 2) := by decide +kernel
theorem dX1_behind_55 : decode cX1_behind 55 = .ok (.iload 6, 2) := by decide +kernel
theorem dX1_behind_57 : decode cX1_behind 57 = .ok (.aload_n 0, 1) := by decide +kernel
theorem dX1_behind_58 : decode cX1_behind 58 = .ok (.getfield 36, 3) := by decide +kernel
theorem dX1_behind_61 : decode cX1_behind 61 = .ok (.if_icmp .ge 44, 3) := by decide +kernel
theorem dX1_behind_64 : decode cX1_behind 64 = .ok (.dload 4, 2) := by decide +kernel
theorem dX1_behind_66 : decode cX1_behind 66 = .ok (.aload_n 0, 1) := by decide +kernel
theorem dX1_behind_67 : decode cX1_behind 67 = .ok (.getfield 13, 3) := by decide +kernel
theorem dX1_behind_70 : decode cX1_behind 70 = .ok (.bipush 6, 2) := by decide +kernel
theorem dX1_behind_72 : decode cX1_behind 72 = .ok (.iload_n 3, 1) := by decide +kernel
theorem dX1_behind_73 : decode cX1_behind 73 = .ok (.imul, 1) := by decide +kernel
theorem dX1_behind_74 : decode cX1_behind 74 = .ok (.iload 6, 2) := by decide +kernel
theorem dX1_behind_76 : decode cX1_behind 76 = .ok (.iadd, 1) := by decide +kernel
theorem dX1_behind_77 : decode cX1_behind 77 = .ok (.daload, 1) := by decide +kernel
theorem dX1_behind_78 : decode cX1_behind 78 = .ok (.aload_n 0, 1) := by decide +kernel
theorem dX1_behind_79 : decode cX1_behind 79 = .ok (.iload 6, 2) := by decide +kernel
theorem dX1_behind_81 : decode cX1_behind 81 = .ok (.iload_n 2, 1) := by decide +kernel
theorem dX1_behind_82 : decode cX1_behind 82 = .ok (.iconst 1, 1) := by decide +kernel
theorem dX1_behind_83 : decode cX1_behind 83 = .ok (.iadd, 1) := by decide +kernel
theorem dX1_behind_84 : decode cX1_behind 84 = .ok (.invokevirtual 57, 3) := by decide +kernel
theorem dX1_behind_87 : decode cX1_behind 87 = .ok (.dmul, 1) := by decide +kernel
theorem dX1_behind_88 : decode cX1_behind 88 = .ok (.aload_n 0, 1) := by decide +kernel
theorem dX1_behind_89 : decode cX1_behind 89 = .ok (.getfield 26, 3) := by decide +kernel
theorem dX1_behind_92 : decode cX1_behind 92 = .ok (.iload 6, 2) := by decide +kernel
theorem dX1_behind_94 : decode cX1_behind 94 = .ok (.daload, 1) := by decide +kernel
theorem dX1_behind_95 : decode cX1_behind 95 = .ok (.dmul, 1) := by decide +kernel
theorem dX1_behind_96 : decode cX1_behind 96 = .ok (.dadd, 1) := by decide +kernel
theorem dX1_behind_97 : decode cX1_behind 97 = .ok (.dstore 4, 2) := by decide +kernel
theorem dX1_behind_99 : decode cX1_behind 99 = .ok (.iinc 6 1, 3) := by decide +kernel
theorem dX1_behind_102 : decode cX1_behind 102 = .ok (.goto (-47), 3) := by decide +kernel
theorem dX1_behind_105 : decode cX1_behind 105 = .ok (.aload_n 0, 1) := by decide +kernel
theorem dX1_behind_106 : decode cX1_behind 106 = .ok (.getfield 23, 3) := by decide +kernel
theorem dX1_behind_109 : decode cX1_behind 109 = .ok (.iload_n 3, 1) := by decide +kernel
theorem dX1_behind_110 : decode cX1_behind 110 = .ok (.dload 4, 2) := by decide +kernel
theorem dX1_behind_112 : decode cX1_behind 112 = .ok (.dastore, 1) := by decide +kernel
theorem dX1_behind_113 : decode cX1_behind 113 = .ok (.iinc 3 1, 3) := by decide +kernel
theorem dX1_behind_116 : decode cX1_behind 116 = .ok (.goto (-75), 3) := by decide +kernel
theorem dX1_behind_119 : decode cX1_behind 119 = .ok (.iinc 2 (-1), 3) := by decide +kernel
theorem dX1_behind_122 : decode cX1_behind 122 = .ok (.goto (-92), 3) := by decide +kernel
theorem dX1_behind_125 : decode cX1_behind 125 = .ok (.return_, 1) := by decide +kernel
set_option maxRecDepth 20000 in
theorem ggX1_greatest_X1_shown : GoodIn wsX1_greatest wsX1_shown := goodIn_ca (goodIn_r _ [10, 11, 12, 21, 22, 23, 24, 25, 26, 27, 28, 29, 30, 31] (by decide +kernel) (by decide +kernel)) (goodIn_sub (fun _ h => List.mem_cons_of_mem _ (List.mem_append_right _ h)) (by decide +kernel))
set_option maxRecDepth 20000 in
theorem gX1_greatest_X1_shown : GoodIn wsX1_greatest (wsV RX1 57 RX1 yX1_shown wsX1_shown) := goodIn_app (goodIn_of _ (by decide +kernel)) ggX1_greatest_X1_shown
set_option maxRecDepth 20000 in
theorem ggX1_greatest_X1_shift : GoodIn wsX1_greatest wsX1_shift := goodIn_ca (goodIn_r _ [16, 4, 2, 21, 22, 23, 24, 25, 26, 27, 28, 29, 30, 31] (by decide +kernel) (by decide +kernel)) (goodIn_sub (fun _ h => List.mem_cons_of_mem _ (List.mem_append_right _ h)) (by decide +kernel))
set_option maxRecDepth 20000 in
theorem gX1_greatest_X1_shift : GoodIn wsX1_greatest (wsV RX1 61 RX1 yX1_shift wsX1_shift) := goodIn_app (goodIn_of _ (by decide +kernel)) ggX1_greatest_X1_shift
set_option maxRecDepth 20000 in
theorem ggX1_greatest_X1_from : GoodIn wsX1_greatest wsX1_from := goodIn_ca (goodIn_r _ [20, 1, 4, 5, 21, 22, 23, 24, 25, 26, 27, 28, 29, 30, 31] (by decide +kernel) (by decide +kernel)) (goodIn_sub (fun _ h => List.mem_cons_of_mem _ (List.mem_append_right _ h)) (by decide +kernel))
set_option maxRecDepth 20000 in
theorem gX1_greatest_X1_from : GoodIn wsX1_greatest (wsV RX1 64 RX1 yX1_from wsX1_from) := goodIn_app (goodIn_of _ (by decide +kernel)) ggX1_greatest_X1_from
theorem dX1_greatest_0 : decode cX1_greatest 0 = .ok (.iconst 0, 1) := by decide +kernel
theorem dX1_greatest_1 : decode cX1_greatest 1 = .ok (.istore_n 2, 1) := by decide +kernel
theorem dX1_greatest_2 : decode cX1_greatest 2 = .ok (.iload_n 2, 1) := by decide +kernel
theorem dX1_greatest_3 : decode cX1_greatest 3 = .ok (.aload_n 0, 1) := by decide +kernel
theorem dX1_greatest_4 : decode cX1_greatest 4 = .ok (.getfield 36, 3) := by decide +kernel
theorem dX1_greatest_7 : decode cX1_greatest 7 = .ok (.if_icmp .ge 28, 3) := by decide +kernel
theorem dX1_greatest_10 : decode cX1_greatest 10 = .ok (.aload_n 0, 1) := by decide +kernel
theorem dX1_greatest_11 : decode cX1_greatest 11 = .ok (.getfield 23, 3) := by decide +kernel
theorem dX1_greatest_14 : decode cX1_greatest 14 = .ok (.iload_n 2, 1) := by decide +kernel
theorem dX1_greatest_15 : decode cX1_greatest 15 = .ok (.aload_n 0, 1) := by decide +kernel
theorem dX1_greatest_16 : decode cX1_greatest 16 = .ok (.getfield 7, 3) := by decide +kernel
theorem dX1_greatest_19 : decode cX1_greatest 19 = .ok (.iload_n 2, 1) := by decide +kernel
theorem dX1_greatest_20 : decode cX1_greatest 20 = .ok (.daload, 1) := by decide +kernel
theorem dX1_greatest_21 : decode cX1_greatest 21 = .ok (.aload_n 0, 1) := by decide +kernel
theorem dX1_greatest_22 : decode cX1_greatest 22 = .ok (.iload_n 2, 1) := by decide +kernel
theorem dX1_greatest_23 : decode cX1_greatest 23 = .ok (.iconst 0, 1) := by decide +kernel
theorem dX1_greatest_24 : decode cX1_greatest 24 = .ok (.invokevirtual 57, 3) := by decide +kernel
theorem dX1_greatest_27 : decode cX1_greatest 27 = .ok (.dmul, 1) := by decide +kernel
theorem dX1_greatest_28 : decode cX1_greatest 28 = .ok (.dastore, 1) := by decide +kernel
theorem dX1_greatest_29 : decode cX1_greatest 29 = .ok (.iinc 2 1, 3) := by decide +kernel
theorem dX1_greatest_32 : decode cX1_greatest 32 = .ok (.goto (-30), 3) := by decide +kernel
theorem dX1_greatest_35 : decode cX1_greatest 35 = .ok (.iconst 1, 1) := by decide +kernel
theorem dX1_greatest_36 : decode cX1_greatest 36 = .ok (.istore_n 2, 1) := by decide +kernel
theorem dX1_greatest_37 : decode cX1_greatest 37 = .ok (.iload_n 2, 1) := by decide +kernel
theorem dX1_greatest_38 : decode cX1_greatest 38 = .ok (.iload_n 1, 1) := by decide +kernel
theorem dX1_greatest_39 : decode cX1_greatest 39 = .ok (.if_icmp .gt 68, 3) := by decide +kernel
theorem dX1_greatest_42 : decode cX1_greatest 42 = .ok (.aload_n 0, 1) := by decide +kernel
theorem dX1_greatest_43 : decode cX1_greatest 43 = .ok (.invokevirtual 61, 3) := by decide +kernel
theorem dX1_greatest_46 : decode cX1_greatest 46 = .ok (.iconst 0, 1) := by decide +kernel
theorem dX1_greatest_47 : decode cX1_greatest 47 = .ok (.istore_n 3, 1) := by decide +kernel
theorem dX1_greatest_48 : decode cX1_greatest 48 = .ok (.iload_n 3, 1) := by decide +kernel
theorem dX1_greatest_49 : decode cX1_greatest 49 = .ok (.aload_n 0, 1) := by decide +kernel
theorem dX1_greatest_50 : decode cX1_greatest 50 = .ok (.getfield 36, 3) := by decide +kernel
theorem dX1_greatest_53 : decode cX1_greatest 53 = .ok (.if_icmp .ge 48, 3) := by decide +kernel
theorem dX1_greatest_56 : decode cX1_greatest 56 = .ok (.aload_n 0, 1) := by decide +kernel
theorem dX1_greatest_57 : decode cX1_greatest 57 = .ok (.getfield 23, 3) := by decide +kernel
theorem dX1_greatest_60 : decode cX1_greatest 60 = .ok (.iload_n 3, 1) := by decide +kernel
theorem dX1_greatest_61 : decode cX1_greatest 61 = .ok (.aload_n 0, 1) := by decide +kernel
theorem dX1_greatest_62 : decode cX1_greatest 62 = .ok (.getfield 26, 3) := by decide +kernel
theorem dX1_greatest_65 : decode cX1_greatest 65 = .ok (.aload_n 0, 1) := by decide +kernel
theorem dX1_greatest_66 : decode cX1_greatest 66 = .ok (.iload_n 3, 1) := by decide +kernel
theorem dX1_greatest_67 : decode cX1_greatest 67 = .ok (.invokevirtual 64, 3) := by decide +kernel
theorem dX1_greatest_70 : decode cX1_greatest 70 = .ok (.daload, 1) := by decide +kernel
theorem dX1_greatest_71 : decode cX1_greatest 71 = .ok (.aload_n 0, 1) := by decide +kernel
theorem dX1_greatest_72 : decode cX1_greatest 72 = .ok (.getfield 13, 3) := by decide +kernel
theorem dX1_greatest_75 : decode cX1_greatest 75 = .ok (.bipush 6, 2) := by decide +kernel
theorem dX1_greatest_77 : decode cX1_greatest 77 = .ok (.aload_n 0, 1) := by decide +kernel
theorem dX1_greatest_78 : decode cX1_greatest 78 = .ok (.iload_n 3, 1) := by decide +kernel
theorem dX1_greatest_79 : decode cX1_greatest 79 = .ok (.invokevirtual 64, 3) := by decide +kernel
theorem dX1_greatest_82 : decode cX1_greatest 82 = .ok (.imul, 1) := by decide +kernel
theorem dX1_greatest_83 : decode cX1_greatest 83 = .ok (.iload_n 3, 1) := by decide +kernel
theorem dX1_greatest_84 : decode cX1_greatest 84 = .ok (.iadd, 1) := by decide +kernel
theorem dX1_greatest_85 : decode cX1_greatest 85 = .ok (.daload, 1) := by decide +kernel
theorem dX1_greatest_86 : decode cX1_greatest 86 = .ok (.dmul, 1) := by decide +kernel
theorem dX1_greatest_87 : decode cX1_greatest 87 = .ok (.aload_n 0, 1) := by decide +kernel
theorem dX1_greatest_88 : decode cX1_greatest 88 = .ok (.iload_n 3, 1) := by decide +kernel
theorem dX1_greatest_89 : decode cX1_greatest 89 = .ok (.iload_n 2, 1) := by decide +kernel
theorem dX1_greatest_90 : decode cX1_greatest 90 = .ok (.invokevirtual 57, 3) := by decide +kernel
theorem dX1_greatest_93 : decode cX1_greatest 93 = .ok (.dmul, 1) := by decide +kernel
theorem dX1_greatest_94 : decode cX1_greatest 94 = .ok (.dastore, 1) := by decide +kernel
theorem dX1_greatest_95 : decode cX1_greatest 95 = .ok (.iinc 3 1, 3) := by decide +kernel
theorem dX1_greatest_98 : decode cX1_greatest 98 = .ok (.goto (-50), 3) := by decide +kernel
theorem dX1_greatest_101 : decode cX1_greatest 101 = .ok (.iinc 2 1, 3) := by decide +kernel
theorem dX1_greatest_104 : decode cX1_greatest 104 = .ok (.goto (-67), 3) := by decide +kernel
theorem dX1_greatest_107 : decode cX1_greatest 107 = .ok (.return_, 1) := by decide +kernel
theorem dX1_from_0 : decode cX1_from 0 = .ok (.iconst 0, 1) := by decide +kernel
theorem dX1_from_1 : decode cX1_from 1 = .ok (.istore_n 2, 1) := by decide +kernel
theorem dX1_from_2 : decode cX1_from 2 = .ok (.iconst 1, 1) := by decide +kernel
theorem dX1_from_3 : decode cX1_from 3 = .ok (.istore_n 3, 1) := by decide +kernel
theorem dX1_from_4 : decode cX1_from 4 = .ok (.iload_n 3, 1) := by decide +kernel
theorem dX1_from_5 : decode cX1_from 5 = .ok (.aload_n 0, 1) := by decide +kernel
theorem dX1_from_6 : decode cX1_from 6 = .ok (.getfield 36, 3) := by decide +kernel
theorem dX1_from_9 : decode cX1_from 9 = .ok (.if_icmp .ge 51, 3) := by decide +kernel
theorem dX1_from_12 : decode cX1_from 12 = .ok (.aload_n 0, 1) := by decide +kernel
theorem dX1_from_13 : decode cX1_from 13 = .ok (.getfield 26, 3) := by decide +kernel
theorem dX1_from_16 : decode cX1_from 16 = .ok (.iload_n 3, 1) := by decide +kernel
theorem dX1_from_17 : decode cX1_from 17 = .ok (.daload, 1) := by decide +kernel
theorem dX1_from_18 : decode cX1_from 18 = .ok (.aload_n 0, 1) := by decide +kernel
theorem dX1_from_19 : decode cX1_from 19 = .ok (.getfield 13, 3) := by decide +kernel
theorem dX1_from_22 : decode cX1_from 22 = .ok (.bipush 6, 2) := by decide +kernel
theorem dX1_from_24 : decode cX1_from 24 = .ok (.iload_n 3, 1) := by decide +kernel
theorem dX1_from_25 : decode cX1_from 25 = .ok (.imul, 1) := by decide +kernel
theorem dX1_from_26 : decode cX1_from 26 = .ok (.iload_n 1, 1) := by decide +kernel
theorem dX1_from_27 : decode cX1_from 27 = .ok (.iadd, 1) := by decide +kernel
theorem dX1_from_28 : decode cX1_from 28 = .ok (.daload, 1) := by decide +kernel
theorem dX1_from_29 : decode cX1_from 29 = .ok (.dmul, 1) := by decide +kernel
theorem dX1_from_30 : decode cX1_from 30 = .ok (.aload_n 0, 1) := by decide +kernel
theorem dX1_from_31 : decode cX1_from 31 = .ok (.getfield 26, 3) := by decide +kernel
theorem dX1_from_34 : decode cX1_from 34 = .ok (.iload_n 2, 1) := by decide +kernel
theorem dX1_from_35 : decode cX1_from 35 = .ok (.daload, 1) := by decide +kernel
theorem dX1_from_36 : decode cX1_from 36 = .ok (.aload_n 0, 1) := by decide +kernel
theorem dX1_from_37 : decode cX1_from 37 = .ok (.getfield 13, 3) := by decide +kernel
theorem dX1_from_40 : decode cX1_from 40 = .ok (.bipush 6, 2) := by decide +kernel
theorem dX1_from_42 : decode cX1_from 42 = .ok (.iload_n 2, 1) := by decide +kernel
theorem dX1_from_43 : decode cX1_from 43 = .ok (.imul, 1) := by decide +kernel
theorem dX1_from_44 : decode cX1_from 44 = .ok (.iload_n 1, 1) := by decide +kernel
theorem dX1_from_45 : decode cX1_from 45 = .ok (.iadd, 1) := by decide +kernel
theorem dX1_from_46 : decode cX1_from 46 = .ok (.daload, 1) := by decide +kernel
theorem dX1_from_47 : decode cX1_from 47 = .ok (.dmul, 1) := by decide +kernel
theorem dX1_from_48 : decode cX1_from 48 = .ok (.dcmp .l, 1) := by decide +kernel
theorem dX1_from_49 : decode cX1_from 49 = .ok (.ifCond .le 5, 3) := by decide +kernel
theorem dX1_from_52 : decode cX1_from 52 = .ok (.iload_n 3, 1) := by decide +kernel
theorem dX1_from_53 : decode cX1_from 53 = .ok (.istore_n 2, 1) := by decide +kernel
theorem dX1_from_54 : decode cX1_from 54 = .ok (.iinc 3 1, 3) := by decide +kernel
theorem dX1_from_57 : decode cX1_from 57 = .ok (.goto (-53), 3) := by decide +kernel
theorem dX1_from_60 : decode cX1_from 60 = .ok (.iload_n 2, 1) := by decide +kernel
theorem dX1_from_61 : decode cX1_from 61 = .ok (.ireturn, 1) := by decide +kernel
set_option maxRecDepth 20000 in
theorem ggX1_fault_X1_state : GoodIn wsX1_fault wsX1_state := goodIn_r _ [6, 7, 8, 9, 10, 11, 12, 13, 14, 15, 16, 17, 18] (by decide +kernel) (by decide +kernel)
set_option maxRecDepth 20000 in
theorem gX1_fault_X1_state : GoodIn wsX1_fault (wsV RX1 46 RX1 yX1_state wsX1_state) := goodIn_app (goodIn_of _ (by decide +kernel)) ggX1_fault_X1_state
theorem dX1_fault_0 : decode cX1_fault 0 = .ok (.iload_n 1, 1) := by decide +kernel
theorem dX1_fault_1 : decode cX1_fault 1 = .ok (.ifCond .lt 11, 3) := by decide +kernel
theorem dX1_fault_4 : decode cX1_fault 4 = .ok (.iload_n 1, 1) := by decide +kernel
theorem dX1_fault_5 : decode cX1_fault 5 = .ok (.aload_n 0, 1) := by decide +kernel
theorem dX1_fault_6 : decode cX1_fault 6 = .ok (.getfield 43, 3) := by decide +kernel
theorem dX1_fault_9 : decode cX1_fault 9 = .ok (.if_icmp .lt 7, 3) := by decide +kernel
theorem dX1_fault_12 : decode cX1_fault 12 = .ok (.iconst 1, 1) := by decide +kernel
theorem dX1_fault_13 : decode cX1_fault 13 = .ok (.goto 16, 3) := by decide +kernel
theorem dX1_fault_16 : decode cX1_fault 16 = .ok (.aload_n 0, 1) := by decide +kernel
theorem dX1_fault_17 : decode cX1_fault 17 = .ok (.iload_n 2, 1) := by decide +kernel
theorem dX1_fault_18 : decode cX1_fault 18 = .ok (.invokevirtual 46, 3) := by decide +kernel
theorem dX1_fault_21 : decode cX1_fault 21 = .ok (.ifCond .eq 7, 3) := by decide +kernel
theorem dX1_fault_24 : decode cX1_fault 24 = .ok (.iconst 0, 1) := by decide +kernel
theorem dX1_fault_25 : decode cX1_fault 25 = .ok (.goto 4, 3) := by decide +kernel
theorem dX1_fault_28 : decode cX1_fault 28 = .ok (.iconst 2, 1) := by decide +kernel
theorem dX1_fault_29 : decode cX1_fault 29 = .ok (.ireturn, 1) := by decide +kernel
set_option maxRecDepth 20000 in
theorem ggX1_forward_X1_fault : GoodIn wsX1_forward wsX1_fault := goodIn_r _ [7, 8, 9, 10, 11, 6, 12, 13, 31, 32, 33, 34, 35, 36, 37, 38, 39, 40, 41] (by decide +kernel) (by decide +kernel)
set_option maxRecDepth 20000 in
theorem gX1_forward_X1_fault : GoodIn wsX1_forward (wsV RX1 68 RX1 yX1_fault wsX1_fault) := goodIn_app (goodIn_of _ (by decide +kernel)) ggX1_forward_X1_fault
set_option maxRecDepth 20000 in
theorem ggX1_forward_X1_ahead : GoodIn wsX1_forward wsX1_ahead := goodIn_ca (goodIn_r _ [17, 13, 2, 18, 19, 20, 21, 22, 23, 6, 24, 25, 26, 27, 28, 29, 30, 31, 32, 33, 34, 35, 36, 37, 38, 39, 40, 41] (by decide +kernel) (by decide +kernel)) (goodIn_sub (fun _ h => List.mem_cons_of_mem _ (List.mem_append_right _ h)) (by decide +kernel))
set_option maxRecDepth 20000 in
theorem gX1_forward_X1_ahead : GoodIn wsX1_forward (wsV RX1 72 RX1 yX1_ahead wsX1_ahead) := goodIn_app (goodIn_of _ (by decide +kernel)) ggX1_forward_X1_ahead
theorem dX1_forward_0 : decode cX1_forward 0 = .ok (.aload_n 0, 1) := by decide +kernel
theorem dX1_forward_1 : decode cX1_forward 1 = .ok (.aload_n 0, 1) := by decide +kernel
theorem dX1_forward_2 : decode cX1_forward 2 = .ok (.iload_n 1, 1) := by decide +kernel
theorem dX1_forward_3 : decode cX1_forward 3 = .ok (.iload_n 2, 1) := by decide +kernel
theorem dX1_forward_4 : decode cX1_forward 4 = .ok (.invokevirtual 68, 3) := by decide +kernel
theorem dX1_forward_7 : decode cX1_forward 7 = .ok (.putfield 40, 3) := by decide +kernel
theorem dX1_forward_10 : decode cX1_forward 10 = .ok (.aload_n 0, 1) := by decide +kernel
theorem dX1_forward_11 : decode cX1_forward 11 = .ok (.getfield 40, 3) := by decide +kernel
theorem dX1_forward_14 : decode cX1_forward 14 = .ok (.ifCond .le 5, 3) := by decide +kernel
theorem dX1_forward_17 : decode cX1_forward 17 = .ok (.dconst 0, 1) := by decide +kernel
theorem dX1_forward_18 : decode cX1_forward 18 = .ok (.dreturn, 1) := by decide +kernel
theorem dX1_forward_19 : decode cX1_forward 19 = .ok (.aload_n 0, 1) := by decide +kernel
theorem dX1_forward_20 : decode cX1_forward 20 = .ok (.iload_n 1, 1) := by decide +kernel
theorem dX1_forward_21 : decode cX1_forward 21 = .ok (.invokevirtual 72, 3) := by decide +kernel
theorem dX1_forward_24 : decode cX1_forward 24 = .ok (.aload_n 0, 1) := by decide +kernel
theorem dX1_forward_25 : decode cX1_forward 25 = .ok (.getfield 23, 3) := by decide +kernel
theorem dX1_forward_28 : decode cX1_forward 28 = .ok (.iload_n 2, 1) := by decide +kernel
theorem dX1_forward_29 : decode cX1_forward 29 = .ok (.daload, 1) := by decide +kernel
theorem dX1_forward_30 : decode cX1_forward 30 = .ok (.dreturn, 1) := by decide +kernel
set_option maxRecDepth 20000 in
theorem ggX1_backward_X1_fault : GoodIn wsX1_backward wsX1_fault := goodIn_r _ [7, 8, 9, 10, 11, 6, 12, 13, 30, 31, 32, 33, 34, 35, 36, 37, 38, 39, 40] (by decide +kernel) (by decide +kernel)
set_option maxRecDepth 20000 in
theorem gX1_backward_X1_fault : GoodIn wsX1_backward (wsV RX1 68 RX1 yX1_fault wsX1_fault) := goodIn_app (goodIn_of _ (by decide +kernel)) ggX1_backward_X1_fault
set_option maxRecDepth 20000 in
theorem ggX1_backward_X1_behind : GoodIn wsX1_backward wsX1_behind := goodIn_ca (goodIn_r _ [17, 13, 2, 8, 18, 19, 20, 21, 22, 6, 23, 24, 25, 26, 27, 28, 29, 30, 31, 32, 33, 34, 35, 36, 37, 38, 39, 40] (by decide +kernel) (by decide +kernel)) (goodIn_sub (fun _ h => List.mem_cons_of_mem _ (List.mem_append_right _ h)) (by decide +kernel))
set_option maxRecDepth 20000 in
theorem gX1_backward_X1_behind : GoodIn wsX1_backward (wsV RX1 76 RX1 yX1_behind wsX1_behind) := goodIn_app (goodIn_of _ (by decide +kernel)) ggX1_backward_X1_behind
theorem dX1_backward_0 : decode cX1_backward 0 = .ok (.aload_n 0, 1) := by decide +kernel
theorem dX1_backward_1 : decode cX1_backward 1 = .ok (.aload_n 0, 1) := by decide +kernel
theorem dX1_backward_2 : decode cX1_backward 2 = .ok (.iload_n 1, 1) := by decide +kernel
theorem dX1_backward_3 : decode cX1_backward 3 = .ok (.iload_n 2, 1) := by decide +kernel
theorem dX1_backward_4 : decode cX1_backward 4 = .ok (.invokevirtual 68, 3) := by decide +kernel
theorem dX1_backward_7 : decode cX1_backward 7 = .ok (.putfield 40, 3) := by decide +kernel
theorem dX1_backward_10 : decode cX1_backward 10 = .ok (.aload_n 0, 1) := by decide +kernel
theorem dX1_backward_11 : decode cX1_backward 11 = .ok (.getfield 40, 3) := by decide +kernel
theorem dX1_backward_14 : decode cX1_backward 14 = .ok (.ifCond .le 5, 3) := by decide +kernel
theorem dX1_backward_17 : decode cX1_backward 17 = .ok (.dconst 0, 1) := by decide +kernel
theorem dX1_backward_18 : decode cX1_backward 18 = .ok (.dreturn, 1) := by decide +kernel
theorem dX1_backward_19 : decode cX1_backward 19 = .ok (.aload_n 0, 1) := by decide +kernel
theorem dX1_backward_20 : decode cX1_backward 20 = .ok (.iload_n 1, 1) := by decide +kernel
theorem dX1_backward_21 : decode cX1_backward 21 = .ok (.invokevirtual 76, 3) := by decide +kernel
theorem dX1_backward_24 : decode cX1_backward 24 = .ok (.aload_n 0, 1) := by decide +kernel
theorem dX1_backward_25 : decode cX1_backward 25 = .ok (.getfield 23, 3) := by decide +kernel
theorem dX1_backward_28 : decode cX1_backward 28 = .ok (.iload_n 2, 1) := by decide +kernel
theorem dX1_backward_29 : decode cX1_backward 29 = .ok (.daload, 1) := by decide +kernel
theorem dX1_backward_30 : decode cX1_backward 30 = .ok (.dreturn, 1) := by decide +kernel
set_option maxRecDepth 20000 in
theorem ggX1_all_X1_ahead : GoodIn wsX1_all wsX1_ahead := goodIn_ca (goodIn_r _ [8, 2, 3, 9, 10, 11, 12, 13, 14, 7, 15, 16, 17, 18, 19, 20, 21, 22, 23, 24, 25, 26, 27, 28, 29, 30, 31, 32] (by decide +kernel) (by decide +kernel)) (goodIn_sub (fun _ h => List.mem_cons_of_mem _ (List.mem_append_right _ h)) (by decide +kernel))
set_option maxRecDepth 20000 in
theorem gX1_all_X1_ahead : GoodIn wsX1_all (wsV RX1 72 RX1 yX1_ahead wsX1_ahead) := goodIn_app (goodIn_of _ (by decide +kernel)) ggX1_all_X1_ahead
theorem dX1_all_0 : decode cX1_all 0 = .ok (.aload_n 0, 1) := by decide +kernel
theorem dX1_all_1 : decode cX1_all 1 = .ok (.getfield 43, 3) := by decide +kernel
theorem dX1_all_4 : decode cX1_all 4 = .ok (.ifCond .ne 5, 3) := by decide +kernel
theorem dX1_all_7 : decode cX1_all 7 = .ok (.dconst 1, 1) := by decide +kernel
theorem dX1_all_8 : decode cX1_all 8 = .ok (.dreturn, 1) := by decide +kernel
theorem dX1_all_9 : decode cX1_all 9 = .ok (.aload_n 0, 1) := by decide +kernel
theorem dX1_all_10 : decode cX1_all 10 = .ok (.aload_n 0, 1) := by decide +kernel
theorem dX1_all_11 : decode cX1_all 11 = .ok (.getfield 43, 3) := by decide +kernel
theorem dX1_all_14 : decode cX1_all 14 = .ok (.iconst 1, 1) := by decide +kernel
theorem dX1_all_15 : decode cX1_all 15 = .ok (.isub, 1) := by decide +kernel
theorem dX1_all_16 : decode cX1_all 16 = .ok (.invokevirtual 72, 3) := by decide +kernel
theorem dX1_all_19 : decode cX1_all 19 = .ok (.dconst 0, 1) := by decide +kernel
theorem dX1_all_20 : decode cX1_all 20 = .ok (.dstore_n 1, 1) := by decide +kernel
theorem dX1_all_21 : decode cX1_all 21 = .ok (.iconst 0, 1) := by decide +kernel
theorem dX1_all_22 : decode cX1_all 22 = .ok (.istore_n 3, 1) := by decide +kernel
theorem dX1_all_23 : decode cX1_all 23 = .ok (.iload_n 3, 1) := by decide +kernel
theorem dX1_all_24 : decode cX1_all 24 = .ok (.aload_n 0, 1) := by decide +kernel
theorem dX1_all_25 : decode cX1_all 25 = .ok (.getfield 36, 3) := by decide +kernel
theorem dX1_all_28 : decode cX1_all 28 = .ok (.if_icmp .ge 18, 3) := by decide +kernel
theorem dX1_all_31 : decode cX1_all 31 = .ok (.dload_n 1, 1) := by decide +kernel
theorem dX1_all_32 : decode cX1_all 32 = .ok (.aload_n 0, 1) := by decide +kernel
theorem dX1_all_33 : decode cX1_all 33 = .ok (.getfield 23, 3) := by decide +kernel
theorem dX1_all_36 : decode cX1_all 36 = .ok (.iload_n 3, 1) := by decide +kernel
theorem dX1_all_37 : decode cX1_all 37 = .ok (.daload, 1) := by decide +kernel
theorem dX1_all_38 : decode cX1_all 38 = .ok (.dadd, 1) := by decide +kernel
theorem dX1_all_39 : decode cX1_all 39 = .ok (.dstore_n 1, 1) := by decide +kernel
theorem dX1_all_40 : decode cX1_all 40 = .ok (.iinc 3 1, 3) := by decide +kernel
theorem dX1_all_43 : decode cX1_all 43 = .ok (.goto (-20), 3) := by decide +kernel
theorem dX1_all_46 : decode cX1_all 46 = .ok (.dload_n 1, 1) := by decide +kernel
theorem dX1_all_47 : decode cX1_all 47 = .ok (.dreturn, 1) := by decide +kernel
set_option maxRecDepth 20000 in
theorem ggX1_total_X1_all : GoodIn wsX1_total wsX1_all := goodIn_ca (goodIn_r _ [6, 7, 8, 9, 10, 11, 12, 5, 13, 14, 15, 16, 17, 18, 19, 20, 21, 22, 23, 24, 25, 26, 27, 28, 29, 30, 31, 32, 33, 34, 35, 36, 37] (by decide +kernel) (by decide +kernel)) (goodIn_sub (fun _ h => List.mem_cons_of_mem _ (List.mem_append_right _ h)) (by decide +kernel))
set_option maxRecDepth 20000 in
theorem gX1_total_X1_all : GoodIn wsX1_total (wsV RX1 79 RX1 yX1_all wsX1_all) := goodIn_app (goodIn_of _ (by decide +kernel)) ggX1_total_X1_all
theorem dX1_total_0 : decode cX1_total 0 = .ok (.aload_n 0, 1) := by decide +kernel
theorem dX1_total_1 : decode cX1_total 1 = .ok (.iconst 0, 1) := by decide +kernel
theorem dX1_total_2 : decode cX1_total 2 = .ok (.putfield 40, 3) := by decide +kernel
theorem dX1_total_5 : decode cX1_total 5 = .ok (.aload_n 0, 1) := by decide +kernel
theorem dX1_total_6 : decode cX1_total 6 = .ok (.invokevirtual 79, 3) := by decide +kernel
theorem dX1_total_9 : decode cX1_total 9 = .ok (.dreturn, 1) := by decide +kernel
theorem dX1_last_0 : decode cX1_last 0 = .ok (.iconst 0, 1) := by decide +kernel
theorem dX1_last_1 : decode cX1_last 1 = .ok (.istore_n 1, 1) := by decide +kernel
theorem dX1_last_2 : decode cX1_last 2 = .ok (.iconst 1, 1) := by decide +kernel
theorem dX1_last_3 : decode cX1_last 3 = .ok (.istore_n 2, 1) := by decide +kernel
theorem dX1_last_4 : decode cX1_last 4 = .ok (.iload_n 2, 1) := by decide +kernel
theorem dX1_last_5 : decode cX1_last 5 = .ok (.aload_n 0, 1) := by decide +kernel
theorem dX1_last_6 : decode cX1_last 6 = .ok (.getfield 36, 3) := by decide +kernel
theorem dX1_last_9 : decode cX1_last 9 = .ok (.if_icmp .ge 27, 3) := by decide +kernel
theorem dX1_last_12 : decode cX1_last 12 = .ok (.aload_n 0, 1) := by decide +kernel
theorem dX1_last_13 : decode cX1_last 13 = .ok (.getfield 23, 3) := by decide +kernel
theorem dX1_last_16 : decode cX1_last 16 = .ok (.iload_n 2, 1) := by decide +kernel
theorem dX1_last_17 : decode cX1_last 17 = .ok (.daload, 1) := by decide +kernel
theorem dX1_last_18 : decode cX1_last 18 = .ok (.aload_n 0, 1) := by decide +kernel
theorem dX1_last_19 : decode cX1_last 19 = .ok (.getfield 23, 3) := by decide +kernel
theorem dX1_last_22 : decode cX1_last 22 = .ok (.iload_n 1, 1) := by decide +kernel
theorem dX1_last_23 : decode cX1_last 23 = .ok (.daload, 1) := by decide +kernel
theorem dX1_last_24 : decode cX1_last 24 = .ok (.dcmp .l, 1) := by decide +kernel
theorem dX1_last_25 : decode cX1_last 25 = .ok (.ifCond .le 5, 3) := by decide +kernel
theorem dX1_last_28 : decode cX1_last 28 = .ok (.iload_n 2, 1) := by decide +kernel
theorem dX1_last_29 : decode cX1_last 29 = .ok (.istore_n 1, 1) := by decide +kernel
theorem dX1_last_30 : decode cX1_last 30 = .ok (.iinc 2 1, 3) := by decide +kernel
theorem dX1_last_33 : decode cX1_last 33 = .ok (.goto (-29), 3) := by decide +kernel
theorem dX1_last_36 : decode cX1_last 36 = .ok (.iload_n 1, 1) := by decide +kernel
theorem dX1_last_37 : decode cX1_last 37 = .ok (.ireturn, 1) := by decide +kernel
set_option maxRecDepth 20000 in
theorem ggX1_best_X1_greatest : GoodIn wsX1_best wsX1_greatest := goodIn_ca (goodIn_r _ [8, 9, 3, 10, 11, 12, 13, 14, 15, 7, 16, 17, 18, 19, 20, 21, 22, 23, 24, 25, 26, 31, 32, 33, 34, 35, 36, 37, 38, 39, 40, 41] (by decide +kernel) (by decide +kernel)) (goodIn_sub (fun _ h => List.mem_cons_of_mem _ (List.mem_append_right _ h)) (by decide +kernel))
set_option maxRecDepth 20000 in
theorem gX1_best_X1_greatest : GoodIn wsX1_best (wsV RX1 83 RX1 yX1_greatest wsX1_greatest) := goodIn_app (goodIn_of _ (by decide +kernel)) ggX1_best_X1_greatest
set_option maxRecDepth 20000 in
theorem ggX1_best_X1_last : GoodIn wsX1_best wsX1_last := goodIn_ca (goodIn_r _ [30, 9, 3, 31, 32, 33, 34, 35, 36, 37, 38, 39, 40, 41] (by decide +kernel) (by decide +kernel)) (goodIn_sub (fun _ h => List.mem_cons_of_mem _ (List.mem_append_right _ h)) (by decide +kernel))
set_option maxRecDepth 20000 in
theorem gX1_best_X1_last : GoodIn wsX1_best (wsV RX1 86 RX1 yX1_last wsX1_last) := goodIn_app (goodIn_of _ (by decide +kernel)) ggX1_best_X1_last
theorem dX1_best_0 : decode cX1_best 0 = .ok (.aload_n 0, 1) := by decide +kernel
theorem dX1_best_1 : decode cX1_best 1 = .ok (.iconst 0, 1) := by decide +kernel
theorem dX1_best_2 : decode cX1_best 2 = .ok (.putfield 40, 3) := by decide +kernel
theorem dX1_best_5 : decode cX1_best 5 = .ok (.aload_n 0, 1) := by decide +kernel
theorem dX1_best_6 : decode cX1_best 6 = .ok (.getfield 43, 3) := by decide +kernel
theorem dX1_best_9 : decode cX1_best 9 = .ok (.ifCond .ne 5, 3) := by decide +kernel
theorem dX1_best_12 : decode cX1_best 12 = .ok (.dconst 1, 1) := by decide +kernel
theorem dX1_best_13 : decode cX1_best 13 = .ok (.dreturn, 1) := by decide +kernel
theorem dX1_best_14 : decode cX1_best 14 = .ok (.aload_n 0, 1) := by decide +kernel
theorem dX1_best_15 : decode cX1_best 15 = .ok (.aload_n 0, 1) := by decide +kernel
theorem dX1_best_16 : decode cX1_best 16 = .ok (.getfield 43, 3) := by decide +kernel
theorem dX1_best_19 : decode cX1_best 19 = .ok (.iconst 1, 1) := by decide +kernel
theorem dX1_best_20 : decode cX1_best 20 = .ok (.isub, 1) := by decide +kernel
theorem dX1_best_21 : decode cX1_best 21 = .ok (.invokevirtual 83, 3) := by decide +kernel
theorem dX1_best_24 : decode cX1_best 24 = .ok (.aload_n 0, 1) := by decide +kernel
theorem dX1_best_25 : decode cX1_best 25 = .ok (.getfield 23, 3) := by decide +kernel
theorem dX1_best_28 : decode cX1_best 28 = .ok (.aload_n 0, 1) := by decide +kernel
theorem dX1_best_29 : decode cX1_best 29 = .ok (.invokevirtual 86, 3) := by decide +kernel
theorem dX1_best_32 : decode cX1_best 32 = .ok (.daload, 1) := by decide +kernel
theorem dX1_best_33 : decode cX1_best 33 = .ok (.dreturn, 1) := by decide +kernel
set_option maxRecDepth 20000 in
theorem ggX1_bestState_X1_greatest : GoodIn wsX1_bestState wsX1_greatest := goodIn_ca (goodIn_r _ [7, 8, 9, 10, 11, 12, 13, 14, 15, 6, 16, 17, 18, 19, 20, 21, 22, 23, 24, 25, 26, 31, 32, 33, 34, 35, 36, 37, 38, 39, 40, 41] (by decide +kernel) (by decide +kernel)) (goodIn_sub (fun _ h => List.mem_cons_of_mem _ (List.mem_append_right _ h)) (by decide +kernel))
set_option maxRecDepth 20000 in
theorem gX1_bestState_X1_greatest : GoodIn wsX1_bestState (wsV RX1 83 RX1 yX1_greatest wsX1_greatest) := goodIn_app (goodIn_of _ (by decide +kernel)) ggX1_bestState_X1_greatest
set_option maxRecDepth 20000 in
theorem ggX1_bestState_X1_last : GoodIn wsX1_bestState wsX1_last := goodIn_ca (goodIn_r _ [30, 8, 9, 31, 32, 33, 34, 35, 36, 37, 38, 39, 40, 41] (by decide +kernel) (by decide +kernel)) (goodIn_sub (fun _ h => List.mem_cons_of_mem _ (List.mem_append_right _ h)) (by decide +kernel))
set_option maxRecDepth 20000 in
theorem gX1_bestState_X1_last : GoodIn wsX1_bestState (wsV RX1 86 RX1 yX1_last wsX1_last) := goodIn_app (goodIn_of _ (by decide +kernel)) ggX1_bestState_X1_last
set_option maxRecDepth 20000 in
theorem ggX1_bestState_X1_shift : GoodIn wsX1_bestState wsX1_shift := goodIn_ca (goodIn_r _ [22, 11, 9, 31, 32, 33, 34, 35, 36, 37, 38, 39, 40, 41] (by decide +kernel) (by decide +kernel)) (goodIn_sub (fun _ h => List.mem_cons_of_mem _ (List.mem_append_right _ h)) (by decide +kernel))
set_option maxRecDepth 20000 in
theorem gX1_bestState_X1_shift : GoodIn wsX1_bestState (wsV RX1 61 RX1 yX1_shift wsX1_shift) := goodIn_app (goodIn_of _ (by decide +kernel)) ggX1_bestState_X1_shift
set_option maxRecDepth 20000 in
theorem ggX1_bestState_X1_from : GoodIn wsX1_bestState wsX1_from := goodIn_ca (goodIn_r _ [26, 8, 11, 12, 31, 32, 33, 34, 35, 36, 37, 38, 39, 40, 41] (by decide +kernel) (by decide +kernel)) (goodIn_sub (fun _ h => List.mem_cons_of_mem _ (List.mem_append_right _ h)) (by decide +kernel))
set_option maxRecDepth 20000 in
theorem gX1_bestState_X1_from : GoodIn wsX1_bestState (wsV RX1 64 RX1 yX1_from wsX1_from) := goodIn_app (goodIn_of _ (by decide +kernel)) ggX1_bestState_X1_from
theorem dX1_bestState_0 : decode cX1_bestState 0 = .ok (.aload_n 0, 1) := by decide +kernel
theorem dX1_bestState_1 : decode cX1_bestState 1 = .ok (.iconst 0, 1) := by decide +kernel
theorem dX1_bestState_2 : decode cX1_bestState 2 = .ok (.putfield 40, 3) := by decide +kernel
theorem dX1_bestState_5 : decode cX1_bestState 5 = .ok (.iload_n 1, 1) := by decide +kernel
theorem dX1_bestState_6 : decode cX1_bestState 6 = .ok (.ifCond .lt 11, 3) := by decide +kernel
theorem dX1_bestState_9 : decode cX1_bestState 9 = .ok (.iload_n 1, 1) := by decide +kernel
theorem dX1_bestState_10 : decode cX1_bestState 10 = .ok (.aload_n 0, 1) := by decide +kernel
theorem dX1_bestState_11 : decode cX1_bestState 11 = .ok (.getfield 43, 3) := by decide +kernel
theorem dX1_bestState_14 : decode cX1_bestState 14 = .ok (.if_icmp .lt 5, 3) := by decide +kernel
theorem dX1_bestState_17 : decode cX1_bestState 17 = .ok (.iconst (-1), 1) := by decide +kernel
theorem dX1_bestState_18 : decode cX1_bestState 18 = .ok (.ireturn, 1) := by decide +kernel
theorem dX1_bestState_19 : decode cX1_bestState 19 = .ok (.aload_n 0, 1) := by decide +kernel
theorem dX1_bestState_20 : decode cX1_bestState 20 = .ok (.aload_n 0, 1) := by decide +kernel
theorem dX1_bestState_21 : decode cX1_bestState 21 = .ok (.getfield 43, 3) := by decide +kernel
theorem dX1_bestState_24 : decode cX1_bestState 24 = .ok (.iconst 1, 1) := by decide +kernel
theorem dX1_bestState_25 : decode cX1_bestState 25 = .ok (.isub, 1) := by decide +kernel
theorem dX1_bestState_26 : decode cX1_bestState 26 = .ok (.invokevirtual 83, 3) := by decide +kernel
theorem dX1_bestState_29 : decode cX1_bestState 29 = .ok (.aload_n 0, 1) := by decide +kernel
theorem dX1_bestState_30 : decode cX1_bestState 30 = .ok (.invokevirtual 86, 3) := by decide +kernel
theorem dX1_bestState_33 : decode cX1_bestState 33 = .ok (.istore_n 2, 1) := by decide +kernel
theorem dX1_bestState_34 : decode cX1_bestState 34 = .ok (.aload_n 0, 1) := by decide +kernel
theorem dX1_bestState_35 : decode cX1_bestState 35 = .ok (.getfield 43, 3) := by decide +kernel
theorem dX1_bestState_38 : decode cX1_bestState 38 = .ok (.iconst 1, 1) := by decide +kernel
theorem dX1_bestState_39 : decode cX1_bestState 39 = .ok (.isub, 1) := by decide +kernel
theorem dX1_bestState_40 : decode cX1_bestState 40 = .ok (.istore_n 3, 1) := by decide +kernel
theorem dX1_bestState_41 : decode cX1_bestState 41 = .ok (.iload_n 3, 1) := by decide +kernel
theorem dX1_bestState_42 : decode cX1_bestState 42 = .ok (.iload_n 1, 1) := by decide +kernel
theorem dX1_bestState_43 : decode cX1_bestState 43 = .ok (.if_icmp .le 26, 3) := by decide +kernel
theorem dX1_bestState_46 : decode cX1_bestState 46 = .ok (.aload_n 0, 1) := by decide +kernel
theorem dX1_bestState_47 : decode cX1_bestState 47 = .ok (.iload_n 3, 1) := by decide +kernel
theorem dX1_bestState_48 : decode cX1_bestState 48 = .ok (.iconst 1, 1) := by decide +kernel
theorem dX1_bestState_49 : decode cX1_bestState 49 = .ok (.isub, 1) := by decide +kernel
theorem dX1_bestState_50 : decode cX1_bestState 50 = .ok (.invokevirtual 83, 3) := by decide +kernel
theorem dX1_bestState_53 : decode cX1_bestState 53 = .ok (.aload_n 0, 1) := by decide +kernel
theorem dX1_bestState_54 : decode cX1_bestState 54 = .ok (.invokevirtual 61, 3) := by decide +kernel
theorem dX1_bestState_57 : decode cX1_bestState 57 = .ok (.aload_n 0, 1) := by decide +kernel
theorem dX1_bestState_58 : decode cX1_bestState 58 = .ok (.iload_n 2, 1) := by decide +kernel
theorem dX1_bestState_59 : decode cX1_bestState 59 = .ok (.invokevirtual 64, 3) := by decide +kernel
theorem dX1_bestState_62 : decode cX1_bestState 62 = .ok (.istore_n 2, 1) := by decide +kernel
theorem dX1_bestState_63 : decode cX1_bestState 63 = .ok (.iinc 3 (-1), 3) := by decide +kernel
theorem dX1_bestState_66 : decode cX1_bestState 66 = .ok (.goto (-25), 3) := by decide +kernel
theorem dX1_bestState_69 : decode cX1_bestState 69 = .ok (.iload_n 2, 1) := by decide +kernel
theorem dX1_bestState_70 : decode cX1_bestState 70 = .ok (.ireturn, 1) := by decide +kernel
set_option maxRecDepth 20000 in
theorem ggX1_share_X1_fault : GoodIn wsX1_share wsX1_fault := goodIn_r _ [7, 8, 9, 10, 11, 6, 12, 13, 39, 40, 41, 42, 43, 44, 45, 46, 47, 48, 49] (by decide +kernel) (by decide +kernel)
set_option maxRecDepth 20000 in
theorem gX1_share_X1_fault : GoodIn wsX1_share (wsV RX1 68 RX1 yX1_fault wsX1_fault) := goodIn_app (goodIn_of _ (by decide +kernel)) ggX1_share_X1_fault
set_option maxRecDepth 20000 in
theorem ggX1_share_X1_all : GoodIn wsX1_share wsX1_all := goodIn_ca (goodIn_r _ [17, 8, 13, 2, 18, 19, 20, 6, 21, 22, 23, 24, 25, 26, 27, 28, 29, 30, 31, 32, 33, 34, 39, 40, 41, 42, 43, 44, 45, 46, 47, 48, 49] (by decide +kernel) (by decide +kernel)) (goodIn_sub (fun _ h => List.mem_cons_of_mem _ (List.mem_append_right _ h)) (by decide +kernel))
set_option maxRecDepth 20000 in
theorem gX1_share_X1_all : GoodIn wsX1_share (wsV RX1 79 RX1 yX1_all wsX1_all) := goodIn_app (goodIn_of _ (by decide +kernel)) ggX1_share_X1_all
set_option maxRecDepth 20000 in
theorem ggX1_share_X1_ahead : GoodIn wsX1_share wsX1_ahead := goodIn_ca (goodIn_r _ [21, 13, 2, 22, 23, 24, 25, 26, 27, 6, 28, 29, 30, 31, 32, 33, 34, 39, 40, 41, 42, 43, 44, 45, 46, 47, 48, 49] (by decide +kernel) (by decide +kernel)) (goodIn_sub (fun _ h => List.mem_cons_of_mem _ (List.mem_append_right _ h)) (by decide +kernel))
set_option maxRecDepth 20000 in
theorem gX1_share_X1_ahead : GoodIn wsX1_share (wsV RX1 72 RX1 yX1_ahead wsX1_ahead) := goodIn_app (goodIn_of _ (by decide +kernel)) ggX1_share_X1_ahead
set_option maxRecDepth 20000 in
theorem ggX1_share_X1_behind : GoodIn wsX1_share wsX1_behind := goodIn_ca (goodIn_r _ [38, 13, 2, 8, 24, 23, 31, 32, 33, 6, 34, 25, 26, 27, 28, 29, 30, 39, 40, 41, 42, 43, 44, 45, 46, 47, 48, 49] (by decide +kernel) (by decide +kernel)) (goodIn_sub (fun _ h => List.mem_cons_of_mem _ (List.mem_append_right _ h)) (by decide +kernel))
set_option maxRecDepth 20000 in
theorem gX1_share_X1_behind : GoodIn wsX1_share (wsV RX1 76 RX1 yX1_behind wsX1_behind) := goodIn_app (goodIn_of _ (by decide +kernel)) ggX1_share_X1_behind
theorem dX1_share_0 : decode cX1_share 0 = .ok (.aload_n 0, 1) := by decide +kernel
theorem dX1_share_1 : decode cX1_share 1 = .ok (.aload_n 0, 1) := by decide +kernel
theorem dX1_share_2 : decode cX1_share 2 = .ok (.iload_n 1, 1) := by decide +kernel
theorem dX1_share_3 : decode cX1_share 3 = .ok (.iload_n 2, 1) := by decide +kernel
theorem dX1_share_4 : decode cX1_share 4 = .ok (.invokevirtual 68, 3) := by decide +kernel
theorem dX1_share_7 : decode cX1_share 7 = .ok (.putfield 40, 3) := by decide +kernel
theorem dX1_share_10 : decode cX1_share 10 = .ok (.aload_n 0, 1) := by decide +kernel
theorem dX1_share_11 : decode cX1_share 11 = .ok (.getfield 40, 3) := by decide +kernel
theorem dX1_share_14 : decode cX1_share 14 = .ok (.ifCond .le 5, 3) := by decide +kernel
theorem dX1_share_17 : decode cX1_share 17 = .ok (.dconst 0, 1) := by decide +kernel
theorem dX1_share_18 : decode cX1_share 18 = .ok (.dreturn, 1) := by decide +kernel
theorem dX1_share_19 : decode cX1_share 19 = .ok (.aload_n 0, 1) := by decide +kernel
theorem dX1_share_20 : decode cX1_share 20 = .ok (.invokevirtual 79, 3) := by decide +kernel
theorem dX1_share_23 : decode cX1_share 23 = .ok (.dstore_n 3, 1) := by decide +kernel
theorem dX1_share_24 : decode cX1_share 24 = .ok (.dload_n 3, 1) := by decide +kernel
theorem dX1_share_25 : decode cX1_share 25 = .ok (.dconst 0, 1) := by decide +kernel
theorem dX1_share_26 : decode cX1_share 26 = .ok (.dcmp .l, 1) := by decide +kernel
theorem dX1_share_27 : decode cX1_share 27 = .ok (.ifCond .ne 10, 3) := by decide +kernel
theorem dX1_share_30 : decode cX1_share 30 = .ok (.aload_n 0, 1) := by decide +kernel
theorem dX1_share_31 : decode cX1_share 31 = .ok (.iconst 3, 1) := by decide +kernel
theorem dX1_share_32 : decode cX1_share 32 = .ok (.putfield 40, 3) := by decide +kernel
theorem dX1_share_35 : decode cX1_share 35 = .ok (.dconst 0, 1) := by decide +kernel
theorem dX1_share_36 : decode cX1_share 36 = .ok (.dreturn, 1) := by decide +kernel
theorem dX1_share_37 : decode cX1_share 37 = .ok (.aload_n 0, 1) := by decide +kernel
theorem dX1_share_38 : decode cX1_share 38 = .ok (.iload_n 1, 1) := by decide +kernel
theorem dX1_share_39 : decode cX1_share 39 = .ok (.invokevirtual 72, 3) := by decide +kernel
theorem dX1_share_42 : decode cX1_share 42 = .ok (.aload_n 0, 1) := by decide +kernel
theorem dX1_share_43 : decode cX1_share 43 = .ok (.getfield 23, 3) := by decide +kernel
theorem dX1_share_46 : decode cX1_share 46 = .ok (.iload_n 2, 1) := by decide +kernel
theorem dX1_share_47 : decode cX1_share 47 = .ok (.daload, 1) := by decide +kernel
theorem dX1_share_48 : decode cX1_share 48 = .ok (.dstore 5, 2) := by decide +kernel
theorem dX1_share_50 : decode cX1_share 50 = .ok (.aload_n 0, 1) := by decide +kernel
theorem dX1_share_51 : decode cX1_share 51 = .ok (.iload_n 1, 1) := by decide +kernel
theorem dX1_share_52 : decode cX1_share 52 = .ok (.invokevirtual 76, 3) := by decide +kernel
theorem dX1_share_55 : decode cX1_share 55 = .ok (.dload 5, 2) := by decide +kernel
theorem dX1_share_57 : decode cX1_share 57 = .ok (.aload_n 0, 1) := by decide +kernel
theorem dX1_share_58 : decode cX1_share 58 = .ok (.getfield 23, 3) := by decide +kernel
theorem dX1_share_61 : decode cX1_share 61 = .ok (.iload_n 2, 1) := by decide +kernel
theorem dX1_share_62 : decode cX1_share 62 = .ok (.daload, 1) := by decide +kernel
theorem dX1_share_63 : decode cX1_share 63 = .ok (.dmul, 1) := by decide +kernel
theorem dX1_share_64 : decode cX1_share 64 = .ok (.dload_n 3, 1) := by decide +kernel
theorem dX1_share_65 : decode cX1_share 65 = .ok (.ddiv, 1) := by decide +kernel
theorem dX1_share_66 : decode cX1_share 66 = .ok (.dreturn, 1) := by decide +kernel
set_option maxRecDepth 20000 in
theorem ggX1_possible_X1_shown : GoodIn wsX1_possible wsX1_shown := goodIn_ca (goodIn_r _ [12, 13, 14, 15, 16, 17, 18, 19, 20, 21, 22, 23, 24, 25] (by decide +kernel) (by decide +kernel)) (goodIn_sub (fun _ h => List.mem_cons_of_mem _ (List.mem_append_right _ h)) (by decide +kernel))
set_option maxRecDepth 20000 in
theorem gX1_possible_X1_shown : GoodIn wsX1_possible (wsV RX1 57 RX1 yX1_shown wsX1_shown) := goodIn_app (goodIn_of _ (by decide +kernel)) ggX1_possible_X1_shown
theorem dX1_possible_0 : decode cX1_possible 0 = .ok (.aload_n 0, 1) := by decide +kernel
theorem dX1_possible_1 : decode cX1_possible 1 = .ok (.iconst 0, 1) := by decide +kernel
theorem dX1_possible_2 : decode cX1_possible 2 = .ok (.putfield 40, 3) := by decide +kernel
theorem dX1_possible_5 : decode cX1_possible 5 = .ok (.aload_n 0, 1) := by decide +kernel
theorem dX1_possible_6 : decode cX1_possible 6 = .ok (.getfield 43, 3) := by decide +kernel
theorem dX1_possible_9 : decode cX1_possible 9 = .ok (.ifCond .ne 5, 3) := by decide +kernel
theorem dX1_possible_12 : decode cX1_possible 12 = .ok (.lconst 1, 1) := by decide +kernel
theorem dX1_possible_13 : decode cX1_possible 13 = .ok (.lreturn, 1) := by decide +kernel
theorem dX1_possible_14 : decode cX1_possible 14 = .ok (.iconst 0, 1) := by decide +kernel
theorem dX1_possible_15 : decode cX1_possible 15 = .ok (.istore_n 1, 1) := by decide +kernel
theorem dX1_possible_16 : decode cX1_possible 16 = .ok (.iload_n 1, 1) := by decide +kernel
theorem dX1_possible_17 : decode cX1_possible 17 = .ok (.bipush 6, 2) := by decide +kernel
theorem dX1_possible_19 : decode cX1_possible 19 = .ok (.if_icmp .ge 50, 3) := by decide +kernel
theorem dX1_possible_22 : decode cX1_possible 22 = .ok (.aload_n 0, 1) := by decide +kernel
theorem dX1_possible_23 : decode cX1_possible 23 = .ok (.getfield 29, 3) := by decide +kernel
theorem dX1_possible_26 : decode cX1_possible 26 = .ok (.iload_n 1, 1) := by decide +kernel
theorem dX1_possible_27 : decode cX1_possible 27 = .ok (.iload_n 1, 1) := by decide +kernel
theorem dX1_possible_28 : decode cX1_possible 28 = .ok (.aload_n 0, 1) := by decide +kernel
theorem dX1_possible_29 : decode cX1_possible 29 = .ok (.getfield 36, 3) := by decide +kernel
theorem dX1_possible_32 : decode cX1_possible 32 = .ok (.if_icmp .ge 29, 3) := by decide +kernel
theorem dX1_possible_35 : decode cX1_possible 35 = .ok (.aload_n 0, 1) := by decide +kernel
theorem dX1_possible_36 : decode cX1_possible 36 = .ok (.getfield 7, 3) := by decide +kernel
theorem dX1_possible_39 : decode cX1_possible 39 = .ok (.iload_n 1, 1) := by decide +kernel
theorem dX1_possible_40 : decode cX1_possible 40 = .ok (.daload, 1) := by decide +kernel
theorem dX1_possible_41 : decode cX1_possible 41 = .ok (.dconst 0, 1) := by decide +kernel
theorem dX1_possible_42 : decode cX1_possible 42 = .ok (.dcmp .l, 1) := by decide +kernel
theorem dX1_possible_43 : decode cX1_possible 43 = .ok (.ifCond .le 18, 3) := by decide +kernel
theorem dX1_possible_46 : decode cX1_possible 46 = .ok (.aload_n 0, 1) := by decide +kernel
theorem dX1_possible_47 : decode cX1_possible 47 = .ok (.iload_n 1, 1) := by decide +kernel
theorem dX1_possible_48 : decode cX1_possible 48 = .ok (.iconst 0, 1) := by decide +kernel
theorem dX1_possible_49 : decode cX1_possible 49 = .ok (.invokevirtual 57, 3) := by decide +kernel
theorem dX1_possible_52 : decode cX1_possible 52 = .ok (.dconst 0, 1) := by decide +kernel
theorem dX1_possible_53 : decode cX1_possible 53 = .ok (.dcmp .l, 1) := by decide +kernel
theorem dX1_possible_54 : decode cX1_possible 54 = .ok (.ifCond .le 7, 3) := by decide +kernel
theorem dX1_possible_57 : decode cX1_possible 57 = .ok (.lconst 1, 1) := by decide +kernel
theorem dX1_possible_58 : decode cX1_possible 58 = .ok (.goto 4, 3) := by decide +kernel
theorem dX1_possible_61 : decode cX1_possible 61 = .ok (.lconst 0, 1) := by decide +kernel
theorem dX1_possible_62 : decode cX1_possible 62 = .ok (.lastore, 1) := by decide +kernel
theorem dX1_possible_63 : decode cX1_possible 63 = .ok (.iinc 1 1, 3) := by decide +kernel
theorem dX1_possible_66 : decode cX1_possible 66 = .ok (.goto (-50), 3) := by decide +kernel
theorem dX1_possible_69 : decode cX1_possible 69 = .ok (.iconst 1, 1) := by decide +kernel
theorem dX1_possible_70 : decode cX1_possible 70 = .ok (.istore_n 1, 1) := by decide +kernel
theorem dX1_possible_71 : decode cX1_possible 71 = .ok (.iload_n 1, 1) := by decide +kernel
theorem dX1_possible_72 : decode cX1_possible 72 = .ok (.aload_n 0, 1) := by decide +kernel
theorem dX1_possible_73 : decode cX1_possible 73 = .ok (.getfield 43, 3) := by decide +kernel
theorem dX1_possible_76 : decode cX1_possible 76 = .ok (.if_icmp .ge 120, 3) := by decide +kernel
theorem dX1_possible_79 : decode cX1_possible 79 = .ok (.iconst 0, 1) := by decide +kernel
theorem dX1_possible_80 : decode cX1_possible 80 = .ok (.istore_n 2, 1) := by decide +kernel
theorem dX1_possible_81 : decode cX1_possible 81 = .ok (.iload_n 2, 1) := by decide +kernel
theorem dX1_possible_82 : decode cX1_possible 82 = .ok (.bipush 6, 2) := by decide +kernel
theorem dX1_possible_84 : decode cX1_possible 84 = .ok (.if_icmp .ge 21, 3) := by decide +kernel
theorem dX1_possible_87 : decode cX1_possible 87 = .ok (.aload_n 0, 1) := by decide +kernel
theorem dX1_possible_88 : decode cX1_possible 88 = .ok (.getfield 33, 3) := by decide +kernel
theorem dX1_possible_91 : decode cX1_possible 91 = .ok (.iload_n 2, 1) := by decide +kernel
theorem dX1_possible_92 : decode cX1_possible 92 = .ok (.aload_n 0, 1) := by decide +kernel
theorem dX1_possible_93 : decode cX1_possible 93 = .ok (.getfield 29, 3) := by decide +kernel
theorem dX1_possible_96 : decode cX1_possible 96 = .ok (.iload_n 2, 1) := by decide +kernel
theorem dX1_possible_97 : decode cX1_possible 97 = .ok (.laload, 1) := by decide +kernel
theorem dX1_possible_98 : decode cX1_possible 98 = .ok (.lastore, 1) := by decide +kernel
theorem dX1_possible_99 : decode cX1_possible 99 = .ok (.iinc 2 1, 3) := by decide +kernel
theorem dX1_possible_102 : decode cX1_possible 102 = .ok (.goto (-21), 3) := by decide +kernel
theorem dX1_possible_105 : decode cX1_possible 105 = .ok (.iconst 0, 1) := by decide +kernel
theorem dX1_possible_106 : decode cX1_possible 106 = .ok (.istore_n 2, 1) := by decide +kernel
theorem dX1_possible_107 : decode cX1_possible 107 = .ok (.iload_n 2, 1) := by decide +kernel
theorem dX1_possible_108 : decode cX1_possible 108 = .ok (.aload_n 0, 1) := by decide +kernel
theorem dX1_possible_109 : decode cX1_possible 109 = .ok (.getfield 36, 3) := by decide +kernel
theorem dX1_possible_112 : decode cX1_possible 112 = .ok (.if_icmp .ge 78, 3) := by decide +kernel
theorem dX1_possible_115 : decode cX1_possible 115 = .ok (.aload_n 0, 1) := by decide +kernel
theorem dX1_possible_116 : decode cX1_possible 116 = .ok (.getfield 29, 3) := by decide +kernel
theorem dX1_possible_119 : decode cX1_possible 119 = .ok (.iload_n 2, 1) := by decide +kernel
theorem dX1_possible_120 : decode cX1_possible 120 = .ok (.lconst 0, 1) := by decide +kernel
theorem dX1_possible_121 : decode cX1_possible 121 = .ok (.lastore, 1) := by decide +kernel
theorem dX1_possible_122 : decode cX1_possible 122 = .ok (.iconst 0, 1) := by decide +kernel
theorem dX1_possible_123 : decode cX1_possible 123 = .ok (.istore_n 3, 1) := by decide +kernel
theorem dX1_possible_124 : decode cX1_possible 124 = .ok (.iload_n 3, 1) := by decide +kernel
theorem dX1_possible_125 : decode cX1_possible 125 = .ok (.aload_n 0, 1) := by decide +kernel
theorem dX1_possible_126 : decode cX1_possible 126 = .ok (.getfield 36, 3) := by decide +kernel
theorem dX1_possible_129 : decode cX1_possible 129 = .ok (.if_icmp .ge 55, 3) := by decide +kernel
theorem dX1_possible_132 : decode cX1_possible 132 = .ok (.aload_n 0, 1) := by decide +kernel
theorem dX1_possible_133 : decode cX1_possible 133 = .ok (.getfield 13, 3) := by decide +kernel
theorem dX1_possible_136 : decode cX1_possible 136 = .ok (.bipush 6, 2) := by decide +kernel
theorem dX1_possible_138 : decode cX1_possible 138 = .ok (.iload_n 3, 1) := by decide +kernel
theorem dX1_possible_139 : decode cX1_possible 139 = .ok (.imul, 1) := by decide +kernel
theorem dX1_possible_140 : decode cX1_possible 140 = .ok (.iload_n 2, 1) := by decide +kernel
theorem dX1_possible_141 : decode cX1_possible 141 = .ok (.iadd, 1) := by decide +kernel
theorem dX1_possible_142 : decode cX1_possible 142 = .ok (.daload, 1) := by decide +kernel
theorem dX1_possible_143 : decode cX1_possible 143 = .ok (.dconst 0, 1) := by decide +kernel
theorem dX1_possible_144 : decode cX1_possible 144 = .ok (.dcmp .l, 1) := by decide +kernel
theorem dX1_possible_145 : decode cX1_possible 145 = .ok (.ifCond .le 33, 3) := by decide +kernel
theorem dX1_possible_148 : decode cX1_possible 148 = .ok (.aload_n 0, 1) := by decide +kernel
theorem dX1_possible_149 : decode cX1_possible 149 = .ok (.iload_n 2, 1) := by decide +kernel
theorem dX1_possible_150 : decode cX1_possible 150 = .ok (.iload_n 1, 1) := by decide +kernel
theorem dX1_possible_151 : decode cX1_possible 151 = .ok (.invokevirtual 57, 3) := by decide +kernel
theorem dX1_possible_154 : decode cX1_possible 154 = .ok (.dconst 0, 1) := by decide +kernel
theorem dX1_possible_155 : decode cX1_possible 155 = .ok (.dcmp .l, 1) := by decide +kernel
theorem dX1_possible_156 : decode cX1_possible 156 = .ok (.ifCond .le 22, 3) := by decide +kernel
theorem dX1_possible_159 : decode cX1_possible 159 = .ok (.aload_n 0, 1) := by decide +kernel
theorem dX1_possible_160 : decode cX1_possible 160 = .ok (.getfield 29, 3) := by decide +kernel
theorem dX1_possible_163 : decode cX1_possible 163 = .ok (.iload_n 2, 1) := by decide +kernel
theorem dX1_possible_164 : decode cX1_possible 164 = .ok (.aload_n 0, 1) := by decide +kernel
theorem dX1_possible_165 : decode cX1_possible 165 = .ok (.getfield 29, 3) := by decide +kernel
theorem dX1_possible_168 : decode cX1_possible 168 = .ok (.iload_n 2, 1) := by decide +kernel
theorem dX1_possible_169 : decode cX1_possible 169 = .ok (.laload, 1) := by decide +kernel
theorem dX1_possible_170 : decode cX1_possible 170 = .ok (.aload_n 0, 1) := by decide +kernel
theorem dX1_possible_171 : decode cX1_possible 171 = .ok (.getfield 33, 3) := by decide +kernel
theorem dX1_possible_174 : decode cX1_possible 174 = .ok (.iload_n 3, 1) := by decide +kernel
theorem dX1_possible_175 : decode cX1_possible 175 = .ok (.laload, 1) := by decide +kernel
theorem dX1_possible_176 : decode cX1_possible 176 = .ok (.ladd, 1) := by decide +kernel
theorem dX1_possible_177 : decode cX1_possible 177 = .ok (.lastore, 1) := by decide +kernel
theorem dX1_possible_178 : decode cX1_possible 178 = .ok (.iinc 3 1, 3) := by decide +kernel
theorem dX1_possible_181 : decode cX1_possible 181 = .ok (.goto (-57), 3) := by decide +kernel
theorem dX1_possible_184 : decode cX1_possible 184 = .ok (.iinc 2 1, 3) := by decide +kernel
theorem dX1_possible_187 : decode cX1_possible 187 = .ok (.goto (-80), 3) := by decide +kernel
theorem dX1_possible_190 : decode cX1_possible 190 = .ok (.iinc 1 1, 3) := by decide +kernel
theorem dX1_possible_193 : decode cX1_possible 193 = .ok (.goto (-122), 3) := by decide +kernel
theorem dX1_possible_196 : decode cX1_possible 196 = .ok (.lconst 0, 1) := by decide +kernel
theorem dX1_possible_197 : decode cX1_possible 197 = .ok (.lstore_n 1, 1) := by decide +kernel
theorem dX1_possible_198 : decode cX1_possible 198 = .ok (.iconst 0, 1) := by decide +kernel
theorem dX1_possible_199 : decode cX1_possible 199 = .ok (.istore_n 3, 1) := by decide +kernel
theorem dX1_possible_200 : decode cX1_possible 200 = .ok (.iload_n 3, 1) := by decide +kernel
theorem dX1_possible_201 : decode cX1_possible 201 = .ok (.aload_n 0, 1) := by decide +kernel
theorem dX1_possible_202 : decode cX1_possible 202 = .ok (.getfield 36, 3) := by decide +kernel
theorem dX1_possible_205 : decode cX1_possible 205 = .ok (.if_icmp .ge 18, 3) := by decide +kernel
theorem dX1_possible_208 : decode cX1_possible 208 = .ok (.lload_n 1, 1) := by decide +kernel
theorem dX1_possible_209 : decode cX1_possible 209 = .ok (.aload_n 0, 1) := by decide +kernel
theorem dX1_possible_210 : decode cX1_possible 210 = .ok (.getfield 29, 3) := by decide +kernel
theorem dX1_possible_213 : decode cX1_possible 213 = .ok (.iload_n 3, 1) := by decide +kernel
theorem dX1_possible_214 : decode cX1_possible 214 = .ok (.laload, 1) := by decide +kernel
theorem dX1_possible_215 : decode cX1_possible 215 = .ok (.ladd, 1) := by decide +kernel
theorem dX1_possible_216 : decode cX1_possible 216 = .ok (.lstore_n 1, 1) := by decide +kernel
theorem dX1_possible_217 : decode cX1_possible 217 = .ok (.iinc 3 1, 3) := by decide +kernel
theorem dX1_possible_220 : decode cX1_possible 220 = .ok (.goto (-20), 3) := by decide +kernel
theorem dX1_possible_223 : decode cX1_possible 223 = .ok (.lload_n 1, 1) := by decide +kernel
theorem dX1_possible_224 : decode cX1_possible 224 = .ok (.lreturn, 1) := by decide +kernel
end
section
theorem dL_forward_0 : decode cL_forward 0 = .ok (.aload_n 3, 1) := by decide +kernel
theorem dL_forward_1 : decode cL_forward 1 = .ok (.iconst 0, 1) := by decide +kernel
theorem dL_forward_2 : decode cL_forward 2 = .ok (.aload_n 0, 1) := by decide +kernel
theorem dL_forward_3 : decode cL_forward 3 = .ok (.iload_n 1, 1) := by decide +kernel
theorem dL_forward_4 : decode cL_forward 4 = .ok (.iload_n 2, 1) := by decide +kernel
theorem dL_forward_5 : decode cL_forward 5 = .ok (.invokevirtual 7, 3) := by decide +kernel
theorem dL_forward_8 : decode cL_forward 8 = .ok (.dastore, 1) := by decide +kernel
theorem dL_forward_9 : decode cL_forward 9 = .ok (.goto 11, 3) := by decide +kernel
theorem dL_forward_12 : decode cL_forward 12 = .ok (.astore 4, 2) := by decide +kernel
theorem dL_forward_14 : decode cL_forward 14 = .ok (.iconst 1, 1) := by decide +kernel
theorem dL_forward_15 : decode cL_forward 15 = .ok (.ireturn, 1) := by decide +kernel
theorem dL_forward_16 : decode cL_forward 16 = .ok (.astore 4, 2) := by decide +kernel
theorem dL_forward_18 : decode cL_forward 18 = .ok (.iconst 2, 1) := by decide +kernel
theorem dL_forward_19 : decode cL_forward 19 = .ok (.ireturn, 1) := by decide +kernel
theorem dL_forward_20 : decode cL_forward 20 = .ok (.iconst 0, 1) := by decide +kernel
theorem dL_forward_21 : decode cL_forward 21 = .ok (.ireturn, 1) := by decide +kernel
set_option maxRecDepth 20000 in
theorem ggL_backward_X0_backward : GoodIn wsL_backward wsX0_backward := goodIn_ca (goodIn_ca (goodIn_ca (goodIn_r _ [7, 8, 9, 10, 11, 6, 12, 13, 14, 15, 16, 17, 18, 19, 20, 21, 22, 23, 24, 25, 26, 27, 28, 29, 30, 31, 32, 33, 34, 35, 36, 37, 38, 39, 40, 41, 42, 43, 44, 45, 46, 47, 48] (by decide +kernel) (by decide +kernel)) (goodIn_sub (fun _ h => List.mem_cons_of_mem _ (List.mem_append_left _ (List.mem_append_left _ (List.mem_append_right _ h)))) (by decide +kernel))) (goodIn_sub (fun _ h => List.mem_cons_of_mem _ (List.mem_append_left _ (List.mem_append_right _ h))) (by decide +kernel))) (goodIn_sub (fun _ h => List.mem_cons_of_mem _ (List.mem_append_right _ h)) (by decide +kernel))
set_option maxRecDepth 20000 in
theorem gL_backward_X0_backward : GoodIn wsL_backward (wsV RL 17 RX0 yX0_backward wsX0_backward) := goodIn_app (goodIn_of _ (by decide +kernel)) ggL_backward_X0_backward
theorem dL_backward_0 : decode cL_backward 0 = .ok (.aload_n 3, 1) := by decide +kernel
theorem dL_backward_1 : decode cL_backward 1 = .ok (.iconst 0, 1) := by decide +kernel
theorem dL_backward_2 : decode cL_backward 2 = .ok (.aload_n 0, 1) := by decide +kernel
theorem dL_backward_3 : decode cL_backward 3 = .ok (.iload_n 1, 1) := by decide +kernel
theorem dL_backward_4 : decode cL_backward 4 = .ok (.iload_n 2, 1) := by decide +kernel
theorem dL_backward_5 : decode cL_backward 5 = .ok (.invokevirtual 17, 3) := by decide +kernel
theorem dL_backward_8 : decode cL_backward 8 = .ok (.dastore, 1) := by decide +kernel
theorem dL_backward_9 : decode cL_backward 9 = .ok (.goto 11, 3) := by decide +kernel
theorem dL_backward_12 : decode cL_backward 12 = .ok (.astore 4, 2) := by decide +kernel
theorem dL_backward_14 : decode cL_backward 14 = .ok (.iconst 1, 1) := by decide +kernel
theorem dL_backward_15 : decode cL_backward 15 = .ok (.ireturn, 1) := by decide +kernel
theorem dL_backward_16 : decode cL_backward 16 = .ok (.astore 4, 2) := by decide +kernel
theorem dL_backward_18 : decode cL_backward 18 = .ok (.iconst 2, 1) := by decide +kernel
theorem dL_backward_19 : decode cL_backward 19 = .ok (.ireturn, 1) := by decide +kernel
theorem dL_backward_20 : decode cL_backward 20 = .ok (.iconst 0, 1) := by decide +kernel
theorem dL_backward_21 : decode cL_backward 21 = .ok (.ireturn, 1) := by decide +kernel
set_option maxRecDepth 20000 in
theorem ggL_share_X0_share : GoodIn wsL_share wsX0_share := goodIn_ca (goodIn_ca (goodIn_ca (goodIn_ca (goodIn_r _ [8, 9, 10, 11, 12, 13, 14, 15, 7, 16, 17, 18, 19, 20, 21, 22, 23, 24, 25, 26, 27, 28, 29, 30, 31, 32, 33, 34, 35, 36, 37, 38, 39, 40, 41, 42, 43, 44, 45, 46, 47, 48, 49, 50, 51, 52, 53, 54, 55, 56, 57, 58, 59, 60, 61, 62, 63, 64, 65] (by decide +kernel) (by decide +kernel)) (goodIn_sub (fun _ h => List.mem_cons_of_mem _ (List.mem_append_left _ (List.mem_append_left _ (List.mem_append_right _ h)))) (by decide +kernel))) (goodIn_sub (fun _ h => List.mem_cons_of_mem _ (List.mem_append_left _ (List.mem_append_left _ (List.mem_append_left _ (List.mem_append_right _ h))))) (by decide +kernel))) (goodIn_sub (fun _ h => List.mem_cons_of_mem _ (List.mem_append_left _ (List.mem_append_right _ h))) (by decide +kernel))) (goodIn_sub (fun _ h => List.mem_cons_of_mem _ (List.mem_append_right _ h)) (by decide +kernel))
set_option maxRecDepth 20000 in
theorem gL_share_X0_share : GoodIn wsL_share (wsV RL 20 RX0 yX0_share wsX0_share) := goodIn_app (goodIn_of _ (by decide +kernel)) ggL_share_X0_share
theorem dL_share_0 : decode cL_share 0 = .ok (.aload_n 3, 1) := by decide +kernel
theorem dL_share_1 : decode cL_share 1 = .ok (.iconst 0, 1) := by decide +kernel
theorem dL_share_2 : decode cL_share 2 = .ok (.aload_n 0, 1) := by decide +kernel
theorem dL_share_3 : decode cL_share 3 = .ok (.iload_n 1, 1) := by decide +kernel
theorem dL_share_4 : decode cL_share 4 = .ok (.iload_n 2, 1) := by decide +kernel
theorem dL_share_5 : decode cL_share 5 = .ok (.invokevirtual 20, 3) := by decide +kernel
theorem dL_share_8 : decode cL_share 8 = .ok (.dastore, 1) := by decide +kernel
theorem dL_share_9 : decode cL_share 9 = .ok (.goto 15, 3) := by decide +kernel
theorem dL_share_12 : decode cL_share 12 = .ok (.astore 4, 2) := by decide +kernel
theorem dL_share_14 : decode cL_share 14 = .ok (.iconst 1, 1) := by decide +kernel
theorem dL_share_15 : decode cL_share 15 = .ok (.ireturn, 1) := by decide +kernel
theorem dL_share_16 : decode cL_share 16 = .ok (.astore 4, 2) := by decide +kernel
theorem dL_share_18 : decode cL_share 18 = .ok (.iconst 2, 1) := by decide +kernel
theorem dL_share_19 : decode cL_share 19 = .ok (.ireturn, 1) := by decide +kernel
theorem dL_share_20 : decode cL_share 20 = .ok (.astore 4, 2) := by decide +kernel
theorem dL_share_22 : decode cL_share 22 = .ok (.iconst 3, 1) := by decide +kernel
theorem dL_share_23 : decode cL_share 23 = .ok (.ireturn, 1) := by decide +kernel
theorem dL_share_24 : decode cL_share 24 = .ok (.iconst 0, 1) := by decide +kernel
theorem dL_share_25 : decode cL_share 25 = .ok (.ireturn, 1) := by decide +kernel
set_option maxRecDepth 20000 in
theorem ggL_law_X0_init : GoodIn wsL_law wsX0_init := goodIn_r _ [10, 11, 12, 13, 6, 14, 15, 16, 17, 18, 19, 20, 21, 22, 23, 24, 25, 26, 27, 28, 29, 296, 297, 298, 299, 300, 301, 302, 303, 304, 305, 306] (by decide +kernel) (by decide +kernel)
set_option maxRecDepth 20000 in
theorem gL_law_X0_init : GoodIn wsL_law (wsX0_init) := ggL_law_X0_init
set_option maxRecDepth 20000 in
theorem ggL_law_X1_init : GoodIn wsL_law wsX1_init := goodIn_r _ [32, 33, 12, 13, 6, 34, 35, 36, 18, 37, 38, 39, 28, 40, 41, 42, 307, 308, 309, 310, 311, 312, 313, 314, 315, 316, 317] (by decide +kernel) (by decide +kernel)
set_option maxRecDepth 20000 in
theorem gL_law_X1_init : GoodIn wsL_law (wsX1_init) := ggL_law_X1_init
set_option maxRecDepth 20000 in
theorem ggL_law_X0_states : GoodIn wsL_law wsX0_states := goodIn_ca (goodIn_r _ [46, 20, 21, 47, 48, 49, 2, 50, 14, 16, 17, 296, 297, 298, 299, 300, 301, 302, 303, 304, 305, 306] (by decide +kernel) (by decide +kernel)) (goodIn_sub (fun _ h => List.mem_append_left _ (List.mem_append_left _ (List.mem_append_left _ (List.mem_append_right _ h)))) (by decide +kernel))
set_option maxRecDepth 20000 in
theorem gL_law_X0_states : GoodIn wsL_law (wsV RL 29 RX0 yX0_states wsX0_states) := goodIn_app (goodIn_of _ (by decide +kernel)) ggL_law_X0_states
set_option maxRecDepth 20000 in
theorem ggL_law_X1_states : GoodIn wsL_law wsX1_states := goodIn_ca (goodIn_r _ [54, 55, 42, 56, 34, 35, 36, 307, 308, 309, 310, 311, 312, 313, 314, 315, 316, 317] (by decide +kernel) (by decide +kernel)) (goodIn_sub (fun _ h => List.mem_append_left _ (List.mem_append_left _ (List.mem_append_left _ (List.mem_append_right _ h)))) (by decide +kernel))
set_option maxRecDepth 20000 in
theorem gL_law_X1_states : GoodIn wsL_law (wsV RL 33 RX1 yX1_states wsX1_states) := goodIn_app (goodIn_of _ (by decide +kernel)) ggL_law_X1_states
set_option maxRecDepth 20000 in
theorem ggL_law_X0_size : GoodIn wsL_law wsX0_size := goodIn_r _ [60, 20, 296, 297, 298, 299, 300, 301, 302, 303, 304, 305, 306] (by decide +kernel) (by decide +kernel)
set_option maxRecDepth 20000 in
theorem gL_law_X0_size : GoodIn wsL_law (wsV RL 34 RX0 yX0_size wsX0_size) := goodIn_app (goodIn_of _ (by decide +kernel)) ggL_law_X0_size
set_option maxRecDepth 20000 in
theorem ggL_law_X1_size : GoodIn wsL_law wsX1_size := goodIn_r _ [64, 55, 42, 307, 308, 309, 310, 311, 312, 313, 314, 315, 316, 317] (by decide +kernel) (by decide +kernel)
set_option maxRecDepth 20000 in
theorem gL_law_X1_size : GoodIn wsL_law (wsV RL 38 RX1 yX1_size wsX1_size) := goodIn_app (goodIn_of _ (by decide +kernel)) ggL_law_X1_size
set_option maxRecDepth 20000 in
theorem ggL_law_X0_start : GoodIn wsL_law wsX0_start := goodIn_ca (goodIn_r _ [68, 14, 69, 70, 71, 2, 72, 20, 73, 74, 75, 296, 297, 298, 299, 300, 301, 302, 303, 304, 305, 306] (by decide +kernel) (by decide +kernel)) (goodIn_sub (fun _ h => List.mem_append_left _ (List.mem_append_left _ (List.mem_append_left _ (List.mem_append_right _ h)))) (by decide +kernel))
set_option maxRecDepth 20000 in
theorem gL_law_X0_start : GoodIn wsL_law (wsV RL 41 RX0 yX0_start wsX0_start) := goodIn_app (goodIn_of _ (by decide +kernel)) ggL_law_X0_start
set_option maxRecDepth 20000 in
theorem ggL_law_X1_start : GoodIn wsL_law wsX1_start := goodIn_ca (goodIn_r _ [79, 55, 34, 80, 81, 82, 5, 83, 42, 84, 85, 86, 307, 308, 309, 310, 311, 312, 313, 314, 315, 316, 317] (by decide +kernel) (by decide +kernel)) (goodIn_sub (fun _ h => List.mem_append_left _ (List.mem_append_left _ (List.mem_append_left _ (List.mem_append_right _ h)))) (by decide +kernel))
set_option maxRecDepth 20000 in
theorem gL_law_X1_start : GoodIn wsL_law (wsV RL 45 RX1 yX1_start wsX1_start) := goodIn_app (goodIn_of _ (by decide +kernel)) ggL_law_X1_start
set_option maxRecDepth 20000 in
theorem ggL_law_X0_move : GoodIn wsL_law wsX0_move := goodIn_ca (goodIn_r _ [90, 16, 69, 70, 71, 2, 72, 20, 73, 74, 75, 296, 297, 298, 299, 300, 301, 302, 303, 304, 305, 306] (by decide +kernel) (by decide +kernel)) (goodIn_sub (fun _ h => List.mem_append_left _ (List.mem_append_left _ (List.mem_append_left _ (List.mem_append_right _ h)))) (by decide +kernel))
set_option maxRecDepth 20000 in
theorem gL_law_X0_move : GoodIn wsL_law (wsV RL 46 RX0 yX0_move wsX0_move) := goodIn_app (goodIn_of _ (by decide +kernel)) ggL_law_X0_move
set_option maxRecDepth 20000 in
theorem ggL_law_X1_move : GoodIn wsL_law wsX1_move := goodIn_ca (goodIn_r _ [94, 55, 35, 80, 81, 82, 5, 83, 42, 84, 85, 86, 307, 308, 309, 310, 311, 312, 313, 314, 315, 316, 317] (by decide +kernel) (by decide +kernel)) (goodIn_sub (fun _ h => List.mem_append_left _ (List.mem_append_left _ (List.mem_append_left _ (List.mem_append_right _ h)))) (by decide +kernel))
set_option maxRecDepth 20000 in
theorem gL_law_X1_move : GoodIn wsL_law (wsV RL 50 RX1 yX1_move wsX1_move) := goodIn_app (goodIn_of _ (by decide +kernel)) ggL_law_X1_move
set_option maxRecDepth 20000 in
theorem ggL_law_X0_show : GoodIn wsL_law wsX0_show := goodIn_ca (goodIn_r _ [98, 17, 69, 70, 71, 2, 72, 20, 99, 100, 101, 73, 74, 75, 296, 297, 298, 299, 300, 301, 302, 303, 304, 305, 306] (by decide +kernel) (by decide +kernel)) (goodIn_sub (fun _ h => List.mem_append_left _ (List.mem_append_left _ (List.mem_append_left _ (List.mem_append_right _ h)))) (by decide +kernel))
set_option maxRecDepth 20000 in
theorem gL_law_X0_show : GoodIn wsL_law (wsV RL 51 RX0 yX0_show wsX0_show) := goodIn_app (goodIn_of _ (by decide +kernel)) ggL_law_X0_show
set_option maxRecDepth 20000 in
theorem ggL_law_X1_show : GoodIn wsL_law wsX1_show := goodIn_ca (goodIn_r _ [105, 55, 36, 80, 81, 82, 5, 83, 42, 106, 107, 108, 84, 85, 86, 307, 308, 309, 310, 311, 312, 313, 314, 315, 316, 317] (by decide +kernel) (by decide +kernel)) (goodIn_sub (fun _ h => List.mem_append_left _ (List.mem_append_left _ (List.mem_append_left _ (List.mem_append_right _ h)))) (by decide +kernel))
set_option maxRecDepth 20000 in
theorem gL_law_X1_show : GoodIn wsL_law (wsV RL 54 RX1 yX1_show wsX1_show) := goodIn_app (goodIn_of _ (by decide +kernel)) ggL_law_X1_show
set_option maxRecDepth 20000 in
theorem ggL_law_X0_read : GoodIn wsL_law wsX0_read := goodIn_ca (goodIn_r _ [112, 21, 19, 99, 100, 2, 101, 296, 297, 298, 299, 300, 301, 302, 303, 304, 305, 306] (by decide +kernel) (by decide +kernel)) (goodIn_sub (fun _ h => List.mem_append_left _ (List.mem_append_left _ (List.mem_append_left _ (List.mem_append_right _ h)))) (by decide +kernel))
set_option maxRecDepth 20000 in
theorem gL_law_X0_read : GoodIn wsL_law (wsV RL 55 RX0 yX0_read wsX0_read) := goodIn_app (goodIn_of _ (by decide +kernel)) ggL_law_X0_read
set_option maxRecDepth 20000 in
theorem ggL_law_X1_read : GoodIn wsL_law wsX1_read := goodIn_ca (goodIn_r _ [116, 55, 56, 37, 106, 107, 5, 108, 307, 308, 309, 310, 311, 312, 313, 314, 315, 316, 317] (by decide +kernel) (by decide +kernel)) (goodIn_sub (fun _ h => List.mem_append_left _ (List.mem_append_left _ (List.mem_append_left _ (List.mem_append_right _ h)))) (by decide +kernel))
set_option maxRecDepth 20000 in
theorem gL_law_X1_read : GoodIn wsL_law (wsV RL 58 RX1 yX1_read wsX1_read) := goodIn_app (goodIn_of _ (by decide +kernel)) ggL_law_X1_read
set_option maxRecDepth 20000 in
theorem ggL_law_X0_unread : GoodIn wsL_law wsX0_unread := goodIn_r _ [120, 21, 296, 297, 298, 299, 300, 301, 302, 303, 304, 305, 306] (by decide +kernel) (by decide +kernel)
set_option maxRecDepth 20000 in
theorem gL_law_X0_unread : GoodIn wsL_law (wsV RL 59 RX0 yX0_unread wsX0_unread) := goodIn_app (goodIn_of _ (by decide +kernel)) ggL_law_X0_unread
set_option maxRecDepth 20000 in
theorem ggL_law_X1_unread : GoodIn wsL_law wsX1_unread := goodIn_r _ [124, 55, 56, 307, 308, 309, 310, 311, 312, 313, 314, 315, 316, 317] (by decide +kernel) (by decide +kernel)
set_option maxRecDepth 20000 in
theorem gL_law_X1_unread : GoodIn wsL_law (wsV RL 63 RX1 yX1_unread wsX1_unread) := goodIn_app (goodIn_of _ (by decide +kernel)) ggL_law_X1_unread
set_option maxRecDepth 20000 in
theorem ggL_law_X0_length : GoodIn wsL_law wsX0_length := goodIn_r _ [128, 21, 296, 297, 298, 299, 300, 301, 302, 303, 304, 305, 306] (by decide +kernel) (by decide +kernel)
set_option maxRecDepth 20000 in
theorem gL_law_X0_length : GoodIn wsL_law (wsV RL 64 RX0 yX0_length wsX0_length) := goodIn_app (goodIn_of _ (by decide +kernel)) ggL_law_X0_length
set_option maxRecDepth 20000 in
theorem ggL_law_X1_length : GoodIn wsL_law wsX1_length := goodIn_r _ [132, 55, 56, 307, 308, 309, 310, 311, 312, 313, 314, 315, 316, 317] (by decide +kernel) (by decide +kernel)
set_option maxRecDepth 20000 in
theorem gL_law_X1_length : GoodIn wsL_law (wsV RL 67 RX1 yX1_length wsX1_length) := goodIn_app (goodIn_of _ (by decide +kernel)) ggL_law_X1_length
set_option maxRecDepth 20000 in
theorem ggL_law_L_forward : GoodIn wsL_law wsL_forward := goodIn_ca (goodIn_ca (goodIn_ca (goodIn_r _ [136, 137, 138, 139, 140, 141, 2, 142, 22, 143, 144, 145, 146, 147, 148, 149, 150, 151, 152, 153, 154, 21, 69, 70, 71, 72, 20, 155, 156, 157, 158, 19, 17, 159, 160, 161, 162, 14, 16, 296, 297, 298, 299, 300, 301, 302, 303, 304, 305, 306] (by decide +kernel) (by decide +kernel)) (goodIn_sub (fun _ h => List.mem_append_left _ (List.mem_append_left _ (List.mem_append_left _ (List.mem_append_right _ h)))) (by decide +kernel))) (goodIn_sub (fun _ h => List.mem_append_left _ (List.mem_append_left _ (List.mem_append_right _ h))) (by decide +kernel))) (goodIn_sub (fun _ h => List.mem_append_left _ (List.mem_append_right _ h)) (by decide +kernel))
set_option maxRecDepth 20000 in
theorem gL_law_L_forward : GoodIn wsL_law (va_wsS RL 68 yL_forward wsL_forward) := goodIn_app (goodIn_of _ (by decide +kernel)) ggL_law_L_forward
set_option maxRecDepth 20000 in
theorem ggL_law_X1_forward : GoodIn wsL_law wsX1_forward := goodIn_ca (goodIn_r _ [166, 55, 38, 167, 168, 169, 5, 170, 56, 80, 81, 82, 83, 42, 171, 172, 173, 174, 34, 39, 35, 175, 176, 177, 178, 36, 37, 179, 180, 181, 182, 307, 308, 309, 310, 311, 312, 313, 314, 315, 316, 317] (by decide +kernel) (by decide +kernel)) (goodIn_sub (fun _ h => List.mem_append_left _ (List.mem_append_left _ (List.mem_append_left _ (List.mem_append_right _ h)))) (by decide +kernel))
set_option maxRecDepth 20000 in
theorem gL_law_X1_forward : GoodIn wsL_law (wsV RL 73 RX1 yX1_forward wsX1_forward) := goodIn_app (goodIn_of _ (by decide +kernel)) ggL_law_X1_forward
set_option maxRecDepth 20000 in
theorem ggL_law_X1_thrown : GoodIn wsL_law wsX1_thrown := goodIn_r _ [186, 55, 307, 308, 309, 310, 311, 312, 313, 314, 315, 316, 317] (by decide +kernel) (by decide +kernel)
set_option maxRecDepth 20000 in
theorem gL_law_X1_thrown : GoodIn wsL_law (wsV RL 74 RX1 yX1_thrown wsX1_thrown) := goodIn_app (goodIn_of _ (by decide +kernel)) ggL_law_X1_thrown
set_option maxRecDepth 20000 in
theorem ggL_law_L_backward : GoodIn wsL_law wsL_backward := goodIn_ca (goodIn_ca (goodIn_ca (goodIn_r _ [189, 137, 138, 190, 191, 192, 2, 193, 23, 143, 144, 145, 146, 147, 148, 149, 150, 151, 152, 153, 154, 21, 69, 70, 71, 72, 20, 194, 195, 196, 197, 198, 199, 200, 201, 19, 16, 17, 296, 297, 298, 299, 300, 301, 302, 303, 304, 305, 306] (by decide +kernel) (by decide +kernel)) (goodIn_sub (fun _ h => List.mem_append_left _ (List.mem_append_left _ (List.mem_append_left _ (List.mem_append_right _ h)))) (by decide +kernel))) (goodIn_sub (fun _ h => List.mem_append_left _ (List.mem_append_left _ (List.mem_append_right _ h))) (by decide +kernel))) (goodIn_sub (fun _ h => List.mem_append_left _ (List.mem_append_right _ h)) (by decide +kernel))
set_option maxRecDepth 20000 in
theorem gL_law_L_backward : GoodIn wsL_law (va_wsS RL 77 yL_backward wsL_backward) := goodIn_app (goodIn_of _ (by decide +kernel)) ggL_law_L_backward
set_option maxRecDepth 20000 in
theorem ggL_law_X1_backward : GoodIn wsL_law wsX1_backward := goodIn_ca (goodIn_r _ [205, 55, 38, 167, 168, 169, 5, 170, 56, 80, 81, 82, 83, 42, 206, 207, 208, 209, 35, 39, 179, 180, 181, 182, 175, 176, 177, 178, 36, 37, 307, 308, 309, 310, 311, 312, 313, 314, 315, 316, 317] (by decide +kernel) (by decide +kernel)) (goodIn_sub (fun _ h => List.mem_append_left _ (List.mem_append_left _ (List.mem_append_left _ (List.mem_append_right _ h)))) (by decide +kernel))
set_option maxRecDepth 20000 in
theorem gL_law_X1_backward : GoodIn wsL_law (wsV RL 79 RX1 yX1_backward wsX1_backward) := goodIn_app (goodIn_of _ (by decide +kernel)) ggL_law_X1_backward
set_option maxRecDepth 20000 in
theorem ggL_law_X0_total : GoodIn wsL_law wsX0_total := goodIn_ca (goodIn_r _ [213, 21, 155, 156, 157, 2, 158, 19, 20, 22, 17, 159, 160, 161, 162, 14, 16, 214, 215, 216, 217, 296, 297, 298, 299, 300, 301, 302, 303, 304, 305, 306] (by decide +kernel) (by decide +kernel)) (goodIn_sub (fun _ h => List.mem_append_left _ (List.mem_append_left _ (List.mem_append_left _ (List.mem_append_right _ h)))) (by decide +kernel))
set_option maxRecDepth 20000 in
theorem gL_law_X0_total : GoodIn wsL_law (wsV RL 80 RX0 yX0_total wsX0_total) := goodIn_app (goodIn_of _ (by decide +kernel)) ggL_law_X0_total
set_option maxRecDepth 20000 in
theorem ggL_law_X1_total : GoodIn wsL_law wsX1_total := goodIn_ca (goodIn_r _ [221, 55, 222, 223, 224, 5, 225, 56, 42, 38, 171, 172, 173, 174, 34, 39, 35, 175, 176, 177, 178, 36, 37, 179, 180, 181, 182, 307, 308, 309, 310, 311, 312, 313, 314, 315, 316, 317] (by decide +kernel) (by decide +kernel)) (goodIn_sub (fun _ h => List.mem_append_left _ (List.mem_append_left _ (List.mem_append_left _ (List.mem_append_right _ h)))) (by decide +kernel))
set_option maxRecDepth 20000 in
theorem gL_law_X1_total : GoodIn wsL_law (wsV RL 84 RX1 yX1_total wsX1_total) := goodIn_app (goodIn_of _ (by decide +kernel)) ggL_law_X1_total
set_option maxRecDepth 20000 in
theorem ggL_law_X0_best : GoodIn wsL_law wsX0_best := goodIn_ca (goodIn_r _ [229, 21, 24, 230, 231, 232, 2, 233, 19, 20, 17, 234, 235, 236, 237, 14, 16, 26, 238, 239, 240, 241, 296, 297, 298, 299, 300, 301, 302, 303, 304, 305, 306] (by decide +kernel) (by decide +kernel)) (goodIn_sub (fun _ h => List.mem_append_left _ (List.mem_append_left _ (List.mem_append_left _ (List.mem_append_right _ h)))) (by decide +kernel))
set_option maxRecDepth 20000 in
theorem gL_law_X0_best : GoodIn wsL_law (wsV RL 85 RX0 yX0_best wsX0_best) := goodIn_app (goodIn_of _ (by decide +kernel)) ggL_law_X0_best
set_option maxRecDepth 20000 in
theorem ggL_law_X1_best : GoodIn wsL_law wsX1_best := goodIn_ca (goodIn_r _ [245, 55, 56, 38, 246, 247, 248, 5, 249, 42, 34, 39, 35, 175, 176, 177, 178, 36, 37, 179, 180, 181, 182, 250, 251, 252, 253, 254, 255, 256, 257, 307, 308, 309, 310, 311, 312, 313, 314, 315, 316, 317] (by decide +kernel) (by decide +kernel)) (goodIn_sub (fun _ h => List.mem_append_left _ (List.mem_append_left _ (List.mem_append_left _ (List.mem_append_right _ h)))) (by decide +kernel))
set_option maxRecDepth 20000 in
theorem gL_law_X1_best : GoodIn wsL_law (wsV RL 88 RX1 yX1_best wsX1_best) := goodIn_app (goodIn_of _ (by decide +kernel)) ggL_law_X1_best
set_option maxRecDepth 20000 in
theorem ggL_law_X0_bestState : GoodIn wsL_law wsX0_bestState := goodIn_ca (goodIn_r _ [261, 21, 26, 151, 152, 153, 2, 154, 230, 231, 232, 233, 19, 20, 24, 17, 234, 235, 236, 237, 14, 16, 238, 239, 240, 241, 296, 297, 298, 299, 300, 301, 302, 303, 304, 305, 306] (by decide +kernel) (by decide +kernel)) (goodIn_sub (fun _ h => List.mem_append_left _ (List.mem_append_left _ (List.mem_append_left _ (List.mem_append_right _ h)))) (by decide +kernel))
set_option maxRecDepth 20000 in
theorem gL_law_X0_bestState : GoodIn wsL_law (wsV RL 89 RX0 yX0_bestState wsX0_bestState) := goodIn_app (goodIn_of _ (by decide +kernel)) ggL_law_X0_bestState
set_option maxRecDepth 20000 in
theorem ggL_law_X1_bestState : GoodIn wsL_law wsX1_bestState := goodIn_ca (goodIn_r _ [265, 55, 56, 246, 247, 248, 5, 249, 42, 38, 34, 39, 35, 175, 176, 177, 178, 36, 37, 179, 180, 181, 182, 250, 251, 252, 253, 254, 255, 256, 257, 307, 308, 309, 310, 311, 312, 313, 314, 315, 316, 317] (by decide +kernel) (by decide +kernel)) (goodIn_sub (fun _ h => List.mem_append_left _ (List.mem_append_left _ (List.mem_append_left _ (List.mem_append_right _ h)))) (by decide +kernel))
set_option maxRecDepth 20000 in
theorem gL_law_X1_bestState : GoodIn wsL_law (wsV RL 93 RX1 yX1_bestState wsX1_bestState) := goodIn_app (goodIn_of _ (by decide +kernel)) ggL_law_X1_bestState
set_option maxRecDepth 20000 in
theorem ggL_law_L_share : GoodIn wsL_law wsL_share := goodIn_ca (goodIn_ca (goodIn_ca (goodIn_ca (goodIn_r _ [268, 137, 138, 269, 270, 271, 272, 2, 273, 274, 275, 22, 23, 143, 144, 145, 146, 147, 148, 149, 150, 151, 152, 153, 154, 21, 69, 70, 71, 72, 20, 155, 156, 157, 158, 19, 17, 159, 160, 161, 162, 14, 16, 214, 215, 216, 217, 194, 195, 196, 197, 198, 199, 200, 201, 296, 297, 298, 299, 300, 301, 302, 303, 304, 305, 306] (by decide +kernel) (by decide +kernel)) (goodIn_sub (fun _ h => List.mem_append_left _ (List.mem_append_left _ (List.mem_append_left _ (List.mem_append_right _ h)))) (by decide +kernel))) (goodIn_sub (fun _ h => List.mem_append_right _ h) (by decide +kernel))) (goodIn_sub (fun _ h => List.mem_append_left _ (List.mem_append_left _ (List.mem_append_right _ h))) (by decide +kernel))) (goodIn_sub (fun _ h => List.mem_append_left _ (List.mem_append_right _ h)) (by decide +kernel))
set_option maxRecDepth 20000 in
theorem gL_law_L_share : GoodIn wsL_law (va_wsS RL 94 yL_share wsL_share) := goodIn_app (goodIn_of _ (by decide +kernel)) ggL_law_L_share
set_option maxRecDepth 20000 in
theorem ggL_law_X1_share : GoodIn wsL_law wsX1_share := goodIn_ca (goodIn_r _ [279, 55, 38, 167, 168, 169, 5, 170, 56, 80, 81, 82, 83, 42, 222, 223, 224, 225, 171, 172, 173, 174, 34, 39, 35, 175, 176, 177, 178, 36, 37, 179, 180, 181, 182, 206, 207, 208, 209, 307, 308, 309, 310, 311, 312, 313, 314, 315, 316, 317] (by decide +kernel) (by decide +kernel)) (goodIn_sub (fun _ h => List.mem_append_left _ (List.mem_append_left _ (List.mem_append_left _ (List.mem_append_right _ h)))) (by decide +kernel))
set_option maxRecDepth 20000 in
theorem gL_law_X1_share : GoodIn wsL_law (wsV RL 96 RX1 yX1_share wsX1_share) := goodIn_app (goodIn_of _ (by decide +kernel)) ggL_law_X1_share
set_option maxRecDepth 20000 in
theorem ggL_law_X0_possible : GoodIn wsL_law wsX0_possible := goodIn_ca (goodIn_r _ [283, 21, 20, 29, 284, 285, 286, 2, 287, 19, 17, 288, 289, 290, 291, 14, 16, 296, 297, 298, 299, 300, 301, 302, 303, 304, 305, 306] (by decide +kernel) (by decide +kernel)) (goodIn_sub (fun _ h => List.mem_append_left _ (List.mem_append_left _ (List.mem_append_left _ (List.mem_append_right _ h)))) (by decide +kernel))
set_option maxRecDepth 20000 in
theorem gL_law_X0_possible : GoodIn wsL_law (wsV RL 97 RX0 yX0_possible wsX0_possible) := goodIn_app (goodIn_of _ (by decide +kernel)) ggL_law_X0_possible
set_option maxRecDepth 20000 in
theorem ggL_law_X1_possible : GoodIn wsL_law wsX1_possible := goodIn_ca (goodIn_r _ [295, 55, 56, 40, 42, 34, 41, 35, 175, 176, 177, 5, 178, 36, 37, 307, 308, 309, 310, 311, 312, 313, 314, 315, 316, 317] (by decide +kernel) (by decide +kernel)) (goodIn_sub (fun _ h => List.mem_append_left _ (List.mem_append_left _ (List.mem_append_left _ (List.mem_append_right _ h)))) (by decide +kernel))
set_option maxRecDepth 20000 in
theorem gL_law_X1_possible : GoodIn wsL_law (wsV RL 101 RX1 yX1_possible wsX1_possible) := goodIn_app (goodIn_of _ (by decide +kernel)) ggL_law_X1_possible
theorem dL_law_0 : decode cL_law 0 = .ok (.new 8, 3) := by decide +kernel
theorem dL_law_3 : decode cL_law 3 = .ok (.dup, 1) := by decide +kernel
theorem dL_law_4 : decode cL_law 4 = .ok (.invokespecial 25, 3) := by decide +kernel
theorem dL_law_7 : decode cL_law 7 = .ok (.astore_n 1, 1) := by decide +kernel
theorem dL_law_8 : decode cL_law 8 = .ok (.new 26, 3) := by decide +kernel
theorem dL_law_11 : decode cL_law 11 = .ok (.dup, 1) := by decide +kernel
theorem dL_law_12 : decode cL_law 12 = .ok (.invokespecial 28, 3) := by decide +kernel
theorem dL_law_15 : decode cL_law 15 = .ok (.astore_n 2, 1) := by decide +kernel
theorem dL_law_16 : decode cL_law 16 = .ok (.iconst 1, 1) := by decide +kernel
theorem dL_law_17 : decode cL_law 17 = .ok (.newarray .double, 2) := by decide +kernel
theorem dL_law_19 : decode cL_law 19 = .ok (.astore_n 3, 1) := by decide +kernel
theorem dL_law_20 : decode cL_law 20 = .ok (.iconst 0, 1) := by decide +kernel
theorem dL_law_21 : decode cL_law 21 = .ok (.istore 4, 2) := by decide +kernel
theorem dL_law_23 : decode cL_law 23 = .ok (.iload 4, 2) := by decide +kernel
theorem dL_law_25 : decode cL_law 25 = .ok (.aload_n 0, 1) := by decide +kernel
theorem dL_law_26 : decode cL_law 26 = .ok (.arraylength, 1) := by decide +kernel
theorem dL_law_27 : decode cL_law 27 = .ok (.iconst 4, 1) := by decide +kernel
theorem dL_law_28 : decode cL_law 28 = .ok (.isub, 1) := by decide +kernel
theorem dL_law_29 : decode cL_law 29 = .ok (.if_icmp .gt 719, 3) := by decide +kernel
theorem dL_law_32 : decode cL_law 32 = .ok (.aload_n 0, 1) := by decide +kernel
theorem dL_law_33 : decode cL_law 33 = .ok (.iload 4, 2) := by decide +kernel
theorem dL_law_35 : decode cL_law 35 = .ok (.iaload, 1) := by decide +kernel
theorem dL_law_36 : decode cL_law 36 = .ok (.bipush 15, 2) := by decide +kernel
theorem dL_law_38 : decode cL_law 38 = .ok (.iand, 1) := by decide +kernel
theorem dL_law_39 : decode cL_law 39 = .ok (.tableswitch 703 0 14 #[73, 98, 111, 158, 217, 276, 301, 314, 327, 412, 497, 538, 579, 604, 689], 73) := by decide +kernel
theorem dL_law_112 : decode cL_law 112 = .ok (.aload_n 1, 1) := by decide +kernel
theorem dL_law_113 : decode cL_law 113 = .ok (.aload_n 0, 1) := by decide +kernel
theorem dL_law_114 : decode cL_law 114 = .ok (.iload 4, 2) := by decide +kernel
theorem dL_law_116 : decode cL_law 116 = .ok (.iconst 1, 1) := by decide +kernel
theorem dL_law_117 : decode cL_law 117 = .ok (.iadd, 1) := by decide +kernel
theorem dL_law_118 : decode cL_law 118 = .ok (.iaload, 1) := by decide +kernel
theorem dL_law_119 : decode cL_law 119 = .ok (.invokevirtual 29, 3) := by decide +kernel
theorem dL_law_122 : decode cL_law 122 = .ok (.aload_n 2, 1) := by decide +kernel
theorem dL_law_123 : decode cL_law 123 = .ok (.aload_n 0, 1) := by decide +kernel
theorem dL_law_124 : decode cL_law 124 = .ok (.iload 4, 2) := by decide +kernel
theorem dL_law_126 : decode cL_law 126 = .ok (.iconst 1, 1) := by decide +kernel
theorem dL_law_127 : decode cL_law 127 = .ok (.iadd, 1) := by decide +kernel
theorem dL_law_128 : decode cL_law 128 = .ok (.iaload, 1) := by decide +kernel
theorem dL_law_129 : decode cL_law 129 = .ok (.invokevirtual 33, 3) := by decide +kernel
theorem dL_law_132 : decode cL_law 132 = .ok (.if_icmp .eq 610, 3) := by decide +kernel
theorem dL_law_135 : decode cL_law 135 = .ok (.iconst 0, 1) := by decide +kernel
theorem dL_law_136 : decode cL_law 136 = .ok (.ireturn, 1) := by decide +kernel
theorem dL_law_137 : decode cL_law 137 = .ok (.aload_n 1, 1) := by decide +kernel
theorem dL_law_138 : decode cL_law 138 = .ok (.invokevirtual 34, 3) := by decide +kernel
theorem dL_law_141 : decode cL_law 141 = .ok (.aload_n 2, 1) := by decide +kernel
theorem dL_law_142 : decode cL_law 142 = .ok (.invokevirtual 38, 3) := by decide +kernel
theorem dL_law_145 : decode cL_law 145 = .ok (.if_icmp .eq 597, 3) := by decide +kernel
theorem dL_law_148 : decode cL_law 148 = .ok (.iconst 0, 1) := by decide +kernel
theorem dL_law_149 : decode cL_law 149 = .ok (.ireturn, 1) := by decide +kernel
theorem dL_law_150 : decode cL_law 150 = .ok (.aload_n 1, 1) := by decide +kernel
theorem dL_law_151 : decode cL_law 151 = .ok (.aload_n 0, 1) := by decide +kernel
theorem dL_law_152 : decode cL_law 152 = .ok (.iload 4, 2) := by decide +kernel
theorem dL_law_154 : decode cL_law 154 = .ok (.iconst 1, 1) := by decide +kernel
theorem dL_law_155 : decode cL_law 155 = .ok (.iadd, 1) := by decide +kernel
theorem dL_law_156 : decode cL_law 156 = .ok (.iaload, 1) := by decide +kernel
theorem dL_law_157 : decode cL_law 157 = .ok (.aload_n 0, 1) := by decide +kernel
theorem dL_law_158 : decode cL_law 158 = .ok (.iload 4, 2) := by decide +kernel
theorem dL_law_160 : decode cL_law 160 = .ok (.iconst 2, 1) := by decide +kernel
theorem dL_law_161 : decode cL_law 161 = .ok (.iadd, 1) := by decide +kernel
theorem dL_law_162 : decode cL_law 162 = .ok (.iaload, 1) := by decide +kernel
theorem dL_law_163 : decode cL_law 163 = .ok (.i2d, 1) := by decide +kernel
theorem dL_law_164 : decode cL_law 164 = .ok (.ldc2_w 39, 3) := by decide +kernel
theorem dL_law_167 : decode cL_law 167 = .ok (.dmul, 1) := by decide +kernel
theorem dL_law_168 : decode cL_law 168 = .ok (.invokevirtual 41, 3) := by decide +kernel
theorem dL_law_171 : decode cL_law 171 = .ok (.aload_n 2, 1) := by decide +kernel
theorem dL_law_172 : decode cL_law 172 = .ok (.aload_n 0, 1) := by decide +kernel
theorem dL_law_173 : decode cL_law 173 = .ok (.iload 4, 2) := by decide +kernel
theorem dL_law_175 : decode cL_law 175 = .ok (.iconst 1, 1) := by decide +kernel
theorem dL_law_176 : decode cL_law 176 = .ok (.iadd, 1) := by decide +kernel
theorem dL_law_177 : decode cL_law 177 = .ok (.iaload, 1) := by decide +kernel
theorem dL_law_178 : decode cL_law 178 = .ok (.aload_n 0, 1) := by decide +kernel
theorem dL_law_179 : decode cL_law 179 = .ok (.iload 4, 2) := by decide +kernel
theorem dL_law_181 : decode cL_law 181 = .ok (.iconst 2, 1) := by decide +kernel
theorem dL_law_182 : decode cL_law 182 = .ok (.iadd, 1) := by decide +kernel
theorem dL_law_183 : decode cL_law 183 = .ok (.iaload, 1) := by decide +kernel
theorem dL_law_184 : decode cL_law 184 = .ok (.i2d, 1) := by decide +kernel
theorem dL_law_185 : decode cL_law 185 = .ok (.ldc2_w 39, 3) := by decide +kernel
theorem dL_law_188 : decode cL_law 188 = .ok (.dmul, 1) := by decide +kernel
theorem dL_law_189 : decode cL_law 189 = .ok (.invokevirtual 45, 3) := by decide +kernel
theorem dL_law_192 : decode cL_law 192 = .ok (.if_icmp .eq 550, 3) := by decide +kernel
theorem dL_law_195 : decode cL_law 195 = .ok (.iconst 0, 1) := by decide +kernel
theorem dL_law_196 : decode cL_law 196 = .ok (.ireturn, 1) := by decide +kernel
theorem dL_law_197 : decode cL_law 197 = .ok (.aload_n 1, 1) := by decide +kernel
theorem dL_law_198 : decode cL_law 198 = .ok (.aload_n 0, 1) := by decide +kernel
theorem dL_law_199 : decode cL_law 199 = .ok (.iload 4, 2) := by decide +kernel
theorem dL_law_201 : decode cL_law 201 = .ok (.iconst 1, 1) := by decide +kernel
theorem dL_law_202 : decode cL_law 202 = .ok (.iadd, 1) := by decide +kernel
theorem dL_law_203 : decode cL_law 203 = .ok (.iaload, 1) := by decide +kernel
theorem dL_law_204 : decode cL_law 204 = .ok (.aload_n 0, 1) := by decide +kernel
theorem dL_law_205 : decode cL_law 205 = .ok (.iload 4, 2) := by decide +kernel
theorem dL_law_207 : decode cL_law 207 = .ok (.iconst 2, 1) := by decide +kernel
theorem dL_law_208 : decode cL_law 208 = .ok (.iadd, 1) := by decide +kernel
theorem dL_law_209 : decode cL_law 209 = .ok (.iaload, 1) := by decide +kernel
theorem dL_law_210 : decode cL_law 210 = .ok (.aload_n 0, 1) := by decide +kernel
theorem dL_law_211 : decode cL_law 211 = .ok (.iload 4, 2) := by decide +kernel
theorem dL_law_213 : decode cL_law 213 = .ok (.iconst 3, 1) := by decide +kernel
theorem dL_law_214 : decode cL_law 214 = .ok (.iadd, 1) := by decide +kernel
theorem dL_law_215 : decode cL_law 215 = .ok (.iaload, 1) := by decide +kernel
theorem dL_law_216 : decode cL_law 216 = .ok (.i2d, 1) := by decide +kernel
theorem dL_law_217 : decode cL_law 217 = .ok (.ldc2_w 39, 3) := by decide +kernel
theorem dL_law_220 : decode cL_law 220 = .ok (.dmul, 1) := by decide +kernel
theorem dL_law_221 : decode cL_law 221 = .ok (.invokevirtual 46, 3) := by decide +kernel
theorem dL_law_224 : decode cL_law 224 = .ok (.aload_n 2, 1) := by decide +kernel
theorem dL_law_225 : decode cL_law 225 = .ok (.aload_n 0, 1) := by decide +kernel
theorem dL_law_226 : decode cL_law 226 = .ok (.iload 4, 2) := by decide +kernel
theorem dL_law_228 : decode cL_law 228 = .ok (.iconst 1, 1) := by decide +kernel
theorem dL_law_229 : decode cL_law 229 = .ok (.iadd, 1) := by decide +kernel
theorem dL_law_230 : decode cL_law 230 = .ok (.iaload, 1) := by decide +kernel
theorem dL_law_231 : decode cL_law 231 = .ok (.aload_n 0, 1) := by decide +kernel
theorem dL_law_232 : decode cL_law 232 = .ok (.iload 4, 2) := by decide +kernel
theorem dL_law_234 : decode cL_law 234 = .ok (.iconst 2, 1) := by decide +kernel
theorem dL_law_235 : decode cL_law 235 = .ok (.iadd, 1) := by decide +kernel
theorem dL_law_236 : decode cL_law 236 = .ok (.iaload, 1) := by decide +kernel
theorem dL_law_237 : decode cL_law 237 = .ok (.aload_n 0, 1) := by decide +kernel
theorem dL_law_238 : decode cL_law 238 = .ok (.iload 4, 2) := by decide +kernel
theorem dL_law_240 : decode cL_law 240 = .ok (.iconst 3, 1) := by decide +kernel
theorem dL_law_241 : decode cL_law 241 = .ok (.iadd, 1) := by decide +kernel
theorem dL_law_242 : decode cL_law 242 = .ok (.iaload, 1) := by decide +kernel
theorem dL_law_243 : decode cL_law 243 = .ok (.i2d, 1) := by decide +kernel
theorem dL_law_244 : decode cL_law 244 = .ok (.ldc2_w 39, 3) := by decide +kernel
theorem dL_law_247 : decode cL_law 247 = .ok (.dmul, 1) := by decide +kernel
theorem dL_law_248 : decode cL_law 248 = .ok (.invokevirtual 50, 3) := by decide +kernel
theorem dL_law_251 : decode cL_law 251 = .ok (.if_icmp .eq 491, 3) := by decide +kernel
theorem dL_law_254 : decode cL_law 254 = .ok (.iconst 0, 1) := by decide +kernel
theorem dL_law_255 : decode cL_law 255 = .ok (.ireturn, 1) := by decide +kernel
theorem dL_law_256 : decode cL_law 256 = .ok (.aload_n 1, 1) := by decide +kernel
theorem dL_law_257 : decode cL_law 257 = .ok (.aload_n 0, 1) := by decide +kernel
theorem dL_law_258 : decode cL_law 258 = .ok (.iload 4, 2) := by decide +kernel
theorem dL_law_260 : decode cL_law 260 = .ok (.iconst 1, 1) := by decide +kernel
theorem dL_law_261 : decode cL_law 261 = .ok (.iadd, 1) := by decide +kernel
theorem dL_law_262 : decode cL_law 262 = .ok (.iaload, 1) := by decide +kernel
theorem dL_law_263 : decode cL_law 263 = .ok (.aload_n 0, 1) := by decide +kernel
theorem dL_law_264 : decode cL_law 264 = .ok (.iload 4, 2) := by decide +kernel
theorem dL_law_266 : decode cL_law 266 = .ok (.iconst 2, 1) := by decide +kernel
theorem dL_law_267 : decode cL_law 267 = .ok (.iadd, 1) := by decide +kernel
theorem dL_law_268 : decode cL_law 268 = .ok (.iaload, 1) := by decide +kernel
theorem dL_law_269 : decode cL_law 269 = .ok (.aload_n 0, 1) := by decide +kernel
theorem dL_law_270 : decode cL_law 270 = .ok (.iload 4, 2) := by decide +kernel
theorem dL_law_272 : decode cL_law 272 = .ok (.iconst 3, 1) := by decide +kernel
theorem dL_law_273 : decode cL_law 273 = .ok (.iadd, 1) := by decide +kernel
theorem dL_law_274 : decode cL_law 274 = .ok (.iaload, 1) := by decide +kernel
theorem dL_law_275 : decode cL_law 275 = .ok (.i2d, 1) := by decide +kernel
theorem dL_law_276 : decode cL_law 276 = .ok (.ldc2_w 39, 3) := by decide +kernel
theorem dL_law_279 : decode cL_law 279 = .ok (.dmul, 1) := by decide +kernel
theorem dL_law_280 : decode cL_law 280 = .ok (.invokevirtual 51, 3) := by decide +kernel
theorem dL_law_283 : decode cL_law 283 = .ok (.aload_n 2, 1) := by decide +kernel
theorem dL_law_284 : decode cL_law 284 = .ok (.aload_n 0, 1) := by decide +kernel
theorem dL_law_285 : decode cL_law 285 = .ok (.iload 4, 2) := by decide +kernel
theorem dL_law_287 : decode cL_law 287 = .ok (.iconst 1, 1) := by decide +kernel
theorem dL_law_288 : decode cL_law 288 = .ok (.iadd, 1) := by decide +kernel
theorem dL_law_289 : decode cL_law 289 = .ok (.iaload, 1) := by decide +kernel
theorem dL_law_290 : decode cL_law 290 = .ok (.aload_n 0, 1) := by decide +kernel
theorem dL_law_291 : decode cL_law 291 = .ok (.iload 4, 2) := by decide +kernel
theorem dL_law_293 : decode cL_law 293 = .ok (.iconst 2, 1) := by decide +kernel
theorem dL_law_294 : decode cL_law 294 = .ok (.iadd, 1) := by decide +kernel
theorem dL_law_295 : decode cL_law 295 = .ok (.iaload, 1) := by decide +kernel
theorem dL_law_296 : decode cL_law 296 = .ok (.aload_n 0, 1) := by decide +kernel
theorem dL_law_297 : decode cL_law 297 = .ok (.iload 4, 2) := by decide +kernel
theorem dL_law_299 : decode cL_law 299 = .ok (.iconst 3, 1) := by decide +kernel
theorem dL_law_300 : decode cL_law 300 = .ok (.iadd, 1) := by decide +kernel
theorem dL_law_301 : decode cL_law 301 = .ok (.iaload, 1) := by decide +kernel
theorem dL_law_302 : decode cL_law 302 = .ok (.i2d, 1) := by decide +kernel
theorem dL_law_303 : decode cL_law 303 = .ok (.ldc2_w 39, 3) := by decide +kernel
theorem dL_law_306 : decode cL_law 306 = .ok (.dmul, 1) := by decide +kernel
theorem dL_law_307 : decode cL_law 307 = .ok (.invokevirtual 54, 3) := by decide +kernel
theorem dL_law_310 : decode cL_law 310 = .ok (.if_icmp .eq 432, 3) := by decide +kernel
theorem dL_law_313 : decode cL_law 313 = .ok (.iconst 0, 1) := by decide +kernel
theorem dL_law_314 : decode cL_law 314 = .ok (.ireturn, 1) := by decide +kernel
theorem dL_law_315 : decode cL_law 315 = .ok (.aload_n 1, 1) := by decide +kernel
theorem dL_law_316 : decode cL_law 316 = .ok (.aload_n 0, 1) := by decide +kernel
theorem dL_law_317 : decode cL_law 317 = .ok (.iload 4, 2) := by decide +kernel
theorem dL_law_319 : decode cL_law 319 = .ok (.iconst 1, 1) := by decide +kernel
theorem dL_law_320 : decode cL_law 320 = .ok (.iadd, 1) := by decide +kernel
theorem dL_law_321 : decode cL_law 321 = .ok (.iaload, 1) := by decide +kernel
theorem dL_law_322 : decode cL_law 322 = .ok (.invokevirtual 55, 3) := by decide +kernel
theorem dL_law_325 : decode cL_law 325 = .ok (.aload_n 2, 1) := by decide +kernel
theorem dL_law_326 : decode cL_law 326 = .ok (.aload_n 0, 1) := by decide +kernel
theorem dL_law_327 : decode cL_law 327 = .ok (.iload 4, 2) := by decide +kernel
theorem dL_law_329 : decode cL_law 329 = .ok (.iconst 1, 1) := by decide +kernel
theorem dL_law_330 : decode cL_law 330 = .ok (.iadd, 1) := by decide +kernel
theorem dL_law_331 : decode cL_law 331 = .ok (.iaload, 1) := by decide +kernel
theorem dL_law_332 : decode cL_law 332 = .ok (.invokevirtual 58, 3) := by decide +kernel
theorem dL_law_335 : decode cL_law 335 = .ok (.if_icmp .eq 407, 3) := by decide +kernel
theorem dL_law_338 : decode cL_law 338 = .ok (.iconst 0, 1) := by decide +kernel
theorem dL_law_339 : decode cL_law 339 = .ok (.ireturn, 1) := by decide +kernel
theorem dL_law_340 : decode cL_law 340 = .ok (.aload_n 1, 1) := by decide +kernel
theorem dL_law_341 : decode cL_law 341 = .ok (.invokevirtual 59, 3) := by decide +kernel
theorem dL_law_344 : decode cL_law 344 = .ok (.aload_n 2, 1) := by decide +kernel
theorem dL_law_345 : decode cL_law 345 = .ok (.invokevirtual 63, 3) := by decide +kernel
theorem dL_law_348 : decode cL_law 348 = .ok (.if_icmp .eq 394, 3) := by decide +kernel
theorem dL_law_351 : decode cL_law 351 = .ok (.iconst 0, 1) := by decide +kernel
theorem dL_law_352 : decode cL_law 352 = .ok (.ireturn, 1) := by decide +kernel
theorem dL_law_353 : decode cL_law 353 = .ok (.aload_n 1, 1) := by decide +kernel
theorem dL_law_354 : decode cL_law 354 = .ok (.invokevirtual 64, 3) := by decide +kernel
theorem dL_law_357 : decode cL_law 357 = .ok (.aload_n 2, 1) := by decide +kernel
theorem dL_law_358 : decode cL_law 358 = .ok (.invokevirtual 67, 3) := by decide +kernel
theorem dL_law_361 : decode cL_law 361 = .ok (.if_icmp .eq 381, 3) := by decide +kernel
theorem dL_law_364 : decode cL_law 364 = .ok (.iconst 0, 1) := by decide +kernel
theorem dL_law_365 : decode cL_law 365 = .ok (.ireturn, 1) := by decide +kernel
theorem dL_law_366 : decode cL_law 366 = .ok (.aload_n 1, 1) := by decide +kernel
theorem dL_law_367 : decode cL_law 367 = .ok (.aload_n 0, 1) := by decide +kernel
theorem dL_law_368 : decode cL_law 368 = .ok (.iload 4, 2) := by decide +kernel
theorem dL_law_370 : decode cL_law 370 = .ok (.iconst 1, 1) := by decide +kernel
theorem dL_law_371 : decode cL_law 371 = .ok (.iadd, 1) := by decide +kernel
theorem dL_law_372 : decode cL_law 372 = .ok (.iaload, 1) := by decide +kernel
theorem dL_law_373 : decode cL_law 373 = .ok (.aload_n 0, 1) := by decide +kernel
theorem dL_law_374 : decode cL_law 374 = .ok (.iload 4, 2) := by decide +kernel
theorem dL_law_376 : decode cL_law 376 = .ok (.iconst 2, 1) := by decide +kernel
theorem dL_law_377 : decode cL_law 377 = .ok (.iadd, 1) := by decide +kernel
theorem dL_law_378 : decode cL_law 378 = .ok (.iaload, 1) := by decide +kernel
theorem dL_law_379 : decode cL_law 379 = .ok (.aload_n 3, 1) := by decide +kernel
theorem dL_law_380 : decode cL_law 380 = .ok (.invokestatic 68, 3) := by decide +kernel
theorem dL_law_383 : decode cL_law 383 = .ok (.istore 5, 2) := by decide +kernel
theorem dL_law_385 : decode cL_law 385 = .ok (.aload_n 2, 1) := by decide +kernel
theorem dL_law_386 : decode cL_law 386 = .ok (.aload_n 0, 1) := by decide +kernel
theorem dL_law_387 : decode cL_law 387 = .ok (.iload 4, 2) := by decide +kernel
theorem dL_law_389 : decode cL_law 389 = .ok (.iconst 1, 1) := by decide +kernel
theorem dL_law_390 : decode cL_law 390 = .ok (.iadd, 1) := by decide +kernel
theorem dL_law_391 : decode cL_law 391 = .ok (.iaload, 1) := by decide +kernel
theorem dL_law_392 : decode cL_law 392 = .ok (.aload_n 0, 1) := by decide +kernel
theorem dL_law_393 : decode cL_law 393 = .ok (.iload 4, 2) := by decide +kernel
theorem dL_law_395 : decode cL_law 395 = .ok (.iconst 2, 1) := by decide +kernel
theorem dL_law_396 : decode cL_law 396 = .ok (.iadd, 1) := by decide +kernel
theorem dL_law_397 : decode cL_law 397 = .ok (.iaload, 1) := by decide +kernel
theorem dL_law_398 : decode cL_law 398 = .ok (.invokevirtual 73, 3) := by decide +kernel
theorem dL_law_401 : decode cL_law 401 = .ok (.dstore 6, 2) := by decide +kernel
theorem dL_law_403 : decode cL_law 403 = .ok (.aload_n 2, 1) := by decide +kernel
theorem dL_law_404 : decode cL_law 404 = .ok (.invokevirtual 74, 3) := by decide +kernel
theorem dL_law_407 : decode cL_law 407 = .ok (.iload 5, 2) := by decide +kernel
theorem dL_law_409 : decode cL_law 409 = .ok (.if_icmp .eq 5, 3) := by decide +kernel
theorem dL_law_412 : decode cL_law 412 = .ok (.iconst 0, 1) := by decide +kernel
theorem dL_law_413 : decode cL_law 413 = .ok (.ireturn, 1) := by decide +kernel
theorem dL_law_414 : decode cL_law 414 = .ok (.iload 5, 2) := by decide +kernel
theorem dL_law_416 : decode cL_law 416 = .ok (.ifCond .ne 32, 3) := by decide +kernel
theorem dL_law_419 : decode cL_law 419 = .ok (.aload_n 3, 1) := by decide +kernel
theorem dL_law_420 : decode cL_law 420 = .ok (.iconst 0, 1) := by decide +kernel
theorem dL_law_421 : decode cL_law 421 = .ok (.daload, 1) := by decide +kernel
theorem dL_law_422 : decode cL_law 422 = .ok (.dload 6, 2) := by decide +kernel
theorem dL_law_424 : decode cL_law 424 = .ok (.dcmp .l, 1) := by decide +kernel
theorem dL_law_425 : decode cL_law 425 = .ok (.ifCond .eq 23, 3) := by decide +kernel
theorem dL_law_428 : decode cL_law 428 = .ok (.aload_n 3, 1) := by decide +kernel
theorem dL_law_429 : decode cL_law 429 = .ok (.iconst 0, 1) := by decide +kernel
theorem dL_law_430 : decode cL_law 430 = .ok (.daload, 1) := by decide +kernel
theorem dL_law_431 : decode cL_law 431 = .ok (.aload_n 3, 1) := by decide +kernel
theorem dL_law_432 : decode cL_law 432 = .ok (.iconst 0, 1) := by decide +kernel
theorem dL_law_433 : decode cL_law 433 = .ok (.daload, 1) := by decide +kernel
theorem dL_law_434 : decode cL_law 434 = .ok (.dcmp .l, 1) := by decide +kernel
theorem dL_law_435 : decode cL_law 435 = .ok (.ifCond .eq 11, 3) := by decide +kernel
theorem dL_law_438 : decode cL_law 438 = .ok (.dload 6, 2) := by decide +kernel
theorem dL_law_440 : decode cL_law 440 = .ok (.dload 6, 2) := by decide +kernel
theorem dL_law_442 : decode cL_law 442 = .ok (.dcmp .l, 1) := by decide +kernel
theorem dL_law_443 : decode cL_law 443 = .ok (.ifCond .ne 5, 3) := by decide +kernel
theorem dL_law_446 : decode cL_law 446 = .ok (.iconst 0, 1) := by decide +kernel
theorem dL_law_447 : decode cL_law 447 = .ok (.ireturn, 1) := by decide +kernel
theorem dL_law_448 : decode cL_law 448 = .ok (.goto 294, 3) := by decide +kernel
theorem dL_law_451 : decode cL_law 451 = .ok (.aload_n 1, 1) := by decide +kernel
theorem dL_law_452 : decode cL_law 452 = .ok (.aload_n 0, 1) := by decide +kernel
theorem dL_law_453 : decode cL_law 453 = .ok (.iload 4, 2) := by decide +kernel
theorem dL_law_455 : decode cL_law 455 = .ok (.iconst 1, 1) := by decide +kernel
theorem dL_law_456 : decode cL_law 456 = .ok (.iadd, 1) := by decide +kernel
theorem dL_law_457 : decode cL_law 457 = .ok (.iaload, 1) := by decide +kernel
theorem dL_law_458 : decode cL_law 458 = .ok (.aload_n 0, 1) := by decide +kernel
theorem dL_law_459 : decode cL_law 459 = .ok (.iload 4, 2) := by decide +kernel
theorem dL_law_461 : decode cL_law 461 = .ok (.iconst 2, 1) := by decide +kernel
theorem dL_law_462 : decode cL_law 462 = .ok (.iadd, 1) := by decide +kernel
theorem dL_law_463 : decode cL_law 463 = .ok (.iaload, 1) := by decide +kernel
theorem dL_law_464 : decode cL_law 464 = .ok (.aload_n 3, 1) := by decide +kernel
theorem dL_law_465 : decode cL_law 465 = .ok (.invokestatic 77, 3) := by decide +kernel
theorem dL_law_468 : decode cL_law 468 = .ok (.istore 5, 2) := by decide +kernel
theorem dL_law_470 : decode cL_law 470 = .ok (.aload_n 2, 1) := by decide +kernel
theorem dL_law_471 : decode cL_law 471 = .ok (.aload_n 0, 1) := by decide +kernel
theorem dL_law_472 : decode cL_law 472 = .ok (.iload 4, 2) := by decide +kernel
theorem dL_law_474 : decode cL_law 474 = .ok (.iconst 1, 1) := by decide +kernel
theorem dL_law_475 : decode cL_law 475 = .ok (.iadd, 1) := by decide +kernel
theorem dL_law_476 : decode cL_law 476 = .ok (.iaload, 1) := by decide +kernel
theorem dL_law_477 : decode cL_law 477 = .ok (.aload_n 0, 1) := by decide +kernel
theorem dL_law_478 : decode cL_law 478 = .ok (.iload 4, 2) := by decide +kernel
theorem dL_law_480 : decode cL_law 480 = .ok (.iconst 2, 1) := by decide +kernel
theorem dL_law_481 : decode cL_law 481 = .ok (.iadd, 1) := by decide +kernel
theorem dL_law_482 : decode cL_law 482 = .ok (.iaload, 1) := by decide +kernel
theorem dL_law_483 : decode cL_law 483 = .ok (.invokevirtual 79, 3) := by decide +kernel
theorem dL_law_486 : decode cL_law 486 = .ok (.dstore 6, 2) := by decide +kernel
theorem dL_law_488 : decode cL_law 488 = .ok (.aload_n 2, 1) := by decide +kernel
theorem dL_law_489 : decode cL_law 489 = .ok (.invokevirtual 74, 3) := by decide +kernel
theorem dL_law_492 : decode cL_law 492 = .ok (.iload 5, 2) := by decide +kernel
theorem dL_law_494 : decode cL_law 494 = .ok (.if_icmp .eq 5, 3) := by decide +kernel
theorem dL_law_497 : decode cL_law 497 = .ok (.iconst 0, 1) := by decide +kernel
theorem dL_law_498 : decode cL_law 498 = .ok (.ireturn, 1) := by decide +kernel
theorem dL_law_499 : decode cL_law 499 = .ok (.iload 5, 2) := by decide +kernel
theorem dL_law_501 : decode cL_law 501 = .ok (.ifCond .ne 32, 3) := by decide +kernel
theorem dL_law_504 : decode cL_law 504 = .ok (.aload_n 3, 1) := by decide +kernel
theorem dL_law_505 : decode cL_law 505 = .ok (.iconst 0, 1) := by decide +kernel
theorem dL_law_506 : decode cL_law 506 = .ok (.daload, 1) := by decide +kernel
theorem dL_law_507 : decode cL_law 507 = .ok (.dload 6, 2) := by decide +kernel
theorem dL_law_509 : decode cL_law 509 = .ok (.dcmp .l, 1) := by decide +kernel
theorem dL_law_510 : decode cL_law 510 = .ok (.ifCond .eq 23, 3) := by decide +kernel
theorem dL_law_513 : decode cL_law 513 = .ok (.aload_n 3, 1) := by decide +kernel
theorem dL_law_514 : decode cL_law 514 = .ok (.iconst 0, 1) := by decide +kernel
theorem dL_law_515 : decode cL_law 515 = .ok (.daload, 1) := by decide +kernel
theorem dL_law_516 : decode cL_law 516 = .ok (.aload_n 3, 1) := by decide +kernel
theorem dL_law_517 : decode cL_law 517 = .ok (.iconst 0, 1) := by decide +kernel
theorem dL_law_518 : decode cL_law 518 = .ok (.daload, 1) := by decide +kernel
theorem dL_law_519 : decode cL_law 519 = .ok (.dcmp .l, 1) := by decide +kernel
theorem dL_law_520 : decode cL_law 520 = .ok (.ifCond .eq 11, 3) := by decide +kernel
theorem dL_law_523 : decode cL_law 523 = .ok (.dload 6, 2) := by decide +kernel
theorem dL_law_525 : decode cL_law 525 = .ok (.dload 6, 2) := by decide +kernel
theorem dL_law_527 : decode cL_law 527 = .ok (.dcmp .l, 1) := by decide +kernel
theorem dL_law_528 : decode cL_law 528 = .ok (.ifCond .ne 5, 3) := by decide +kernel
theorem dL_law_531 : decode cL_law 531 = .ok (.iconst 0, 1) := by decide +kernel
theorem dL_law_532 : decode cL_law 532 = .ok (.ireturn, 1) := by decide +kernel
theorem dL_law_533 : decode cL_law 533 = .ok (.goto 209, 3) := by decide +kernel
theorem dL_law_536 : decode cL_law 536 = .ok (.aload_n 1, 1) := by decide +kernel
theorem dL_law_537 : decode cL_law 537 = .ok (.invokevirtual 80, 3) := by decide +kernel
theorem dL_law_540 : decode cL_law 540 = .ok (.dstore 5, 2) := by decide +kernel
theorem dL_law_542 : decode cL_law 542 = .ok (.aload_n 2, 1) := by decide +kernel
theorem dL_law_543 : decode cL_law 543 = .ok (.invokevirtual 84, 3) := by decide +kernel
theorem dL_law_546 : decode cL_law 546 = .ok (.dstore 7, 2) := by decide +kernel
theorem dL_law_548 : decode cL_law 548 = .ok (.dload 5, 2) := by decide +kernel
theorem dL_law_550 : decode cL_law 550 = .ok (.dload 7, 2) := by decide +kernel
theorem dL_law_552 : decode cL_law 552 = .ok (.dcmp .l, 1) := by decide +kernel
theorem dL_law_553 : decode cL_law 553 = .ok (.ifCond .eq 21, 3) := by decide +kernel
theorem dL_law_556 : decode cL_law 556 = .ok (.dload 5, 2) := by decide +kernel
theorem dL_law_558 : decode cL_law 558 = .ok (.dload 5, 2) := by decide +kernel
theorem dL_law_560 : decode cL_law 560 = .ok (.dcmp .l, 1) := by decide +kernel
theorem dL_law_561 : decode cL_law 561 = .ok (.ifCond .eq 11, 3) := by decide +kernel
theorem dL_law_564 : decode cL_law 564 = .ok (.dload 7, 2) := by decide +kernel
theorem dL_law_566 : decode cL_law 566 = .ok (.dload 7, 2) := by decide +kernel
theorem dL_law_568 : decode cL_law 568 = .ok (.dcmp .l, 1) := by decide +kernel
theorem dL_law_569 : decode cL_law 569 = .ok (.ifCond .ne 5, 3) := by decide +kernel
theorem dL_law_572 : decode cL_law 572 = .ok (.iconst 0, 1) := by decide +kernel
theorem dL_law_573 : decode cL_law 573 = .ok (.ireturn, 1) := by decide +kernel
theorem dL_law_574 : decode cL_law 574 = .ok (.goto 168, 3) := by decide +kernel
theorem dL_law_577 : decode cL_law 577 = .ok (.aload_n 1, 1) := by decide +kernel
theorem dL_law_578 : decode cL_law 578 = .ok (.invokevirtual 85, 3) := by decide +kernel
theorem dL_law_581 : decode cL_law 581 = .ok (.dstore 5, 2) := by decide +kernel
theorem dL_law_583 : decode cL_law 583 = .ok (.aload_n 2, 1) := by decide +kernel
theorem dL_law_584 : decode cL_law 584 = .ok (.invokevirtual 88, 3) := by decide +kernel
theorem dL_law_587 : decode cL_law 587 = .ok (.dstore 7, 2) := by decide +kernel
theorem dL_law_589 : decode cL_law 589 = .ok (.dload 5, 2) := by decide +kernel
theorem dL_law_591 : decode cL_law 591 = .ok (.dload 7, 2) := by decide +kernel
theorem dL_law_593 : decode cL_law 593 = .ok (.dcmp .l, 1) := by decide +kernel
theorem dL_law_594 : decode cL_law 594 = .ok (.ifCond .eq 21, 3) := by decide +kernel
theorem dL_law_597 : decode cL_law 597 = .ok (.dload 5, 2) := by decide +kernel
theorem dL_law_599 : decode cL_law 599 = .ok (.dload 5, 2) := by decide +kernel
theorem dL_law_601 : decode cL_law 601 = .ok (.dcmp .l, 1) := by decide +kernel
theorem dL_law_602 : decode cL_law 602 = .ok (.ifCond .eq 11, 3) := by decide +kernel
theorem dL_law_605 : decode cL_law 605 = .ok (.dload 7, 2) := by decide +kernel
theorem dL_law_607 : decode cL_law 607 = .ok (.dload 7, 2) := by decide +kernel
theorem dL_law_609 : decode cL_law 609 = .ok (.dcmp .l, 1) := by decide +kernel
theorem dL_law_610 : decode cL_law 610 = .ok (.ifCond .ne 5, 3) := by decide +kernel
theorem dL_law_613 : decode cL_law 613 = .ok (.iconst 0, 1) := by decide +kernel
theorem dL_law_614 : decode cL_law 614 = .ok (.ireturn, 1) := by decide +kernel
theorem dL_law_615 : decode cL_law 615 = .ok (.goto 127, 3) := by decide +kernel
theorem dL_law_618 : decode cL_law 618 = .ok (.aload_n 1, 1) := by decide +kernel
theorem dL_law_619 : decode cL_law 619 = .ok (.aload_n 0, 1) := by decide +kernel
theorem dL_law_620 : decode cL_law 620 = .ok (.iload 4, 2) := by decide +kernel
theorem dL_law_622 : decode cL_law 622 = .ok (.iconst 1, 1) := by decide +kernel
theorem dL_law_623 : decode cL_law 623 = .ok (.iadd, 1) := by decide +kernel
theorem dL_law_624 : decode cL_law 624 = .ok (.iaload, 1) := by decide +kernel
theorem dL_law_625 : decode cL_law 625 = .ok (.invokevirtual 89, 3) := by decide +kernel
theorem dL_law_628 : decode cL_law 628 = .ok (.aload_n 2, 1) := by decide +kernel
theorem dL_law_629 : decode cL_law 629 = .ok (.aload_n 0, 1) := by decide +kernel
theorem dL_law_630 : decode cL_law 630 = .ok (.iload 4, 2) := by decide +kernel
theorem dL_law_632 : decode cL_law 632 = .ok (.iconst 1, 1) := by decide +kernel
theorem dL_law_633 : decode cL_law 633 = .ok (.iadd, 1) := by decide +kernel
theorem dL_law_634 : decode cL_law 634 = .ok (.iaload, 1) := by decide +kernel
theorem dL_law_635 : decode cL_law 635 = .ok (.invokevirtual 93, 3) := by decide +kernel
theorem dL_law_638 : decode cL_law 638 = .ok (.if_icmp .eq 104, 3) := by decide +kernel
theorem dL_law_641 : decode cL_law 641 = .ok (.iconst 0, 1) := by decide +kernel
theorem dL_law_642 : decode cL_law 642 = .ok (.ireturn, 1) := by decide +kernel
theorem dL_law_643 : decode cL_law 643 = .ok (.aload_n 1, 1) := by decide +kernel
theorem dL_law_644 : decode cL_law 644 = .ok (.aload_n 0, 1) := by decide +kernel
theorem dL_law_645 : decode cL_law 645 = .ok (.iload 4, 2) := by decide +kernel
theorem dL_law_647 : decode cL_law 647 = .ok (.iconst 1, 1) := by decide +kernel
theorem dL_law_648 : decode cL_law 648 = .ok (.iadd, 1) := by decide +kernel
theorem dL_law_649 : decode cL_law 649 = .ok (.iaload, 1) := by decide +kernel
theorem dL_law_650 : decode cL_law 650 = .ok (.aload_n 0, 1) := by decide +kernel
theorem dL_law_651 : decode cL_law 651 = .ok (.iload 4, 2) := by decide +kernel
theorem dL_law_653 : decode cL_law 653 = .ok (.iconst 2, 1) := by decide +kernel
theorem dL_law_654 : decode cL_law 654 = .ok (.iadd, 1) := by decide +kernel
theorem dL_law_655 : decode cL_law 655 = .ok (.iaload, 1) := by decide +kernel
theorem dL_law_656 : decode cL_law 656 = .ok (.aload_n 3, 1) := by decide +kernel
theorem dL_law_657 : decode cL_law 657 = .ok (.invokestatic 94, 3) := by decide +kernel
theorem dL_law_660 : decode cL_law 660 = .ok (.istore 5, 2) := by decide +kernel
theorem dL_law_662 : decode cL_law 662 = .ok (.aload_n 2, 1) := by decide +kernel
theorem dL_law_663 : decode cL_law 663 = .ok (.aload_n 0, 1) := by decide +kernel
theorem dL_law_664 : decode cL_law 664 = .ok (.iload 4, 2) := by decide +kernel
theorem dL_law_666 : decode cL_law 666 = .ok (.iconst 1, 1) := by decide +kernel
theorem dL_law_667 : decode cL_law 667 = .ok (.iadd, 1) := by decide +kernel
theorem dL_law_668 : decode cL_law 668 = .ok (.iaload, 1) := by decide +kernel
theorem dL_law_669 : decode cL_law 669 = .ok (.aload_n 0, 1) := by decide +kernel
theorem dL_law_670 : decode cL_law 670 = .ok (.iload 4, 2) := by decide +kernel
theorem dL_law_672 : decode cL_law 672 = .ok (.iconst 2, 1) := by decide +kernel
theorem dL_law_673 : decode cL_law 673 = .ok (.iadd, 1) := by decide +kernel
theorem dL_law_674 : decode cL_law 674 = .ok (.iaload, 1) := by decide +kernel
theorem dL_law_675 : decode cL_law 675 = .ok (.invokevirtual 96, 3) := by decide +kernel
theorem dL_law_678 : decode cL_law 678 = .ok (.dstore 6, 2) := by decide +kernel
theorem dL_law_680 : decode cL_law 680 = .ok (.aload_n 2, 1) := by decide +kernel
theorem dL_law_681 : decode cL_law 681 = .ok (.invokevirtual 74, 3) := by decide +kernel
theorem dL_law_684 : decode cL_law 684 = .ok (.iload 5, 2) := by decide +kernel
theorem dL_law_686 : decode cL_law 686 = .ok (.if_icmp .eq 5, 3) := by decide +kernel
theorem dL_law_689 : decode cL_law 689 = .ok (.iconst 0, 1) := by decide +kernel
theorem dL_law_690 : decode cL_law 690 = .ok (.ireturn, 1) := by decide +kernel
theorem dL_law_691 : decode cL_law 691 = .ok (.iload 5, 2) := by decide +kernel
theorem dL_law_693 : decode cL_law 693 = .ok (.ifCond .ne 32, 3) := by decide +kernel
theorem dL_law_696 : decode cL_law 696 = .ok (.aload_n 3, 1) := by decide +kernel
theorem dL_law_697 : decode cL_law 697 = .ok (.iconst 0, 1) := by decide +kernel
theorem dL_law_698 : decode cL_law 698 = .ok (.daload, 1) := by decide +kernel
theorem dL_law_699 : decode cL_law 699 = .ok (.dload 6, 2) := by decide +kernel
theorem dL_law_701 : decode cL_law 701 = .ok (.dcmp .l, 1) := by decide +kernel
theorem dL_law_702 : decode cL_law 702 = .ok (.ifCond .eq 23, 3) := by decide +kernel
theorem dL_law_705 : decode cL_law 705 = .ok (.aload_n 3, 1) := by decide +kernel
theorem dL_law_706 : decode cL_law 706 = .ok (.iconst 0, 1) := by decide +kernel
theorem dL_law_707 : decode cL_law 707 = .ok (.daload, 1) := by decide +kernel
theorem dL_law_708 : decode cL_law 708 = .ok (.aload_n 3, 1) := by decide +kernel
theorem dL_law_709 : decode cL_law 709 = .ok (.iconst 0, 1) := by decide +kernel
theorem dL_law_710 : decode cL_law 710 = .ok (.daload, 1) := by decide +kernel
theorem dL_law_711 : decode cL_law 711 = .ok (.dcmp .l, 1) := by decide +kernel
theorem dL_law_712 : decode cL_law 712 = .ok (.ifCond .eq 11, 3) := by decide +kernel
theorem dL_law_715 : decode cL_law 715 = .ok (.dload 6, 2) := by decide +kernel
theorem dL_law_717 : decode cL_law 717 = .ok (.dload 6, 2) := by decide +kernel
theorem dL_law_719 : decode cL_law 719 = .ok (.dcmp .l, 1) := by decide +kernel
theorem dL_law_720 : decode cL_law 720 = .ok (.ifCond .ne 5, 3) := by decide +kernel
theorem dL_law_723 : decode cL_law 723 = .ok (.iconst 0, 1) := by decide +kernel
theorem dL_law_724 : decode cL_law 724 = .ok (.ireturn, 1) := by decide +kernel
theorem dL_law_725 : decode cL_law 725 = .ok (.goto 17, 3) := by decide +kernel
theorem dL_law_728 : decode cL_law 728 = .ok (.aload_n 1, 1) := by decide +kernel
theorem dL_law_729 : decode cL_law 729 = .ok (.invokevirtual 97, 3) := by decide +kernel
theorem dL_law_732 : decode cL_law 732 = .ok (.aload_n 2, 1) := by decide +kernel
theorem dL_law_733 : decode cL_law 733 = .ok (.invokevirtual 101, 3) := by decide +kernel
theorem dL_law_736 : decode cL_law 736 = .ok (.lcmp, 1) := by decide +kernel
theorem dL_law_737 : decode cL_law 737 = .ok (.ifCond .eq 5, 3) := by decide +kernel
theorem dL_law_740 : decode cL_law 740 = .ok (.iconst 0, 1) := by decide +kernel
theorem dL_law_741 : decode cL_law 741 = .ok (.ireturn, 1) := by decide +kernel
theorem dL_law_742 : decode cL_law 742 = .ok (.iinc 4 4, 3) := by decide +kernel
theorem dL_law_745 : decode cL_law 745 = .ok (.goto (-722), 3) := by decide +kernel
theorem dL_law_748 : decode cL_law 748 = .ok (.iconst 1, 1) := by decide +kernel
theorem dL_law_749 : decode cL_law 749 = .ok (.ireturn, 1) := by decide +kernel
abbrev vwCl : List vw_C := [(RJ0, TJ0, 2), (RJx00060, TJx00060, 6), (RX0, TX0, 11), (RX1, TX1, 11)]
end
section
/-! worlds by an address function and a content function -/
def wl (N : Nat) (a : Nat → Nat) (e : Nat → va_E) : va_W := (List.range N).map (fun k => (a k, e k))
theorem wl_at {N : Nat} {a : Nat → Nat} {e : Nat → va_E} {k : Nat} (h : k < N) : (wl N a e)[k]? = some (a k, e k) := by
  unfold wl
  rw [List.getElem?_map, List.getElem?_range h]
  rfl
theorem wl_len (N : Nat) (a : Nat → Nat) (e : Nat → va_E) : (wl N a e).length = N := by simp [wl]
theorem wl_inv {N : Nat} {a : Nat → Nat} {e : Nat → va_E} {k : Nat} {q : Nat × va_E} (h : (wl N a e)[k]? = some q) : k < N ∧ q = (a k, e k) := by
  have hk : k < N := by
    have := (List.getElem?_eq_some_iff.mp h).1
    rwa [wl_len] at this
  rw [wl_at hk] at h
  exact ⟨hk, (Option.some.inj h).symm⟩
theorem wl_set {N : Nat} {a : Nat → Nat} {e : Nat → va_E} {k : Nat} {x : va_E} (h : k < N) : (wl N a e).set k (a k, x) = wl N a (va_up e k x) := by
  apply List.ext_getElem?
  intro j
  by_cases hj : j = k
  · subst hj
    rw [List.getElem?_set_self (by rw [wl_len]; exact h), wl_at h, va_up_self]
  · rw [List.getElem?_set_ne (Ne.symm hj)]
    by_cases hN : j < N
    · rw [wl_at hN, wl_at hN, va_up_ne _ _ hj]
    · rw [List.getElem?_eq_none (by rw [wl_len]; omega), List.getElem?_eq_none (by rw [wl_len]; omega)]
def wA (N : Nat) (a : Nat → Nat) : Nat → Prop := fun q => ∃ k, k < N ∧ q = a k
def wInj (N : Nat) (a : Nat → Nat) : Prop := ∀ i j : Nat, i < N → j < N → a i = a j → i = j
theorem wl_D {N : Nat} {a : Nat → Nat} {e : Nat → va_E} {A : Nat → Prop} (hi : wInj N a) (hA : ∀ k, k < N → A (a k)) : va_D A (wl N a e) := by
  refine ⟨fun i j x y hx hy hxy => ?_, fun k q hk => ?_⟩
  · obtain ⟨h1, rfl⟩ := wl_inv hx
    obtain ⟨h2, rfl⟩ := wl_inv hy
    exact hi i j h1 h2 hxy
  · obtain ⟨h1, rfl⟩ := wl_inv hk
    exact hA k h1
theorem wl_P {D : va_G} {cl : List vw_C} {N : Nat} {a : Nat → Nat} {e : Nat → va_E} {H : Heap} (h : ∀ k, k < N → va_at D cl (a k, e k) H) : va_P D cl (wl N a e) H := fun k q hk => by
  obtain ⟨h1, rfl⟩ := wl_inv hk
  exact h k h1
theorem wl_Pat {D : va_G} {cl : List vw_C} {N : Nat} {a : Nat → Nat} {e : Nat → va_E} {H : Heap} (h : va_P D cl (wl N a e) H) {k : Nat} (hk : k < N) : va_at D cl (a k, e k) H := h k _ (wl_at hk)
/-- cells -/
def tys0 (cy : Nat → ClassId) : List (ClassId × FieldType) := [(cy 0, .double), (cy 1, .int), (cy 2, .long), (cy 3, .array .double), (cy 4, .array .int), (cy 5, .array .long)]
def isD (cy : Nat → ClassId) (x : va_E) (n : Nat) (v : Nat → UInt64) : Prop := ∃ f : Nat → UInt64, x = .inl (cy 0, n, .inr (.inr (.inr (.inl f)))) ∧ ∀ j, j < n → f j = v j
def isI (cy : Nat → ClassId) (x : va_E) (n : Nat) (v : Nat → Int32) : Prop := ∃ f : Nat → Int32, x = .inl (cy 1, n, .inl f) ∧ ∀ j, j < n → f j = v j
def isL (cy : Nat → ClassId) (x : va_E) (n : Nat) (v : Nat → Int64) : Prop := ∃ f : Nat → Int64, x = .inl (cy 2, n, .inr (.inl f)) ∧ ∀ j, j < n → f j = v j
def rA (cy : Nat → ClassId) (t n : Nat) (a : Nat → Nat) (b : Nat) : va_E := .inl (cy t, n, .inr (.inr (.inr (.inr (fun i => if i < n then some (a (b + i)) else none)))))
theorem isD.to {cy : Nat → ClassId} {x : va_E} {n : Nat} {v w : Nat → UInt64} (h : isD cy x n v) (hw : ∀ j, j < n → v j = w j) : isD cy x n w := by
  obtain ⟨f, h1, h2⟩ := h
  exact ⟨f, h1, fun j hj => (h2 j hj).trans (hw j hj)⟩
theorem isI.to {cy : Nat → ClassId} {x : va_E} {n : Nat} {v w : Nat → Int32} (h : isI cy x n v) (hw : ∀ j, j < n → v j = w j) : isI cy x n w := by
  obtain ⟨f, h1, h2⟩ := h
  exact ⟨f, h1, fun j hj => (h2 j hj).trans (hw j hj)⟩
theorem isL.to {cy : Nat → ClassId} {x : va_E} {n : Nat} {v w : Nat → Int64} (h : isL cy x n v) (hw : ∀ j, j < n → v j = w j) : isL cy x n w := by
  obtain ⟨f, h1, h2⟩ := h
  exact ⟨f, h1, fun j hj => (h2 j hj).trans (hw j hj)⟩
/-- the judgement: from any heap that holds the world, and any locals that hold the list -/
def GW (p : Program) (l : Launch) (en : Env) (R : Room) (s : State) (m : MethodId) (args : Array Value) (below : List Frame) (meth : Method) (c : Code) (cells slots : Nat) (Q : State → Prop) (D : va_G) (cl : List vw_C) (N nL : Nat) (a : Nat → Nat) (A : Nat → Prop) (e : Nat → va_E) (pc : Nat) (lv : List (Nat × Value)) (st : List Value) : Prop :=
  ∀ (H : Heap) (locs : List Loc) (ls : Array Slot), va_P D cl (wl N a e) H → va_S A s.heap H locs → lv_has ls nL lv → W p l en R s m args below meth c H locs cells slots Q (F0 m pc ls st)
def Cx (p : Program) (s : State) (m : MethodId) (args : Array Value) (c : Code) (cc : ByteArray) (Ts : List Cond) (own : String) (D : va_G) (cl : List vw_C) (cy : Nat → ClassId) (N nL : Nat) (a : Nat → Nat) (A : Nat → Prop) : Prop :=
  p.tables.exec = Jvm.exec ∧ c.code = cc ∧ c.maxLocals = nL ∧ s.vm.findClass own = some m.cls ∧ (∀ w ∈ Ts, w.before args s = true) ∧ va_K D cl (tys0 cy) s ∧ wInj N a ∧ (∀ k, k < N → A (a k))
section GJ
variable {p : Program} {l : Launch} {en : Env} {R : Room} {s : State} {m : MethodId} {args : Array Value} {below : List Frame} {meth : Method} {c : Code} {cells slots : Nat} {Q : State → Prop} {D : va_G} {cl : List vw_C} {cy : Nat → ClassId} {N nL : Nat} {a : Nat → Nat} {A : Nat → Prop} {e : Nat → va_E} {cc : ByteArray} {pc : Nat} {lv : List (Nat × Value)} {st : List Value} {Ts : List Cond} {own : String}

theorem g_iconst (C : Cx p s m args c cc Ts own D cl cy N nL a A) {n : Int} {v : Int32} (hdg : decode cc pc = .ok (.iconst n, 1)) (hv : Int32.ofInt n = v) (kk : GW p l en R s m args below meth c cells slots Q D cl N nL a A e (pc + 1) lv (.int v :: st)) : GW p l en R s m args below meth c cells slots Q D cl N nL a A e (pc) lv (st) := fun H locs ls hP hS hl => lv_iconst C.1 C.2.1 hdg hv (kk H locs ls hP hS hl)
theorem g_bipush (C : Cx p s m args c cc Ts own D cl cy N nL a A) {n : Int} {v : Int32} (hdg : decode cc pc = .ok (.bipush n, 2)) (hv : (Int8.ofInt n).toInt32 = v) (kk : GW p l en R s m args below meth c cells slots Q D cl N nL a A e (pc + 2) lv (.int v :: st)) : GW p l en R s m args below meth c cells slots Q D cl N nL a A e (pc) lv (st) := fun H locs ls hP hS hl => lv_bipush C.1 C.2.1 hdg hv (kk H locs ls hP hS hl)
theorem g_lconst (C : Cx p s m args c cc Ts own D cl cy N nL a A) {n : Fin 2} {v : Int64} (hdg : decode cc pc = .ok (.lconst n, 1)) (hv : Int64.ofNat (n : Nat) = v) (kk : GW p l en R s m args below meth c cells slots Q D cl N nL a A e (pc + 1) lv (.long v :: st)) : GW p l en R s m args below meth c cells slots Q D cl N nL a A e (pc) lv (st) := fun H locs ls hP hS hl => lv_lconst C.1 C.2.1 hdg hv (kk H locs ls hP hS hl)
theorem g_dconst0 (C : Cx p s m args c cc Ts own D cl cy N nL a A)  (hdg : decode cc pc = .ok (.dconst 0, 1)) (kk : GW p l en R s m args below meth c cells slots Q D cl N nL a A e (pc + 1) lv (.double FP.dconst0 :: st)) : GW p l en R s m args below meth c cells slots Q D cl N nL a A e (pc) lv (st) := fun H locs ls hP hS hl => lv_dconst0 C.1 C.2.1 hdg (kk H locs ls hP hS hl)
theorem g_dconst1 (C : Cx p s m args c cc Ts own D cl cy N nL a A)  (hdg : decode cc pc = .ok (.dconst 1, 1)) (kk : GW p l en R s m args below meth c cells slots Q D cl N nL a A e (pc + 1) lv (.double FP.dconst1 :: st)) : GW p l en R s m args below meth c cells slots Q D cl N nL a A e (pc) lv (st) := fun H locs ls hP hS hl => lv_dconst1 C.1 C.2.1 hdg (kk H locs ls hP hS hl)
theorem g_aload_n (C : Cx p s m args c cc Ts own D cl cy N nL a A) {k : Fin 4} {i : Nat} {x : Nat} (hdg : decode cc pc = .ok (.aload_n k, 1)) (hi : (k : Nat) = i) (q : Nat) (hq : lv[q]? = some (i, .ref x)) (kk : GW p l en R s m args below meth c cells slots Q D cl N nL a A e (pc + 1) lv (.ref x :: st)) : GW p l en R s m args below meth c cells slots Q D cl N nL a A e (pc) lv (st) := fun H locs ls hP hS hl => lv_aload_n C.1 C.2.1 hdg hi (lv_at hl q hq) (kk H locs ls hP hS hl)
theorem g_aload (C : Cx p s m args c cc Ts own D cl cy N nL a A) {i : Nat} {x : Nat} (hdg : decode cc pc = .ok (.aload i, 2)) (q : Nat) (hq : lv[q]? = some (i, .ref x)) (kk : GW p l en R s m args below meth c cells slots Q D cl N nL a A e (pc + 2) lv (.ref x :: st)) : GW p l en R s m args below meth c cells slots Q D cl N nL a A e (pc) lv (st) := fun H locs ls hP hS hl => lv_aload C.1 C.2.1 hdg (lv_at hl q hq) (kk H locs ls hP hS hl)
theorem g_iload_n (C : Cx p s m args c cc Ts own D cl cy N nL a A) {k : Fin 4} {i : Nat} {x : Int32} (hdg : decode cc pc = .ok (.iload_n k, 1)) (hi : (k : Nat) = i) (q : Nat) (hq : lv[q]? = some (i, .int x)) (kk : GW p l en R s m args below meth c cells slots Q D cl N nL a A e (pc + 1) lv (.int x :: st)) : GW p l en R s m args below meth c cells slots Q D cl N nL a A e (pc) lv (st) := fun H locs ls hP hS hl => lv_iload_n C.1 C.2.1 hdg hi (lv_at hl q hq) (kk H locs ls hP hS hl)
theorem g_iload (C : Cx p s m args c cc Ts own D cl cy N nL a A) {i : Nat} {x : Int32} (hdg : decode cc pc = .ok (.iload i, 2)) (q : Nat) (hq : lv[q]? = some (i, .int x)) (kk : GW p l en R s m args below meth c cells slots Q D cl N nL a A e (pc + 2) lv (.int x :: st)) : GW p l en R s m args below meth c cells slots Q D cl N nL a A e (pc) lv (st) := fun H locs ls hP hS hl => lv_iload C.1 C.2.1 hdg (lv_at hl q hq) (kk H locs ls hP hS hl)
theorem g_lload_n (C : Cx p s m args c cc Ts own D cl cy N nL a A) {k : Fin 4} {i : Nat} {x : Int64} (hdg : decode cc pc = .ok (.lload_n k, 1)) (hi : (k : Nat) = i) (q : Nat) (hq : lv[q]? = some (i, .long x)) (kk : GW p l en R s m args below meth c cells slots Q D cl N nL a A e (pc + 1) lv (.long x :: st)) : GW p l en R s m args below meth c cells slots Q D cl N nL a A e (pc) lv (st) := fun H locs ls hP hS hl => lv_lload_n C.1 C.2.1 hdg hi (lv_at hl q hq) (kk H locs ls hP hS hl)
theorem g_lload (C : Cx p s m args c cc Ts own D cl cy N nL a A) {i : Nat} {x : Int64} (hdg : decode cc pc = .ok (.lload i, 2)) (q : Nat) (hq : lv[q]? = some (i, .long x)) (kk : GW p l en R s m args below meth c cells slots Q D cl N nL a A e (pc + 2) lv (.long x :: st)) : GW p l en R s m args below meth c cells slots Q D cl N nL a A e (pc) lv (st) := fun H locs ls hP hS hl => lv_lload C.1 C.2.1 hdg (lv_at hl q hq) (kk H locs ls hP hS hl)
theorem g_dload_n (C : Cx p s m args c cc Ts own D cl cy N nL a A) {k : Fin 4} {i : Nat} {x : UInt64} (hdg : decode cc pc = .ok (.dload_n k, 1)) (hi : (k : Nat) = i) (q : Nat) (hq : lv[q]? = some (i, .double x)) (kk : GW p l en R s m args below meth c cells slots Q D cl N nL a A e (pc + 1) lv (.double x :: st)) : GW p l en R s m args below meth c cells slots Q D cl N nL a A e (pc) lv (st) := fun H locs ls hP hS hl => lv_dload_n C.1 C.2.1 hdg hi (lv_at hl q hq) (kk H locs ls hP hS hl)
theorem g_dload (C : Cx p s m args c cc Ts own D cl cy N nL a A) {i : Nat} {x : UInt64} (hdg : decode cc pc = .ok (.dload i, 2)) (q : Nat) (hq : lv[q]? = some (i, .double x)) (kk : GW p l en R s m args below meth c cells slots Q D cl N nL a A e (pc + 2) lv (.double x :: st)) : GW p l en R s m args below meth c cells slots Q D cl N nL a A e (pc) lv (st) := fun H locs ls hP hS hl => lv_dload C.1 C.2.1 hdg (lv_at hl q hq) (kk H locs ls hP hS hl)
theorem g_astore_n (C : Cx p s m args c cc Ts own D cl cy N nL a A) {k : Fin 4} {i : Nat} {x : Nat} {lv' : List (Nat × Value)} (hdg : decode cc pc = .ok (.astore_n k, 1)) (hi : (k : Nat) = i) (hn : i < nL) (ks : List Nat) (hl : lv_pick ((i, Value.ref x) :: lv.filter (fun q => !(q.1 == i) && !(q.1 + 1 == i && q.2.category == 2))) ks = lv') (kk : GW p l en R s m args below meth c cells slots Q D cl N nL a A e (pc + 1) lv' (st)) : GW p l en R s m args below meth c cells slots Q D cl N nL a A e (pc) lv (.ref x :: st) := fun H locs ls hP hS hh => lv_astore_n C.1 C.2.1 hdg hi hh hn rfl (fun ls2 h2 => kk H locs ls2 hP hS (lv_sub h2 ks hl))
theorem g_astore (C : Cx p s m args c cc Ts own D cl cy N nL a A) {i : Nat} {x : Nat} {lv' : List (Nat × Value)} (hdg : decode cc pc = .ok (.astore i, 2)) (hn : i < nL) (ks : List Nat) (hl : lv_pick ((i, Value.ref x) :: lv.filter (fun q => !(q.1 == i) && !(q.1 + 1 == i && q.2.category == 2))) ks = lv') (kk : GW p l en R s m args below meth c cells slots Q D cl N nL a A e (pc + 2) lv' (st)) : GW p l en R s m args below meth c cells slots Q D cl N nL a A e (pc) lv (.ref x :: st) := fun H locs ls hP hS hh => lv_astore C.1 C.2.1 hdg hh hn rfl (fun ls2 h2 => kk H locs ls2 hP hS (lv_sub h2 ks hl))
theorem g_istore_n (C : Cx p s m args c cc Ts own D cl cy N nL a A) {k : Fin 4} {i : Nat} {x : Int32} {lv' : List (Nat × Value)} (hdg : decode cc pc = .ok (.istore_n k, 1)) (hi : (k : Nat) = i) (hn : i < nL) (ks : List Nat) (hl : lv_pick ((i, Value.int x) :: lv.filter (fun q => !(q.1 == i) && !(q.1 + 1 == i && q.2.category == 2))) ks = lv') (kk : GW p l en R s m args below meth c cells slots Q D cl N nL a A e (pc + 1) lv' (st)) : GW p l en R s m args below meth c cells slots Q D cl N nL a A e (pc) lv (.int x :: st) := fun H locs ls hP hS hh => lv_istore_n C.1 C.2.1 hdg hi hh hn rfl (fun ls2 h2 => kk H locs ls2 hP hS (lv_sub h2 ks hl))
theorem g_istore (C : Cx p s m args c cc Ts own D cl cy N nL a A) {i : Nat} {x : Int32} {lv' : List (Nat × Value)} (hdg : decode cc pc = .ok (.istore i, 2)) (hn : i < nL) (ks : List Nat) (hl : lv_pick ((i, Value.int x) :: lv.filter (fun q => !(q.1 == i) && !(q.1 + 1 == i && q.2.category == 2))) ks = lv') (kk : GW p l en R s m args below meth c cells slots Q D cl N nL a A e (pc + 2) lv' (st)) : GW p l en R s m args below meth c cells slots Q D cl N nL a A e (pc) lv (.int x :: st) := fun H locs ls hP hS hh => lv_istore C.1 C.2.1 hdg hh hn rfl (fun ls2 h2 => kk H locs ls2 hP hS (lv_sub h2 ks hl))
theorem g_lstore_n (C : Cx p s m args c cc Ts own D cl cy N nL a A) {k : Fin 4} {i : Nat} {x : Int64} {lv' : List (Nat × Value)} (hdg : decode cc pc = .ok (.lstore_n k, 1)) (hi : (k : Nat) = i) (hn : i + 1 < nL) (ks : List Nat) (hl : lv_pick ((i, Value.long x) :: lv.filter (fun q => !(q.1 == i) && (!(q.1 == i + 1) && !(q.1 + 1 == i && q.2.category == 2)))) ks = lv') (kk : GW p l en R s m args below meth c cells slots Q D cl N nL a A e (pc + 1) lv' (st)) : GW p l en R s m args below meth c cells slots Q D cl N nL a A e (pc) lv (.long x :: st) := fun H locs ls hP hS hh => lv_lstore_n C.1 C.2.1 hdg hi hh hn rfl (fun ls2 h2 => kk H locs ls2 hP hS (lv_sub h2 ks hl))
theorem g_lstore (C : Cx p s m args c cc Ts own D cl cy N nL a A) {i : Nat} {x : Int64} {lv' : List (Nat × Value)} (hdg : decode cc pc = .ok (.lstore i, 2)) (hn : i + 1 < nL) (ks : List Nat) (hl : lv_pick ((i, Value.long x) :: lv.filter (fun q => !(q.1 == i) && (!(q.1 == i + 1) && !(q.1 + 1 == i && q.2.category == 2)))) ks = lv') (kk : GW p l en R s m args below meth c cells slots Q D cl N nL a A e (pc + 2) lv' (st)) : GW p l en R s m args below meth c cells slots Q D cl N nL a A e (pc) lv (.long x :: st) := fun H locs ls hP hS hh => lv_lstore C.1 C.2.1 hdg hh hn rfl (fun ls2 h2 => kk H locs ls2 hP hS (lv_sub h2 ks hl))
theorem g_dstore_n (C : Cx p s m args c cc Ts own D cl cy N nL a A) {k : Fin 4} {i : Nat} {x : UInt64} {lv' : List (Nat × Value)} (hdg : decode cc pc = .ok (.dstore_n k, 1)) (hi : (k : Nat) = i) (hn : i + 1 < nL) (ks : List Nat) (hl : lv_pick ((i, Value.double x) :: lv.filter (fun q => !(q.1 == i) && (!(q.1 == i + 1) && !(q.1 + 1 == i && q.2.category == 2)))) ks = lv') (kk : GW p l en R s m args below meth c cells slots Q D cl N nL a A e (pc + 1) lv' (st)) : GW p l en R s m args below meth c cells slots Q D cl N nL a A e (pc) lv (.double x :: st) := fun H locs ls hP hS hh => lv_dstore_n C.1 C.2.1 hdg hi hh hn rfl (fun ls2 h2 => kk H locs ls2 hP hS (lv_sub h2 ks hl))
theorem g_dstore (C : Cx p s m args c cc Ts own D cl cy N nL a A) {i : Nat} {x : UInt64} {lv' : List (Nat × Value)} (hdg : decode cc pc = .ok (.dstore i, 2)) (hn : i + 1 < nL) (ks : List Nat) (hl : lv_pick ((i, Value.double x) :: lv.filter (fun q => !(q.1 == i) && (!(q.1 == i + 1) && !(q.1 + 1 == i && q.2.category == 2)))) ks = lv') (kk : GW p l en R s m args below meth c cells slots Q D cl N nL a A e (pc + 2) lv' (st)) : GW p l en R s m args below meth c cells slots Q D cl N nL a A e (pc) lv (.double x :: st) := fun H locs ls hP hS hh => lv_dstore C.1 C.2.1 hdg hh hn rfl (fun ls2 h2 => kk H locs ls2 hP hS (lv_sub h2 ks hl))
theorem g_iinc (C : Cx p s m args c cc Ts own D cl cy N nL a A) {i k : Nat} {n : Int} {x v : Int32} {lv' : List (Nat × Value)} (hdg : decode cc pc = .ok (.iinc i n, 3)) (hk : lv[k]? = some (i, .int x)) (hv : x + Int32.ofInt n = v) (hn : i < nL) (ks : List Nat) (hl : lv_pick ((i, Value.int v) :: lv.filter (fun q => !(q.1 == i) && !(q.1 + 1 == i && q.2.category == 2))) ks = lv') (kk : GW p l en R s m args below meth c cells slots Q D cl N nL a A e (pc + 3) lv' (st)) : GW p l en R s m args below meth c cells slots Q D cl N nL a A e (pc) lv (st) := fun H locs ls hP hS hh => lv_iinc C.1 C.2.1 hdg hh hk hv hn rfl (fun ls2 h2 => kk H locs ls2 hP hS (lv_sub h2 ks hl))
theorem g_pick {lv' : List (Nat × Value)} (ks : List Nat) (hl : lv_pick lv ks = lv') (kk : GW p l en R s m args below meth c cells slots Q D cl N nL a A e (pc) lv' (st)) : GW p l en R s m args below meth c cells slots Q D cl N nL a A e (pc) lv (st) := fun H locs ls hP hS hh => kk H locs ls hP hS (lv_sub hh ks hl)
theorem g_dup (C : Cx p s m args c cc Ts own D cl cy N nL a A) {va : Value} (hdg : decode cc pc = .ok (.dup, 1)) (hva : va.category = 1) (kk : GW p l en R s m args below meth c cells slots Q D cl N nL a A e (pc + 1) lv (va :: va :: st)) : GW p l en R s m args below meth c cells slots Q D cl N nL a A e (pc) lv (va :: st) := fun H locs ls hP hS hl => lv_dup C.1 C.2.1 hdg hva (kk H locs ls hP hS hl)
theorem g_iadd (C : Cx p s m args c cc Ts own D cl cy N nL a A) {x y v : Int32} (hdg : decode cc pc = .ok (.iadd, 1)) (hv : x + y = v) (kk : GW p l en R s m args below meth c cells slots Q D cl N nL a A e (pc + 1) lv (.int v :: st)) : GW p l en R s m args below meth c cells slots Q D cl N nL a A e (pc) lv (.int y :: .int x :: st) := fun H locs ls hP hS hl => t_iadd C.1 C.2.1 hdg hv (kk H locs ls hP hS hl)
theorem g_isub (C : Cx p s m args c cc Ts own D cl cy N nL a A) {x y v : Int32} (hdg : decode cc pc = .ok (.isub, 1)) (hv : x - y = v) (kk : GW p l en R s m args below meth c cells slots Q D cl N nL a A e (pc + 1) lv (.int v :: st)) : GW p l en R s m args below meth c cells slots Q D cl N nL a A e (pc) lv (.int y :: .int x :: st) := fun H locs ls hP hS hl => t_isub C.1 C.2.1 hdg hv (kk H locs ls hP hS hl)
theorem g_imul (C : Cx p s m args c cc Ts own D cl cy N nL a A) {x y v : Int32} (hdg : decode cc pc = .ok (.imul, 1)) (hv : x * y = v) (kk : GW p l en R s m args below meth c cells slots Q D cl N nL a A e (pc + 1) lv (.int v :: st)) : GW p l en R s m args below meth c cells slots Q D cl N nL a A e (pc) lv (.int y :: .int x :: st) := fun H locs ls hP hS hl => t_imul C.1 C.2.1 hdg hv (kk H locs ls hP hS hl)
theorem g_iand (C : Cx p s m args c cc Ts own D cl cy N nL a A) {x y v : Int32} (hdg : decode cc pc = .ok (.iand, 1)) (hv : x &&& y = v) (kk : GW p l en R s m args below meth c cells slots Q D cl N nL a A e (pc + 1) lv (.int v :: st)) : GW p l en R s m args below meth c cells slots Q D cl N nL a A e (pc) lv (.int y :: .int x :: st) := fun H locs ls hP hS hl => t_iand C.1 C.2.1 hdg hv (kk H locs ls hP hS hl)
theorem g_ladd (C : Cx p s m args c cc Ts own D cl cy N nL a A) {x y : Int64} (hdg : decode cc pc = .ok (.ladd, 1)) (kk : GW p l en R s m args below meth c cells slots Q D cl N nL a A e (pc + 1) lv (.long (x + y) :: st)) : GW p l en R s m args below meth c cells slots Q D cl N nL a A e (pc) lv (.long y :: .long x :: st) := fun H locs ls hP hS hl => lv_ladd C.1 C.2.1 hdg (kk H locs ls hP hS hl)
theorem g_lcmp (C : Cx p s m args c cc Ts own D cl cy N nL a A) {x y : Int64} (hdg : decode cc pc = .ok (.lcmp, 1)) (kk : GW p l en R s m args below meth c cells slots Q D cl N nL a A e (pc + 1) lv (.int (lg_cmp x y) :: st)) : GW p l en R s m args below meth c cells slots Q D cl N nL a A e (pc) lv (.long y :: .long x :: st) := fun H locs ls hP hS hl => W.lcmp C.1 C.2.1 hdg (kk H locs ls hP hS hl)
theorem g_dadd (C : Cx p s m args c cc Ts own D cl cy N nL a A) {x y : UInt64} (hdg : decode cc pc = .ok (.dadd, 1)) (hne : vf_n64 (FP.dadd x y)) (kk : GW p l en R s m args below meth c cells slots Q D cl N nL a A e (pc + 1) lv (.double (FP.dadd x y) :: st)) : GW p l en R s m args below meth c cells slots Q D cl N nL a A e (pc) lv (.double y :: .double x :: st) := fun H locs ls hP hS hl => lv_dadd C.1 C.2.1 hdg hne (kk H locs ls hP hS hl)
theorem g_dmul (C : Cx p s m args c cc Ts own D cl cy N nL a A) {x y : UInt64} (hdg : decode cc pc = .ok (.dmul, 1)) (hne : vf_n64 (FP.dmul x y)) (kk : GW p l en R s m args below meth c cells slots Q D cl N nL a A e (pc + 1) lv (.double (FP.dmul x y) :: st)) : GW p l en R s m args below meth c cells slots Q D cl N nL a A e (pc) lv (.double y :: .double x :: st) := fun H locs ls hP hS hl => lv_dmul C.1 C.2.1 hdg hne (kk H locs ls hP hS hl)
theorem g_ddiv (C : Cx p s m args c cc Ts own D cl cy N nL a A) {x y : UInt64} (hdg : decode cc pc = .ok (.ddiv, 1)) (hne : vf_n64 (FP.ddiv x y)) (kk : GW p l en R s m args below meth c cells slots Q D cl N nL a A e (pc + 1) lv (.double (FP.ddiv x y) :: st)) : GW p l en R s m args below meth c cells slots Q D cl N nL a A e (pc) lv (.double y :: .double x :: st) := fun H locs ls hP hS hl => lv_ddiv C.1 C.2.1 hdg hne (kk H locs ls hP hS hl)
theorem g_dcmp (C : Cx p s m args c cc Ts own D cl cy N nL a A) {x y : UInt64} {op : CmpOp} (hdg : decode cc pc = .ok (.dcmp op, 1)) (kk : GW p l en R s m args below meth c cells slots Q D cl N nL a A e (pc + 1) lv (.int (Op.cmpValue (FP.dcmp x y) op) :: st)) : GW p l en R s m args below meth c cells slots Q D cl N nL a A e (pc) lv (.double y :: .double x :: st) := fun H locs ls hP hS hl => lv_dcmp C.1 C.2.1 hdg (kk H locs ls hP hS hl)
theorem g_i2d (C : Cx p s m args c cc Ts own D cl cy N nL a A) {x : Int32} (hdg : decode cc pc = .ok (.i2d, 1)) (kk : GW p l en R s m args below meth c cells slots Q D cl N nL a A e (pc + 1) lv (.double (FP.i2d x) :: st)) : GW p l en R s m args below meth c cells slots Q D cl N nL a A e (pc) lv (.int x :: st) := fun H locs ls hP hS hl => lv_i2d C.1 C.2.1 hdg (kk H locs ls hP hS hl)
theorem g_if_eq (C : Cx p s m args c cc Ts own D cl cy N nL a A) {x : Int32} {off : Int} {tgt : Nat} (hdg : decode cc pc = .ok (.ifCond .eq off, 3)) (ht : (pc : Int) + off = (tgt : Int)) (kt : x = 0 → GW p l en R s m args below meth c cells slots Q D cl N nL a A e (tgt) lv (st)) (kf : ¬ x = 0 → GW p l en R s m args below meth c cells slots Q D cl N nL a A e (pc + 3) lv (st)) : GW p l en R s m args below meth c cells slots Q D cl N nL a A e (pc) lv (.int x :: st) := fun H locs ls hP hS hl => lv_if_eq C.1 C.2.1 hdg ht (fun q => kt q H locs ls hP hS hl) (fun q => kf q H locs ls hP hS hl)
theorem g_if_ne (C : Cx p s m args c cc Ts own D cl cy N nL a A) {x : Int32} {off : Int} {tgt : Nat} (hdg : decode cc pc = .ok (.ifCond .ne off, 3)) (ht : (pc : Int) + off = (tgt : Int)) (kt : ¬ x = 0 → GW p l en R s m args below meth c cells slots Q D cl N nL a A e (tgt) lv (st)) (kf : x = 0 → GW p l en R s m args below meth c cells slots Q D cl N nL a A e (pc + 3) lv (st)) : GW p l en R s m args below meth c cells slots Q D cl N nL a A e (pc) lv (.int x :: st) := fun H locs ls hP hS hl => lv_if_ne C.1 C.2.1 hdg ht (fun q => kt q H locs ls hP hS hl) (fun q => kf q H locs ls hP hS hl)
theorem g_if_lt (C : Cx p s m args c cc Ts own D cl cy N nL a A) {x : Int32} {off : Int} {tgt : Nat} (hdg : decode cc pc = .ok (.ifCond .lt off, 3)) (ht : (pc : Int) + off = (tgt : Int)) (kt : x < 0 → GW p l en R s m args below meth c cells slots Q D cl N nL a A e (tgt) lv (st)) (kf : ¬ x < 0 → GW p l en R s m args below meth c cells slots Q D cl N nL a A e (pc + 3) lv (st)) : GW p l en R s m args below meth c cells slots Q D cl N nL a A e (pc) lv (.int x :: st) := fun H locs ls hP hS hl => lv_if_lt C.1 C.2.1 hdg ht (fun q => kt q H locs ls hP hS hl) (fun q => kf q H locs ls hP hS hl)
theorem g_if_ge (C : Cx p s m args c cc Ts own D cl cy N nL a A) {x : Int32} {off : Int} {tgt : Nat} (hdg : decode cc pc = .ok (.ifCond .ge off, 3)) (ht : (pc : Int) + off = (tgt : Int)) (kt : 0 ≤ x → GW p l en R s m args below meth c cells slots Q D cl N nL a A e (tgt) lv (st)) (kf : ¬ 0 ≤ x → GW p l en R s m args below meth c cells slots Q D cl N nL a A e (pc + 3) lv (st)) : GW p l en R s m args below meth c cells slots Q D cl N nL a A e (pc) lv (.int x :: st) := fun H locs ls hP hS hl => lv_if_ge C.1 C.2.1 hdg ht (fun q => kt q H locs ls hP hS hl) (fun q => kf q H locs ls hP hS hl)
theorem g_if_gt (C : Cx p s m args c cc Ts own D cl cy N nL a A) {x : Int32} {off : Int} {tgt : Nat} (hdg : decode cc pc = .ok (.ifCond .gt off, 3)) (ht : (pc : Int) + off = (tgt : Int)) (kt : 0 < x → GW p l en R s m args below meth c cells slots Q D cl N nL a A e (tgt) lv (st)) (kf : ¬ 0 < x → GW p l en R s m args below meth c cells slots Q D cl N nL a A e (pc + 3) lv (st)) : GW p l en R s m args below meth c cells slots Q D cl N nL a A e (pc) lv (.int x :: st) := fun H locs ls hP hS hl => lv_if_gt C.1 C.2.1 hdg ht (fun q => kt q H locs ls hP hS hl) (fun q => kf q H locs ls hP hS hl)
theorem g_if_le (C : Cx p s m args c cc Ts own D cl cy N nL a A) {x : Int32} {off : Int} {tgt : Nat} (hdg : decode cc pc = .ok (.ifCond .le off, 3)) (ht : (pc : Int) + off = (tgt : Int)) (kt : x ≤ 0 → GW p l en R s m args below meth c cells slots Q D cl N nL a A e (tgt) lv (st)) (kf : ¬ x ≤ 0 → GW p l en R s m args below meth c cells slots Q D cl N nL a A e (pc + 3) lv (st)) : GW p l en R s m args below meth c cells slots Q D cl N nL a A e (pc) lv (.int x :: st) := fun H locs ls hP hS hl => lv_if_le C.1 C.2.1 hdg ht (fun q => kt q H locs ls hP hS hl) (fun q => kf q H locs ls hP hS hl)
theorem g_icmp_eq (C : Cx p s m args c cc Ts own D cl cy N nL a A) {x y : Int32} {off : Int} {tgt : Nat} (hdg : decode cc pc = .ok (.if_icmp .eq off, 3)) (ht : (pc : Int) + off = (tgt : Int)) (kt : x = y → GW p l en R s m args below meth c cells slots Q D cl N nL a A e (tgt) lv (st)) (kf : ¬ x = y → GW p l en R s m args below meth c cells slots Q D cl N nL a A e (pc + 3) lv (st)) : GW p l en R s m args below meth c cells slots Q D cl N nL a A e (pc) lv (.int y :: .int x :: st) := fun H locs ls hP hS hl => lv_icmp_eq C.1 C.2.1 hdg ht (fun q => kt q H locs ls hP hS hl) (fun q => kf q H locs ls hP hS hl)
theorem g_icmp_ne (C : Cx p s m args c cc Ts own D cl cy N nL a A) {x y : Int32} {off : Int} {tgt : Nat} (hdg : decode cc pc = .ok (.if_icmp .ne off, 3)) (ht : (pc : Int) + off = (tgt : Int)) (kt : ¬ x = y → GW p l en R s m args below meth c cells slots Q D cl N nL a A e (tgt) lv (st)) (kf : x = y → GW p l en R s m args below meth c cells slots Q D cl N nL a A e (pc + 3) lv (st)) : GW p l en R s m args below meth c cells slots Q D cl N nL a A e (pc) lv (.int y :: .int x :: st) := fun H locs ls hP hS hl => lv_icmp_ne C.1 C.2.1 hdg ht (fun q => kt q H locs ls hP hS hl) (fun q => kf q H locs ls hP hS hl)
theorem g_icmp_lt (C : Cx p s m args c cc Ts own D cl cy N nL a A) {x y : Int32} {off : Int} {tgt : Nat} (hdg : decode cc pc = .ok (.if_icmp .lt off, 3)) (ht : (pc : Int) + off = (tgt : Int)) (kt : x < y → GW p l en R s m args below meth c cells slots Q D cl N nL a A e (tgt) lv (st)) (kf : ¬ x < y → GW p l en R s m args below meth c cells slots Q D cl N nL a A e (pc + 3) lv (st)) : GW p l en R s m args below meth c cells slots Q D cl N nL a A e (pc) lv (.int y :: .int x :: st) := fun H locs ls hP hS hl => lv_icmp_lt C.1 C.2.1 hdg ht (fun q => kt q H locs ls hP hS hl) (fun q => kf q H locs ls hP hS hl)
theorem g_icmp_ge (C : Cx p s m args c cc Ts own D cl cy N nL a A) {x y : Int32} {off : Int} {tgt : Nat} (hdg : decode cc pc = .ok (.if_icmp .ge off, 3)) (ht : (pc : Int) + off = (tgt : Int)) (kt : y ≤ x → GW p l en R s m args below meth c cells slots Q D cl N nL a A e (tgt) lv (st)) (kf : ¬ y ≤ x → GW p l en R s m args below meth c cells slots Q D cl N nL a A e (pc + 3) lv (st)) : GW p l en R s m args below meth c cells slots Q D cl N nL a A e (pc) lv (.int y :: .int x :: st) := fun H locs ls hP hS hl => lv_icmp_ge C.1 C.2.1 hdg ht (fun q => kt q H locs ls hP hS hl) (fun q => kf q H locs ls hP hS hl)
theorem g_icmp_gt (C : Cx p s m args c cc Ts own D cl cy N nL a A) {x y : Int32} {off : Int} {tgt : Nat} (hdg : decode cc pc = .ok (.if_icmp .gt off, 3)) (ht : (pc : Int) + off = (tgt : Int)) (kt : y < x → GW p l en R s m args below meth c cells slots Q D cl N nL a A e (tgt) lv (st)) (kf : ¬ y < x → GW p l en R s m args below meth c cells slots Q D cl N nL a A e (pc + 3) lv (st)) : GW p l en R s m args below meth c cells slots Q D cl N nL a A e (pc) lv (.int y :: .int x :: st) := fun H locs ls hP hS hl => lv_icmp_gt C.1 C.2.1 hdg ht (fun q => kt q H locs ls hP hS hl) (fun q => kf q H locs ls hP hS hl)
theorem g_icmp_le (C : Cx p s m args c cc Ts own D cl cy N nL a A) {x y : Int32} {off : Int} {tgt : Nat} (hdg : decode cc pc = .ok (.if_icmp .le off, 3)) (ht : (pc : Int) + off = (tgt : Int)) (kt : x ≤ y → GW p l en R s m args below meth c cells slots Q D cl N nL a A e (tgt) lv (st)) (kf : ¬ x ≤ y → GW p l en R s m args below meth c cells slots Q D cl N nL a A e (pc + 3) lv (st)) : GW p l en R s m args below meth c cells slots Q D cl N nL a A e (pc) lv (.int y :: .int x :: st) := fun H locs ls hP hS hl => lv_icmp_le C.1 C.2.1 hdg ht (fun q => kt q H locs ls hP hS hl) (fun q => kf q H locs ls hP hS hl)
theorem g_goto (C : Cx p s m args c cc Ts own D cl cy N nL a A) {off : Int} {tgt : Nat} (hdg : decode cc pc = .ok (.goto off, 3)) (ht : (pc : Int) + off = (tgt : Int)) (kk : GW p l en R s m args below meth c cells slots Q D cl N nL a A e (tgt) lv (st)) : GW p l en R s m args below meth c cells slots Q D cl N nL a A e (pc) lv (st) := fun H locs ls hP hS hl => lv_goto C.1 C.2.1 hdg ht (kk H locs ls hP hS hl)
theorem g_get (C : Cx p s m args c cc Ts own D cl cy N nL a A) {Cn : String} {T : u_T} {NF ci index q0 : Nat} {fs : List Value} {v : Value} (k : Nat) (hin : ∀ w ∈ u_ws Cn T NF, w ∈ Ts) (hc : cl[ci]? = some (Cn, T, NF)) (hq0 : q0 < N) (he : e q0 = .inr (ci, fs)) (hk : k < NF) (hlink : (Cond.fieldLink own index (T k).1 (T k).2.1 (T k).2.2.1).before args s = true) (hv : fs[k]? = some v) (hdg : decode cc pc = .ok (.getfield index, 3)) (kk : GW p l en R s m args below meth c cells slots Q D cl N nL a A e (pc + 3) lv (v :: st)) : GW p l en R s m args below meth c cells slots Q D cl N nL a A e (pc) lv (.ref (a q0) :: st) := fun H locs ls hP hS hl => va_get C.1 C.2.1 C.2.2.2.2.1 hin C.2.2.2.1 C.2.2.2.2.2.1 hP q0 (by rw [wl_at hq0, he]) hc k hk hlink (fun _ h => h) hv hdg (kk H locs ls hP hS hl)
theorem g_put (C : Cx p s m args c cc Ts own D cl cy N nL a A) {Cn : String} {T : u_T} {NF ci index q0 : Nat} {fs : List Value} {v : Value} (k : Nat) (ty0 : Nat → FieldType) (hty : ∀ k, k < NF → parseFieldDescriptor (T k).2.2.1 = some (ty0 k)) (hnm : ∀ a, a < NF → ∀ b, b < NF → a ≠ b → (T a).2.1 ≠ (T b).2.1) (hin : ∀ w ∈ u_ws Cn T NF, w ∈ Ts) (hc : cl[ci]? = some (Cn, T, NF)) (hq0 : q0 < N) (he : e q0 = .inr (ci, fs)) (hk : k < NF) (hlink : (Cond.fieldLink own index (T k).1 (T k).2.1 (T k).2.2.1).before args s = true) (hfin : (T k).2.2.2 = false) {ty : FieldType} (hd : parseFieldDescriptor (T k).2.2.1 = some ty) (hn : narrow ty v = v) (hfit : fits ty v = true) (hl : k < fs.length) (hdg : decode cc pc = .ok (.putfield index, 3)) (kk : GW p l en R s m args below meth c cells slots Q D cl N nL a A (va_up e q0 (.inr (ci, fs.set k v))) (pc + 3) lv (st)) : GW p l en R s m args below meth c cells slots Q D cl N nL a A e (pc) lv (v :: .ref (a q0) :: st) := fun H locs ls hP hS hll => va_put C.1 C.2.1 C.2.2.2.2.1 hin ty0 hty hnm C.2.2.2.1 C.2.2.2.2.2.1 hP (wl_D C.2.2.2.2.2.2.1 C.2.2.2.2.2.2.2) hS q0 (by rw [wl_at hq0, he]) hc k hk hlink (fun _ h => h) hfin hd hn hfit hl hdg (fun H1 locs1 hP1 hD1 hS1 => kk H1 locs1 ls (by rw [wl_set hq0] at hP1; exact hP1) hS1 hll)
theorem g_dald (C : Cx p s m args c cc Ts own D cl cy N nL a A) {q0 n i : Nat} {v : Nat → UInt64} (hq0 : q0 < N) (he : isD cy (e q0) n v) (hi : i < n) (hn : n < 2 ^ 31) (hdg : decode cc pc = .ok (.daload, 1)) (kk : GW p l en R s m args below meth c cells slots Q D cl N nL a A e (pc + 1) lv (.double (v i) :: st)) : GW p l en R s m args below meth c cells slots Q D cl N nL a A e (pc) lv (.int (nI i) :: .ref (a q0) :: st) := by
  obtain ⟨f, h1, h2⟩ := he
  intro H locs ls hP hS hl
  refine va_dald (n := n) (f := f) C.1 C.2.1 C.2.2.2.2.2.1 hP q0 0 (by rw [wl_at hq0, h1]) rfl (vp_in_nI hi hn) hdg ?_
  rw [nI_clamp (Nat.lt_trans hi hn), h2 i hi]
  exact kk H locs ls hP hS hl
theorem g_dast (C : Cx p s m args c cc Ts own D cl cy N nL a A) {q0 n i : Nat} {v : Nat → UInt64} {x : UInt64} (hq0 : q0 < N) (he : isD cy (e q0) n v) (hi : i < n) (hn : n < 2 ^ 31) (hdg : decode cc pc = .ok (.dastore, 1)) (kk : ∀ y : va_E, isD cy y n (va_up v i x) → GW p l en R s m args below meth c cells slots Q D cl N nL a A (va_up e q0 y) (pc + 1) lv (st)) : GW p l en R s m args below meth c cells slots Q D cl N nL a A e (pc) lv (.double x :: .int (nI i) :: .ref (a q0) :: st) := by
  obtain ⟨f, h1, h2⟩ := he
  intro H locs ls hP hS hl
  refine va_dast (n := n) (f := f) C.1 C.2.1 C.2.2.2.2.2.1 hP (wl_D C.2.2.2.2.2.2.1 C.2.2.2.2.2.2.2) hS q0 0 (by rw [wl_at hq0, h1]) rfl (vp_in_nI hi hn) hdg (fun H1 locs1 hP1 hD1 hS1 => ?_)
  rw [wl_set hq0, nI_clamp (Nat.lt_trans hi hn)] at hP1
  refine kk _ ⟨_, rfl, fun j hj => ?_⟩ H1 locs1 ls hP1 hS1 hl
  by_cases hji : j = i
  · subst hji
    simp [vf_upd, va_up]
  · simp [vf_upd, va_up, hji, h2 j hj]
theorem g_iald (C : Cx p s m args c cc Ts own D cl cy N nL a A) {q0 n i : Nat} {v : Nat → Int32} (hq0 : q0 < N) (he : isI cy (e q0) n v) (hi : i < n) (hn : n < 2 ^ 31) (hdg : decode cc pc = .ok (.iaload, 1)) (kk : GW p l en R s m args below meth c cells slots Q D cl N nL a A e (pc + 1) lv (.int (v i) :: st)) : GW p l en R s m args below meth c cells slots Q D cl N nL a A e (pc) lv (.int (nI i) :: .ref (a q0) :: st) := by
  obtain ⟨f, h1, h2⟩ := he
  intro H locs ls hP hS hl
  refine va_iald (n := n) (f := f) C.1 C.2.1 C.2.2.2.2.2.1 hP q0 1 (by rw [wl_at hq0, h1]) rfl (vp_in_nI hi hn) hdg ?_
  rw [nI_clamp (Nat.lt_trans hi hn), h2 i hi]
  exact kk H locs ls hP hS hl
theorem g_iast (C : Cx p s m args c cc Ts own D cl cy N nL a A) {q0 n i : Nat} {v : Nat → Int32} {x : Int32} (hq0 : q0 < N) (he : isI cy (e q0) n v) (hi : i < n) (hn : n < 2 ^ 31) (hdg : decode cc pc = .ok (.iastore, 1)) (kk : ∀ y : va_E, isI cy y n (va_up v i x) → GW p l en R s m args below meth c cells slots Q D cl N nL a A (va_up e q0 y) (pc + 1) lv (st)) : GW p l en R s m args below meth c cells slots Q D cl N nL a A e (pc) lv (.int x :: .int (nI i) :: .ref (a q0) :: st) := by
  obtain ⟨f, h1, h2⟩ := he
  intro H locs ls hP hS hl
  refine va_iast (n := n) (f := f) C.1 C.2.1 C.2.2.2.2.2.1 hP (wl_D C.2.2.2.2.2.2.1 C.2.2.2.2.2.2.2) hS q0 1 (by rw [wl_at hq0, h1]) rfl (vp_in_nI hi hn) hdg (fun H1 locs1 hP1 hD1 hS1 => ?_)
  rw [wl_set hq0, nI_clamp (Nat.lt_trans hi hn)] at hP1
  refine kk _ ⟨_, rfl, fun j hj => ?_⟩ H1 locs1 ls hP1 hS1 hl
  by_cases hji : j = i
  · subst hji
    simp [upd, va_up]
  · simp [upd, va_up, hji, h2 j hj]
theorem g_lald (C : Cx p s m args c cc Ts own D cl cy N nL a A) {q0 n i : Nat} {v : Nat → Int64} (hq0 : q0 < N) (he : isL cy (e q0) n v) (hi : i < n) (hn : n < 2 ^ 31) (hdg : decode cc pc = .ok (.laload, 1)) (kk : GW p l en R s m args below meth c cells slots Q D cl N nL a A e (pc + 1) lv (.long (v i) :: st)) : GW p l en R s m args below meth c cells slots Q D cl N nL a A e (pc) lv (.int (nI i) :: .ref (a q0) :: st) := by
  obtain ⟨f, h1, h2⟩ := he
  intro H locs ls hP hS hl
  refine va_lald (n := n) (f := f) C.1 C.2.1 C.2.2.2.2.2.1 hP q0 2 (by rw [wl_at hq0, h1]) rfl (vp_in_nI hi hn) hdg ?_
  rw [nI_clamp (Nat.lt_trans hi hn), h2 i hi]
  exact kk H locs ls hP hS hl
theorem g_last (C : Cx p s m args c cc Ts own D cl cy N nL a A) {q0 n i : Nat} {v : Nat → Int64} {x : Int64} (hq0 : q0 < N) (he : isL cy (e q0) n v) (hi : i < n) (hn : n < 2 ^ 31) (hdg : decode cc pc = .ok (.lastore, 1)) (kk : ∀ y : va_E, isL cy y n (va_up v i x) → GW p l en R s m args below meth c cells slots Q D cl N nL a A (va_up e q0 y) (pc + 1) lv (st)) : GW p l en R s m args below meth c cells slots Q D cl N nL a A e (pc) lv (.long x :: .int (nI i) :: .ref (a q0) :: st) := by
  obtain ⟨f, h1, h2⟩ := he
  intro H locs ls hP hS hl
  refine va_last (n := n) (f := f) C.1 C.2.1 C.2.2.2.2.2.1 hP (wl_D C.2.2.2.2.2.2.1 C.2.2.2.2.2.2.2) hS q0 2 (by rw [wl_at hq0, h1]) rfl (vp_in_nI hi hn) hdg (fun H1 locs1 hP1 hD1 hS1 => ?_)
  rw [wl_set hq0, nI_clamp (Nat.lt_trans hi hn)] at hP1
  refine kk _ ⟨_, rfl, fun j hj => ?_⟩ H1 locs1 ls hP1 hS1 hl
  by_cases hji : j = i
  · subst hji
    simp [vp_updL, va_up]
  · simp [vp_updL, va_up, hji, h2 j hj]
theorem g_aald (C : Cx p s m args c cc Ts own D cl cy N nL a A) {q0 n i b : Nat} {t : Nat} {ty : FieldType} (hq0 : q0 < N) (ht : (tys0 cy)[t]? = some (cy t, .array ty)) (he : e q0 = rA cy t n a b) (hi : i < n) (hn : n < 2 ^ 31) (hdg : decode cc pc = .ok (.aaload, 1)) (kk : GW p l en R s m args below meth c cells slots Q D cl N nL a A e (pc + 1) lv (.ref (a (b + i)) :: st)) : GW p l en R s m args below meth c cells slots Q D cl N nL a A e (pc) lv (.int (nI i) :: .ref (a q0) :: st) := by
  intro H locs ls hP hS hl
  have h0 := wl_Pat hP hq0
  rw [he] at h0
  have h0 : H[a q0]? = some (vp_cell (cy t) (n, .inr (.inr (.inr (.inr (fun i => if i < n then some (a (b + i)) else none)))))) := h0
  have hin := vp_in_nI hi hn
  have hcl := nI_clamp (Nat.lt_trans hi hn)
  refine W.aald (v := .ref (a (b + i))) (ty := .array ty) C.1 C.2.1 h0 ((C.2.2.2.2.2.1.2 t _ ht).1 n (fun j => va_rf ((fun i => if i < n then some (a (b + i)) else none) j))) rfl (fun q => by cases q) (by show ¬ (nI i < 0 ∨ (arrV _ _ _).slots.size ≤ _); rw [arrV_size]; exact hin) (by show (arrV _ _ _).slots[_]? = _; rw [hcl, arrV_read _ _ hi]; simp [hi, va_rf]) rfl rfl hdg (kk H locs ls hP hS hl)
end GJ
end
section
section GC
variable {p : Program} {l : Launch} {en : Env} {R : Room} {s : State} {m : MethodId} {args : Array Value} {below : List Frame} {meth : Method} {c : Code} {cells slots : Nat} {Q : State → Prop} {D : va_G} {cl : List vw_C} {cy : Nat → ClassId} {N nL : Nat} {a : Nat → Nat} {A : Nat → Prop} {e : Nat → va_E} {cc : ByteArray} {pc : Nat} {lv : List (Nat × Value)} {st : List Value} {Ts : List Cond} {own : String}
/-- a method's start: its world, the classes -/
def gPc (D : va_G) (cl : List vw_C) (cy : Nat → ClassId) (N : Nat) (a : Nat → Nat) (e : Nat → va_E) (av : List Value) : Array Value → State → Prop := va_Pc av (fun U => va_P D cl (wl N a e) U.heap ∧ va_K D cl (tys0 cy) U)
def gB (D : va_G) (cl : List vw_C) (N : Nat) (a : Nat → Nat) : (Nat → va_E) → State → Prop := fun e t => va_P D cl (wl N a e) t.heap
theorem gPc_blind {av : List Value} : FrameBlind (gPc D cl cy N a e av) := fun v U g mk q => by
  obtain ⟨q0, qP, qK⟩ := q
  exact ⟨q0, qP, va_K.moved (u := U) (U := U.calling g mk v) (Vm.Alike.refl U.vm) qK⟩
theorem wl_kept {e : Nat → va_E} {H H1 : Heap} (hP : va_P D cl (wl N a e) H) (h : ∀ k, k < N → H1[a k]? = H[a k]?) : va_P D cl (wl N a e) H1 := hP.kept (fun k q hk => by
  obtain ⟨h1, rfl⟩ := wl_inv hk
  exact h k h1)
/-- a method out of its body -/
theorem g_met {y : MethodName} {ws ws' : List Cond} {rm : Room} {Qc : Array Value → State → Outcome → State → Prop} {maxL : Nat} {ret : Option FieldType} {av : List Value} {lv : List (Nat × Value)} (hy : plainName y.cls = true) (hw : ws = Cond.code y cc maxL ret :: ws') (hlen : (lg_sl av).length ≤ maxL) (hlv : lv_args 0 av = lv) (hi : wInj N a) (hA : ∀ k, k < N → A (a k))
    (body : ∀ (p : Program) (en : Env) (s : State) (m : MethodId) (below : List Frame) (meth : Method) (c : Code), Cx p s m av.toArray c cc ws y.cls D cl cy N maxL a A → meth.sig.returnType = ret → meth.locks = false → GW p l en rm s m av.toArray below meth c 0 0 (MQ below Qc av.toArray s 0 0 A) D cl N maxL a A e 0 lv []) : Met l y ws rm (gPc D cl cy N a e av) Qc 0 0 A := by
  refine Met.ofW (cc := cc) (maxL := maxL) (ret := ret) hy hw ?_
  intro p en s m args below meth c s₁ B hml hv
  obtain ⟨rfl, hP, hK⟩ := hv
  have hts := atoms_spec (ws := ws) B.pre
  have hown : s.vm.findClass y.cls = some m.cls := findClass_of_methodNamed B.named
  have hl := lv_entry av (n := maxL) hlen
  rw [lg_entry_eq]
  rw [hlv] at hl
  exact body p en s m below meth c ⟨B.exec, B.bytes, hml, hown, hts, hK, hi, hA⟩ B.returns B.notSynchronized s.heap [] _ hP va_S.rf hl

theorem g_iret (C : Cx p s m args c cc Ts own D cl cy N nL a A) {post : Int32 → (Nat → va_E) → Prop} {v : Int32} (hr : meth.sig.returnType = some .int) (hlocks : meth.locks = false) (hp : post v e) (hdg : decode cc pc = .ok (.ireturn, 1)) : GW p l en R s m args below meth c cells slots (MQ below (va_Qi post (gB D cl N a) A) args s cells slots A) D cl N nL a A e pc lv [.int v] := fun H locs ls hP hS hl => W.iret C.1 C.2.1 hr (fun t ht hW => ⟨⟨v, e, rfl, hp, by show va_P D cl (wl N a e) t.heap; rw [ht]; exact hP⟩, hS.F ht⟩) hS.2.2 hdg hlocks
theorem g_lret (C : Cx p s m args c cc Ts own D cl cy N nL a A) {post : Int64 → (Nat → va_E) → Prop} {v : Int64} (hr : meth.sig.returnType = some .long) (hlocks : meth.locks = false) (hp : post v e) (hdg : decode cc pc = .ok (.lreturn, 1)) : GW p l en R s m args below meth c cells slots (MQ below (va_Ql post (gB D cl N a) A) args s cells slots A) D cl N nL a A e pc lv [.long v] := fun H locs ls hP hS hl => W.lret C.1 C.2.1 hr (fun t ht hW => ⟨⟨v, e, rfl, hp, by show va_P D cl (wl N a e) t.heap; rw [ht]; exact hP⟩, hS.F ht⟩) hS.2.2 hdg hlocks
theorem g_dret (C : Cx p s m args c cc Ts own D cl cy N nL a A) {post : UInt64 → (Nat → va_E) → Prop} {v : UInt64} (hr : meth.sig.returnType = some .double) (hlocks : meth.locks = false) (hp : post v e) (hdg : decode cc pc = .ok (.dreturn, 1)) : GW p l en R s m args below meth c cells slots (MQ below (va_Qd post (gB D cl N a) A) args s cells slots A) D cl N nL a A e pc lv [.double v] := fun H locs ls hP hS hl => W.dret C.1 C.2.1 hr (fun t ht hW => ⟨⟨v, e, rfl, hp, by show va_P D cl (wl N a e) t.heap; rw [ht]; exact hP⟩, hS.F ht⟩) hS.2.2 hdg hlocks
theorem g_zret (C : Cx p s m args c cc Ts own D cl cy N nL a A) {post : Int32 → (Nat → va_E) → Prop} {v : Int32} {ty : FieldType} (hr : meth.sig.returnType = some ty) (hlocks : meth.locks = false) (hn : narrow ty (.int v) = .int v) (hp : post v e) (hdg : decode cc pc = .ok (.ireturn, 1)) : GW p l en R s m args below meth c cells slots (MQ below (va_Qi post (gB D cl N a) A) args s cells slots A) D cl N nL a A e pc lv [.int v] := fun H locs ls hP hS hl => W.zret C.1 C.2.1 hr hn (fun t ht hW => ⟨⟨v, e, rfl, hp, by show va_P D cl (wl N a e) t.heap; rw [ht]; exact hP⟩, hS.F ht⟩) hS.2.2 hdg hlocks
theorem g_vret (C : Cx p s m args c cc Ts own D cl cy N nL a A) {post : (Nat → va_E) → Prop} (hr : meth.sig.returnType = none) (hlocks : meth.locks = false) (hp : post e) (hdg : decode cc pc = .ok (.return_, 1)) : GW p l en R s m args below meth c cells slots (MQ below (va_Qv post (gB D cl N a) A) args s cells slots A) D cl N nL a A e pc lv [] := fun H locs ls hP hS hl => W.vret C.1 C.2.1 hr (fun t ht hW => ⟨⟨e, rfl, hp, by show va_P D cl (wl N a e) t.heap; rw [ht]; exact hP⟩, hS.F ht⟩) hS.2.2 hdg hlocks
theorem g_calli (C : Cx p s m args c cc Ts own D cl cy N nL a A) {Cn : String} {Tn : u_T} {NF ci index n : Nat} {fs : List Value} {y : MethodName} {bytes : ByteArray} {maxL : Nat} {ret : Option FieldType} {ws : List Cond} {rm : Room} {As rest : List Value} {post : Int32 → (Nat → va_E) → Prop} (cw : CallW R s args own Cn index y bytes maxL ret ws rm 0 0 n) (hM : Met l y ws rm (gPc D cl cy N a e (.ref (a 0) :: As)) (va_Qi post (gB D cl N a) (wA N a)) 0 0 (wA N a)) (h0 : 0 < N) (he : e 0 = .inr (ci, fs)) (hc : cl[ci]? = some (Cn, Tn, NF)) (hn : As.length = n) (hst : st = As.reverse ++ .ref (a 0) :: rest) (hroom : (rest.map fun v => v.category).sum ≤ 8) (hdg : decode cc pc = .ok (.invokevirtual index, 3)) (hcs : cells ≤ R.cells ∧ slots ≤ R.slots)
    (kk : ∀ (r : Int32) (e1 : Nat → va_E), post r e1 → GW p l en R s m args below meth c (cells) (slots) Q D cl N nL a A e1 (pc + 3) lv (.int r :: rest)) : GW p l en R s m args below meth c (cells) (slots) Q D cl N nL a A e (pc) lv (st) := by
  intro H locs ls hP hS hl
  subst hst
  have hA : ∀ q, wA N a q → A q := fun q h => by
    obtain ⟨k, hk, rfl⟩ := h
    exact C.2.2.2.2.2.2.2 k hk
  refine va_calli (va_runV (As := As) (rest := rest) (b := a 0) ⟨C.1, C.2.1, C.2.2.1, C.2.2.2.1, C.2.2.2.2.1⟩ hM cw ⟨gPc_blind, va_recv C.2.2.2.2.2.1 hP hc (by rw [wl_at h0, he]), fun U hU hW => ⟨rfl, by rw [hU]; exact hP, va_K.moved hW.alike C.2.2.2.2.2.1⟩⟩ rfl hn hl.1 rfl (lv_room hroom) hdg hcs) hS (fun q _ h => hA q h) hA (fun r u t H1 locs1 ht hvm hw hB hz1 hk1 hS1 => ?_)
  exact kk r u hw H1 locs1 ls (by rw [← ht]; exact hB) hS1 hl
theorem g_calll (C : Cx p s m args c cc Ts own D cl cy N nL a A) {Cn : String} {Tn : u_T} {NF ci index n : Nat} {fs : List Value} {y : MethodName} {bytes : ByteArray} {maxL : Nat} {ret : Option FieldType} {ws : List Cond} {rm : Room} {As rest : List Value} {post : Int64 → (Nat → va_E) → Prop} (cw : CallW R s args own Cn index y bytes maxL ret ws rm 0 0 n) (hM : Met l y ws rm (gPc D cl cy N a e (.ref (a 0) :: As)) (va_Ql post (gB D cl N a) (wA N a)) 0 0 (wA N a)) (h0 : 0 < N) (he : e 0 = .inr (ci, fs)) (hc : cl[ci]? = some (Cn, Tn, NF)) (hn : As.length = n) (hst : st = As.reverse ++ .ref (a 0) :: rest) (hroom : (rest.map fun v => v.category).sum ≤ 8) (hdg : decode cc pc = .ok (.invokevirtual index, 3)) (hcs : cells ≤ R.cells ∧ slots ≤ R.slots)
    (kk : ∀ (r : Int64) (e1 : Nat → va_E), post r e1 → GW p l en R s m args below meth c (cells) (slots) Q D cl N nL a A e1 (pc + 3) lv (.long r :: rest)) : GW p l en R s m args below meth c (cells) (slots) Q D cl N nL a A e (pc) lv (st) := by
  intro H locs ls hP hS hl
  subst hst
  have hA : ∀ q, wA N a q → A q := fun q h => by
    obtain ⟨k, hk, rfl⟩ := h
    exact C.2.2.2.2.2.2.2 k hk
  refine va_calll (va_runV (As := As) (rest := rest) (b := a 0) ⟨C.1, C.2.1, C.2.2.1, C.2.2.2.1, C.2.2.2.2.1⟩ hM cw ⟨gPc_blind, va_recv C.2.2.2.2.2.1 hP hc (by rw [wl_at h0, he]), fun U hU hW => ⟨rfl, by rw [hU]; exact hP, va_K.moved hW.alike C.2.2.2.2.2.1⟩⟩ rfl hn hl.1 rfl (lv_room hroom) hdg hcs) hS (fun q _ h => hA q h) hA (fun r u t H1 locs1 ht hvm hw hB hz1 hk1 hS1 => ?_)
  exact kk r u hw H1 locs1 ls (by rw [← ht]; exact hB) hS1 hl
theorem g_calld (C : Cx p s m args c cc Ts own D cl cy N nL a A) {Cn : String} {Tn : u_T} {NF ci index n : Nat} {fs : List Value} {y : MethodName} {bytes : ByteArray} {maxL : Nat} {ret : Option FieldType} {ws : List Cond} {rm : Room} {As rest : List Value} {post : UInt64 → (Nat → va_E) → Prop} (cw : CallW R s args own Cn index y bytes maxL ret ws rm 0 0 n) (hM : Met l y ws rm (gPc D cl cy N a e (.ref (a 0) :: As)) (va_Qd post (gB D cl N a) (wA N a)) 0 0 (wA N a)) (h0 : 0 < N) (he : e 0 = .inr (ci, fs)) (hc : cl[ci]? = some (Cn, Tn, NF)) (hn : As.length = n) (hst : st = As.reverse ++ .ref (a 0) :: rest) (hroom : (rest.map fun v => v.category).sum ≤ 8) (hdg : decode cc pc = .ok (.invokevirtual index, 3)) (hcs : cells ≤ R.cells ∧ slots ≤ R.slots)
    (kk : ∀ (r : UInt64) (e1 : Nat → va_E), post r e1 → GW p l en R s m args below meth c (cells) (slots) Q D cl N nL a A e1 (pc + 3) lv (.double r :: rest)) : GW p l en R s m args below meth c (cells) (slots) Q D cl N nL a A e (pc) lv (st) := by
  intro H locs ls hP hS hl
  subst hst
  have hA : ∀ q, wA N a q → A q := fun q h => by
    obtain ⟨k, hk, rfl⟩ := h
    exact C.2.2.2.2.2.2.2 k hk
  refine va_calld (va_runV (As := As) (rest := rest) (b := a 0) ⟨C.1, C.2.1, C.2.2.1, C.2.2.2.1, C.2.2.2.2.1⟩ hM cw ⟨gPc_blind, va_recv C.2.2.2.2.2.1 hP hc (by rw [wl_at h0, he]), fun U hU hW => ⟨rfl, by rw [hU]; exact hP, va_K.moved hW.alike C.2.2.2.2.2.1⟩⟩ rfl hn hl.1 rfl (lv_room hroom) hdg hcs) hS (fun q _ h => hA q h) hA (fun r u t H1 locs1 ht hvm hw hB hz1 hk1 hS1 => ?_)
  exact kk r u hw H1 locs1 ls (by rw [← ht]; exact hB) hS1 hl
theorem g_callv (C : Cx p s m args c cc Ts own D cl cy N nL a A) {Cn : String} {Tn : u_T} {NF ci index n : Nat} {fs : List Value} {y : MethodName} {bytes : ByteArray} {maxL : Nat} {ret : Option FieldType} {ws : List Cond} {rm : Room} {As rest : List Value} {post : (Nat → va_E) → Prop} (cw : CallW R s args own Cn index y bytes maxL ret ws rm 0 0 n) (hM : Met l y ws rm (gPc D cl cy N a e (.ref (a 0) :: As)) (va_Qv post (gB D cl N a) (wA N a)) 0 0 (wA N a)) (h0 : 0 < N) (he : e 0 = .inr (ci, fs)) (hc : cl[ci]? = some (Cn, Tn, NF)) (hn : As.length = n) (hst : st = As.reverse ++ .ref (a 0) :: rest) (hroom : (rest.map fun v => v.category).sum ≤ 8) (hdg : decode cc pc = .ok (.invokevirtual index, 3)) (hcs : cells ≤ R.cells ∧ slots ≤ R.slots)
    (kk : ∀ (e1 : Nat → va_E), post e1 → GW p l en R s m args below meth c (cells) (slots) Q D cl N nL a A e1 (pc + 3) lv (rest)) : GW p l en R s m args below meth c (cells) (slots) Q D cl N nL a A e (pc) lv (st) := by
  intro H locs ls hP hS hl
  subst hst
  have hA : ∀ q, wA N a q → A q := fun q h => by
    obtain ⟨k, hk, rfl⟩ := h
    exact C.2.2.2.2.2.2.2 k hk
  refine va_callv (va_runV (As := As) (rest := rest) (b := a 0) ⟨C.1, C.2.1, C.2.2.1, C.2.2.2.1, C.2.2.2.2.1⟩ hM cw ⟨gPc_blind, va_recv C.2.2.2.2.2.1 hP hc (by rw [wl_at h0, he]), fun U hU hW => ⟨rfl, by rw [hU]; exact hP, va_K.moved hW.alike C.2.2.2.2.2.1⟩⟩ rfl hn hl.1 rfl (lv_room hroom) hdg hcs) hS (fun q _ h => hA q h) hA (fun u t H1 locs1 ht hvm hw hB hz1 hk1 hS1 => ?_)
  exact kk u hw H1 locs1 ls (by rw [← ht]; exact hB) hS1 hl
theorem g_callSi (C : Cx p s m args c cc Ts own D cl cy N nL a A) {index n : Nat} {y : MethodName} {bytes : ByteArray} {maxL : Nat} {ret : Option FieldType} {ws : List Cond} {rm : Room} {As rest : List Value} {post : Int32 → Unit → Prop} (cw : CallB R s args own index y bytes maxL ret ws rm 0 0 n ∧ (Cond.static y).before args s = true) (hM : Met l y ws rm (va_Pc As (fun _ => True)) (va_Qi post (fun _ _ => True) (fun _ => False)) 0 0 (fun _ => False)) (hn : As.length = n) (hst : st = As.reverse ++ rest) (hroom : (rest.map fun v => v.category).sum ≤ 8) (hdg : decode cc pc = .ok (.invokestatic index, 3)) (hcs : cells ≤ R.cells ∧ slots ≤ R.slots)
    (kk : ∀ (r : Int32), post r () → GW p l en R s m args below meth c (cells) (slots) Q D cl N nL a A e (pc + 3) lv (.int r :: rest)) : GW p l en R s m args below meth c (cells) (slots) Q D cl N nL a A e (pc) lv (st) := by
  intro H locs ls hP hS hl
  subst hst
  refine va_calli (va_runS (As := As) (rest := rest) ⟨C.1, C.2.1, C.2.2.1, C.2.2.2.1, C.2.2.2.2.1⟩ hM cw ⟨fun a U g mk q => q, fun U hU hW => ⟨rfl, trivial⟩⟩ rfl hn hl.1 rfl (lv_room hroom) hdg hcs) hS (fun q _ h => h.elim) (fun q h => h.elim) (fun r u t H1 locs1 ht hvm hw hB hz1 hk1 hS1 => ?_)
  refine kk r hw H1 locs1 ls (wl_kept hP (fun k hk => hk1 _ ((wl_Pat hP hk).lt) (fun h => h))) hS1 hl
end GC
end
section
/-! doubles: magnitudes, and the numbers that the class and the reference work out -/
def mg (K : Nat) (x : UInt64) : Prop := x.toNat % 2 ^ 63 < K * 2 ^ 52
theorem mg_mono {K L : Nat} {x : UInt64} (h : mg K x) (hl : K ≤ L) : mg L x := Nat.lt_of_lt_of_le h (Nat.mul_le_mul_right _ hl)
theorem n64_of {x : UInt64} (h : x.toNat % 2 ^ 63 ≤ 9218868437227405312) : vf_n64 x := by
  unfold vf_n64
  rw [UInt64.le_iff_toNat_le, UInt64.toNat_and]
  have h1 : (0x7fffffffffffffff : UInt64).toNat = 2 ^ 63 - 1 := by decide
  rw [h1, Nat.and_two_pow_sub_one_eq_mod]
  exact h
theorem mg_n64 {K : Nat} {x : UInt64} (h : mg K x) (hK : K ≤ 2047) : vf_n64 x := by
  apply n64_of
  have h1 := mg_mono h hK
  unfold mg at h1
  omega
theorem mg_mul {K L : Nat} {x y : UInt64} (hx : mg K x) (hy : mg L y) (hK : K ≤ 2047) (hL : L ≤ 2047) : mg (K + L - 1025 + 3) (FP.dmul x y) := FP.Core.dmul_mag hx hy hK hL
theorem mg_add {K : Nat} {x y : UInt64} (hx : mg K x) (hy : mg K y) (hK : K ≤ 2047) : mg (K + 2) (FP.dadd x y) := FP.Core.dadd_mag hx hy hK
theorem mg_0 {K : Nat} (hK : 1 ≤ K) : mg K FP.dconst0 := by
  unfold mg
  have : (FP.dconst0 : UInt64).toNat % 2 ^ 63 = 0 := by decide +kernel
  rw [this]
  omega
theorem mg_1 : mg 1024 FP.dconst1 := by unfold mg; decide +kernel
theorem mg_fin {K : Nat} {x : UInt64} (h : mg K x) (hK : K ≤ 2047) : FP.Core.DFin x := FP.Core.fin_of_lt h hK
theorem div_n64 {K L : Nat} {x y : UInt64} (hx : mg K x) (hy : mg L y) (hK : K ≤ 2047) (hL : L ≤ 2047) (h0 : ¬ y.toNat % 2 ^ 63 = 0) : vf_n64 (FP.ddiv x y) := by
  have h1 := FP.Core.ddiv_out (mg_fin hx hK).notNaN (mg_fin hy hL) (fun z => h0 ((FP.Core.zero_bits2 y).mp z))
  have h2 := (FP.Core.ne_nan (FP.Core.ddiv x y)).mp ((FP.Core.notNaN_iff _).mp h1)
  exact n64_of h2
theorem dkey_eq (x : UInt64) : FP.Core.dkey x = if 2 ^ 63 ≤ x.toNat then ((2 ^ 63 : Nat) : Int) - (x.toNat : Int) else (x.toNat : Int) := rfl
/-- the test of a weight -/
def okW (w : UInt64) : Prop := ¬ Op.cmpValue (FP.dcmp w FP.dconst0) CmpOp.l < 0 ∧ ¬ 0 < Op.cmpValue (FP.dcmp w FP.dconst1) CmpOp.g
theorem okW_mg {w : UInt64} (h : okW w) : mg 1024 w := by
  obtain ⟨h1, h2⟩ := h
  have n0 : FP.Core.val64 FP.dconst0 ≠ .nan := by
    show FP.Core.val64 FP.Core.dconst0 ≠ .nan
    rw [FP.Core.val64_dconst0]
    exact FP.Core.Datum.noConfusion
  have n1 : FP.Core.val64 FP.dconst1 ≠ .nan := by
    show FP.Core.val64 FP.Core.dconst1 ≠ .nan
    rw [FP.Core.val64_dconst1]
    exact FP.Core.Datum.noConfusion
  have nw : FP.Core.val64 w ≠ .nan := fun q => by
    have := (FP.Core.dcmp_none w FP.dconst0).mpr (Or.inl q)
    rw [show FP.dcmp w FP.dconst0 = FP.Core.dcmp w FP.dconst0 from rfl, this] at h1
    exact h1 (by decide)
  rw [show FP.dcmp w FP.dconst0 = FP.Core.dcmp w FP.dconst0 from rfl, FP.Core.dcmp_key nw n0] at h1
  rw [show FP.dcmp w FP.dconst1 = FP.Core.dcmp w FP.dconst1 from rfl, FP.Core.dcmp_key nw n1] at h2
  have k0 : FP.Core.dkey FP.dconst0 = 0 := by decide +kernel
  have k1 : FP.Core.dkey FP.dconst1 = 1023 * 2 ^ 52 := by decide +kernel
  rw [k0] at h1
  rw [k1] at h2
  have a1 : ¬ FP.Core.dkey w < 0 := fun q => by
    rw [(FP.Core.compare_lt_iff _ _).mpr q] at h1
    exact h1 (by decide)
  have a2 : ¬ (1023 * 2 ^ 52 : Int) < FP.Core.dkey w := fun q => by
    rw [(FP.Core.compare_gt_iff _ _).mpr q] at h2
    exact h2 (by decide)
  rw [dkey_eq] at a1 a2
  unfold mg
  have := w.toNat_lt
  by_cases hs : 2 ^ 63 ≤ w.toNat
  · rw [if_pos hs] at a1 a2
    omega
  · rw [if_neg hs] at a1 a2
    omega
/-- what the comparison with 0 says -/
theorem ne0_of {K : Nat} {y : UInt64} (hy : mg K y) (hK : K ≤ 2047) (h : ¬ Op.cmpValue (FP.dcmp y FP.dconst0) CmpOp.l = 0) : ¬ y.toNat % 2 ^ 63 = 0 := fun q => by
  have n0 : FP.Core.val64 FP.dconst0 ≠ .nan := by
    show FP.Core.val64 FP.Core.dconst0 ≠ .nan
    rw [FP.Core.val64_dconst0]
    exact FP.Core.Datum.noConfusion
  have ny := (mg_fin hy hK).ne_nan
  rw [show FP.dcmp y FP.dconst0 = FP.Core.dcmp y FP.dconst0 from rfl, FP.Core.dcmp_key ny n0] at h
  have k0 : FP.Core.dkey FP.dconst0 = 0 := by decide +kernel
  have ky : FP.Core.dkey y = 0 := by
    rw [dkey_eq]
    have := y.toNat_lt
    by_cases hs : 2 ^ 63 ≤ y.toNat
    · rw [if_pos hs]; omega
    · rw [if_neg hs]; omega
  rw [k0, ky] at h
  exact h (by decide)
/-- int times an eighth: no NaN -/
theorem eighth_n64 (x : Int32) : vf_n64 (FP.dmul (FP.i2d x) 4593671619917905920) := by
  have h1 : mg 1056 (FP.i2d x) := FP.Core.i2d_mag x
  have h2 : mg 1024 4593671619917905920 := by unfold mg; decide +kernel
  exact mg_n64 (mg_mul h1 h2 (by decide) (by decide)) (by decide)
/-! sums and greatest -/
def fsm (f : Nat → UInt64) : Nat → UInt64
  | 0 => FP.dconst0
  | k + 1 => FP.dadd (fsm f k) (f k)
theorem fsm_mg {f : Nat → UInt64} {K n : Nat} (h : ∀ i, i < n → mg K (f i)) (h1 : 1 ≤ K) (hb : K + 2 * n ≤ 2047) : ∀ k, k ≤ n → mg (K + 2 * k) (fsm f k)
  | 0, _ => mg_0 h1
  | k + 1, hk => mg_mono (mg_add (fsm_mg h h1 hb k (by omega)) (mg_mono (h k (by omega)) (by omega)) (by omega)) (by omega)
theorem fsm_congr {f g : Nat → UInt64} {n : Nat} (h : ∀ i, i < n → f i = g i) : ∀ k, k ≤ n → fsm f k = fsm g k
  | 0, _ => rfl
  | k + 1, hk => by
    show FP.dadd (fsm f k) (f k) = FP.dadd (fsm g k) (g k)
    rw [fsm_congr h k (by omega), h k (by omega)]
def gtD (x y : UInt64) : Bool := decide (¬ Op.cmpValue (FP.dcmp x y) CmpOp.l ≤ 0)
theorem gtD_t {x y : UInt64} (h : ¬ Op.cmpValue (FP.dcmp x y) CmpOp.l ≤ 0) : gtD x y = true := decide_eq_true h
theorem gtD_f {x y : UInt64} (h : Op.cmpValue (FP.dcmp x y) CmpOp.l ≤ 0) : gtD x y = false := decide_eq_false (fun q => q h)
def am (f : Nat → UInt64) : Nat → Nat
  | 0 => 0
  | k + 1 => if gtD (f k) (f (am f k)) = true then k else am f k
theorem am_1 (f : Nat → UInt64) : am f 1 = 0 := by
  show (if gtD (f 0) (f (am f 0)) = true then 0 else am f 0) = 0
  split <;> rfl
theorem am_lt (f : Nat → UInt64) : ∀ k, 0 < k → am f k < k
  | 0, h => absurd h (by decide)
  | k + 1, _ => by
    show (if gtD (f k) (f (am f k)) = true then k else am f k) < k + 1
    split
    · omega
    · by_cases hk : k = 0
      · subst hk
        show 0 < 1
        omega
      · have := am_lt f k (by omega)
        omega
theorem am_t {f : Nat → UInt64} {k : Nat} (h : gtD (f k) (f (am f k)) = true) : am f (k + 1) = k := if_pos h
theorem am_f {f : Nat → UInt64} {k : Nat} (h : gtD (f k) (f (am f k)) = false) : am f (k + 1) = am f k := if_neg (by rw [h]; decide)
theorem am_congr {f g : Nat → UInt64} {n : Nat} (hn : 0 < n) (h : ∀ i, i < n → f i = g i) : ∀ k, k ≤ n → am f k = am g k
  | 0, _ => rfl
  | k + 1, hk => by
    have ih := am_congr hn h k (by omega)
    show (if gtD (f k) (f (am f k)) = true then k else am f k) = (if gtD (g k) (g (am g k)) = true then k else am g k)
    have hl : am g k < n := by
      by_cases h0 : k = 0
      · subst h0
        exact hn
      · have := am_lt g k (by omega)
        omega
    rw [ih, h k (by omega), h _ hl]
/-! forward, backward, best, counts -/
def fA (n : Nat) (S : Nat → UInt64) (M E : Nat → Nat → UInt64) (r : Nat → Nat) : Nat → Nat → UInt64
  | 0, j => FP.dmul (S j) (E j (r 0))
  | t + 1, j => FP.dmul (fsm (fun i => FP.dmul (fA n S M E r t i) (M i j)) n) (E j (r (t + 1)))
def fB (n : Nat) (M E : Nat → Nat → UInt64) (r : Nat → Nat) (T : Nat) : Nat → Nat → UInt64
  | 0, _ => FP.dconst1
  | d + 1, i => fsm (fun j => FP.dmul (FP.dmul (M i j) (E j (r (T - 1 - d)))) (fB n M E r T d j)) n
def fV (n : Nat) (S : Nat → UInt64) (M E : Nat → Nat → UInt64) (r : Nat → Nat) : Nat → Nat → UInt64
  | 0, j => FP.dmul (S j) (E j (r 0))
  | t + 1, j => FP.dmul ((fun i => FP.dmul (fV n S M E r t i) (M i j)) (am (fun i => FP.dmul (fV n S M E r t i) (M i j)) n)) (E j (r (t + 1)))
/-- from(t, j), t above 0 -/
def fG (n : Nat) (S : Nat → UInt64) (M E : Nat → Nat → UInt64) (r : Nat → Nat) (t j : Nat) : Nat := am (fun i => FP.dmul (fV n S M E r (t - 1) i) (M i j)) n
/-- the state d places before the last in the best row -/
def fH (n : Nat) (S : Nat → UInt64) (M E : Nat → Nat → UInt64) (r : Nat → Nat) (T : Nat) : Nat → Nat
  | 0 => am (fun j => fV n S M E r (T - 1) j) n
  | d + 1 => fG n S M E r (T - 1 - d) (fH n S M E r T d)
def lsm (f : Nat → Int64) : Nat → Int64
  | 0 => 0
  | k + 1 => lsm f k + f k
theorem lsm_congr {f g : Nat → Int64} {n : Nat} (h : ∀ i, i < n → f i = g i) : ∀ k, k ≤ n → lsm f k = lsm g k
  | 0, _ => rfl
  | k + 1, hk => by
    show lsm f k + f k = lsm g k + g k
    rw [lsm_congr h k (by omega), h k (by omega)]
def csm (b : Nat → Bool) (f : Nat → Int64) : Nat → Int64
  | 0 => 0
  | k + 1 => if b k = true then csm b f k + f k else csm b f k
theorem csm_congr {b d : Nat → Bool} {f g : Nat → Int64} {n : Nat} (hb : ∀ i, i < n → b i = d i) (h : ∀ i, i < n → f i = g i) : ∀ k, k ≤ n → csm b f k = csm d g k
  | 0, _ => rfl
  | k + 1, hk => by
    show (if b k = true then csm b f k + f k else csm b f k) = (if d k = true then csm d g k + g k else csm d g k)
    rw [csm_congr hb h k (by omega), h k (by omega), hb k (by omega)]
theorem csm_none (f : Nat → Int64) : ∀ k, csm (fun _ => false) f k = 0
  | 0 => rfl
  | k + 1 => by
    show (if false = true then csm (fun _ => false) f k + f k else csm (fun _ => false) f k) = 0
    rw [csm_none f k]
    rfl
def fC (n : Nat) (S : Nat → UInt64) (M E : Nat → Nat → UInt64) (r : Nat → Nat) : Nat → Nat → Int64
  | 0, j => if gtD (E j (r 0)) FP.dconst0 = true then (if gtD (S j) FP.dconst0 = true then 1 else 0) else 0
  | t + 1, j => if gtD (E j (r (t + 1))) FP.dconst0 = true then csm (fun i => gtD (M i j) FP.dconst0) (fC n S M E r t) n else 0
/-- the weights are weights -/
def WB (S : Nat → UInt64) (M E : Nat → Nat → UInt64) : Prop := (∀ i, i < 6 → mg 1024 (S i)) ∧ (∀ i j, i < 6 → j < 6 → mg 1024 (M i j)) ∧ ∀ i k, i < 6 → k < 4 → mg 1024 (E i k)
def RW4 (r : Nat → Nat) : Prop := ∀ t, t < 12 → r t < 4
theorem fA_mg {n : Nat} {S : Nat → UInt64} {M E : Nat → Nat → UInt64} {r : Nat → Nat} (hn : n ≤ 6) (hW : WB S M E) (hr : RW4 r) : ∀ t j, t < 12 → j < 6 → mg (1026 + 16 * t) (fA n S M E r t j)
  | 0, j, _, hj => mg_mono (mg_mul (hW.1 j hj) (hW.2.2 j (r 0) hj (hr 0 (by decide))) (by decide) (by decide)) (by decide)
  | t + 1, j, ht, hj => by
    have h1 : ∀ i, i < n → mg (1028 + 16 * t) (FP.dmul (fA n S M E r t i) (M i j)) := fun i hi => mg_mono (mg_mul (fA_mg hn hW hr t i (by omega) (by omega)) (hW.2.1 i j (by omega) hj) (by omega) (by decide)) (by omega)
    have h2 := fsm_mg h1 (by omega) (by omega) n (Nat.le_refl n)
    exact mg_mono (mg_mul h2 (hW.2.2 j (r (t + 1)) hj (hr (t + 1) ht)) (by omega) (by decide)) (by omega)
theorem fB_mg {n T : Nat} {S : Nat → UInt64} {M E : Nat → Nat → UInt64} {r : Nat → Nat} (hn : n ≤ 6) (hT : T ≤ 12) (hW : WB S M E) (hr : RW4 r) : ∀ d i, d < T → i < 6 → mg (1024 + 16 * d) (fB n M E r T d i)
  | 0, _, _, _ => mg_1
  | d + 1, i, hd, hi => by
    have h1 : ∀ j, j < n → mg (1028 + 16 * d) (FP.dmul (FP.dmul (M i j) (E j (r (T - 1 - d)))) (fB n M E r T d j)) := fun j hj => mg_mono (mg_mul (mg_mul (hW.2.1 i j hi (by omega)) (hW.2.2 j (r (T - 1 - d)) (by omega) (hr _ (by omega))) (by decide) (by decide)) (fB_mg hn hT hW hr d j (by omega) (by omega)) (by decide) (by omega)) (by omega)
    exact mg_mono (fsm_mg h1 (by omega) (by omega) n (Nat.le_refl n)) (by omega)
theorem fV_mg {n : Nat} {S : Nat → UInt64} {M E : Nat → Nat → UInt64} {r : Nat → Nat} (hn0 : 0 < n) (hn : n ≤ 6) (hW : WB S M E) (hr : RW4 r) : ∀ t j, t < 12 → j < 6 → mg (1026 + 16 * t) (fV n S M E r t j)
  | 0, j, _, hj => mg_mono (mg_mul (hW.1 j hj) (hW.2.2 j (r 0) hj (hr 0 (by decide))) (by decide) (by decide)) (by decide)
  | t + 1, j, ht, hj => by
    have hl := am_lt (fun i => FP.dmul (fV n S M E r t i) (M i j)) n hn0
    have h1 : mg (1028 + 16 * t) ((fun i => FP.dmul (fV n S M E r t i) (M i j)) (am (fun i => FP.dmul (fV n S M E r t i) (M i j)) n)) := mg_mono (mg_mul (fV_mg hn0 hn hW hr t _ (by omega) (by omega)) (hW.2.1 _ j (by omega) hj) (by omega) (by decide)) (by omega)
    exact mg_mono (mg_mul h1 (hW.2.2 j (r (t + 1)) hj (hr (t + 1) ht)) (by omega) (by decide)) (by omega)
end
section
/-! what a state of the class is, and of the reference: cells by places -/
abbrev clP : List vw_C := [(RX0, TX0, 11), (RX1, TX1, 11)]
abbrev T2 : Type := Nat → Nat → UInt64
def RP (cy : Nat → ClassId) (a : Nat → Nat) (e : Nat → va_E) (n T : Nat) (S : Nat → UInt64) (M E : T2) (r : Nat → Nat) (F B V : T2) (G : Nat → Nat → Int32) (Cn : Nat → Nat → Int64) : Prop :=
  e 0 = .inr (0, [.ref (a 1), .ref (a 2), .ref (a 9), .ref (a 16), .int (nI n), .int (nI T), .ref (a 17), .ref (a 30), .ref (a 43), .ref (a 56), .ref (a 69)]) ∧ isD cy (e 1) 6 S ∧ e 2 = rA cy 3 6 a 3 ∧ e 9 = rA cy 3 6 a 10 ∧ isI cy (e 16) 12 (fun t => nI (r t)) ∧ e 17 = rA cy 3 12 a 18 ∧ e 30 = rA cy 3 12 a 31 ∧ e 43 = rA cy 3 12 a 44 ∧ e 56 = rA cy 4 12 a 57 ∧ e 69 = rA cy 5 12 a 70 ∧
  (∀ i, i < 6 → isD cy (e (3 + i)) 6 (M i)) ∧ (∀ i, i < 6 → isD cy (e (10 + i)) 4 (E i)) ∧ (∀ t, t < 12 → isD cy (e (18 + t)) 6 (F t)) ∧ (∀ t, t < 12 → isD cy (e (31 + t)) 6 (B t)) ∧ (∀ t, t < 12 → isD cy (e (44 + t)) 6 (V t)) ∧ (∀ t, t < 12 → isI cy (e (57 + t)) 6 (G t)) ∧ (∀ t, t < 12 → isL cy (e (70 + t)) 6 (Cn t))
def RM (cy : Nat → ClassId) (b : Nat → Nat) (e : Nat → va_E) (n T th : Nat) (S : Nat → UInt64) (M E : T2) (r : Nat → Nat) (nw od : Nat → UInt64) (cn bf : Nat → Int64) : Prop :=
  e 0 = .inr (1, [.int (nI n), .int (nI T), .int (nI th), .ref (b 1), .ref (b 2), .ref (b 3), .ref (b 4), .ref (b 5), .ref (b 6), .ref (b 7), .ref (b 8)]) ∧ isD cy (e 1) 6 S ∧ isD cy (e 2) 36 (fun k => M (k / 6) (k % 6)) ∧ isD cy (e 3) 24 (fun k => E (k / 4) (k % 4)) ∧ isI cy (e 4) 12 (fun t => nI (r t)) ∧ isD cy (e 5) 6 nw ∧ isD cy (e 6) 6 od ∧ isL cy (e 7) 6 cn ∧ isL cy (e 8) 6 bf
theorem up_ne {e : Nat → va_E} {k j : Nat} {x : va_E} (h : j ≠ k) : va_up e k x j = e j := va_up_ne _ _ h
theorem up_eq {e : Nat → va_E} {k : Nat} {x : va_E} : va_up e k x k = x := va_up_self _ _ _
section RPs
variable {cy : Nat → ClassId} {a : Nat → Nat} {e : Nat → va_E} {n T th : Nat} {S : Nat → UInt64} {M E : T2} {r : Nat → Nat} {F B V : T2} {G : Nat → Nat → Int32} {Cn : Nat → Nat → Int64} {nw od : Nat → UInt64} {cn bf : Nat → Int64}

theorem RP_obj (h : RP cy a e n T S M E r F B V G Cn) {n' T' : Nat} {y : va_E} (hy : y = .inr (0, [.ref (a 1), .ref (a 2), .ref (a 9), .ref (a 16), .int (nI n'), .int (nI T'), .ref (a 17), .ref (a 30), .ref (a 43), .ref (a 56), .ref (a 69)])) : RP cy a (va_up e 0 y) n' T' S M E r F B V G Cn := by
  obtain ⟨h0, hS, h2, h9, hr, h17, h30, h43, h56, h69, hM, hE, hF, hB, hV, hG, hC⟩ := h
  exact ⟨by rw [up_eq]; exact hy, by rw [up_ne (by omega)]; exact hS, by rw [up_ne (by omega)]; exact h2, by rw [up_ne (by omega)]; exact h9, by rw [up_ne (by omega)]; exact hr, by rw [up_ne (by omega)]; exact h17, by rw [up_ne (by omega)]; exact h30, by rw [up_ne (by omega)]; exact h43, by rw [up_ne (by omega)]; exact h56, by rw [up_ne (by omega)]; exact h69, fun u hu => by rw [up_ne (by omega)]; exact hM u hu, fun u hu => by rw [up_ne (by omega)]; exact hE u hu, fun u hu => by rw [up_ne (by omega)]; exact hF u hu, fun u hu => by rw [up_ne (by omega)]; exact hB u hu, fun u hu => by rw [up_ne (by omega)]; exact hV u hu, fun u hu => by rw [up_ne (by omega)]; exact hG u hu, fun u hu => by rw [up_ne (by omega)]; exact hC u hu⟩
theorem RP_S (h : RP cy a e n T S M E r F B V G Cn) {S' : Nat → UInt64} {y : va_E} (hy : isD cy y 6 S') : RP cy a (va_up e 1 y) n T S' M E r F B V G Cn := by
  obtain ⟨h0, hS, h2, h9, hr, h17, h30, h43, h56, h69, hM, hE, hF, hB, hV, hG, hC⟩ := h
  exact ⟨by rw [up_ne (by omega)]; exact h0, by rw [up_eq]; exact hy, by rw [up_ne (by omega)]; exact h2, by rw [up_ne (by omega)]; exact h9, by rw [up_ne (by omega)]; exact hr, by rw [up_ne (by omega)]; exact h17, by rw [up_ne (by omega)]; exact h30, by rw [up_ne (by omega)]; exact h43, by rw [up_ne (by omega)]; exact h56, by rw [up_ne (by omega)]; exact h69, fun u hu => by rw [up_ne (by omega)]; exact hM u hu, fun u hu => by rw [up_ne (by omega)]; exact hE u hu, fun u hu => by rw [up_ne (by omega)]; exact hF u hu, fun u hu => by rw [up_ne (by omega)]; exact hB u hu, fun u hu => by rw [up_ne (by omega)]; exact hV u hu, fun u hu => by rw [up_ne (by omega)]; exact hG u hu, fun u hu => by rw [up_ne (by omega)]; exact hC u hu⟩
theorem RP_r (h : RP cy a e n T S M E r F B V G Cn) {r' : Nat → Nat} {y : va_E} (hy : isI cy y 12 (fun t => nI (r' t))) : RP cy a (va_up e 16 y) n T S M E r' F B V G Cn := by
  obtain ⟨h0, hS, h2, h9, hr, h17, h30, h43, h56, h69, hM, hE, hF, hB, hV, hG, hC⟩ := h
  exact ⟨by rw [up_ne (by omega)]; exact h0, by rw [up_ne (by omega)]; exact hS, by rw [up_ne (by omega)]; exact h2, by rw [up_ne (by omega)]; exact h9, by rw [up_eq]; exact hy, by rw [up_ne (by omega)]; exact h17, by rw [up_ne (by omega)]; exact h30, by rw [up_ne (by omega)]; exact h43, by rw [up_ne (by omega)]; exact h56, by rw [up_ne (by omega)]; exact h69, fun u hu => by rw [up_ne (by omega)]; exact hM u hu, fun u hu => by rw [up_ne (by omega)]; exact hE u hu, fun u hu => by rw [up_ne (by omega)]; exact hF u hu, fun u hu => by rw [up_ne (by omega)]; exact hB u hu, fun u hu => by rw [up_ne (by omega)]; exact hV u hu, fun u hu => by rw [up_ne (by omega)]; exact hG u hu, fun u hu => by rw [up_ne (by omega)]; exact hC u hu⟩
theorem RP_M (h : RP cy a e n T S M E r F B V G Cn) {t : Nat} {x : Nat → UInt64} {y : va_E} (ht : t < 6) (hy : isD cy y 6 x) : RP cy a (va_up e (3 + t) y) n T S (va_up M t x) E r F B V G Cn := by
  obtain ⟨h0, hS, h2, h9, hr, h17, h30, h43, h56, h69, hM, hE, hF, hB, hV, hG, hC⟩ := h
  exact ⟨by rw [up_ne (by omega)]; exact h0, by rw [up_ne (by omega)]; exact hS, by rw [up_ne (by omega)]; exact h2, by rw [up_ne (by omega)]; exact h9, by rw [up_ne (by omega)]; exact hr, by rw [up_ne (by omega)]; exact h17, by rw [up_ne (by omega)]; exact h30, by rw [up_ne (by omega)]; exact h43, by rw [up_ne (by omega)]; exact h56, by rw [up_ne (by omega)]; exact h69, fun u hu => by
    by_cases hut : u = t
    · subst hut
      rw [up_eq, va_up_self]
      exact hy
    · rw [up_ne (by omega), va_up_ne _ _ hut]
      exact hM u hu, fun u hu => by rw [up_ne (by omega)]; exact hE u hu, fun u hu => by rw [up_ne (by omega)]; exact hF u hu, fun u hu => by rw [up_ne (by omega)]; exact hB u hu, fun u hu => by rw [up_ne (by omega)]; exact hV u hu, fun u hu => by rw [up_ne (by omega)]; exact hG u hu, fun u hu => by rw [up_ne (by omega)]; exact hC u hu⟩
theorem RP_E (h : RP cy a e n T S M E r F B V G Cn) {t : Nat} {x : Nat → UInt64} {y : va_E} (ht : t < 6) (hy : isD cy y 4 x) : RP cy a (va_up e (10 + t) y) n T S M (va_up E t x) r F B V G Cn := by
  obtain ⟨h0, hS, h2, h9, hr, h17, h30, h43, h56, h69, hM, hE, hF, hB, hV, hG, hC⟩ := h
  exact ⟨by rw [up_ne (by omega)]; exact h0, by rw [up_ne (by omega)]; exact hS, by rw [up_ne (by omega)]; exact h2, by rw [up_ne (by omega)]; exact h9, by rw [up_ne (by omega)]; exact hr, by rw [up_ne (by omega)]; exact h17, by rw [up_ne (by omega)]; exact h30, by rw [up_ne (by omega)]; exact h43, by rw [up_ne (by omega)]; exact h56, by rw [up_ne (by omega)]; exact h69, fun u hu => by rw [up_ne (by omega)]; exact hM u hu, fun u hu => by
    by_cases hut : u = t
    · subst hut
      rw [up_eq, va_up_self]
      exact hy
    · rw [up_ne (by omega), va_up_ne _ _ hut]
      exact hE u hu, fun u hu => by rw [up_ne (by omega)]; exact hF u hu, fun u hu => by rw [up_ne (by omega)]; exact hB u hu, fun u hu => by rw [up_ne (by omega)]; exact hV u hu, fun u hu => by rw [up_ne (by omega)]; exact hG u hu, fun u hu => by rw [up_ne (by omega)]; exact hC u hu⟩
theorem RP_F (h : RP cy a e n T S M E r F B V G Cn) {t : Nat} {x : Nat → UInt64} {y : va_E} (ht : t < 12) (hy : isD cy y 6 x) : RP cy a (va_up e (18 + t) y) n T S M E r (va_up F t x) B V G Cn := by
  obtain ⟨h0, hS, h2, h9, hr, h17, h30, h43, h56, h69, hM, hE, hF, hB, hV, hG, hC⟩ := h
  exact ⟨by rw [up_ne (by omega)]; exact h0, by rw [up_ne (by omega)]; exact hS, by rw [up_ne (by omega)]; exact h2, by rw [up_ne (by omega)]; exact h9, by rw [up_ne (by omega)]; exact hr, by rw [up_ne (by omega)]; exact h17, by rw [up_ne (by omega)]; exact h30, by rw [up_ne (by omega)]; exact h43, by rw [up_ne (by omega)]; exact h56, by rw [up_ne (by omega)]; exact h69, fun u hu => by rw [up_ne (by omega)]; exact hM u hu, fun u hu => by rw [up_ne (by omega)]; exact hE u hu, fun u hu => by
    by_cases hut : u = t
    · subst hut
      rw [up_eq, va_up_self]
      exact hy
    · rw [up_ne (by omega), va_up_ne _ _ hut]
      exact hF u hu, fun u hu => by rw [up_ne (by omega)]; exact hB u hu, fun u hu => by rw [up_ne (by omega)]; exact hV u hu, fun u hu => by rw [up_ne (by omega)]; exact hG u hu, fun u hu => by rw [up_ne (by omega)]; exact hC u hu⟩
theorem RP_B (h : RP cy a e n T S M E r F B V G Cn) {t : Nat} {x : Nat → UInt64} {y : va_E} (ht : t < 12) (hy : isD cy y 6 x) : RP cy a (va_up e (31 + t) y) n T S M E r F (va_up B t x) V G Cn := by
  obtain ⟨h0, hS, h2, h9, hr, h17, h30, h43, h56, h69, hM, hE, hF, hB, hV, hG, hC⟩ := h
  exact ⟨by rw [up_ne (by omega)]; exact h0, by rw [up_ne (by omega)]; exact hS, by rw [up_ne (by omega)]; exact h2, by rw [up_ne (by omega)]; exact h9, by rw [up_ne (by omega)]; exact hr, by rw [up_ne (by omega)]; exact h17, by rw [up_ne (by omega)]; exact h30, by rw [up_ne (by omega)]; exact h43, by rw [up_ne (by omega)]; exact h56, by rw [up_ne (by omega)]; exact h69, fun u hu => by rw [up_ne (by omega)]; exact hM u hu, fun u hu => by rw [up_ne (by omega)]; exact hE u hu, fun u hu => by rw [up_ne (by omega)]; exact hF u hu, fun u hu => by
    by_cases hut : u = t
    · subst hut
      rw [up_eq, va_up_self]
      exact hy
    · rw [up_ne (by omega), va_up_ne _ _ hut]
      exact hB u hu, fun u hu => by rw [up_ne (by omega)]; exact hV u hu, fun u hu => by rw [up_ne (by omega)]; exact hG u hu, fun u hu => by rw [up_ne (by omega)]; exact hC u hu⟩
theorem RP_V (h : RP cy a e n T S M E r F B V G Cn) {t : Nat} {x : Nat → UInt64} {y : va_E} (ht : t < 12) (hy : isD cy y 6 x) : RP cy a (va_up e (44 + t) y) n T S M E r F B (va_up V t x) G Cn := by
  obtain ⟨h0, hS, h2, h9, hr, h17, h30, h43, h56, h69, hM, hE, hF, hB, hV, hG, hC⟩ := h
  exact ⟨by rw [up_ne (by omega)]; exact h0, by rw [up_ne (by omega)]; exact hS, by rw [up_ne (by omega)]; exact h2, by rw [up_ne (by omega)]; exact h9, by rw [up_ne (by omega)]; exact hr, by rw [up_ne (by omega)]; exact h17, by rw [up_ne (by omega)]; exact h30, by rw [up_ne (by omega)]; exact h43, by rw [up_ne (by omega)]; exact h56, by rw [up_ne (by omega)]; exact h69, fun u hu => by rw [up_ne (by omega)]; exact hM u hu, fun u hu => by rw [up_ne (by omega)]; exact hE u hu, fun u hu => by rw [up_ne (by omega)]; exact hF u hu, fun u hu => by rw [up_ne (by omega)]; exact hB u hu, fun u hu => by
    by_cases hut : u = t
    · subst hut
      rw [up_eq, va_up_self]
      exact hy
    · rw [up_ne (by omega), va_up_ne _ _ hut]
      exact hV u hu, fun u hu => by rw [up_ne (by omega)]; exact hG u hu, fun u hu => by rw [up_ne (by omega)]; exact hC u hu⟩
theorem RP_G (h : RP cy a e n T S M E r F B V G Cn) {t : Nat} {x : Nat → Int32} {y : va_E} (ht : t < 12) (hy : isI cy y 6 x) : RP cy a (va_up e (57 + t) y) n T S M E r F B V (va_up G t x) Cn := by
  obtain ⟨h0, hS, h2, h9, hr, h17, h30, h43, h56, h69, hM, hE, hF, hB, hV, hG, hC⟩ := h
  exact ⟨by rw [up_ne (by omega)]; exact h0, by rw [up_ne (by omega)]; exact hS, by rw [up_ne (by omega)]; exact h2, by rw [up_ne (by omega)]; exact h9, by rw [up_ne (by omega)]; exact hr, by rw [up_ne (by omega)]; exact h17, by rw [up_ne (by omega)]; exact h30, by rw [up_ne (by omega)]; exact h43, by rw [up_ne (by omega)]; exact h56, by rw [up_ne (by omega)]; exact h69, fun u hu => by rw [up_ne (by omega)]; exact hM u hu, fun u hu => by rw [up_ne (by omega)]; exact hE u hu, fun u hu => by rw [up_ne (by omega)]; exact hF u hu, fun u hu => by rw [up_ne (by omega)]; exact hB u hu, fun u hu => by rw [up_ne (by omega)]; exact hV u hu, fun u hu => by
    by_cases hut : u = t
    · subst hut
      rw [up_eq, va_up_self]
      exact hy
    · rw [up_ne (by omega), va_up_ne _ _ hut]
      exact hG u hu, fun u hu => by rw [up_ne (by omega)]; exact hC u hu⟩
theorem RP_C (h : RP cy a e n T S M E r F B V G Cn) {t : Nat} {x : Nat → Int64} {y : va_E} (ht : t < 12) (hy : isL cy y 6 x) : RP cy a (va_up e (70 + t) y) n T S M E r F B V G (va_up Cn t x) := by
  obtain ⟨h0, hS, h2, h9, hr, h17, h30, h43, h56, h69, hM, hE, hF, hB, hV, hG, hC⟩ := h
  exact ⟨by rw [up_ne (by omega)]; exact h0, by rw [up_ne (by omega)]; exact hS, by rw [up_ne (by omega)]; exact h2, by rw [up_ne (by omega)]; exact h9, by rw [up_ne (by omega)]; exact hr, by rw [up_ne (by omega)]; exact h17, by rw [up_ne (by omega)]; exact h30, by rw [up_ne (by omega)]; exact h43, by rw [up_ne (by omega)]; exact h56, by rw [up_ne (by omega)]; exact h69, fun u hu => by rw [up_ne (by omega)]; exact hM u hu, fun u hu => by rw [up_ne (by omega)]; exact hE u hu, fun u hu => by rw [up_ne (by omega)]; exact hF u hu, fun u hu => by rw [up_ne (by omega)]; exact hB u hu, fun u hu => by rw [up_ne (by omega)]; exact hV u hu, fun u hu => by rw [up_ne (by omega)]; exact hG u hu, fun u hu => by
    by_cases hut : u = t
    · subst hut
      rw [up_eq, va_up_self]
      exact hy
    · rw [up_ne (by omega), va_up_ne _ _ hut]
      exact hC u hu⟩
theorem RM_obj (h : RM cy a e n T th S M E r nw od cn bf) {n' T' th' : Nat} {y : va_E} (hy : y = .inr (1, [.int (nI n'), .int (nI T'), .int (nI th'), .ref (a 1), .ref (a 2), .ref (a 3), .ref (a 4), .ref (a 5), .ref (a 6), .ref (a 7), .ref (a 8)])) : RM cy a (va_up e 0 y) n' T' th' S M E r nw od cn bf := by
  obtain ⟨h0, hS, hM, hE, hr, hnw, hod, hcn, hbf⟩ := h
  exact ⟨by rw [up_eq]; exact hy, by rw [up_ne (by omega)]; exact hS, by rw [up_ne (by omega)]; exact hM, by rw [up_ne (by omega)]; exact hE, by rw [up_ne (by omega)]; exact hr, by rw [up_ne (by omega)]; exact hnw, by rw [up_ne (by omega)]; exact hod, by rw [up_ne (by omega)]; exact hcn, by rw [up_ne (by omega)]; exact hbf⟩
theorem RM_S (h : RM cy a e n T th S M E r nw od cn bf) {S' : Nat → UInt64} {y : va_E} (hy : isD cy y 6 S') : RM cy a (va_up e 1 y) n T th S' M E r nw od cn bf := by
  obtain ⟨h0, hS, hM, hE, hr, hnw, hod, hcn, hbf⟩ := h
  exact ⟨by rw [up_ne (by omega)]; exact h0, by rw [up_eq]; exact hy, by rw [up_ne (by omega)]; exact hM, by rw [up_ne (by omega)]; exact hE, by rw [up_ne (by omega)]; exact hr, by rw [up_ne (by omega)]; exact hnw, by rw [up_ne (by omega)]; exact hod, by rw [up_ne (by omega)]; exact hcn, by rw [up_ne (by omega)]; exact hbf⟩
theorem RM_M (h : RM cy a e n T th S M E r nw od cn bf) {M' : T2} {y : va_E} (hy : isD cy y 36 (fun k => M' (k / 6) (k % 6))) : RM cy a (va_up e 2 y) n T th S M' E r nw od cn bf := by
  obtain ⟨h0, hS, hM, hE, hr, hnw, hod, hcn, hbf⟩ := h
  exact ⟨by rw [up_ne (by omega)]; exact h0, by rw [up_ne (by omega)]; exact hS, by rw [up_eq]; exact hy, by rw [up_ne (by omega)]; exact hE, by rw [up_ne (by omega)]; exact hr, by rw [up_ne (by omega)]; exact hnw, by rw [up_ne (by omega)]; exact hod, by rw [up_ne (by omega)]; exact hcn, by rw [up_ne (by omega)]; exact hbf⟩
theorem RM_E (h : RM cy a e n T th S M E r nw od cn bf) {E' : T2} {y : va_E} (hy : isD cy y 24 (fun k => E' (k / 4) (k % 4))) : RM cy a (va_up e 3 y) n T th S M E' r nw od cn bf := by
  obtain ⟨h0, hS, hM, hE, hr, hnw, hod, hcn, hbf⟩ := h
  exact ⟨by rw [up_ne (by omega)]; exact h0, by rw [up_ne (by omega)]; exact hS, by rw [up_ne (by omega)]; exact hM, by rw [up_eq]; exact hy, by rw [up_ne (by omega)]; exact hr, by rw [up_ne (by omega)]; exact hnw, by rw [up_ne (by omega)]; exact hod, by rw [up_ne (by omega)]; exact hcn, by rw [up_ne (by omega)]; exact hbf⟩
theorem RM_r (h : RM cy a e n T th S M E r nw od cn bf) {r' : Nat → Nat} {y : va_E} (hy : isI cy y 12 (fun t => nI (r' t))) : RM cy a (va_up e 4 y) n T th S M E r' nw od cn bf := by
  obtain ⟨h0, hS, hM, hE, hr, hnw, hod, hcn, hbf⟩ := h
  exact ⟨by rw [up_ne (by omega)]; exact h0, by rw [up_ne (by omega)]; exact hS, by rw [up_ne (by omega)]; exact hM, by rw [up_ne (by omega)]; exact hE, by rw [up_eq]; exact hy, by rw [up_ne (by omega)]; exact hnw, by rw [up_ne (by omega)]; exact hod, by rw [up_ne (by omega)]; exact hcn, by rw [up_ne (by omega)]; exact hbf⟩
theorem RM_nw (h : RM cy a e n T th S M E r nw od cn bf) {x : Nat → UInt64} {y : va_E} (hy : isD cy y 6 x) : RM cy a (va_up e 5 y) n T th S M E r x od cn bf := by
  obtain ⟨h0, hS, hM, hE, hr, hnw, hod, hcn, hbf⟩ := h
  exact ⟨by rw [up_ne (by omega)]; exact h0, by rw [up_ne (by omega)]; exact hS, by rw [up_ne (by omega)]; exact hM, by rw [up_ne (by omega)]; exact hE, by rw [up_ne (by omega)]; exact hr, by rw [up_eq]; exact hy, by rw [up_ne (by omega)]; exact hod, by rw [up_ne (by omega)]; exact hcn, by rw [up_ne (by omega)]; exact hbf⟩
theorem RM_od (h : RM cy a e n T th S M E r nw od cn bf) {x : Nat → UInt64} {y : va_E} (hy : isD cy y 6 x) : RM cy a (va_up e 6 y) n T th S M E r nw x cn bf := by
  obtain ⟨h0, hS, hM, hE, hr, hnw, hod, hcn, hbf⟩ := h
  exact ⟨by rw [up_ne (by omega)]; exact h0, by rw [up_ne (by omega)]; exact hS, by rw [up_ne (by omega)]; exact hM, by rw [up_ne (by omega)]; exact hE, by rw [up_ne (by omega)]; exact hr, by rw [up_ne (by omega)]; exact hnw, by rw [up_eq]; exact hy, by rw [up_ne (by omega)]; exact hcn, by rw [up_ne (by omega)]; exact hbf⟩
theorem RM_cn (h : RM cy a e n T th S M E r nw od cn bf) {x : Nat → Int64} {y : va_E} (hy : isL cy y 6 x) : RM cy a (va_up e 7 y) n T th S M E r nw od x bf := by
  obtain ⟨h0, hS, hM, hE, hr, hnw, hod, hcn, hbf⟩ := h
  exact ⟨by rw [up_ne (by omega)]; exact h0, by rw [up_ne (by omega)]; exact hS, by rw [up_ne (by omega)]; exact hM, by rw [up_ne (by omega)]; exact hE, by rw [up_ne (by omega)]; exact hr, by rw [up_ne (by omega)]; exact hnw, by rw [up_ne (by omega)]; exact hod, by rw [up_eq]; exact hy, by rw [up_ne (by omega)]; exact hbf⟩
theorem RM_bf (h : RM cy a e n T th S M E r nw od cn bf) {x : Nat → Int64} {y : va_E} (hy : isL cy y 6 x) : RM cy a (va_up e 8 y) n T th S M E r nw od cn x := by
  obtain ⟨h0, hS, hM, hE, hr, hnw, hod, hcn, hbf⟩ := h
  exact ⟨by rw [up_ne (by omega)]; exact h0, by rw [up_ne (by omega)]; exact hS, by rw [up_ne (by omega)]; exact hM, by rw [up_ne (by omega)]; exact hE, by rw [up_ne (by omega)]; exact hr, by rw [up_ne (by omega)]; exact hnw, by rw [up_ne (by omega)]; exact hod, by rw [up_ne (by omega)]; exact hcn, by rw [up_eq]; exact hy⟩
end RPs
theorem inl_pos0 : clP[0]? = some (RX0, TX0, 11) := rfl
theorem inl_pos1 : clP[1]? = some (RX1, TX1, 11) := rfl
theorem tyD2 (cy : Nat → ClassId) : (tys0 cy)[3]? = some (cy 3, .array .double) := rfl
theorem tyI2 (cy : Nat → ClassId) : (tys0 cy)[4]? = some (cy 4, .array .int) := rfl
theorem tyL2 (cy : Nat → ClassId) : (tys0 cy)[5]? = some (cy 5, .array .long) := rfl
/-- numbers -/
theorem nI_sub1 {t : Nat} (h : 0 < t) : nI t - nI 1 = nI (t - 1) := pk_sub h
theorem nI_add1 (t : Nat) : nI t + nI 1 = nI (t + 1) := nI_add t 1
theorem nI_inc (t : Nat) : nI t + Int32.ofInt 1 = nI (t + 1) := nI_add t 1
theorem nI_dec {t : Nat} (h : 0 < t) : nI t + Int32.ofInt (-1) = nI (t - 1) := by
  obtain ⟨k, rfl⟩ : ∃ k, t = k + 1 := ⟨t - 1, by omega⟩
  show nI (k + 1) + (-1) = nI (k + 1 - 1)
  rw [pk_m1]
  rfl
theorem nI_ge_n {i n : Nat} (h : ¬ nI n ≤ nI i) (hi : i < 2 ^ 31) (hn : n < 2 ^ 31) : i < n := Nat.lt_of_not_le (fun q => h ((nI_leI hn hi).mpr q))
theorem nI_le_n {i n : Nat} (h : nI n ≤ nI i) (hi : i < 2 ^ 31) (hn : n < 2 ^ 31) : n ≤ i := (nI_leI hn hi).mp h
end
section
section GC2
variable {p : Program} {l : Launch} {en : Env} {R : Room} {s : State} {m : MethodId} {args : Array Value} {below : List Frame} {meth : Method} {c : Code} {cells slots : Nat} {Q : State → Prop} {D : va_G} {cl : List vw_C} {cy : Nat → ClassId} {N nL : Nat} {a : Nat → Nat} {A : Nat → Prop} {e : Nat → va_E} {cc : ByteArray} {pc : Nat} {lv : List (Nat × Value)} {st : List Value} {Ts : List Cond} {own : String}

theorem g_callSz (C : Cx p s m args c cc Ts own D cl cy N nL a A) {index n : Nat} {y : MethodName} {bytes : ByteArray} {maxL : Nat} {ret : Option FieldType} {ws : List Cond} {rm : Room} {As rest : List Value} {post : Int32 → (Nat → va_E) → Prop} (cw : CallB R s args own index y bytes maxL ret ws rm 0 0 n ∧ (Cond.static y).before args s = true) (hM : Met l y ws rm (gPc D cl cy N a e As) (va_Qi post (gB D cl N a) (wA N a)) 0 0 (wA N a)) (hn : As.length = n) (hst : st = As.reverse ++ rest) (hroom : (rest.map fun v => v.category).sum ≤ 8) (hdg : decode cc pc = .ok (.invokestatic index, 3)) (hcs : cells ≤ R.cells ∧ slots ≤ R.slots)
    (kk : ∀ (r : Int32) (e1 : Nat → va_E), post r e1 → GW p l en R s m args below meth c cells slots Q D cl N nL a A e1 (pc + 3) lv (.int r :: rest)) : GW p l en R s m args below meth c cells slots Q D cl N nL a A e (pc) lv (st) := by
  intro H locs ls hP hS hl
  subst hst
  have hA : ∀ q, wA N a q → A q := fun q h => by
    obtain ⟨k, hk, rfl⟩ := h
    exact C.2.2.2.2.2.2.2 k hk
  refine va_calli (va_runS (As := As) (rest := rest) ⟨C.1, C.2.1, C.2.2.1, C.2.2.2.1, C.2.2.2.2.1⟩ hM cw ⟨gPc_blind, fun U hU hW => ⟨rfl, by rw [hU]; exact hP, va_K.moved hW.alike C.2.2.2.2.2.1⟩⟩ rfl hn hl.1 rfl (lv_room hroom) hdg hcs) hS (fun q _ h => hA q h) hA (fun r u t H1 locs1 ht hvm hw hB hz1 hk1 hS1 => ?_)
  exact kk r u hw H1 locs1 ls (by rw [← ht]; exact hB) hS1 hl
theorem g_putE (C : Cx p s m args c cc Ts own D cl cy N nL a A) {Cn : String} {T : u_T} {NF ci index q0 : Nat} {fs : List Value} {v : Value} (k : Nat) (ty0 : Nat → FieldType) (hty : ∀ k, k < NF → parseFieldDescriptor (T k).2.2.1 = some (ty0 k)) (hnm : ∀ a, a < NF → ∀ b, b < NF → a ≠ b → (T a).2.1 ≠ (T b).2.1) (hin : ∀ w ∈ u_ws Cn T NF, w ∈ Ts) (hc : cl[ci]? = some (Cn, T, NF)) (hq0 : q0 < N) (he : e q0 = .inr (ci, fs)) (hk : k < NF) (hlink : (Cond.fieldLink own index (T k).1 (T k).2.1 (T k).2.2.1).before args s = true) (hfin : (T k).2.2.2 = false) {ty : FieldType} (hd : parseFieldDescriptor (T k).2.2.1 = some ty) (hn : narrow ty v = v) (hfit : fits ty v = true) (hl : k < fs.length) (hdg : decode cc pc = .ok (.putfield index, 3)) (kk : ∀ e1 : Nat → va_E, e1 = va_up e q0 (.inr (ci, fs.set k v)) → GW p l en R s m args below meth c cells slots Q D cl N nL a A e1 (pc + 3) lv (st)) : GW p l en R s m args below meth c cells slots Q D cl N nL a A e (pc) lv (v :: .ref (a q0) :: st) := g_put C k ty0 hty hnm hin hc hq0 he hk hlink hfin hd hn hfit hl hdg (kk _ rfl)
end GC2
/-- z says whether x is one of 0 .. n - 1 -/
def inB (n : Nat) (x z : Int32) : Prop := (z = nI 1 ∧ ∃ j, j < n ∧ x = nI j) ∨ (z = nI 0 ∧ ¬ ∃ j, j < n ∧ x = nI j)
theorem inB_neg {n : Nat} {x : Int32} (hn : n ≤ 2 ^ 31) (h : x < 0) : ¬ ∃ j, j < n ∧ x = nI j := fun ⟨j, h1, h2⟩ => by
  subst h2
  exact nI_pos (by omega) h
theorem inB_big {n : Nat} {x : Int32} (hn : n < 2 ^ 31) (h : nI n ≤ x) : ¬ ∃ j, j < n ∧ x = nI j := fun ⟨j, h1, h2⟩ => by
  subst h2
  exact nI_ge h1 hn h
theorem inB_in {n : Nat} {x : Int32} (hn : n < 2 ^ 31) (h0 : ¬ x < 0) (h : ¬ nI n ≤ x) : ∃ j, j < n ∧ x = nI j := by
  rcases pk_ix x hn with q | q | q
  · exact absurd q h0
  · exact absurd q h
  · exact q
/-- z says whether w is a weight -/
def okB (w : UInt64) (z : Int32) : Prop := (z = nI 1 ∧ okW w) ∨ (z = nI 0 ∧ ¬ okW w)
theorem RP_to {cy : Nat → ClassId} {a : Nat → Nat} {e : Nat → va_E} {n T : Nat} {S S' : Nat → UInt64} {M E M' E' : T2} {r : Nat → Nat} {F B V : T2} {G : Nat → Nat → Int32} {Cn : Nat → Nat → Int64} (h : RP cy a e n T S M E r F B V G Cn) (h1 : ∀ i, i < 6 → S i = S' i) (h2 : ∀ i j, i < 6 → j < 6 → M i j = M' i j) (h3 : ∀ i j, i < 6 → j < 4 → E i j = E' i j) : RP cy a e n T S' M' E' r F B V G Cn := by
  obtain ⟨k0, kS, k2, k9, kr, k17, k30, k43, k56, k69, kM, kE, kF, kB, kV, kG, kC⟩ := h
  exact ⟨k0, kS.to h1, k2, k9, kr, k17, k30, k43, k56, k69, fun i hi => (kM i hi).to (fun j hj => h2 i j hi hj), fun i hi => (kE i hi).to (fun j hj => h3 i j hi hj), kF, kB, kV, kG, kC⟩
theorem RM_to {cy : Nat → ClassId} {a : Nat → Nat} {e : Nat → va_E} {n T th : Nat} {S S' : Nat → UInt64} {M E M' E' : T2} {r : Nat → Nat} {nw od : Nat → UInt64} {cn bf : Nat → Int64} (h : RM cy a e n T th S M E r nw od cn bf) (h1 : ∀ i, i < 6 → S i = S' i) (h2 : ∀ i j, i < 6 → j < 6 → M i j = M' i j) (h3 : ∀ i j, i < 6 → j < 4 → E i j = E' i j) : RM cy a e n T th S' M' E' r nw od cn bf := by
  obtain ⟨k0, kS, kM, kE, kr, k5, k6, k7, k8⟩ := h
  exact ⟨k0, kS.to h1, kM.to (fun j hj => h2 _ _ (by omega) (by omega)), kE.to (fun j hj => h3 _ _ (by omega) (by omega)), kr, k5, k6, k7, k8⟩
def z1 : Nat → UInt64 := fun _ => FP.dconst0
def z2 : T2 := fun _ _ => FP.dconst0
end
section
set_option maxHeartbeats 4000000 in
set_option maxRecDepth 100000 in
theorem c_X0_isState (l : Launch) (D : va_G) (cy : Nat → ClassId) (a : Nat → Nat) (hi : wInj 82 a) {e : Nat → va_E} {n T : Nat} {S : Nat → UInt64} {M E : T2} {r : Nat → Nat} {F B V : T2} {G : Nat → Nat → Int32} {Cn : Nat → Nat → Int64} (h : RP cy a e n T S M E r F B V G Cn) (hb : n ≤ 100) (x : Int32) : Met l yX0_isState wsX0_isState ({ frames := 0, cells := 0, slots := 0, locals := 0 }) (gPc D clP cy 82 a e [.ref (a 0), .int x]) (va_Qi (fun z e1 => e1 = e ∧ inB n x z) (gB D clP 82 a) (wA 82 a)) 0 0 (wA 82 a) := by
  refine g_met (cc := cX0_isState) (maxL := 2) (ret := (some .boolean)) (lv := [(0, .ref (a 0)), (1, .int x)]) (by decide) rfl (Nat.le_of_ble_eq_true rfl) rfl hi (fun k hk => ⟨k, hk, rfl⟩) ?_
  intro p en s m below meth c C hr hlocks
  have hin : ∀ w ∈ u_ws RX0 TX0 11, w ∈ wsX0_isState := by decide +kernel
  have f_stateCount := C.2.2.2.2.1 (.fieldLink RX0 25 "PathOdds" "stateCount" "I") (by decide +kernel)
  obtain ⟨h0, hS, h2, h9, hr0, h17, h30, h43, h56, h69, hM, hE, hF, hB, hV, hG, hC⟩ := id h
  refine g_iload_n C dX0_isState_0 rfl 1 rfl ?_
  refine g_if_lt (tgt := 16) C dX0_isState_1 (by decide) (fun c1 => ?_) (fun c1 => ?_)
  · refine g_iconst (v := nI 0) C dX0_isState_16 (by decide) ?_
    exact g_zret C hr hlocks (by decide) (⟨rfl, Or.inr ⟨rfl, inB_neg (by omega) c1⟩⟩) dX0_isState_17
  · refine g_iload_n C dX0_isState_4 rfl 1 rfl ?_
    refine g_aload_n C dX0_isState_5 rfl 0 rfl ?_
    refine g_get C 4 hin inl_pos0 (by decide) h0 (by decide) f_stateCount rfl dX0_isState_6 ?_
    refine g_icmp_ge (tgt := 16) C dX0_isState_9 (by decide) (fun c2 => ?_) (fun c2 => ?_)
    · refine g_iconst (v := nI 0) C dX0_isState_16 (by decide) ?_
      exact g_zret C hr hlocks (by decide) (⟨rfl, Or.inr ⟨rfl, inB_big (by omega) c2⟩⟩) dX0_isState_17
    · refine g_iconst (v := nI 1) C dX0_isState_12 (by decide) ?_
      refine g_goto (tgt := 17) C dX0_isState_13 (by decide) ?_
      exact g_zret C hr hlocks (by decide) (⟨rfl, Or.inl ⟨rfl, inB_in (by omega) c1 c2⟩⟩) dX0_isState_17

set_option maxHeartbeats 4000000 in
set_option maxRecDepth 100000 in
theorem c_X0_isPlace (l : Launch) (D : va_G) (cy : Nat → ClassId) (a : Nat → Nat) (hi : wInj 82 a) {e : Nat → va_E} {n T : Nat} {S : Nat → UInt64} {M E : T2} {r : Nat → Nat} {F B V : T2} {G : Nat → Nat → Int32} {Cn : Nat → Nat → Int64} (h : RP cy a e n T S M E r F B V G Cn) (hb : T ≤ 100) (x : Int32) : Met l yX0_isPlace wsX0_isPlace ({ frames := 0, cells := 0, slots := 0, locals := 0 }) (gPc D clP cy 82 a e [.ref (a 0), .int x]) (va_Qi (fun z e1 => e1 = e ∧ inB T x z) (gB D clP 82 a) (wA 82 a)) 0 0 (wA 82 a) := by
  refine g_met (cc := cX0_isPlace) (maxL := 2) (ret := (some .boolean)) (lv := [(0, .ref (a 0)), (1, .int x)]) (by decide) rfl (Nat.le_of_ble_eq_true rfl) rfl hi (fun k hk => ⟨k, hk, rfl⟩) ?_
  intro p en s m below meth c C hr hlocks
  have hin : ∀ w ∈ u_ws RX0 TX0 11, w ∈ wsX0_isPlace := by decide +kernel
  have f_rowLength := C.2.2.2.2.1 (.fieldLink RX0 29 "PathOdds" "rowLength" "I") (by decide +kernel)
  obtain ⟨h0, hS, h2, h9, hr0, h17, h30, h43, h56, h69, hM, hE, hF, hB, hV, hG, hC⟩ := id h
  refine g_iload_n C dX0_isPlace_0 rfl 1 rfl ?_
  refine g_if_lt (tgt := 16) C dX0_isPlace_1 (by decide) (fun c1 => ?_) (fun c1 => ?_)
  · refine g_iconst (v := nI 0) C dX0_isPlace_16 (by decide) ?_
    exact g_zret C hr hlocks (by decide) (⟨rfl, Or.inr ⟨rfl, inB_neg (by omega) c1⟩⟩) dX0_isPlace_17
  · refine g_iload_n C dX0_isPlace_4 rfl 1 rfl ?_
    refine g_aload_n C dX0_isPlace_5 rfl 0 rfl ?_
    refine g_get C 5 hin inl_pos0 (by decide) h0 (by decide) f_rowLength rfl dX0_isPlace_6 ?_
    refine g_icmp_ge (tgt := 16) C dX0_isPlace_9 (by decide) (fun c2 => ?_) (fun c2 => ?_)
    · refine g_iconst (v := nI 0) C dX0_isPlace_16 (by decide) ?_
      exact g_zret C hr hlocks (by decide) (⟨rfl, Or.inr ⟨rfl, inB_big (by omega) c2⟩⟩) dX0_isPlace_17
    · refine g_iconst (v := nI 1) C dX0_isPlace_12 (by decide) ?_
      refine g_goto (tgt := 17) C dX0_isPlace_13 (by decide) ?_
      exact g_zret C hr hlocks (by decide) (⟨rfl, Or.inl ⟨rfl, inB_in (by omega) c1 c2⟩⟩) dX0_isPlace_17

set_option maxHeartbeats 4000000 in
set_option maxRecDepth 100000 in
theorem c_X0_isSymbol (l : Launch) (D : va_G) (cy : Nat → ClassId) (a : Nat → Nat) (hi : wInj 82 a) {e : Nat → va_E} {n T : Nat} {S : Nat → UInt64} {M E : T2} {r : Nat → Nat} {F B V : T2} {G : Nat → Nat → Int32} {Cn : Nat → Nat → Int64} (h : RP cy a e n T S M E r F B V G Cn) (x : Int32) : Met l yX0_isSymbol wsX0_isSymbol ({ frames := 0, cells := 0, slots := 0, locals := 0 }) (gPc D clP cy 82 a e [.int x]) (va_Qi (fun z e1 => e1 = e ∧ inB 4 x z) (gB D clP 82 a) (wA 82 a)) 0 0 (wA 82 a) := by
  refine g_met (cc := cX0_isSymbol) (maxL := 1) (ret := (some .boolean)) (lv := [(0, .int x)]) (by decide) rfl (Nat.le_of_ble_eq_true rfl) rfl hi (fun k hk => ⟨k, hk, rfl⟩) ?_
  intro p en s m below meth c C hr hlocks
  refine g_iload_n C dX0_isSymbol_0 rfl 0 rfl ?_
  refine g_if_lt (tgt := 13) C dX0_isSymbol_1 (by decide) (fun c1 => ?_) (fun c1 => ?_)
  · refine g_iconst (v := nI 0) C dX0_isSymbol_13 (by decide) ?_
    exact g_zret C hr hlocks (by decide) (⟨rfl, Or.inr ⟨rfl, inB_neg (by omega) c1⟩⟩) dX0_isSymbol_14
  · refine g_iload_n C dX0_isSymbol_4 rfl 0 rfl ?_
    refine g_iconst (v := nI 4) C dX0_isSymbol_5 (by decide) ?_
    refine g_icmp_ge (tgt := 13) C dX0_isSymbol_6 (by decide) (fun c2 => ?_) (fun c2 => ?_)
    · refine g_iconst (v := nI 0) C dX0_isSymbol_13 (by decide) ?_
      exact g_zret C hr hlocks (by decide) (⟨rfl, Or.inr ⟨rfl, inB_big (by omega) c2⟩⟩) dX0_isSymbol_14
    · refine g_iconst (v := nI 1) C dX0_isSymbol_9 (by decide) ?_
      refine g_goto (tgt := 14) C dX0_isSymbol_10 (by decide) ?_
      exact g_zret C hr hlocks (by decide) (⟨rfl, Or.inl ⟨rfl, inB_in (by omega) c1 c2⟩⟩) dX0_isSymbol_14

set_option maxHeartbeats 4000000 in
set_option maxRecDepth 100000 in
theorem c_X0_isWeight (l : Launch) (D : va_G) (cy : Nat → ClassId) (a : Nat → Nat) (hi : wInj 82 a) {e : Nat → va_E} {n T : Nat} {S : Nat → UInt64} {M E : T2} {r : Nat → Nat} {F B V : T2} {G : Nat → Nat → Int32} {Cn : Nat → Nat → Int64} (h : RP cy a e n T S M E r F B V G Cn) (x : UInt64) : Met l yX0_isWeight wsX0_isWeight ({ frames := 0, cells := 0, slots := 0, locals := 0 }) (gPc D clP cy 82 a e [.double x]) (va_Qi (fun z e1 => e1 = e ∧ okB x z) (gB D clP 82 a) (wA 82 a)) 0 0 (wA 82 a) := by
  refine g_met (cc := cX0_isWeight) (maxL := 2) (ret := (some .boolean)) (lv := [(0, .double x)]) (by decide) rfl (Nat.le_of_ble_eq_true rfl) rfl hi (fun k hk => ⟨k, hk, rfl⟩) ?_
  intro p en s m below meth c C hr hlocks
  refine g_dload_n C dX0_isWeight_0 rfl 0 rfl ?_
  refine g_dconst0 C dX0_isWeight_1 ?_
  refine g_dcmp C dX0_isWeight_2 ?_
  refine g_if_lt (tgt := 16) C dX0_isWeight_3 (by decide) (fun c1 => ?_) (fun c1 => ?_)
  · refine g_iconst (v := nI 0) C dX0_isWeight_16 (by decide) ?_
    exact g_zret C hr hlocks (by decide) (⟨rfl, Or.inr ⟨rfl, fun q => q.1 c1⟩⟩) dX0_isWeight_17
  · refine g_dload_n C dX0_isWeight_6 rfl 0 rfl ?_
    refine g_dconst1 C dX0_isWeight_7 ?_
    refine g_dcmp C dX0_isWeight_8 ?_
    refine g_if_gt (tgt := 16) C dX0_isWeight_9 (by decide) (fun c2 => ?_) (fun c2 => ?_)
    · refine g_iconst (v := nI 0) C dX0_isWeight_16 (by decide) ?_
      exact g_zret C hr hlocks (by decide) (⟨rfl, Or.inr ⟨rfl, fun q => q.2 c2⟩⟩) dX0_isWeight_17
    · refine g_iconst (v := nI 1) C dX0_isWeight_12 (by decide) ?_
      refine g_goto (tgt := 17) C dX0_isWeight_13 (by decide) ?_
      exact g_zret C hr hlocks (by decide) (⟨rfl, Or.inl ⟨rfl, c1, c2⟩⟩) dX0_isWeight_17

set_option maxHeartbeats 4000000 in
set_option maxRecDepth 100000 in
theorem c_X0_size (l : Launch) (D : va_G) (cy : Nat → ClassId) (a : Nat → Nat) (hi : wInj 82 a) {e : Nat → va_E} {n T : Nat} {S : Nat → UInt64} {M E : T2} {r : Nat → Nat} {F B V : T2} {G : Nat → Nat → Int32} {Cn : Nat → Nat → Int64} (h : RP cy a e n T S M E r F B V G Cn)  : Met l yX0_size wsX0_size ({ frames := 0, cells := 0, slots := 0, locals := 0 }) (gPc D clP cy 82 a e [.ref (a 0)]) (va_Qi (fun z e1 => e1 = e ∧ z = nI n) (gB D clP 82 a) (wA 82 a)) 0 0 (wA 82 a) := by
  refine g_met (cc := cX0_size) (maxL := 1) (ret := (some .int)) (lv := [(0, .ref (a 0))]) (by decide) rfl (Nat.le_of_ble_eq_true rfl) rfl hi (fun k hk => ⟨k, hk, rfl⟩) ?_
  intro p en s m below meth c C hr hlocks
  have hin : ∀ w ∈ u_ws RX0 TX0 11, w ∈ wsX0_size := by decide +kernel
  have f_stateCount := C.2.2.2.2.1 (.fieldLink RX0 25 "PathOdds" "stateCount" "I") (by decide +kernel)
  obtain ⟨h0, hS, h2, h9, hr0, h17, h30, h43, h56, h69, hM, hE, hF, hB, hV, hG, hC⟩ := id h
  refine g_aload_n C dX0_size_0 rfl 0 rfl ?_
  refine g_get C 4 hin inl_pos0 (by decide) h0 (by decide) f_stateCount rfl dX0_size_1 ?_
  exact g_iret C hr hlocks (⟨rfl, rfl⟩) dX0_size_4

set_option maxHeartbeats 4000000 in
set_option maxRecDepth 100000 in
theorem c_X0_length (l : Launch) (D : va_G) (cy : Nat → ClassId) (a : Nat → Nat) (hi : wInj 82 a) {e : Nat → va_E} {n T : Nat} {S : Nat → UInt64} {M E : T2} {r : Nat → Nat} {F B V : T2} {G : Nat → Nat → Int32} {Cn : Nat → Nat → Int64} (h : RP cy a e n T S M E r F B V G Cn)  : Met l yX0_length wsX0_length ({ frames := 0, cells := 0, slots := 0, locals := 0 }) (gPc D clP cy 82 a e [.ref (a 0)]) (va_Qi (fun z e1 => e1 = e ∧ z = nI T) (gB D clP 82 a) (wA 82 a)) 0 0 (wA 82 a) := by
  refine g_met (cc := cX0_length) (maxL := 1) (ret := (some .int)) (lv := [(0, .ref (a 0))]) (by decide) rfl (Nat.le_of_ble_eq_true rfl) rfl hi (fun k hk => ⟨k, hk, rfl⟩) ?_
  intro p en s m below meth c C hr hlocks
  have hin : ∀ w ∈ u_ws RX0 TX0 11, w ∈ wsX0_length := by decide +kernel
  have f_rowLength := C.2.2.2.2.1 (.fieldLink RX0 29 "PathOdds" "rowLength" "I") (by decide +kernel)
  obtain ⟨h0, hS, h2, h9, hr0, h17, h30, h43, h56, h69, hM, hE, hF, hB, hV, hG, hC⟩ := id h
  refine g_aload_n C dX0_length_0 rfl 0 rfl ?_
  refine g_get C 5 hin inl_pos0 (by decide) h0 (by decide) f_rowLength rfl dX0_length_1 ?_
  exact g_iret C hr hlocks (⟨rfl, rfl⟩) dX0_length_4

set_option maxHeartbeats 4000000 in
set_option maxRecDepth 100000 in
theorem c_X0_clearWeights (l : Launch) (D : va_G) (cy : Nat → ClassId) (a : Nat → Nat) (hi : wInj 82 a) {e : Nat → va_E} {n T : Nat} {S : Nat → UInt64} {M E : T2} {r : Nat → Nat} {F B V : T2} {G : Nat → Nat → Int32} {Cn : Nat → Nat → Int64} (h : RP cy a e n T S M E r F B V G Cn)  : Met l yX0_clearWeights wsX0_clearWeights ({ frames := 0, cells := 0, slots := 0, locals := 0 }) (gPc D clP cy 82 a e [.ref (a 0)]) (va_Qv (fun e1 => RP cy a e1 n T z1 z2 z2 r F B V G Cn) (gB D clP 82 a) (wA 82 a)) 0 0 (wA 82 a) := by
  refine g_met (cc := cX0_clearWeights) (maxL := 3) (ret := none) (lv := [(0, .ref (a 0))]) (by decide) rfl (Nat.le_of_ble_eq_true rfl) rfl hi (fun k hk => ⟨k, hk, rfl⟩) ?_
  intro p en s m below meth c C hr hlocks
  have hin : ∀ w ∈ u_ws RX0 TX0 11, w ∈ wsX0_clearWeights := by decide +kernel
  have f_startWeights := C.2.2.2.2.1 (.fieldLink RX0 9 "PathOdds" "startWeights" "[D") (by decide +kernel)
  have f_moveWeights := C.2.2.2.2.1 (.fieldLink RX0 15 "PathOdds" "moveWeights" "[[D") (by decide +kernel)
  have f_showWeights := C.2.2.2.2.1 (.fieldLink RX0 18 "PathOdds" "showWeights" "[[D") (by decide +kernel)
  obtain ⟨h0, hS, h2, h9, hr0, h17, h30, h43, h56, h69, hM, hE, hF, hB, hV, hG, hC⟩ := id h
  have L1 : ∀ (k i : Nat) (e : Nat → va_E) (S : Nat → UInt64) (M E : T2), i + k = 6 → RP cy a e n T S M E r F B V G Cn → (∀ q, q < i → S q = FP.dconst0) → (∀ q u, q < i → u < 6 → M q u = FP.dconst0) → (∀ q u, q < i → u < 4 → E q u = FP.dconst0) → GW p l en ({ frames := 0, cells := 0, slots := 0, locals := 0 }) s m ([.ref (a 0)] : List Value).toArray below meth c 0 0 (MQ below (va_Qv (fun e1 => RP cy a e1 n T z1 z2 z2 r F B V G Cn) (gB D clP 82 a) (wA 82 a)) ([.ref (a 0)] : List Value).toArray s 0 0 (wA 82 a)) D clP 82 3 a (wA 82 a) e 2 [(0, .ref (a 0)), (1, .int (nI i))] [] := by
    intro k
    induction k with
    | zero =>
      intro i e S M E hk h z_S z_M z_E
      obtain ⟨h0, hS, h2, h9, hr0, h17, h30, h43, h56, h69, hM, hE, hF, hB, hV, hG, hC⟩ := id h
      refine g_iload_n C dX0_clearWeights_2 rfl 1 rfl ?_
      refine g_bipush (v := nI 6) C dX0_clearWeights_3 (by decide) ?_
      refine g_icmp_ge (tgt := 66) C dX0_clearWeights_5 (by decide) (fun c1 => ?_) (fun c1 => absurd c1 (fun q => q (nI_le (by omega) (by omega))))
      exact g_vret C hr hlocks (RP_to h (fun q hq => z_S q (by omega)) (fun q u hq hu => z_M q u (by omega) hu) (fun q u hq hu => z_E q u (by omega) hu)) dX0_clearWeights_66
    | succ k ih =>
      intro i e S M E hk h z_S z_M z_E
      obtain ⟨h0, hS, h2, h9, hr0, h17, h30, h43, h56, h69, hM, hE, hF, hB, hV, hG, hC⟩ := id h
      refine g_iload_n C dX0_clearWeights_2 rfl 1 rfl ?_
      refine g_bipush (v := nI 6) C dX0_clearWeights_3 (by decide) ?_
      refine g_icmp_ge (tgt := 66) C dX0_clearWeights_5 (by decide) (fun c1 => absurd c1 (nI_ge (by omega) (by decide))) (fun c1 => ?_)
      refine g_aload_n C dX0_clearWeights_8 rfl 0 rfl ?_
      refine g_get C 0 hin inl_pos0 (by decide) h0 (by decide) f_startWeights rfl dX0_clearWeights_9 ?_
      refine g_iload_n C dX0_clearWeights_12 rfl 1 rfl ?_
      refine g_dconst0 C dX0_clearWeights_13 ?_
      refine g_dast C (by omega) hS (by omega) (by decide) dX0_clearWeights_14 (fun y hy => ?_)
      have h := RP_S h hy
      generalize va_up e 1 _ = e at h ⊢
      obtain ⟨h0, hS, h2, h9, hr0, h17, h30, h43, h56, h69, hM, hE, hF, hB, hV, hG, hC⟩ := id h
      have z_S : ∀ q, q < i + 1 → va_up S i FP.dconst0 q = FP.dconst0 := fun q hq => by
        by_cases hqi : q = i
        · subst hqi; exact va_up_self _ _ _
        · rw [va_up_ne _ _ hqi]; exact z_S q (by omega)
      generalize va_up S i FP.dconst0 = S at h hS z_S
      have LB : ∀ (k2 j : Nat) (e : Nat → va_E) (M E : T2), j + k2 = 4 → RP cy a e n T S M E r F B V G Cn → (∀ q u, q < i + 1 → u < 6 → M q u = FP.dconst0) → (∀ q u, q < i → u < 4 → E q u = FP.dconst0) → (∀ u, u < j → E i u = FP.dconst0) → GW p l en ({ frames := 0, cells := 0, slots := 0, locals := 0 }) s m ([.ref (a 0)] : List Value).toArray below meth c 0 0 (MQ below (va_Qv (fun e1 => RP cy a e1 n T z1 z2 z2 r F B V G Cn) (gB D clP 82 a) (wA 82 a)) ([.ref (a 0)] : List Value).toArray s 0 0 (wA 82 a)) D clP 82 3 a (wA 82 a) e 40 [(0, .ref (a 0)), (1, .int (nI i)), (2, .int (nI j))] [] := by
        intro k2
        induction k2 with
        | zero =>
          intro j e M E hk2 h z_M z_E z_j
          obtain ⟨h0, hS, h2, h9, hr0, h17, h30, h43, h56, h69, hM, hE, hF, hB, hV, hG, hC⟩ := id h
          refine g_iload_n C dX0_clearWeights_40 rfl 2 rfl ?_
          refine g_iconst (v := nI 4) C dX0_clearWeights_41 (by decide) ?_
          refine g_icmp_ge (tgt := 60) C dX0_clearWeights_42 (by decide) (fun c1 => ?_) (fun c1 => absurd c1 (fun q => q (nI_le (by omega) (by omega))))
          refine g_iinc (v := nI (i + 1)) (k := 1) (lv' := [(0, .ref (a 0)), (1, .int (nI (i + 1))), (2, .int (nI j))]) C dX0_clearWeights_60 rfl (nI_inc i) (by decide) [1, 0, 2] rfl ?_
          refine g_goto (tgt := 2) C dX0_clearWeights_63 (by decide) ?_
          refine g_pick [0, 1] rfl ?_
          exact ih (i + 1) e S M E (by omega) h z_S z_M (fun q u hq hu => by
            by_cases hqi : q = i
            · subst hqi; exact z_j u (by omega)
            · exact z_E q u (by omega) hu)
        | succ k2 ih2 =>
          intro j e M E hk2 h z_M z_E z_j
          obtain ⟨h0, hS, h2, h9, hr0, h17, h30, h43, h56, h69, hM, hE, hF, hB, hV, hG, hC⟩ := id h
          refine g_iload_n C dX0_clearWeights_40 rfl 2 rfl ?_
          refine g_iconst (v := nI 4) C dX0_clearWeights_41 (by decide) ?_
          refine g_icmp_ge (tgt := 60) C dX0_clearWeights_42 (by decide) (fun c1 => absurd c1 (nI_ge (by omega) (by decide))) (fun c1 => ?_)
          refine g_aload_n C dX0_clearWeights_45 rfl 0 rfl ?_
          refine g_get C 2 hin inl_pos0 (by decide) h0 (by decide) f_showWeights rfl dX0_clearWeights_46 ?_
          refine g_iload_n C dX0_clearWeights_49 rfl 1 rfl ?_
          refine g_aald C (by omega) (tyD2 cy) h9 (by omega) (by decide) dX0_clearWeights_50 ?_
          refine g_iload_n C dX0_clearWeights_51 rfl 2 rfl ?_
          refine g_dconst0 C dX0_clearWeights_52 ?_
          refine g_dast C (by omega) (hE i (by omega)) (by omega) (by decide) dX0_clearWeights_53 (fun y hy => ?_)
          have h := RP_E (t := i) h (by omega) hy
          generalize va_up e (10 + i) _ = e at h ⊢
          obtain ⟨h0, hS, h2, h9, hr0, h17, h30, h43, h56, h69, hM, hE, hF, hB, hV, hG, hC⟩ := id h
          refine g_iinc (v := nI (j + 1)) (k := 2) (lv' := [(0, .ref (a 0)), (1, .int (nI i)), (2, .int (nI (j + 1)))]) C dX0_clearWeights_54 rfl (nI_inc j) (by decide) [1, 2, 0] rfl ?_
          refine g_goto (tgt := 40) C dX0_clearWeights_57 (by decide) ?_
          exact ih2 (j + 1) e M _ (by omega) h z_M (fun q u hq hu => by rw [va_up_ne _ _ (by omega)]; exact z_E q u hq hu) (fun u hu => by
            rw [va_up_self]
            by_cases huj : u = j
            · subst huj; exact va_up_self _ _ _
            · rw [va_up_ne _ _ huj]; exact z_j u (by omega))
      have LA : ∀ (k2 j : Nat) (e : Nat → va_E) (M : T2), j + k2 = 6 → RP cy a e n T S M E r F B V G Cn → (∀ q u, q < i → u < 6 → M q u = FP.dconst0) → (∀ u, u < j → M i u = FP.dconst0) → GW p l en ({ frames := 0, cells := 0, slots := 0, locals := 0 }) s m ([.ref (a 0)] : List Value).toArray below meth c 0 0 (MQ below (va_Qv (fun e1 => RP cy a e1 n T z1 z2 z2 r F B V G Cn) (gB D clP 82 a) (wA 82 a)) ([.ref (a 0)] : List Value).toArray s 0 0 (wA 82 a)) D clP 82 3 a (wA 82 a) e 17 [(0, .ref (a 0)), (1, .int (nI i)), (2, .int (nI j))] [] := by
        intro k2
        induction k2 with
        | zero =>
          intro j e M hk2 h z_M z_j
          obtain ⟨h0, hS, h2, h9, hr0, h17, h30, h43, h56, h69, hM, hE, hF, hB, hV, hG, hC⟩ := id h
          refine g_iload_n C dX0_clearWeights_17 rfl 2 rfl ?_
          refine g_bipush (v := nI 6) C dX0_clearWeights_18 (by decide) ?_
          refine g_icmp_ge (tgt := 38) C dX0_clearWeights_20 (by decide) (fun c1 => ?_) (fun c1 => absurd c1 (fun q => q (nI_le (by omega) (by omega))))
          refine g_iconst (v := nI 0) C dX0_clearWeights_38 (by decide) ?_
          refine g_istore_n (lv' := [(0, .ref (a 0)), (1, .int (nI i)), (2, .int (nI 0))]) C dX0_clearWeights_39 rfl (by decide) [1, 2, 0] rfl ?_
          exact LB 4 0 e M E (by omega) h (fun q u hq hu => by
            by_cases hqi : q = i
            · subst hqi; exact z_j u (by omega)
            · exact z_M q u (by omega) hu) z_E (fun u hu => absurd hu (by omega))
        | succ k2 ih2 =>
          intro j e M hk2 h z_M z_j
          obtain ⟨h0, hS, h2, h9, hr0, h17, h30, h43, h56, h69, hM, hE, hF, hB, hV, hG, hC⟩ := id h
          refine g_iload_n C dX0_clearWeights_17 rfl 2 rfl ?_
          refine g_bipush (v := nI 6) C dX0_clearWeights_18 (by decide) ?_
          refine g_icmp_ge (tgt := 38) C dX0_clearWeights_20 (by decide) (fun c1 => absurd c1 (nI_ge (by omega) (by decide))) (fun c1 => ?_)
          refine g_aload_n C dX0_clearWeights_23 rfl 0 rfl ?_
          refine g_get C 1 hin inl_pos0 (by decide) h0 (by decide) f_moveWeights rfl dX0_clearWeights_24 ?_
          refine g_iload_n C dX0_clearWeights_27 rfl 1 rfl ?_
          refine g_aald C (by omega) (tyD2 cy) h2 (by omega) (by decide) dX0_clearWeights_28 ?_
          refine g_iload_n C dX0_clearWeights_29 rfl 2 rfl ?_
          refine g_dconst0 C dX0_clearWeights_30 ?_
          refine g_dast C (by omega) (hM i (by omega)) (by omega) (by decide) dX0_clearWeights_31 (fun y hy => ?_)
          have h := RP_M (t := i) h (by omega) hy
          generalize va_up e (3 + i) _ = e at h ⊢
          obtain ⟨h0, hS, h2, h9, hr0, h17, h30, h43, h56, h69, hM, hE, hF, hB, hV, hG, hC⟩ := id h
          refine g_iinc (v := nI (j + 1)) (k := 2) (lv' := [(0, .ref (a 0)), (1, .int (nI i)), (2, .int (nI (j + 1)))]) C dX0_clearWeights_32 rfl (nI_inc j) (by decide) [1, 2, 0] rfl ?_
          refine g_goto (tgt := 17) C dX0_clearWeights_35 (by decide) ?_
          exact ih2 (j + 1) e _ (by omega) h (fun q u hq hu => by rw [va_up_ne _ _ (by omega)]; exact z_M q u hq hu) (fun u hu => by
            rw [va_up_self]
            by_cases huj : u = j
            · subst huj; exact va_up_self _ _ _
            · rw [va_up_ne _ _ huj]; exact z_j u (by omega))
      refine g_iconst (v := nI 0) C dX0_clearWeights_15 (by decide) ?_
      refine g_istore_n (lv' := [(0, .ref (a 0)), (1, .int (nI i)), (2, .int (nI 0))]) C dX0_clearWeights_16 rfl (by decide) [1, 2, 0] rfl ?_
      exact LA 6 0 e M (by omega) h z_M (fun u hu => absurd hu (by omega))
  refine g_iconst (v := nI 0) C dX0_clearWeights_0 (by decide) ?_
  refine g_istore_n (lv' := [(0, .ref (a 0)), (1, .int (nI 0))]) C dX0_clearWeights_1 rfl (by decide) [1, 0] rfl ?_
  exact L1 6 0 e S M E (by omega) h (fun q hq => absurd hq (by omega)) (fun q u hq => absurd hq (by omega)) (fun q u hq => absurd hq (by omega))
end
section
theorem rng16 {x : Int32} (h1 : ¬ x < nI 1) (h2 : x ≤ nI 6) : ∃ k, 1 ≤ k ∧ k ≤ 6 ∧ x = nI k := by
  have a1 : (nI 1).toInt = 1 := nI_toInt (by decide)
  have a6 : (nI 6).toInt = 6 := nI_toInt (by decide)
  rw [Int32.lt_iff_toInt_lt, a1] at h1
  rw [Int32.le_iff_toInt_le, a6] at h2
  rcases pk_ix x (n := 7) (by decide) with q | q | ⟨j, hj, rfl⟩
  · rw [Int32.lt_iff_toInt_lt] at q
    have : (0 : Int32).toInt = 0 := rfl
    omega
  · rw [Int32.le_iff_toInt_le, nI_toInt (by decide)] at q
    omega
  · rw [nI_toInt (by omega)] at h1
    exact ⟨j, by omega, by omega, rfl⟩
theorem rng16_lo {x : Int32} (h : x < nI 1) : ¬ ∃ k, 1 ≤ k ∧ k ≤ 6 ∧ x = nI k := fun ⟨k, h1, h2, h3⟩ => by
  subst h3
  exact nI_nlt h1 (by omega) h
theorem rng16_hi {x : Int32} (h : ¬ x ≤ nI 6) : ¬ ∃ k, 1 ≤ k ∧ k ≤ 6 ∧ x = nI k := fun ⟨k, h1, h2, h3⟩ => by
  subst h3
  exact h (nI_le h2 (by decide))

set_option maxHeartbeats 4000000 in
set_option maxRecDepth 100000 in
theorem c_X0_states (l : Launch) (D : va_G) (cy : Nat → ClassId) (a : Nat → Nat) (hi : wInj 82 a) {e : Nat → va_E} {n T : Nat} {S : Nat → UInt64} {M E : T2} {r : Nat → Nat} {F B V : T2} {G : Nat → Nat → Int32} {Cn : Nat → Nat → Int64} (h : RP cy a e n T S M E r F B V G Cn) (x : Int32) : Met l yX0_states wsX0_states ({ frames := 1, cells := 0, slots := 0, locals := 22 }) (gPc D clP cy 82 a e [.ref (a 0), .int x]) (va_Qi (fun z e1 => (z = nI 1 ∧ ∃ k, 1 ≤ k ∧ k ≤ 6 ∧ x = nI k ∧ RP cy a e1 k 0 z1 z2 z2 r F B V G Cn) ∨ (z = nI 0 ∧ (¬ ∃ k, 1 ≤ k ∧ k ≤ 6 ∧ x = nI k) ∧ e1 = e)) (gB D clP 82 a) (wA 82 a)) 0 0 (wA 82 a) := by
  refine g_met (cc := cX0_states) (maxL := 2) (ret := (some .boolean)) (lv := [(0, .ref (a 0)), (1, .int x)]) (by decide) rfl (Nat.le_of_ble_eq_true rfl) rfl hi (fun k hk => ⟨k, hk, rfl⟩) ?_
  intro p en s m below meth c C hr hlocks
  have hin : ∀ w ∈ u_ws RX0 TX0 11, w ∈ wsX0_states := by decide +kernel
  have f_stateCount := C.2.2.2.2.1 (.fieldLink RX0 25 "PathOdds" "stateCount" "I") (by decide +kernel)
  have f_rowLength := C.2.2.2.2.1 (.fieldLink RX0 29 "PathOdds" "rowLength" "I") (by decide +kernel)
  obtain ⟨h0, hS, h2, h9, hr0, h17, h30, h43, h56, h69, hM, hE, hF, hB, hV, hG, hC⟩ := id h
  refine g_iload_n C dX0_states_0 rfl 1 rfl ?_
  refine g_iconst (v := nI 1) C dX0_states_1 (by decide) ?_
  refine g_icmp_lt (tgt := 11) C dX0_states_2 (by decide) (fun c1 => ?_) (fun c1 => ?_)
  · refine g_iconst (v := nI 0) C dX0_states_11 (by decide) ?_
    exact g_zret C hr hlocks (by decide) (Or.inr ⟨rfl, rng16_lo c1, rfl⟩) dX0_states_12
  · refine g_iload_n C dX0_states_5 rfl 1 rfl ?_
    refine g_bipush (v := nI 6) C dX0_states_6 (by decide) ?_
    refine g_icmp_le (tgt := 13) C dX0_states_8 (by decide) (fun c2 => ?_) (fun c2 => ?_)
    · obtain ⟨k, hk1, hk6, rfl⟩ := rng16 c1 c2
      refine g_aload_n C dX0_states_13 rfl 0 rfl ?_
      refine g_callv (As := []) (rest := []) C (cwV 0 C.2.2.2.2.1 gX0_states_X0_clearWeights rfl rfl rfl (by decide +kernel) ⟨Nat.le_of_ble_eq_true rfl, Nat.le_of_ble_eq_true rfl⟩) (c_X0_clearWeights l D cy a hi h) (by decide) h0 inl_pos0 rfl rfl (Nat.le_of_ble_eq_true rfl) dX0_states_14 ⟨Nat.zero_le _, Nat.zero_le _⟩ (fun e1 h => ?_)
      obtain ⟨h0, hS, h2, h9, hr0, h17, h30, h43, h56, h69, hM, hE, hF, hB, hV, hG, hC⟩ := id h
      refine g_aload_n C dX0_states_17 rfl 0 rfl ?_
      refine g_iload_n C dX0_states_18 rfl 1 rfl ?_
      refine g_putE C 4 tyX0 tyX0_ok nmX0 hin inl_pos0 (by decide) h0 (by decide) f_stateCount rfl (ty := .int) (by decide +kernel) rfl rfl (Nat.le_of_ble_eq_true rfl) dX0_states_19 (fun e2 he2 => ?_)
      have h : RP cy a e2 k T z1 z2 z2 r F B V G Cn := by rw [he2]; exact RP_obj h rfl
      obtain ⟨h0, hS, h2, h9, hr0, h17, h30, h43, h56, h69, hM, hE, hF, hB, hV, hG, hC⟩ := id h
      refine g_aload_n C dX0_states_22 rfl 0 rfl ?_
      refine g_iconst (v := nI 0) C dX0_states_23 (by decide) ?_
      refine g_putE C 5 tyX0 tyX0_ok nmX0 hin inl_pos0 (by decide) h0 (by decide) f_rowLength rfl (ty := .int) (by decide +kernel) rfl rfl (Nat.le_of_ble_eq_true rfl) dX0_states_24 (fun e2 he2 => ?_)
      have h : RP cy a e2 k 0 z1 z2 z2 r F B V G Cn := by rw [he2]; exact RP_obj h rfl
      obtain ⟨h0, hS, h2, h9, hr0, h17, h30, h43, h56, h69, hM, hE, hF, hB, hV, hG, hC⟩ := id h
      refine g_iconst (v := nI 1) C dX0_states_27 (by decide) ?_
      exact g_zret C hr hlocks (by decide) (Or.inl ⟨rfl, k, hk1, hk6, rfl, h⟩) dX0_states_28
    · refine g_iconst (v := nI 0) C dX0_states_11 (by decide) ?_
      exact g_zret C hr hlocks (by decide) (Or.inr ⟨rfl, rng16_hi c2, rfl⟩) dX0_states_12

set_option maxHeartbeats 4000000 in
set_option maxRecDepth 100000 in
theorem c_X0_start (l : Launch) (D : va_G) (cy : Nat → ClassId) (a : Nat → Nat) (hi : wInj 82 a) {e : Nat → va_E} {n T : Nat} {S : Nat → UInt64} {M E : T2} {r : Nat → Nat} {F B V : T2} {G : Nat → Nat → Int32} {Cn : Nat → Nat → Int64} (h : RP cy a e n T S M E r F B V G Cn) (hb : n ≤ 6) (x : Int32) (w : UInt64) : Met l yX0_start wsX0_start ({ frames := 1, cells := 0, slots := 0, locals := 21 }) (gPc D clP cy 82 a e [.ref (a 0), .int x, .double w]) (va_Qi (fun z e1 => (z = nI 1 ∧ ∃ i, i < n ∧ x = nI i ∧ okW w ∧ RP cy a e1 n T (va_up S i w) M E r F B V G Cn) ∨ (z = nI 0 ∧ ¬ ((∃ i, i < n ∧ x = nI i) ∧ okW w) ∧ e1 = e)) (gB D clP 82 a) (wA 82 a)) 0 0 (wA 82 a) := by
  refine g_met (cc := cX0_start) (maxL := 4) (ret := (some .boolean)) (lv := [(0, .ref (a 0)), (1, .int x), (2, .double w)]) (by decide) rfl (Nat.le_of_ble_eq_true rfl) rfl hi (fun k hk => ⟨k, hk, rfl⟩) ?_
  intro p en s m below meth c C hr hlocks
  have hin : ∀ w ∈ u_ws RX0 TX0 11, w ∈ wsX0_start := by decide +kernel
  have f_startWeights := C.2.2.2.2.1 (.fieldLink RX0 9 "PathOdds" "startWeights" "[D") (by decide +kernel)
  obtain ⟨h0, hS, h2, h9, hr0, h17, h30, h43, h56, h69, hM, hE, hF, hB, hV, hG, hC⟩ := id h
  refine g_aload_n C dX0_start_0 rfl 0 rfl ?_
  refine g_iload_n C dX0_start_1 rfl 1 rfl ?_
  refine g_calli (As := [.int x]) (rest := []) C (cwV 1 C.2.2.2.2.1 gX0_start_X0_isState rfl rfl rfl (by decide +kernel) ⟨Nat.le_of_ble_eq_true rfl, Nat.le_of_ble_eq_true rfl⟩) (c_X0_isState l D cy a hi h (by omega) x) (by decide) h0 inl_pos0 rfl rfl (Nat.le_of_ble_eq_true rfl) dX0_start_2 ⟨Nat.zero_le _, Nat.zero_le _⟩ (fun z e1 hz => ?_)
  rw [hz.1]
  rcases hz.2 with ⟨rfl, i, h_i, rfl⟩ | ⟨rfl, hno⟩
  · refine g_if_eq (tgt := 15) C dX0_start_5 (by decide) (fun c1 => absurd c1 (by decide)) (fun c1 => ?_)
    refine g_dload_n C dX0_start_8 rfl 2 rfl ?_
    refine g_callSz (As := [.double w]) (rest := []) C (va_cwS 1 C.2.2.2.2.1 gX0_start_X0_isWeight rfl rfl rfl (by decide +kernel) ⟨Nat.le_of_ble_eq_true rfl, Nat.le_of_ble_eq_true rfl⟩) (c_X0_isWeight l D cy a hi h w) rfl rfl (Nat.le_of_ble_eq_true rfl) dX0_start_9 ⟨Nat.zero_le _, Nat.zero_le _⟩ (fun z e1 hz => ?_)
    rw [hz.1]
    rcases hz.2 with ⟨rfl, hok⟩ | ⟨rfl, hno⟩
    · refine g_if_ne (tgt := 17) C dX0_start_12 (by decide) (fun c1 => ?_) (fun c1 => absurd c1 (by decide))
      refine g_aload_n C dX0_start_17 rfl 0 rfl ?_
      refine g_get C 0 hin inl_pos0 (by decide) h0 (by decide) f_startWeights rfl dX0_start_18 ?_
      refine g_iload_n C dX0_start_21 rfl 1 rfl ?_
      refine g_dload_n C dX0_start_22 rfl 2 rfl ?_
      refine g_dast C (by omega) hS (by omega) (by decide) dX0_start_23 (fun y hy => ?_)
      have h2 := RP_S h hy
      generalize va_up e 1 y = e2 at h2 ⊢
      refine g_iconst (v := nI 1) C dX0_start_24 (by decide) ?_
      exact g_zret C hr hlocks (by decide) (Or.inl ⟨rfl, i, h_i, rfl, hok, h2⟩) dX0_start_25
    · refine g_if_ne (tgt := 17) C dX0_start_12 (by decide) (fun c1 => absurd c1 (fun q => q (by decide))) (fun c1 => ?_)
      refine g_iconst (v := nI 0) C dX0_start_15 (by decide) ?_
      exact g_zret C hr hlocks (by decide) (Or.inr ⟨rfl, fun q => hno q.2, rfl⟩) dX0_start_16
  · refine g_if_eq (tgt := 15) C dX0_start_5 (by decide) (fun c1 => ?_) (fun c1 => absurd c1 (fun q => q (by decide)))
    refine g_iconst (v := nI 0) C dX0_start_15 (by decide) ?_
    exact g_zret C hr hlocks (by decide) (Or.inr ⟨rfl, fun q => hno q.1, rfl⟩) dX0_start_16

set_option maxHeartbeats 4000000 in
set_option maxRecDepth 100000 in
theorem c_X0_move (l : Launch) (D : va_G) (cy : Nat → ClassId) (a : Nat → Nat) (hi : wInj 82 a) {e : Nat → va_E} {n T : Nat} {S : Nat → UInt64} {M E : T2} {r : Nat → Nat} {F B V : T2} {G : Nat → Nat → Int32} {Cn : Nat → Nat → Int64} (h : RP cy a e n T S M E r F B V G Cn) (hb : n ≤ 6) (x x2 : Int32) (w : UInt64) : Met l yX0_move wsX0_move ({ frames := 1, cells := 0, slots := 0, locals := 21 }) (gPc D clP cy 82 a e [.ref (a 0), .int x, .int x2, .double w]) (va_Qi (fun z e1 => (z = nI 1 ∧ ∃ i j, i < n ∧ j < n ∧ x = nI i ∧ x2 = nI j ∧ okW w ∧ RP cy a e1 n T S (va_up M i (va_up (M i) j w)) E r F B V G Cn) ∨ (z = nI 0 ∧ ¬ ((∃ i, i < n ∧ x = nI i) ∧ (∃ j, j < n ∧ x2 = nI j) ∧ okW w) ∧ e1 = e)) (gB D clP 82 a) (wA 82 a)) 0 0 (wA 82 a) := by
  refine g_met (cc := cX0_move) (maxL := 5) (ret := (some .boolean)) (lv := [(0, .ref (a 0)), (1, .int x), (2, .int x2), (3, .double w)]) (by decide) rfl (Nat.le_of_ble_eq_true rfl) rfl hi (fun k hk => ⟨k, hk, rfl⟩) ?_
  intro p en s m below meth c C hr hlocks
  have hin : ∀ w ∈ u_ws RX0 TX0 11, w ∈ wsX0_move := by decide +kernel
  have f_moveWeights := C.2.2.2.2.1 (.fieldLink RX0 15 "PathOdds" "moveWeights" "[[D") (by decide +kernel)
  obtain ⟨h0, hS, h2, h9, hr0, h17, h30, h43, h56, h69, hM, hE, hF, hB, hV, hG, hC⟩ := id h
  refine g_aload_n C dX0_move_0 rfl 0 rfl ?_
  refine g_iload_n C dX0_move_1 rfl 1 rfl ?_
  refine g_calli (As := [.int x]) (rest := []) C (cwV 1 C.2.2.2.2.1 gX0_move_X0_isState rfl rfl rfl (by decide +kernel) ⟨Nat.le_of_ble_eq_true rfl, Nat.le_of_ble_eq_true rfl⟩) (c_X0_isState l D cy a hi h (by omega) x) (by decide) h0 inl_pos0 rfl rfl (Nat.le_of_ble_eq_true rfl) dX0_move_2 ⟨Nat.zero_le _, Nat.zero_le _⟩ (fun z e1 hz => ?_)
  rw [hz.1]
  rcases hz.2 with ⟨rfl, i, h_i, rfl⟩ | ⟨rfl, hno⟩
  · refine g_if_eq (tgt := 23) C dX0_move_5 (by decide) (fun c1 => absurd c1 (by decide)) (fun c1 => ?_)
    refine g_aload_n C dX0_move_8 rfl 0 rfl ?_
    refine g_iload_n C dX0_move_9 rfl 2 rfl ?_
    refine g_calli (As := [.int x2]) (rest := []) C (cwV 1 C.2.2.2.2.1 gX0_move_X0_isState rfl rfl rfl (by decide +kernel) ⟨Nat.le_of_ble_eq_true rfl, Nat.le_of_ble_eq_true rfl⟩) (c_X0_isState l D cy a hi h (by omega) x2) (by decide) h0 inl_pos0 rfl rfl (Nat.le_of_ble_eq_true rfl) dX0_move_10 ⟨Nat.zero_le _, Nat.zero_le _⟩ (fun z e1 hz => ?_)
    rw [hz.1]
    rcases hz.2 with ⟨rfl, j, h_j, rfl⟩ | ⟨rfl, hno⟩
    · refine g_if_eq (tgt := 23) C dX0_move_13 (by decide) (fun c1 => absurd c1 (by decide)) (fun c1 => ?_)
      refine g_dload_n C dX0_move_16 rfl 3 rfl ?_
      refine g_callSz (As := [.double w]) (rest := []) C (va_cwS 1 C.2.2.2.2.1 gX0_move_X0_isWeight rfl rfl rfl (by decide +kernel) ⟨Nat.le_of_ble_eq_true rfl, Nat.le_of_ble_eq_true rfl⟩) (c_X0_isWeight l D cy a hi h w) rfl rfl (Nat.le_of_ble_eq_true rfl) dX0_move_17 ⟨Nat.zero_le _, Nat.zero_le _⟩ (fun z e1 hz => ?_)
      rw [hz.1]
      rcases hz.2 with ⟨rfl, hok⟩ | ⟨rfl, hno⟩
      · refine g_if_ne (tgt := 25) C dX0_move_20 (by decide) (fun c1 => ?_) (fun c1 => absurd c1 (by decide))
        refine g_aload_n C dX0_move_25 rfl 0 rfl ?_
        refine g_get C 1 hin inl_pos0 (by decide) h0 (by decide) f_moveWeights rfl dX0_move_26 ?_
        refine g_iload_n C dX0_move_29 rfl 1 rfl ?_
        refine g_aald C (by omega) (tyD2 cy) h2 (by omega) (by decide) dX0_move_30 ?_
        refine g_iload_n C dX0_move_31 rfl 2 rfl ?_
        refine g_dload_n C dX0_move_32 rfl 3 rfl ?_
        refine g_dast C (by omega) (hM i (by omega)) (by omega) (by decide) dX0_move_33 (fun y hy => ?_)
        have h2 := RP_M (t := i) h (by omega) hy
        generalize va_up e (3 + i) y = e2 at h2 ⊢
        refine g_iconst (v := nI 1) C dX0_move_34 (by decide) ?_
        exact g_zret C hr hlocks (by decide) (Or.inl ⟨rfl, i, j, h_i, h_j, rfl, rfl, hok, h2⟩) dX0_move_35
      · refine g_if_ne (tgt := 25) C dX0_move_20 (by decide) (fun c1 => absurd c1 (fun q => q (by decide))) (fun c1 => ?_)
        refine g_iconst (v := nI 0) C dX0_move_23 (by decide) ?_
        exact g_zret C hr hlocks (by decide) (Or.inr ⟨rfl, fun q => hno q.2.2, rfl⟩) dX0_move_24
    · refine g_if_eq (tgt := 23) C dX0_move_13 (by decide) (fun c1 => ?_) (fun c1 => absurd c1 (fun q => q (by decide)))
      refine g_iconst (v := nI 0) C dX0_move_23 (by decide) ?_
      exact g_zret C hr hlocks (by decide) (Or.inr ⟨rfl, fun q => hno q.2.1, rfl⟩) dX0_move_24
  · refine g_if_eq (tgt := 23) C dX0_move_5 (by decide) (fun c1 => ?_) (fun c1 => absurd c1 (fun q => q (by decide)))
    refine g_iconst (v := nI 0) C dX0_move_23 (by decide) ?_
    exact g_zret C hr hlocks (by decide) (Or.inr ⟨rfl, fun q => hno q.1, rfl⟩) dX0_move_24

set_option maxHeartbeats 4000000 in
set_option maxRecDepth 100000 in
theorem c_X0_show (l : Launch) (D : va_G) (cy : Nat → ClassId) (a : Nat → Nat) (hi : wInj 82 a) {e : Nat → va_E} {n T : Nat} {S : Nat → UInt64} {M E : T2} {r : Nat → Nat} {F B V : T2} {G : Nat → Nat → Int32} {Cn : Nat → Nat → Int64} (h : RP cy a e n T S M E r F B V G Cn) (hb : n ≤ 6) (x x2 : Int32) (w : UInt64) : Met l yX0_show wsX0_show ({ frames := 1, cells := 0, slots := 0, locals := 21 }) (gPc D clP cy 82 a e [.ref (a 0), .int x, .int x2, .double w]) (va_Qi (fun z e1 => (z = nI 1 ∧ ∃ i j, i < n ∧ j < 4 ∧ x = nI i ∧ x2 = nI j ∧ okW w ∧ RP cy a e1 n T S M (va_up E i (va_up (E i) j w)) r F B V G Cn) ∨ (z = nI 0 ∧ ¬ ((∃ i, i < n ∧ x = nI i) ∧ (∃ j, j < 4 ∧ x2 = nI j) ∧ okW w) ∧ e1 = e)) (gB D clP 82 a) (wA 82 a)) 0 0 (wA 82 a) := by
  refine g_met (cc := cX0_show) (maxL := 5) (ret := (some .boolean)) (lv := [(0, .ref (a 0)), (1, .int x), (2, .int x2), (3, .double w)]) (by decide) rfl (Nat.le_of_ble_eq_true rfl) rfl hi (fun k hk => ⟨k, hk, rfl⟩) ?_
  intro p en s m below meth c C hr hlocks
  have hin : ∀ w ∈ u_ws RX0 TX0 11, w ∈ wsX0_show := by decide +kernel
  have f_showWeights := C.2.2.2.2.1 (.fieldLink RX0 18 "PathOdds" "showWeights" "[[D") (by decide +kernel)
  obtain ⟨h0, hS, h2, h9, hr0, h17, h30, h43, h56, h69, hM, hE, hF, hB, hV, hG, hC⟩ := id h
  refine g_aload_n C dX0_show_0 rfl 0 rfl ?_
  refine g_iload_n C dX0_show_1 rfl 1 rfl ?_
  refine g_calli (As := [.int x]) (rest := []) C (cwV 1 C.2.2.2.2.1 gX0_show_X0_isState rfl rfl rfl (by decide +kernel) ⟨Nat.le_of_ble_eq_true rfl, Nat.le_of_ble_eq_true rfl⟩) (c_X0_isState l D cy a hi h (by omega) x) (by decide) h0 inl_pos0 rfl rfl (Nat.le_of_ble_eq_true rfl) dX0_show_2 ⟨Nat.zero_le _, Nat.zero_le _⟩ (fun z e1 hz => ?_)
  rw [hz.1]
  rcases hz.2 with ⟨rfl, i, h_i, rfl⟩ | ⟨rfl, hno⟩
  · refine g_if_eq (tgt := 22) C dX0_show_5 (by decide) (fun c1 => absurd c1 (by decide)) (fun c1 => ?_)
    refine g_iload_n C dX0_show_8 rfl 2 rfl ?_
    refine g_callSz (As := [.int x2]) (rest := []) C (va_cwS 1 C.2.2.2.2.1 gX0_show_X0_isSymbol rfl rfl rfl (by decide +kernel) ⟨Nat.le_of_ble_eq_true rfl, Nat.le_of_ble_eq_true rfl⟩) (c_X0_isSymbol l D cy a hi h x2) rfl rfl (Nat.le_of_ble_eq_true rfl) dX0_show_9 ⟨Nat.zero_le _, Nat.zero_le _⟩ (fun z e1 hz => ?_)
    rw [hz.1]
    rcases hz.2 with ⟨rfl, j, h_j, rfl⟩ | ⟨rfl, hno⟩
    · refine g_if_eq (tgt := 22) C dX0_show_12 (by decide) (fun c1 => absurd c1 (by decide)) (fun c1 => ?_)
      refine g_dload_n C dX0_show_15 rfl 3 rfl ?_
      refine g_callSz (As := [.double w]) (rest := []) C (va_cwS 1 C.2.2.2.2.1 gX0_show_X0_isWeight rfl rfl rfl (by decide +kernel) ⟨Nat.le_of_ble_eq_true rfl, Nat.le_of_ble_eq_true rfl⟩) (c_X0_isWeight l D cy a hi h w) rfl rfl (Nat.le_of_ble_eq_true rfl) dX0_show_16 ⟨Nat.zero_le _, Nat.zero_le _⟩ (fun z e1 hz => ?_)
      rw [hz.1]
      rcases hz.2 with ⟨rfl, hok⟩ | ⟨rfl, hno⟩
      · refine g_if_ne (tgt := 24) C dX0_show_19 (by decide) (fun c1 => ?_) (fun c1 => absurd c1 (by decide))
        refine g_aload_n C dX0_show_24 rfl 0 rfl ?_
        refine g_get C 2 hin inl_pos0 (by decide) h0 (by decide) f_showWeights rfl dX0_show_25 ?_
        refine g_iload_n C dX0_show_28 rfl 1 rfl ?_
        refine g_aald C (by omega) (tyD2 cy) h9 (by omega) (by decide) dX0_show_29 ?_
        refine g_iload_n C dX0_show_30 rfl 2 rfl ?_
        refine g_dload_n C dX0_show_31 rfl 3 rfl ?_
        refine g_dast C (by omega) (hE i (by omega)) (by omega) (by decide) dX0_show_32 (fun y hy => ?_)
        have h2 := RP_E (t := i) h (by omega) hy
        generalize va_up e (10 + i) y = e2 at h2 ⊢
        refine g_iconst (v := nI 1) C dX0_show_33 (by decide) ?_
        exact g_zret C hr hlocks (by decide) (Or.inl ⟨rfl, i, j, h_i, h_j, rfl, rfl, hok, h2⟩) dX0_show_34
      · refine g_if_ne (tgt := 24) C dX0_show_19 (by decide) (fun c1 => absurd c1 (fun q => q (by decide))) (fun c1 => ?_)
        refine g_iconst (v := nI 0) C dX0_show_22 (by decide) ?_
        exact g_zret C hr hlocks (by decide) (Or.inr ⟨rfl, fun q => hno q.2.2, rfl⟩) dX0_show_23
    · refine g_if_eq (tgt := 22) C dX0_show_12 (by decide) (fun c1 => ?_) (fun c1 => absurd c1 (fun q => q (by decide)))
      refine g_iconst (v := nI 0) C dX0_show_22 (by decide) ?_
      exact g_zret C hr hlocks (by decide) (Or.inr ⟨rfl, fun q => hno q.2.1, rfl⟩) dX0_show_23
  · refine g_if_eq (tgt := 22) C dX0_show_5 (by decide) (fun c1 => ?_) (fun c1 => absurd c1 (fun q => q (by decide)))
    refine g_iconst (v := nI 0) C dX0_show_22 (by decide) ?_
    exact g_zret C hr hlocks (by decide) (Or.inr ⟨rfl, fun q => hno q.1, rfl⟩) dX0_show_23

theorem row_up {cy : Nat → ClassId} {y : va_E} {r : Nat → Nat} {t k : Nat} (h : isI cy y 12 (va_up (fun t => nI (r t)) t (nI k))) : isI cy y 12 (fun u => nI (va_up r t k u)) := h.to (fun j _ => by
  by_cases hj : j = t
  · subst hj; simp [va_up]
  · simp [va_up, hj])

set_option maxHeartbeats 4000000 in
set_option maxRecDepth 100000 in
theorem c_X0_read (l : Launch) (D : va_G) (cy : Nat → ClassId) (a : Nat → Nat) (hi : wInj 82 a) {e : Nat → va_E} {n T : Nat} {S : Nat → UInt64} {M E : T2} {r : Nat → Nat} {F B V : T2} {G : Nat → Nat → Int32} {Cn : Nat → Nat → Int64} (h : RP cy a e n T S M E r F B V G Cn) (hb : T ≤ 12) (x : Int32) : Met l yX0_read wsX0_read ({ frames := 1, cells := 0, slots := 0, locals := 20 }) (gPc D clP cy 82 a e [.ref (a 0), .int x]) (va_Qi (fun z e1 => (z = nI 1 ∧ ∃ k, k < 4 ∧ x = nI k ∧ T < 12 ∧ RP cy a e1 n (T + 1) S M E (va_up r T k) F B V G Cn) ∨ (z = nI 0 ∧ ¬ ((∃ k, k < 4 ∧ x = nI k) ∧ T < 12) ∧ e1 = e)) (gB D clP 82 a) (wA 82 a)) 0 0 (wA 82 a) := by
  refine g_met (cc := cX0_read) (maxL := 2) (ret := (some .boolean)) (lv := [(0, .ref (a 0)), (1, .int x)]) (by decide) rfl (Nat.le_of_ble_eq_true rfl) rfl hi (fun k hk => ⟨k, hk, rfl⟩) ?_
  intro p en s m below meth c C hr hlocks
  have hin : ∀ w ∈ u_ws RX0 TX0 11, w ∈ wsX0_read := by decide +kernel
  have f_rowLength := C.2.2.2.2.1 (.fieldLink RX0 29 "PathOdds" "rowLength" "I") (by decide +kernel)
  have f_row := C.2.2.2.2.1 (.fieldLink RX0 21 "PathOdds" "row" "[I") (by decide +kernel)
  obtain ⟨h0, hS, h2, h9, hr0, h17, h30, h43, h56, h69, hM, hE, hF, hB, hV, hG, hC⟩ := id h
  refine g_iload_n C dX0_read_0 rfl 1 rfl ?_
  refine g_callSz (As := [.int x]) (rest := []) C (va_cwS 1 C.2.2.2.2.1 gX0_read_X0_isSymbol rfl rfl rfl (by decide +kernel) ⟨Nat.le_of_ble_eq_true rfl, Nat.le_of_ble_eq_true rfl⟩) (c_X0_isSymbol l D cy a hi h x) rfl rfl (Nat.le_of_ble_eq_true rfl) dX0_read_1 ⟨Nat.zero_le _, Nat.zero_le _⟩ (fun z e1 hz => ?_)
  rw [hz.1]
  rcases hz.2 with ⟨rfl, k, h_k, rfl⟩ | ⟨rfl, hno⟩
  · refine g_if_eq (tgt := 16) C dX0_read_4 (by decide) (fun c1 => absurd c1 (by decide)) (fun c1 => ?_)
    refine g_aload_n C dX0_read_7 rfl 0 rfl ?_
    refine g_get C 5 hin inl_pos0 (by decide) h0 (by decide) f_rowLength rfl dX0_read_8 ?_
    refine g_bipush (v := nI 12) C dX0_read_11 (by decide) ?_
    refine g_icmp_lt (tgt := 18) C dX0_read_13 (by decide) (fun c2 => ?_) (fun c2 => ?_)
    · have hT12 : T < 12 := Nat.lt_of_not_le (fun q => absurd c2 (nI_nlt q (by omega)))
      refine g_aload_n C dX0_read_18 rfl 0 rfl ?_
      refine g_get C 3 hin inl_pos0 (by decide) h0 (by decide) f_row rfl dX0_read_19 ?_
      refine g_aload_n C dX0_read_22 rfl 0 rfl ?_
      refine g_get C 5 hin inl_pos0 (by decide) h0 (by decide) f_rowLength rfl dX0_read_23 ?_
      refine g_iload_n C dX0_read_26 rfl 1 rfl ?_
      refine g_iast C (by omega) hr0 (by omega) (by decide) dX0_read_27 (fun y hy => ?_)
      have h := RP_r h (row_up hy)
      generalize va_up e 16 y = e2 at h ⊢
      obtain ⟨h0, hS, h2, h9, hr0, h17, h30, h43, h56, h69, hM, hE, hF, hB, hV, hG, hC⟩ := id h
      refine g_aload_n C dX0_read_28 rfl 0 rfl ?_
      refine g_dup C dX0_read_29 rfl ?_
      refine g_get C 5 hin inl_pos0 (by decide) h0 (by decide) f_rowLength rfl dX0_read_30 ?_
      refine g_iconst (v := nI 1) C dX0_read_33 (by decide) ?_
      refine g_iadd (v := nI (T + 1)) C dX0_read_34 (nI_add T 1) ?_
      refine g_putE C 5 tyX0 tyX0_ok nmX0 hin inl_pos0 (by decide) h0 (by decide) f_rowLength rfl (ty := .int) (by decide +kernel) rfl rfl (Nat.le_of_ble_eq_true rfl) dX0_read_35 (fun e2 he2 => ?_)
      have h : RP cy a e2 n (T + 1) S M E (va_up r T k) F B V G Cn := by rw [he2]; exact RP_obj h rfl
      refine g_iconst (v := nI 1) C dX0_read_38 (by decide) ?_
      exact g_zret C hr hlocks (by decide) (Or.inl ⟨rfl, k, h_k, rfl, hT12, h⟩) dX0_read_39
    · refine g_iconst (v := nI 0) C dX0_read_16 (by decide) ?_
      exact g_zret C hr hlocks (by decide) (Or.inr ⟨rfl, fun q => c2 (nI_lt q.2 (by decide)), rfl⟩) dX0_read_17
  · refine g_if_eq (tgt := 16) C dX0_read_4 (by decide) (fun c1 => ?_) (fun c1 => absurd c1 (fun q => q (by decide)))
    refine g_iconst (v := nI 0) C dX0_read_16 (by decide) ?_
    exact g_zret C hr hlocks (by decide) (Or.inr ⟨rfl, fun q => hno q.1, rfl⟩) dX0_read_17

set_option maxHeartbeats 4000000 in
set_option maxRecDepth 100000 in
theorem c_X0_unread (l : Launch) (D : va_G) (cy : Nat → ClassId) (a : Nat → Nat) (hi : wInj 82 a) {e : Nat → va_E} {n T : Nat} {S : Nat → UInt64} {M E : T2} {r : Nat → Nat} {F B V : T2} {G : Nat → Nat → Int32} {Cn : Nat → Nat → Int64} (h : RP cy a e n T S M E r F B V G Cn) (hb : T ≤ 12) : Met l yX0_unread wsX0_unread ({ frames := 0, cells := 0, slots := 0, locals := 0 }) (gPc D clP cy 82 a e [.ref (a 0)]) (va_Qi (fun z e1 => (z = nI 1 ∧ 0 < T ∧ RP cy a e1 n (T - 1) S M E r F B V G Cn) ∨ (z = nI 0 ∧ T = 0 ∧ e1 = e)) (gB D clP 82 a) (wA 82 a)) 0 0 (wA 82 a) := by
  refine g_met (cc := cX0_unread) (maxL := 1) (ret := (some .boolean)) (lv := [(0, .ref (a 0))]) (by decide) rfl (Nat.le_of_ble_eq_true rfl) rfl hi (fun k hk => ⟨k, hk, rfl⟩) ?_
  intro p en s m below meth c C hr hlocks
  have hin : ∀ w ∈ u_ws RX0 TX0 11, w ∈ wsX0_unread := by decide +kernel
  have f_rowLength := C.2.2.2.2.1 (.fieldLink RX0 29 "PathOdds" "rowLength" "I") (by decide +kernel)
  obtain ⟨h0, hS, h2, h9, hr0, h17, h30, h43, h56, h69, hM, hE, hF, hB, hV, hG, hC⟩ := id h
  refine g_aload_n C dX0_unread_0 rfl 0 rfl ?_
  refine g_get C 5 hin inl_pos0 (by decide) h0 (by decide) f_rowLength rfl dX0_unread_1 ?_
  refine g_if_ne (tgt := 9) C dX0_unread_4 (by decide) (fun c1 => ?_) (fun c1 => ?_)
  · have hT0 : 0 < T := Nat.pos_of_ne_zero (fun q => c1 (by rw [q]; rfl))
    refine g_aload_n C dX0_unread_9 rfl 0 rfl ?_
    refine g_dup C dX0_unread_10 rfl ?_
    refine g_get C 5 hin inl_pos0 (by decide) h0 (by decide) f_rowLength rfl dX0_unread_11 ?_
    refine g_iconst (v := nI 1) C dX0_unread_14 (by decide) ?_
    refine g_isub (v := nI (T - 1)) C dX0_unread_15 (pk_sub (by omega)) ?_
    refine g_putE C 5 tyX0 tyX0_ok nmX0 hin inl_pos0 (by decide) h0 (by decide) f_rowLength rfl (ty := .int) (by decide +kernel) rfl rfl (Nat.le_of_ble_eq_true rfl) dX0_unread_16 (fun e2 he2 => ?_)
    have h : RP cy a e2 n (T - 1) S M E r F B V G Cn := by rw [he2]; exact RP_obj h rfl
    refine g_iconst (v := nI 1) C dX0_unread_19 (by decide) ?_
    exact g_zret C hr hlocks (by decide) (Or.inl ⟨rfl, hT0, h⟩) dX0_unread_20
  · refine g_iconst (v := nI 0) C dX0_unread_7 (by decide) ?_
    exact g_zret C hr hlocks (by decide) (Or.inr ⟨rfl, (nI_eq (by omega) (by decide)).mp c1, rfl⟩) dX0_unread_8
end
section
theorem fA_step {n : Nat} {S : Nat → UInt64} {M E : T2} {r : Nat → Nat} {F : T2} {t j : Nat} {z : UInt64} (hz : z = if t = 0 then S j else fsm (fun i => FP.dmul (F (t - 1) i) (M i j)) n) (hp : 0 < t → ∀ q, q < n → F (t - 1) q = fA n S M E r (t - 1) q) : FP.dmul z (E j (r t)) = fA n S M E r t j := by
  rw [hz]
  cases t with
  | zero => rfl
  | succ t =>
    rw [if_neg (by omega), fsm_congr (g := fun i => FP.dmul (fA n S M E r t i) (M i j)) (fun i hi => by
      show FP.dmul (F (t + 1 - 1) i) (M i j) = FP.dmul (fA n S M E r t i) (M i j)
      rw [hp (by omega) i hi]
      rfl) n (Nat.le_refl n)]
    rfl
theorem fV_step {n : Nat} (hn : 0 < n) {S : Nat → UInt64} {M E : T2} {r : Nat → Nat} {V : T2} {t j : Nat} {z : UInt64} (hz0 : t = 0 → z = S j) (hz : 0 < t → z = (fun i => FP.dmul (V (t - 1) i) (M i j)) (am (fun i => FP.dmul (V (t - 1) i) (M i j)) n)) (hp : 0 < t → ∀ q, q < n → V (t - 1) q = fV n S M E r (t - 1) q) : FP.dmul z (E j (r t)) = fV n S M E r t j := by
  cases t with
  | zero =>
    rw [hz0 rfl]
    rfl
  | succ t =>
    have hf : ∀ i, i < n → (fun i => FP.dmul (V (t + 1 - 1) i) (M i j)) i = (fun i => FP.dmul (fV n S M E r t i) (M i j)) i := fun i hi => by
      show FP.dmul (V (t + 1 - 1) i) (M i j) = FP.dmul (fV n S M E r t i) (M i j)
      rw [hp (by omega) i hi]
      rfl
    have hl := am_lt (fun i => FP.dmul (fV n S M E r t i) (M i j)) n hn
    rw [hz (by omega), am_congr hn hf n (Nat.le_refl n), hf _ hl]
    rfl
theorem fG_step {n : Nat} (hn : 0 < n) {S : Nat → UInt64} {M E : T2} {r : Nat → Nat} {V : T2} {t j : Nat} (hp : ∀ q, q < n → V (t - 1) q = fV n S M E r (t - 1) q) : am (fun i => FP.dmul (V (t - 1) i) (M i j)) n = fG n S M E r t j :=
  am_congr hn (fun i hi => by rw [hp i hi]) n (Nat.le_refl n)
theorem fB_step {n T : Nat} {M E : T2} {r : Nat → Nat} {B : T2} {t i : Nat} {z : UInt64} (ht : t < T) (hz : z = if t = T - 1 then FP.dconst1 else fsm (fun q => FP.dmul (FP.dmul (M i q) (E q (r (t + 1)))) (B (t + 1) q)) n) (hp : t + 1 < T → ∀ q, q < n → B (t + 1) q = fB n M E r T (T - 1 - (t + 1)) q) : z = fB n M E r T (T - 1 - t) i := by
  rw [hz]
  by_cases h : t = T - 1
  · rw [if_pos h, h, Nat.sub_self]
    rfl
  · rw [if_neg h]
    obtain ⟨d, hd⟩ : ∃ d, T - 1 - t = d + 1 := ⟨T - 1 - t - 1, by omega⟩
    rw [hd, fsm_congr (g := fun q => FP.dmul (FP.dmul (M i q) (E q (r (T - 1 - d)))) (fB n M E r T d q)) (fun q hq => by
      show FP.dmul (FP.dmul (M i q) (E q (r (t + 1)))) (B (t + 1) q) = FP.dmul (FP.dmul (M i q) (E q (r (T - 1 - d)))) (fB n M E r T d q)
      rw [hp (by omega) q hq, show T - 1 - (t + 1) = d by omega, show T - 1 - d = t + 1 by omega]) n (Nat.le_refl n)]
    rfl
theorem fC_step {n : Nat} {S : Nat → UInt64} {M E : T2} {r : Nat → Nat} {C : Nat → Nat → Int64} {t j : Nat} {z : Int64} (hz : z = if t = 0 then (if gtD (S j) FP.dconst0 = true then 1 else 0) else csm (fun i => gtD (M i j) FP.dconst0) (C (t - 1)) n) (hp : 0 < t → ∀ q, q < n → C (t - 1) q = fC n S M E r (t - 1) q) (hg : gtD (E j (r t)) FP.dconst0 = true) : z = fC n S M E r t j := by
  rw [hz]
  cases t with
  | zero =>
    show _ = if gtD (E j (r 0)) FP.dconst0 = true then _ else _
    rw [if_pos hg, if_pos rfl]
  | succ t =>
    show _ = if gtD (E j (r (t + 1))) FP.dconst0 = true then csm (fun i => gtD (M i j) FP.dconst0) (fC n S M E r t) n else 0
    rw [if_pos hg, if_neg (by omega)]
    exact csm_congr (fun _ _ => rfl) (fun i hi => hp (by omega) i hi) n (Nat.le_refl n)
theorem fC_no {n : Nat} {S : Nat → UInt64} {M E : T2} {r : Nat → Nat} {t j : Nat} (hg : gtD (E j (r t)) FP.dconst0 = false) : (0 : Int64) = fC n S M E r t j := by
  cases t with
  | zero =>
    show _ = if gtD (E j (r 0)) FP.dconst0 = true then _ else _
    rw [if_neg (by rw [hg]; decide)]
  | succ t =>
    show _ = if gtD (E j (r (t + 1))) FP.dconst0 = true then csm (fun i => gtD (M i j) FP.dconst0) (fC n S M E r t) n else 0
    rw [if_neg (by rw [hg]; decide)]

set_option maxHeartbeats 4000000 in
set_option maxRecDepth 100000 in
theorem c_X0_forwardInto (l : Launch) (D : va_G) (cy : Nat → ClassId) (a : Nat → Nat) (hi : wInj 82 a) {e : Nat → va_E} {n T : Nat} {S : Nat → UInt64} {M E : T2} {r : Nat → Nat} {F B V : T2} {G : Nat → Nat → Int32} {Cn : Nat → Nat → Int64} (h : RP cy a e n T S M E r F B V G Cn) (hn : n ≤ 6) (t j : Nat) (ht : t < 12) (hj : j < n) (hW : WB S M E) {K : Nat} (hK : K ≤ 1900) (hFb : 0 < t → ∀ i, i < n → mg K (F (t - 1) i)) : Met l yX0_forwardInto wsX0_forwardInto ({ frames := 0, cells := 0, slots := 0, locals := 0 }) (gPc D clP cy 82 a e [.ref (a 0), .int (nI t), .int (nI j)]) (va_Qd (fun z e1 => e1 = e ∧ z = if t = 0 then S j else fsm (fun i => FP.dmul (F (t - 1) i) (M i j)) n) (gB D clP 82 a) (wA 82 a)) 0 0 (wA 82 a) := by
  refine g_met (cc := cX0_forwardInto) (maxL := 6) (ret := (some .double)) (lv := [(0, .ref (a 0)), (1, .int (nI t)), (2, .int (nI j))]) (by decide) rfl (Nat.le_of_ble_eq_true rfl) rfl hi (fun k hk => ⟨k, hk, rfl⟩) ?_
  intro p en s m below meth c C hr hlocks
  have hin : ∀ w ∈ u_ws RX0 TX0 11, w ∈ wsX0_forwardInto := by decide +kernel
  have f_startWeights := C.2.2.2.2.1 (.fieldLink RX0 9 "PathOdds" "startWeights" "[D") (by decide +kernel)
  have f_stateCount := C.2.2.2.2.1 (.fieldLink RX0 25 "PathOdds" "stateCount" "I") (by decide +kernel)
  have f_forwardOdds := C.2.2.2.2.1 (.fieldLink RX0 32 "PathOdds" "forwardOdds" "[[D") (by decide +kernel)
  have f_moveWeights := C.2.2.2.2.1 (.fieldLink RX0 15 "PathOdds" "moveWeights" "[[D") (by decide +kernel)
  obtain ⟨h0, hS, h2, h9, hr0, h17, h30, h43, h56, h69, hM, hE, hF, hB, hV, hG, hC⟩ := id h
  refine g_iload_n C dX0_forwardInto_0 rfl 1 rfl ?_
  refine g_if_ne (tgt := 11) C dX0_forwardInto_1 (by decide) (fun c1 => ?_) (fun c1 => ?_)
  · have ht0 : ¬ t = 0 := fun q => c1 (by rw [q]; rfl)
    have hb : ∀ q, q < n → mg (K + 3) ((fun i => FP.dmul (F (t - 1) i) (M i j)) q) := fun q hq => mg_mono (mg_mul (hFb (by omega) q hq) (hW.2.1 q j (by omega) (by omega)) (by omega) (by decide)) (by omega)
    have L : ∀ (k : Nat) (i : Nat), i + k = n → GW p l en ({ frames := 0, cells := 0, slots := 0, locals := 0 }) s m ([.ref (a 0), .int (nI t), .int (nI j)] : List Value).toArray below meth c 0 0 (MQ below (va_Qd (fun z e1 => e1 = e ∧ z = if t = 0 then S j else fsm (fun i => FP.dmul (F (t - 1) i) (M i j)) n) (gB D clP 82 a) (wA 82 a)) ([.ref (a 0), .int (nI t), .int (nI j)] : List Value).toArray s 0 0 (wA 82 a)) D clP 82 6 a (wA 82 a) e 16 [(0, .ref (a 0)), (1, .int (nI t)), (2, .int (nI j)), (3, .double (fsm (fun i => FP.dmul (F (t - 1) i) (M i j)) i)), (5, .int (nI i))] [] := by
      intro k
      induction k with
      | zero =>
        intro i hk
        obtain ⟨h0, hS, h2, h9, hr0, h17, h30, h43, h56, h69, hM, hE, hF, hB, hV, hG, hC⟩ := id h
        refine g_iload C dX0_forwardInto_16 4 rfl ?_
        refine g_aload_n C dX0_forwardInto_18 rfl 0 rfl ?_
        refine g_get C 4 hin inl_pos0 (by decide) h0 (by decide) f_stateCount rfl dX0_forwardInto_19 ?_
        refine g_icmp_ge (tgt := 55) C dX0_forwardInto_22 (by decide) (fun c1 => ?_) (fun c1 => absurd c1 (fun q => q (nI_le (by omega) (by omega))))
        refine g_dload_n C dX0_forwardInto_55 rfl 3 rfl ?_
        exact g_dret C hr hlocks (⟨rfl, by rw [if_neg ht0, show n = i by omega]⟩) dX0_forwardInto_56
      | succ k ih =>
        intro i hk
        obtain ⟨h0, hS, h2, h9, hr0, h17, h30, h43, h56, h69, hM, hE, hF, hB, hV, hG, hC⟩ := id h
        refine g_iload C dX0_forwardInto_16 4 rfl ?_
        refine g_aload_n C dX0_forwardInto_18 rfl 0 rfl ?_
        refine g_get C 4 hin inl_pos0 (by decide) h0 (by decide) f_stateCount rfl dX0_forwardInto_19 ?_
        refine g_icmp_ge (tgt := 55) C dX0_forwardInto_22 (by decide) (fun c1 => absurd c1 (nI_ge (by omega) (by omega))) (fun c1 => ?_)
        refine g_dload_n C dX0_forwardInto_25 rfl 3 rfl ?_
        refine g_aload_n C dX0_forwardInto_26 rfl 0 rfl ?_
        refine g_get C 6 hin inl_pos0 (by decide) h0 (by decide) f_forwardOdds rfl dX0_forwardInto_27 ?_
        refine g_iload_n C dX0_forwardInto_30 rfl 1 rfl ?_
        refine g_iconst (v := nI 1) C dX0_forwardInto_31 (by decide) ?_
        refine g_isub (v := nI (t - 1)) C dX0_forwardInto_32 (pk_sub (by omega)) ?_
        refine g_aald C (by omega) (tyD2 cy) h17 (by omega) (by decide) dX0_forwardInto_33 ?_
        refine g_iload C dX0_forwardInto_34 4 rfl ?_
        refine g_dald C (by omega) (hF (t - 1) (by omega)) (by omega) (by decide) dX0_forwardInto_36 ?_
        refine g_aload_n C dX0_forwardInto_37 rfl 0 rfl ?_
        refine g_get C 1 hin inl_pos0 (by decide) h0 (by decide) f_moveWeights rfl dX0_forwardInto_38 ?_
        refine g_iload C dX0_forwardInto_41 4 rfl ?_
        refine g_aald C (by omega) (tyD2 cy) h2 (by omega) (by decide) dX0_forwardInto_43 ?_
        refine g_iload_n C dX0_forwardInto_44 rfl 2 rfl ?_
        refine g_dald C (by omega) (hM i (by omega)) (by omega) (by decide) dX0_forwardInto_45 ?_
        refine g_dmul C dX0_forwardInto_46 (mg_n64 (hb i (by omega)) (by omega)) ?_
        refine g_dadd C dX0_forwardInto_47 (mg_n64 (mg_add (fsm_mg hb (by omega) (by omega) i (by omega)) (mg_mono (hb i (by omega)) (by omega)) (by omega)) (by omega)) ?_
        refine g_dstore_n (lv' := [(0, .ref (a 0)), (1, .int (nI t)), (2, .int (nI j)), (3, .double (FP.dadd (fsm (fun i => FP.dmul (F (t - 1) i) (M i j)) i) (FP.dmul (F (t - 1) i) (M i j)))), (5, .int (nI i))]) C dX0_forwardInto_48 rfl (by decide) [1, 2, 3, 0, 4] rfl ?_
        refine g_iinc (v := nI (i + 1)) (k := 4) (lv' := [(0, .ref (a 0)), (1, .int (nI t)), (2, .int (nI j)), (3, .double (FP.dadd (fsm (fun i => FP.dmul (F (t - 1) i) (M i j)) i) (FP.dmul (F (t - 1) i) (M i j)))), (5, .int (nI (i + 1)))]) C dX0_forwardInto_49 rfl (nI_inc i) (by decide) [1, 2, 3, 4, 0] rfl ?_
        refine g_goto (tgt := 16) C dX0_forwardInto_52 (by decide) ?_
        exact ih (i + 1) (by omega)
    refine g_dconst0 C dX0_forwardInto_11 ?_
    refine g_dstore_n (lv' := [(0, .ref (a 0)), (1, .int (nI t)), (2, .int (nI j)), (3, .double FP.dconst0)]) C dX0_forwardInto_12 rfl (by decide) [1, 2, 3, 0] rfl ?_
    refine g_iconst (v := nI 0) C dX0_forwardInto_13 (by decide) ?_
    refine g_istore (lv' := [(0, .ref (a 0)), (1, .int (nI t)), (2, .int (nI j)), (3, .double FP.dconst0), (5, .int (nI 0))]) C dX0_forwardInto_14 (by decide) [1, 2, 3, 4, 0] rfl ?_
    exact L n 0 (by omega)
  · refine g_aload_n C dX0_forwardInto_4 rfl 0 rfl ?_
    refine g_get C 0 hin inl_pos0 (by decide) h0 (by decide) f_startWeights rfl dX0_forwardInto_5 ?_
    refine g_iload_n C dX0_forwardInto_8 rfl 2 rfl ?_
    refine g_dald C (by omega) hS (by omega) (by decide) dX0_forwardInto_9 ?_
    exact g_dret C hr hlocks (⟨rfl, by rw [if_pos ((nI_eq (by omega) (by decide)).mp c1)]⟩) dX0_forwardInto_10

set_option maxHeartbeats 4000000 in
set_option maxRecDepth 100000 in
theorem c_X0_fillForward (l : Launch) (D : va_G) (cy : Nat → ClassId) (a : Nat → Nat) (hi : wInj 82 a) {e : Nat → va_E} {n T : Nat} {S : Nat → UInt64} {M E : T2} {r : Nat → Nat} {F B V : T2} {G : Nat → Nat → Int32} {Cn : Nat → Nat → Int64} (h : RP cy a e n T S M E r F B V G Cn) (hn : 1 ≤ n ∧ n ≤ 6) (hT : T ≤ 12) (hW : WB S M E) (hr4 : RW4 r) : Met l yX0_fillForward wsX0_fillForward ({ frames := 1, cells := 0, slots := 0, locals := 25 }) (gPc D clP cy 82 a e [.ref (a 0)]) (va_Qv (fun e1 => ∃ F1, RP cy a e1 n T S M E r F1 B V G Cn ∧ ∀ t j, t < T → j < n → F1 t j = fA n S M E r t j) (gB D clP 82 a) (wA 82 a)) 0 0 (wA 82 a) := by
  refine g_met (cc := cX0_fillForward) (maxL := 4) (ret := none) (lv := [(0, .ref (a 0))]) (by decide) rfl (Nat.le_of_ble_eq_true rfl) rfl hi (fun k hk => ⟨k, hk, rfl⟩) ?_
  intro p en s m below meth c C hr hlocks
  have hin : ∀ w ∈ u_ws RX0 TX0 11, w ∈ wsX0_fillForward := by decide +kernel
  have f_rowLength := C.2.2.2.2.1 (.fieldLink RX0 29 "PathOdds" "rowLength" "I") (by decide +kernel)
  have f_row := C.2.2.2.2.1 (.fieldLink RX0 21 "PathOdds" "row" "[I") (by decide +kernel)
  have f_stateCount := C.2.2.2.2.1 (.fieldLink RX0 25 "PathOdds" "stateCount" "I") (by decide +kernel)
  have f_forwardOdds := C.2.2.2.2.1 (.fieldLink RX0 32 "PathOdds" "forwardOdds" "[[D") (by decide +kernel)
  have f_showWeights := C.2.2.2.2.1 (.fieldLink RX0 18 "PathOdds" "showWeights" "[[D") (by decide +kernel)
  obtain ⟨h0, hS, h2, h9, hr0, h17, h30, h43, h56, h69, hM, hE, hF, hB, hV, hG, hC⟩ := id h
  have L1 : ∀ (k : Nat) (t : Nat) (e : Nat → va_E) (F : T2), t + k = T → RP cy a e n T S M E r F B V G Cn → (∀ u q, u < t → q < n → F u q = fA n S M E r u q) → GW p l en ({ frames := 1, cells := 0, slots := 0, locals := 25 }) s m ([.ref (a 0)] : List Value).toArray below meth c 0 0 (MQ below (va_Qv (fun e1 => ∃ F1, RP cy a e1 n T S M E r F1 B V G Cn ∧ ∀ t j, t < T → j < n → F1 t j = fA n S M E r t j) (gB D clP 82 a) (wA 82 a)) ([.ref (a 0)] : List Value).toArray s 0 0 (wA 82 a)) D clP 82 4 a (wA 82 a) e 2 [(0, .ref (a 0)), (1, .int (nI t))] [] := by
    intro k
    induction k with
    | zero =>
      intro t e F hk h hp
      obtain ⟨h0, hS, h2, h9, hr0, h17, h30, h43, h56, h69, hM, hE, hF, hB, hV, hG, hC⟩ := id h
      refine g_iload_n C dX0_fillForward_2 rfl 1 rfl ?_
      refine g_aload_n C dX0_fillForward_3 rfl 0 rfl ?_
      refine g_get C 5 hin inl_pos0 (by decide) h0 (by decide) f_rowLength rfl dX0_fillForward_4 ?_
      refine g_icmp_ge (tgt := 62) C dX0_fillForward_7 (by decide) (fun c1 => ?_) (fun c1 => absurd c1 (fun q => q (nI_le (by omega) (by omega))))
      exact g_vret C hr hlocks (⟨F, h, fun u q hu hq => hp u q (by omega) hq⟩) dX0_fillForward_62
    | succ k ih =>
      intro t e F hk h hp
      obtain ⟨h0, hS, h2, h9, hr0, h17, h30, h43, h56, h69, hM, hE, hF, hB, hV, hG, hC⟩ := id h
      refine g_iload_n C dX0_fillForward_2 rfl 1 rfl ?_
      refine g_aload_n C dX0_fillForward_3 rfl 0 rfl ?_
      refine g_get C 5 hin inl_pos0 (by decide) h0 (by decide) f_rowLength rfl dX0_fillForward_4 ?_
      refine g_icmp_ge (tgt := 62) C dX0_fillForward_7 (by decide) (fun c1 => absurd c1 (nI_ge (by omega) (by omega))) (fun c1 => ?_)
      have hrt : r t < 4 := hr4 t (by omega)
      refine g_aload_n C dX0_fillForward_10 rfl 0 rfl ?_
      refine g_get C 3 hin inl_pos0 (by decide) h0 (by decide) f_row rfl dX0_fillForward_11 ?_
      refine g_iload_n C dX0_fillForward_14 rfl 1 rfl ?_
      refine g_iald C (by omega) hr0 (by omega) (by decide) dX0_fillForward_15 ?_
      refine g_istore_n (lv' := [(0, .ref (a 0)), (1, .int (nI t)), (2, .int (nI (r t)))]) C dX0_fillForward_16 rfl (by decide) [1, 2, 0] rfl ?_
      refine g_iconst (v := nI 0) C dX0_fillForward_17 (by decide) ?_
      refine g_istore_n (lv' := [(0, .ref (a 0)), (1, .int (nI t)), (2, .int (nI (r t))), (3, .int (nI 0))]) C dX0_fillForward_18 rfl (by decide) [1, 2, 3, 0] rfl ?_
      have L2 : ∀ (k2 : Nat) (j : Nat) (e : Nat → va_E) (F : T2), j + k2 = n → RP cy a e n T S M E r F B V G Cn → (∀ u q, u < t → q < n → F u q = fA n S M E r u q) → (∀ q, q < j → F t q = fA n S M E r t q) → GW p l en ({ frames := 1, cells := 0, slots := 0, locals := 25 }) s m ([.ref (a 0)] : List Value).toArray below meth c 0 0 (MQ below (va_Qv (fun e1 => ∃ F1, RP cy a e1 n T S M E r F1 B V G Cn ∧ ∀ t j, t < T → j < n → F1 t j = fA n S M E r t j) (gB D clP 82 a) (wA 82 a)) ([.ref (a 0)] : List Value).toArray s 0 0 (wA 82 a)) D clP 82 4 a (wA 82 a) e 19 [(0, .ref (a 0)), (1, .int (nI t)), (2, .int (nI (r t))), (3, .int (nI j))] [] := by
        intro k2
        induction k2 with
        | zero =>
          intro j e F hk2 h hp hpj
          obtain ⟨h0, hS, h2, h9, hr0, h17, h30, h43, h56, h69, hM, hE, hF, hB, hV, hG, hC⟩ := id h
          refine g_iload_n C dX0_fillForward_19 rfl 3 rfl ?_
          refine g_aload_n C dX0_fillForward_20 rfl 0 rfl ?_
          refine g_get C 4 hin inl_pos0 (by decide) h0 (by decide) f_stateCount rfl dX0_fillForward_21 ?_
          refine g_icmp_ge (tgt := 56) C dX0_fillForward_24 (by decide) (fun c1 => ?_) (fun c1 => absurd c1 (fun q => q (nI_le (by omega) (by omega))))
          refine g_iinc (v := nI (t + 1)) (k := 1) (lv' := [(0, .ref (a 0)), (1, .int (nI (t + 1))), (2, .int (nI (r t))), (3, .int (nI j))]) C dX0_fillForward_56 rfl (nI_inc t) (by decide) [1, 0, 2, 3] rfl ?_
          refine g_goto (tgt := 2) C dX0_fillForward_59 (by decide) ?_
          refine g_pick (lv' := [(0, .ref (a 0)), (1, .int (nI (t + 1)))]) [0, 1] rfl ?_
          exact ih (t + 1) e F (by omega) h (fun u q hu hq => by
            by_cases hut : u = t
            · subst hut; exact hpj q (by omega)
            · exact hp u q (by omega) hq)
        | succ k2 ih2 =>
          intro j e F hk2 h hp hpj
          obtain ⟨h0, hS, h2, h9, hr0, h17, h30, h43, h56, h69, hM, hE, hF, hB, hV, hG, hC⟩ := id h
          refine g_iload_n C dX0_fillForward_19 rfl 3 rfl ?_
          refine g_aload_n C dX0_fillForward_20 rfl 0 rfl ?_
          refine g_get C 4 hin inl_pos0 (by decide) h0 (by decide) f_stateCount rfl dX0_fillForward_21 ?_
          refine g_icmp_ge (tgt := 56) C dX0_fillForward_24 (by decide) (fun c1 => absurd c1 (nI_ge (by omega) (by omega))) (fun c1 => ?_)
          refine g_aload_n C dX0_fillForward_27 rfl 0 rfl ?_
          refine g_get C 6 hin inl_pos0 (by decide) h0 (by decide) f_forwardOdds rfl dX0_fillForward_28 ?_
          refine g_iload_n C dX0_fillForward_31 rfl 1 rfl ?_
          refine g_aald C (by omega) (tyD2 cy) h17 (by omega) (by decide) dX0_fillForward_32 ?_
          refine g_iload_n C dX0_fillForward_33 rfl 3 rfl ?_
          refine g_aload_n C dX0_fillForward_34 rfl 0 rfl ?_
          refine g_iload_n C dX0_fillForward_35 rfl 1 rfl ?_
          refine g_iload_n C dX0_fillForward_36 rfl 3 rfl ?_
          refine g_calld (As := [.int (nI t), .int (nI j)]) (rest := [.int (nI j), .ref (a (18 + t))]) C (cwV 2 C.2.2.2.2.1 gX0_fillForward_X0_forwardInto rfl rfl rfl (by decide +kernel) ⟨Nat.le_of_ble_eq_true rfl, Nat.le_of_ble_eq_true rfl⟩) (c_X0_forwardInto l D cy a hi h (by omega) t j (by omega) (by omega) hW (K := 1026 + 16 * (t - 1)) (by omega) (fun h0t q hq => by rw [hp (t - 1) q (by omega) hq]; exact fA_mg hn.2 hW hr4 (t - 1) q (by omega) (by omega))) (by decide) h0 inl_pos0 rfl rfl (Nat.le_of_ble_eq_true rfl) dX0_fillForward_37 ⟨Nat.zero_le _, Nat.zero_le _⟩ (fun z e1 hz => ?_)
          rw [hz.1]
          have hzA : FP.dmul z (E j (r t)) = fA n S M E r t j := fA_step hz.2 (fun h0t q hq => hp (t - 1) q (by omega) hq)
          refine g_aload_n C dX0_fillForward_40 rfl 0 rfl ?_
          refine g_get C 2 hin inl_pos0 (by decide) h0 (by decide) f_showWeights rfl dX0_fillForward_41 ?_
          refine g_iload_n C dX0_fillForward_44 rfl 3 rfl ?_
          refine g_aald C (by omega) (tyD2 cy) h9 (by omega) (by decide) dX0_fillForward_45 ?_
          refine g_iload_n C dX0_fillForward_46 rfl 2 rfl ?_
          refine g_dald C (by omega) (hE j (by omega)) (by omega) (by decide) dX0_fillForward_47 ?_
          refine g_dmul C dX0_fillForward_48 (by rw [hzA]; exact mg_n64 (fA_mg hn.2 hW hr4 t j (by omega) (by omega)) (by omega)) ?_
          refine g_dast C (by omega) (hF t (by omega)) (by omega) (by decide) dX0_fillForward_49 (fun y hy => ?_)
          have h := RP_F (t := t) h (by omega) hy
          generalize va_up e (18 + t) y = e at h ⊢
          refine g_iinc (v := nI (j + 1)) (k := 3) (lv' := [(0, .ref (a 0)), (1, .int (nI t)), (2, .int (nI (r t))), (3, .int (nI (j + 1)))]) C dX0_fillForward_50 rfl (nI_inc j) (by decide) [1, 2, 3, 0] rfl ?_
          refine g_goto (tgt := 19) C dX0_fillForward_53 (by decide) ?_
          exact ih2 (j + 1) e _ (by omega) h (fun u q hu hq => by rw [va_up_ne _ _ (by omega)]; exact hp u q hu hq) (fun q hq => by
            rw [va_up_self]
            by_cases hqj : q = j
            · subst hqj; rw [va_up_self]; exact hzA
            · rw [va_up_ne _ _ hqj]; exact hpj q (by omega))
      exact L2 n 0 e F (by omega) h hp (fun q hq => absurd hq (by omega))
  refine g_iconst (v := nI 0) C dX0_fillForward_0 (by decide) ?_
  refine g_istore_n (lv' := [(0, .ref (a 0)), (1, .int (nI 0))]) C dX0_fillForward_1 rfl (by decide) [1, 0] rfl ?_
  exact L1 T 0 e F (by omega) h (fun u q hu => absurd hu (by omega))

set_option maxHeartbeats 4000000 in
set_option maxRecDepth 100000 in
theorem c_X0_sumOfLastForward (l : Launch) (D : va_G) (cy : Nat → ClassId) (a : Nat → Nat) (hi : wInj 82 a) {e : Nat → va_E} {n T : Nat} {S : Nat → UInt64} {M E : T2} {r : Nat → Nat} {F B V : T2} {G : Nat → Nat → Int32} {Cn : Nat → Nat → Int64} (h : RP cy a e n T S M E r F B V G Cn) (hn : n ≤ 6) (hT : 0 < T ∧ T ≤ 12) {K : Nat} (hK : K ≤ 1900) (hFb : ∀ i, i < n → mg K (F (T - 1) i)) : Met l yX0_sumOfLastForward wsX0_sumOfLastForward ({ frames := 0, cells := 0, slots := 0, locals := 0 }) (gPc D clP cy 82 a e [.ref (a 0)]) (va_Qd (fun z e1 => e1 = e ∧ z = fsm (fun j => F (T - 1) j) n) (gB D clP 82 a) (wA 82 a)) 0 0 (wA 82 a) := by
  refine g_met (cc := cX0_sumOfLastForward) (maxL := 4) (ret := (some .double)) (lv := [(0, .ref (a 0))]) (by decide) rfl (Nat.le_of_ble_eq_true rfl) rfl hi (fun k hk => ⟨k, hk, rfl⟩) ?_
  intro p en s m below meth c C hr hlocks
  have hin : ∀ w ∈ u_ws RX0 TX0 11, w ∈ wsX0_sumOfLastForward := by decide +kernel
  have f_stateCount := C.2.2.2.2.1 (.fieldLink RX0 25 "PathOdds" "stateCount" "I") (by decide +kernel)
  have f_forwardOdds := C.2.2.2.2.1 (.fieldLink RX0 32 "PathOdds" "forwardOdds" "[[D") (by decide +kernel)
  have f_rowLength := C.2.2.2.2.1 (.fieldLink RX0 29 "PathOdds" "rowLength" "I") (by decide +kernel)
  obtain ⟨h0, hS, h2, h9, hr0, h17, h30, h43, h56, h69, hM, hE, hF, hB, hV, hG, hC⟩ := id h
  have hb : ∀ q, q < n → mg (K + 1) ((fun j => F (T - 1) j) q) := fun q hq => mg_mono (hFb q hq) (by omega)
  have L : ∀ (k : Nat) (i : Nat), i + k = n → GW p l en ({ frames := 0, cells := 0, slots := 0, locals := 0 }) s m ([.ref (a 0)] : List Value).toArray below meth c 0 0 (MQ below (va_Qd (fun z e1 => e1 = e ∧ z = fsm (fun j => F (T - 1) j) n) (gB D clP 82 a) (wA 82 a)) ([.ref (a 0)] : List Value).toArray s 0 0 (wA 82 a)) D clP 82 4 a (wA 82 a) e 4 [(0, .ref (a 0)), (1, .double (fsm (fun j => F (T - 1) j) i)), (3, .int (nI i))] [] := by
    intro k
    induction k with
    | zero =>
      intro i hk
      obtain ⟨h0, hS, h2, h9, hr0, h17, h30, h43, h56, h69, hM, hE, hF, hB, hV, hG, hC⟩ := id h
      refine g_iload_n C dX0_sumOfLastForward_4 rfl 2 rfl ?_
      refine g_aload_n C dX0_sumOfLastForward_5 rfl 0 rfl ?_
      refine g_get C 4 hin inl_pos0 (by decide) h0 (by decide) f_stateCount rfl dX0_sumOfLastForward_6 ?_
      refine g_icmp_ge (tgt := 34) C dX0_sumOfLastForward_9 (by decide) (fun c1 => ?_) (fun c1 => absurd c1 (fun q => q (nI_le (by omega) (by omega))))
      refine g_dload_n C dX0_sumOfLastForward_34 rfl 1 rfl ?_
      exact g_dret C hr hlocks (⟨rfl, by rw [show n = i by omega]⟩) dX0_sumOfLastForward_35
    | succ k ih =>
      intro i hk
      obtain ⟨h0, hS, h2, h9, hr0, h17, h30, h43, h56, h69, hM, hE, hF, hB, hV, hG, hC⟩ := id h
      refine g_iload_n C dX0_sumOfLastForward_4 rfl 2 rfl ?_
      refine g_aload_n C dX0_sumOfLastForward_5 rfl 0 rfl ?_
      refine g_get C 4 hin inl_pos0 (by decide) h0 (by decide) f_stateCount rfl dX0_sumOfLastForward_6 ?_
      refine g_icmp_ge (tgt := 34) C dX0_sumOfLastForward_9 (by decide) (fun c1 => absurd c1 (nI_ge (by omega) (by omega))) (fun c1 => ?_)
      refine g_dload_n C dX0_sumOfLastForward_12 rfl 1 rfl ?_
      refine g_aload_n C dX0_sumOfLastForward_13 rfl 0 rfl ?_
      refine g_get C 6 hin inl_pos0 (by decide) h0 (by decide) f_forwardOdds rfl dX0_sumOfLastForward_14 ?_
      refine g_aload_n C dX0_sumOfLastForward_17 rfl 0 rfl ?_
      refine g_get C 5 hin inl_pos0 (by decide) h0 (by decide) f_rowLength rfl dX0_sumOfLastForward_18 ?_
      refine g_iconst (v := nI 1) C dX0_sumOfLastForward_21 (by decide) ?_
      refine g_isub (v := nI (T - 1)) C dX0_sumOfLastForward_22 (pk_sub (by omega)) ?_
      refine g_aald C (by omega) (tyD2 cy) h17 (by omega) (by decide) dX0_sumOfLastForward_23 ?_
      refine g_iload_n C dX0_sumOfLastForward_24 rfl 2 rfl ?_
      refine g_dald C (by omega) (hF (T - 1) (by omega)) (by omega) (by decide) dX0_sumOfLastForward_25 ?_
      refine g_dadd C dX0_sumOfLastForward_26 (mg_n64 (mg_add (fsm_mg hb (by omega) (by omega) i (by omega)) (mg_mono (hb i (by omega)) (by omega)) (by omega)) (by omega)) ?_
      refine g_dstore_n (lv' := [(0, .ref (a 0)), (1, .double (FP.dadd (fsm (fun j => F (T - 1) j) i) (F (T - 1) i))), (3, .int (nI i))]) C dX0_sumOfLastForward_27 rfl (by decide) [1, 0, 2] rfl ?_
      refine g_iinc (v := nI (i + 1)) (k := 2) (lv' := [(0, .ref (a 0)), (1, .double (FP.dadd (fsm (fun j => F (T - 1) j) i) (F (T - 1) i))), (3, .int (nI (i + 1)))]) C dX0_sumOfLastForward_28 rfl (nI_inc i) (by decide) [1, 2, 0] rfl ?_
      refine g_goto (tgt := 4) C dX0_sumOfLastForward_31 (by decide) ?_
      exact ih (i + 1) (by omega)
  refine g_dconst0 C dX0_sumOfLastForward_0 ?_
  refine g_dstore_n (lv' := [(0, .ref (a 0)), (1, .double FP.dconst0)]) C dX0_sumOfLastForward_1 rfl (by decide) [1, 0] rfl ?_
  refine g_iconst (v := nI 0) C dX0_sumOfLastForward_2 (by decide) ?_
  refine g_istore_n (lv' := [(0, .ref (a 0)), (1, .double FP.dconst0), (3, .int (nI 0))]) C dX0_sumOfLastForward_3 rfl (by decide) [1, 2, 0] rfl ?_
  exact L n 0 (by omega)

set_option maxHeartbeats 4000000 in
set_option maxRecDepth 100000 in
theorem c_X0_backwardFrom (l : Launch) (D : va_G) (cy : Nat → ClassId) (a : Nat → Nat) (hi : wInj 82 a) {e : Nat → va_E} {n T : Nat} {S : Nat → UInt64} {M E : T2} {r : Nat → Nat} {F B V : T2} {G : Nat → Nat → Int32} {Cn : Nat → Nat → Int64} (h : RP cy a e n T S M E r F B V G Cn) (hn : n ≤ 6) (hT : T ≤ 12) (t i : Nat) (ht : t < T) (hi1 : i < n) (hW : WB S M E) (hr4 : RW4 r) {K : Nat} (hK : K ≤ 1900) (hBb : t + 1 < T → ∀ q, q < n → mg K (B (t + 1) q)) : Met l yX0_backwardFrom wsX0_backwardFrom ({ frames := 0, cells := 0, slots := 0, locals := 0 }) (gPc D clP cy 82 a e [.ref (a 0), .int (nI t), .int (nI i)]) (va_Qd (fun z e1 => e1 = e ∧ z = if t = T - 1 then FP.dconst1 else fsm (fun q => FP.dmul (FP.dmul (M i q) (E q (r (t + 1)))) (B (t + 1) q)) n) (gB D clP 82 a) (wA 82 a)) 0 0 (wA 82 a) := by
  refine g_met (cc := cX0_backwardFrom) (maxL := 7) (ret := (some .double)) (lv := [(0, .ref (a 0)), (1, .int (nI t)), (2, .int (nI i))]) (by decide) rfl (Nat.le_of_ble_eq_true rfl) rfl hi (fun k hk => ⟨k, hk, rfl⟩) ?_
  intro p en s m below meth c C hr hlocks
  have hin : ∀ w ∈ u_ws RX0 TX0 11, w ∈ wsX0_backwardFrom := by decide +kernel
  have f_rowLength := C.2.2.2.2.1 (.fieldLink RX0 29 "PathOdds" "rowLength" "I") (by decide +kernel)
  have f_row := C.2.2.2.2.1 (.fieldLink RX0 21 "PathOdds" "row" "[I") (by decide +kernel)
  have f_stateCount := C.2.2.2.2.1 (.fieldLink RX0 25 "PathOdds" "stateCount" "I") (by decide +kernel)
  have f_moveWeights := C.2.2.2.2.1 (.fieldLink RX0 15 "PathOdds" "moveWeights" "[[D") (by decide +kernel)
  have f_showWeights := C.2.2.2.2.1 (.fieldLink RX0 18 "PathOdds" "showWeights" "[[D") (by decide +kernel)
  have f_backwardOdds := C.2.2.2.2.1 (.fieldLink RX0 35 "PathOdds" "backwardOdds" "[[D") (by decide +kernel)
  obtain ⟨h0, hS, h2, h9, hr0, h17, h30, h43, h56, h69, hM, hE, hF, hB, hV, hG, hC⟩ := id h
  refine g_iload_n C dX0_backwardFrom_0 rfl 1 rfl ?_
  refine g_aload_n C dX0_backwardFrom_1 rfl 0 rfl ?_
  refine g_get C 5 hin inl_pos0 (by decide) h0 (by decide) f_rowLength rfl dX0_backwardFrom_2 ?_
  refine g_iconst (v := nI 1) C dX0_backwardFrom_5 (by decide) ?_
  refine g_isub (v := nI (T - 1)) C dX0_backwardFrom_6 (pk_sub (by omega)) ?_
  refine g_icmp_ne (tgt := 12) C dX0_backwardFrom_7 (by decide) (fun c1 => ?_) (fun c1 => ?_)
  · have ht1 : ¬ t = T - 1 := fun q => c1 (by rw [q])
    have hrt : r (t + 1) < 4 := hr4 (t + 1) (by omega)
    have hm : ∀ q, q < n → mg 1026 (FP.dmul (M i q) (E q (r (t + 1)))) := fun q hq => mg_mono (mg_mul (hW.2.1 i q (by omega) (by omega)) (hW.2.2 q _ (by omega) hrt) (by decide) (by decide)) (by decide)
    have hb : ∀ q, q < n → mg (K + 4) ((fun q => FP.dmul (FP.dmul (M i q) (E q (r (t + 1)))) (B (t + 1) q)) q) := fun q hq => mg_mono (mg_mul (hm q hq) (hBb (by omega) q hq) (by decide) (by omega)) (by omega)
    refine g_aload_n C dX0_backwardFrom_12 rfl 0 rfl ?_
    refine g_get C 3 hin inl_pos0 (by decide) h0 (by decide) f_row rfl dX0_backwardFrom_13 ?_
    refine g_iload_n C dX0_backwardFrom_16 rfl 1 rfl ?_
    refine g_iconst (v := nI 1) C dX0_backwardFrom_17 (by decide) ?_
    refine g_iadd (v := nI (t + 1)) C dX0_backwardFrom_18 (nI_add t 1) ?_
    refine g_iald C (by omega) hr0 (by omega) (by decide) dX0_backwardFrom_19 ?_
    refine g_istore_n (lv' := [(0, .ref (a 0)), (1, .int (nI t)), (2, .int (nI i)), (3, .int (nI (r (t + 1))))]) C dX0_backwardFrom_20 rfl (by decide) [1, 2, 3, 0] rfl ?_
    refine g_dconst0 C dX0_backwardFrom_21 ?_
    refine g_dstore (lv' := [(0, .ref (a 0)), (1, .int (nI t)), (2, .int (nI i)), (3, .int (nI (r (t + 1)))), (4, .double FP.dconst0)]) C dX0_backwardFrom_22 (by decide) [1, 2, 3, 4, 0] rfl ?_
    refine g_iconst (v := nI 0) C dX0_backwardFrom_24 (by decide) ?_
    refine g_istore (lv' := [(0, .ref (a 0)), (1, .int (nI t)), (2, .int (nI i)), (3, .int (nI (r (t + 1)))), (4, .double FP.dconst0), (6, .int (nI 0))]) C dX0_backwardFrom_25 (by decide) [1, 2, 3, 4, 5, 0] rfl ?_
    have L : ∀ (k : Nat) (j : Nat), j + k = n → GW p l en ({ frames := 0, cells := 0, slots := 0, locals := 0 }) s m ([.ref (a 0), .int (nI t), .int (nI i)] : List Value).toArray below meth c 0 0 (MQ below (va_Qd (fun z e1 => e1 = e ∧ z = if t = T - 1 then FP.dconst1 else fsm (fun q => FP.dmul (FP.dmul (M i q) (E q (r (t + 1)))) (B (t + 1) q)) n) (gB D clP 82 a) (wA 82 a)) ([.ref (a 0), .int (nI t), .int (nI i)] : List Value).toArray s 0 0 (wA 82 a)) D clP 82 7 a (wA 82 a) e 27 [(0, .ref (a 0)), (1, .int (nI t)), (2, .int (nI i)), (3, .int (nI (r (t + 1)))), (4, .double (fsm (fun q => FP.dmul (FP.dmul (M i q) (E q (r (t + 1)))) (B (t + 1) q)) j)), (6, .int (nI j))] [] := by
      intro k
      induction k with
      | zero =>
        intro j hk
        obtain ⟨h0, hS, h2, h9, hr0, h17, h30, h43, h56, h69, hM, hE, hF, hB, hV, hG, hC⟩ := id h
        refine g_iload C dX0_backwardFrom_27 5 rfl ?_
        refine g_aload_n C dX0_backwardFrom_29 rfl 0 rfl ?_
        refine g_get C 4 hin inl_pos0 (by decide) h0 (by decide) f_stateCount rfl dX0_backwardFrom_30 ?_
        refine g_icmp_ge (tgt := 78) C dX0_backwardFrom_33 (by decide) (fun c1 => ?_) (fun c1 => absurd c1 (fun q => q (nI_le (by omega) (by omega))))
        refine g_dload C dX0_backwardFrom_78 4 rfl ?_
        exact g_dret C hr hlocks (⟨rfl, by rw [if_neg ht1, show n = j by omega]⟩) dX0_backwardFrom_80
      | succ k ih =>
        intro j hk
        obtain ⟨h0, hS, h2, h9, hr0, h17, h30, h43, h56, h69, hM, hE, hF, hB, hV, hG, hC⟩ := id h
        refine g_iload C dX0_backwardFrom_27 5 rfl ?_
        refine g_aload_n C dX0_backwardFrom_29 rfl 0 rfl ?_
        refine g_get C 4 hin inl_pos0 (by decide) h0 (by decide) f_stateCount rfl dX0_backwardFrom_30 ?_
        refine g_icmp_ge (tgt := 78) C dX0_backwardFrom_33 (by decide) (fun c1 => absurd c1 (nI_ge (by omega) (by omega))) (fun c1 => ?_)
        refine g_dload C dX0_backwardFrom_36 4 rfl ?_
        refine g_aload_n C dX0_backwardFrom_38 rfl 0 rfl ?_
        refine g_get C 1 hin inl_pos0 (by decide) h0 (by decide) f_moveWeights rfl dX0_backwardFrom_39 ?_
        refine g_iload_n C dX0_backwardFrom_42 rfl 2 rfl ?_
        refine g_aald C (by omega) (tyD2 cy) h2 (by omega) (by decide) dX0_backwardFrom_43 ?_
        refine g_iload C dX0_backwardFrom_44 5 rfl ?_
        refine g_dald C (by omega) (hM i (by omega)) (by omega) (by decide) dX0_backwardFrom_46 ?_
        refine g_aload_n C dX0_backwardFrom_47 rfl 0 rfl ?_
        refine g_get C 2 hin inl_pos0 (by decide) h0 (by decide) f_showWeights rfl dX0_backwardFrom_48 ?_
        refine g_iload C dX0_backwardFrom_51 5 rfl ?_
        refine g_aald C (by omega) (tyD2 cy) h9 (by omega) (by decide) dX0_backwardFrom_53 ?_
        refine g_iload_n C dX0_backwardFrom_54 rfl 3 rfl ?_
        refine g_dald C (by omega) (hE j (by omega)) (by omega) (by decide) dX0_backwardFrom_55 ?_
        refine g_dmul C dX0_backwardFrom_56 (mg_n64 (hm j (by omega)) (by omega)) ?_
        refine g_aload_n C dX0_backwardFrom_57 rfl 0 rfl ?_
        refine g_get C 7 hin inl_pos0 (by decide) h0 (by decide) f_backwardOdds rfl dX0_backwardFrom_58 ?_
        refine g_iload_n C dX0_backwardFrom_61 rfl 1 rfl ?_
        refine g_iconst (v := nI 1) C dX0_backwardFrom_62 (by decide) ?_
        refine g_iadd (v := nI (t + 1)) C dX0_backwardFrom_63 (nI_add t 1) ?_
        refine g_aald C (by omega) (tyD2 cy) h30 (by omega) (by decide) dX0_backwardFrom_64 ?_
        refine g_iload C dX0_backwardFrom_65 5 rfl ?_
        refine g_dald C (by omega) (hB (t + 1) (by omega)) (by omega) (by decide) dX0_backwardFrom_67 ?_
        refine g_dmul C dX0_backwardFrom_68 (mg_n64 (hb j (by omega)) (by omega)) ?_
        refine g_dadd C dX0_backwardFrom_69 (mg_n64 (mg_add (fsm_mg hb (by omega) (by omega) j (by omega)) (mg_mono (hb j (by omega)) (by omega)) (by omega)) (by omega)) ?_
        refine g_dstore (lv' := [(0, .ref (a 0)), (1, .int (nI t)), (2, .int (nI i)), (3, .int (nI (r (t + 1)))), (4, .double (FP.dadd (fsm (fun q => FP.dmul (FP.dmul (M i q) (E q (r (t + 1)))) (B (t + 1) q)) j) (FP.dmul (FP.dmul (M i j) (E j (r (t + 1)))) (B (t + 1) j)))), (6, .int (nI j))]) C dX0_backwardFrom_70 (by decide) [1, 2, 3, 4, 0, 5] rfl ?_
        refine g_iinc (v := nI (j + 1)) (k := 5) (lv' := [(0, .ref (a 0)), (1, .int (nI t)), (2, .int (nI i)), (3, .int (nI (r (t + 1)))), (4, .double (FP.dadd (fsm (fun q => FP.dmul (FP.dmul (M i q) (E q (r (t + 1)))) (B (t + 1) q)) j) (FP.dmul (FP.dmul (M i j) (E j (r (t + 1)))) (B (t + 1) j)))), (6, .int (nI (j + 1)))]) C dX0_backwardFrom_72 rfl (nI_inc j) (by decide) [1, 2, 3, 4, 5, 0] rfl ?_
        refine g_goto (tgt := 27) C dX0_backwardFrom_75 (by decide) ?_
        exact ih (j + 1) (by omega)
    exact L n 0 (by omega)
  · refine g_dconst1 C dX0_backwardFrom_10 ?_
    exact g_dret C hr hlocks (⟨rfl, by rw [if_pos ((nI_eq (by omega) (by omega)).mp c1)]⟩) dX0_backwardFrom_11

set_option maxHeartbeats 4000000 in
set_option maxRecDepth 100000 in
theorem c_X0_fillBackward (l : Launch) (D : va_G) (cy : Nat → ClassId) (a : Nat → Nat) (hi : wInj 82 a) {e : Nat → va_E} {n T : Nat} {S : Nat → UInt64} {M E : T2} {r : Nat → Nat} {F B V : T2} {G : Nat → Nat → Int32} {Cn : Nat → Nat → Int64} (h : RP cy a e n T S M E r F B V G Cn) (hn : 1 ≤ n ∧ n ≤ 6) (hT : 0 < T ∧ T ≤ 12) (hW : WB S M E) (hr4 : RW4 r) : Met l yX0_fillBackward wsX0_fillBackward ({ frames := 1, cells := 0, slots := 0, locals := 26 }) (gPc D clP cy 82 a e [.ref (a 0)]) (va_Qv (fun e1 => ∃ B1, RP cy a e1 n T S M E r F B1 V G Cn ∧ ∀ t j, t < T → j < n → B1 t j = fB n M E r T (T - 1 - t) j) (gB D clP 82 a) (wA 82 a)) 0 0 (wA 82 a) := by
  refine g_met (cc := cX0_fillBackward) (maxL := 3) (ret := none) (lv := [(0, .ref (a 0))]) (by decide) rfl (Nat.le_of_ble_eq_true rfl) rfl hi (fun k hk => ⟨k, hk, rfl⟩) ?_
  intro p en s m below meth c C hr hlocks
  have hin : ∀ w ∈ u_ws RX0 TX0 11, w ∈ wsX0_fillBackward := by decide +kernel
  have f_rowLength := C.2.2.2.2.1 (.fieldLink RX0 29 "PathOdds" "rowLength" "I") (by decide +kernel)
  have f_stateCount := C.2.2.2.2.1 (.fieldLink RX0 25 "PathOdds" "stateCount" "I") (by decide +kernel)
  have f_backwardOdds := C.2.2.2.2.1 (.fieldLink RX0 35 "PathOdds" "backwardOdds" "[[D") (by decide +kernel)
  obtain ⟨h0, hS, h2, h9, hr0, h17, h30, h43, h56, h69, hM, hE, hF, hB, hV, hG, hC⟩ := id h
  have L1 : ∀ (k : Nat) (d : Nat) (e : Nat → va_E) (B : T2) (x1 : Int32), d + k = T → RP cy a e n T S M E r F B V G Cn → (∀ u q, u < T → T - 1 - u < d → q < n → B u q = fB n M E r T (T - 1 - u) q) → ((d < T → x1 = nI (T - 1 - d)) ∧ (d = T → x1 = -1)) → GW p l en ({ frames := 1, cells := 0, slots := 0, locals := 26 }) s m ([.ref (a 0)] : List Value).toArray below meth c 0 0 (MQ below (va_Qv (fun e1 => ∃ B1, RP cy a e1 n T S M E r F B1 V G Cn ∧ ∀ t j, t < T → j < n → B1 t j = fB n M E r T (T - 1 - t) j) (gB D clP 82 a) (wA 82 a)) ([.ref (a 0)] : List Value).toArray s 0 0 (wA 82 a)) D clP 82 3 a (wA 82 a) e 7 [(0, .ref (a 0)), (1, .int x1)] [] := by
    intro k
    induction k with
    | zero =>
      intro d e B x1 hk h hp hx
      obtain ⟨h0, hS, h2, h9, hr0, h17, h30, h43, h56, h69, hM, hE, hF, hB, hV, hG, hC⟩ := id h
      refine g_iload_n C dX0_fillBackward_7 rfl 1 rfl ?_
      refine g_if_lt (tgt := 47) C dX0_fillBackward_8 (by decide) (fun c1 => ?_) (fun c1 => absurd c1 (fun q => q (by rw [hx.2 (by omega)]; decide)))
      exact g_vret C hr hlocks (⟨B, h, fun u q hu hq => hp u q hu (by omega) hq⟩) dX0_fillBackward_47
    | succ k ih =>
      intro d e B x1 hk h hp hx
      obtain ⟨h0, hS, h2, h9, hr0, h17, h30, h43, h56, h69, hM, hE, hF, hB, hV, hG, hC⟩ := id h
      have hx1 := hx.1 (by omega)
      subst hx1
      refine g_iload_n C dX0_fillBackward_7 rfl 1 rfl ?_
      refine g_if_lt (tgt := 47) C dX0_fillBackward_8 (by decide) (fun c1 => absurd c1 (nI_pos (by omega))) (fun c1 => ?_)
      refine g_iconst (v := nI 0) C dX0_fillBackward_11 (by decide) ?_
      refine g_istore_n (lv' := [(0, .ref (a 0)), (1, .int (nI (T - 1 - d))), (2, .int (nI 0))]) C dX0_fillBackward_12 rfl (by decide) [1, 2, 0] rfl ?_
      have L2 : ∀ (k2 : Nat) (j : Nat) (e : Nat → va_E) (B : T2), j + k2 = n → RP cy a e n T S M E r F B V G Cn → (∀ u q, u < T → T - 1 - u < d → q < n → B u q = fB n M E r T (T - 1 - u) q) → (∀ q, q < j → B (T - 1 - d) q = fB n M E r T (T - 1 - (T - 1 - d)) q) → GW p l en ({ frames := 1, cells := 0, slots := 0, locals := 26 }) s m ([.ref (a 0)] : List Value).toArray below meth c 0 0 (MQ below (va_Qv (fun e1 => ∃ B1, RP cy a e1 n T S M E r F B1 V G Cn ∧ ∀ t j, t < T → j < n → B1 t j = fB n M E r T (T - 1 - t) j) (gB D clP 82 a) (wA 82 a)) ([.ref (a 0)] : List Value).toArray s 0 0 (wA 82 a)) D clP 82 3 a (wA 82 a) e 13 [(0, .ref (a 0)), (1, .int (nI (T - 1 - d))), (2, .int (nI j))] [] := by
        intro k2
        induction k2 with
        | zero =>
          intro j e B hk2 h hp hpj
          obtain ⟨h0, hS, h2, h9, hr0, h17, h30, h43, h56, h69, hM, hE, hF, hB, hV, hG, hC⟩ := id h
          refine g_iload_n C dX0_fillBackward_13 rfl 2 rfl ?_
          refine g_aload_n C dX0_fillBackward_14 rfl 0 rfl ?_
          refine g_get C 4 hin inl_pos0 (by decide) h0 (by decide) f_stateCount rfl dX0_fillBackward_15 ?_
          refine g_icmp_ge (tgt := 41) C dX0_fillBackward_18 (by decide) (fun c1 => ?_) (fun c1 => absurd c1 (fun q => q (nI_le (by omega) (by omega))))
          refine g_iinc (v := nI (T - 1 - d) + Int32.ofInt (-1)) (k := 1) (lv' := [(0, .ref (a 0)), (1, .int (nI (T - 1 - d) + Int32.ofInt (-1))), (2, .int (nI j))]) C dX0_fillBackward_41 rfl (rfl) (by decide) [1, 0, 2] rfl ?_
          refine g_goto (tgt := 7) C dX0_fillBackward_44 (by decide) ?_
          refine g_pick (lv' := [(0, .ref (a 0)), (1, .int (nI (T - 1 - d) + Int32.ofInt (-1)))]) [0, 1] rfl ?_
          exact ih (d + 1) e B _ (by omega) h (fun u q hu hud hq => by
            by_cases hut : u = T - 1 - d
            · subst hut; exact hpj q (by omega)
            · exact hp u q hu (by omega) hq) ⟨fun hd => by rw [nI_dec (by omega), show T - 1 - d - 1 = T - 1 - (d + 1) by omega], fun hd => by rw [show T - 1 - d = 0 by omega]; decide⟩
        | succ k2 ih2 =>
          intro j e B hk2 h hp hpj
          obtain ⟨h0, hS, h2, h9, hr0, h17, h30, h43, h56, h69, hM, hE, hF, hB, hV, hG, hC⟩ := id h
          refine g_iload_n C dX0_fillBackward_13 rfl 2 rfl ?_
          refine g_aload_n C dX0_fillBackward_14 rfl 0 rfl ?_
          refine g_get C 4 hin inl_pos0 (by decide) h0 (by decide) f_stateCount rfl dX0_fillBackward_15 ?_
          refine g_icmp_ge (tgt := 41) C dX0_fillBackward_18 (by decide) (fun c1 => absurd c1 (nI_ge (by omega) (by omega))) (fun c1 => ?_)
          refine g_aload_n C dX0_fillBackward_21 rfl 0 rfl ?_
          refine g_get C 7 hin inl_pos0 (by decide) h0 (by decide) f_backwardOdds rfl dX0_fillBackward_22 ?_
          refine g_iload_n C dX0_fillBackward_25 rfl 1 rfl ?_
          refine g_aald C (by omega) (tyD2 cy) h30 (by omega) (by decide) dX0_fillBackward_26 ?_
          refine g_iload_n C dX0_fillBackward_27 rfl 2 rfl ?_
          refine g_aload_n C dX0_fillBackward_28 rfl 0 rfl ?_
          refine g_iload_n C dX0_fillBackward_29 rfl 1 rfl ?_
          refine g_iload_n C dX0_fillBackward_30 rfl 2 rfl ?_
          refine g_calld (As := [.int (nI (T - 1 - d)), .int (nI j)]) (rest := [.int (nI j), .ref (a (31 + (T - 1 - d)))]) C (cwV 2 C.2.2.2.2.1 gX0_fillBackward_X0_backwardFrom rfl rfl rfl (by decide +kernel) ⟨Nat.le_of_ble_eq_true rfl, Nat.le_of_ble_eq_true rfl⟩) (c_X0_backwardFrom l D cy a hi h (by omega) (by omega) (T - 1 - d) j (by omega) (by omega) hW hr4 (K := 1024 + 16 * d) (by omega) (fun h1 q hq => by rw [hp (T - 1 - d + 1) q (by omega) (by omega) hq]; exact mg_mono (fB_mg (S := S) hn.2 hT.2 hW hr4 _ q (by omega) (by omega)) (by omega))) (by decide) h0 inl_pos0 rfl rfl (Nat.le_of_ble_eq_true rfl) dX0_fillBackward_31 ⟨Nat.zero_le _, Nat.zero_le _⟩ (fun z e1 hz => ?_)
          rw [hz.1]
          have hzA : z = fB n M E r T (T - 1 - (T - 1 - d)) j := fB_step (by omega) hz.2 (fun h1 q hq => hp _ q (by omega) (by omega) hq)
          refine g_dast C (by omega) (hB (T - 1 - d) (by omega)) (by omega) (by decide) dX0_fillBackward_34 (fun y hy => ?_)
          have h := RP_B (t := T - 1 - d) h (by omega) hy
          generalize va_up e (31 + (T - 1 - d)) y = e at h ⊢
          refine g_iinc (v := nI (j + 1)) (k := 2) (lv' := [(0, .ref (a 0)), (1, .int (nI (T - 1 - d))), (2, .int (nI (j + 1)))]) C dX0_fillBackward_35 rfl (nI_inc j) (by decide) [1, 2, 0] rfl ?_
          refine g_goto (tgt := 13) C dX0_fillBackward_38 (by decide) ?_
          exact ih2 (j + 1) e _ (by omega) h (fun u q hu hud hq => by rw [va_up_ne _ _ (by omega)]; exact hp u q hu hud hq) (fun q hq => by
            rw [va_up_self]
            by_cases hqj : q = j
            · subst hqj; rw [va_up_self]; exact hzA
            · rw [va_up_ne _ _ hqj]; exact hpj q (by omega))
      exact L2 n 0 e B (by omega) h hp (fun q hq => absurd hq (by omega))
  refine g_aload_n C dX0_fillBackward_0 rfl 0 rfl ?_
  refine g_get C 5 hin inl_pos0 (by decide) h0 (by decide) f_rowLength rfl dX0_fillBackward_1 ?_
  refine g_iconst (v := nI 1) C dX0_fillBackward_4 (by decide) ?_
  refine g_isub (v := nI (T - 1)) C dX0_fillBackward_5 (pk_sub (by omega)) ?_
  refine g_istore_n (lv' := [(0, .ref (a 0)), (1, .int (nI (T - 1)))]) C dX0_fillBackward_6 rfl (by decide) [1, 0] rfl ?_
  exact L1 T 0 e B _ (by omega) h (fun u q hu hud => absurd hud (by omega)) ⟨fun _ => rfl, fun h => absurd h (by omega)⟩
end
section
set_option maxHeartbeats 4000000 in
set_option maxRecDepth 100000 in
theorem c_X0_bestInto (l : Launch) (D : va_G) (cy : Nat → ClassId) (a : Nat → Nat) (hi : wInj 82 a) {e : Nat → va_E} {n T : Nat} {S : Nat → UInt64} {M E : T2} {r : Nat → Nat} {F B V : T2} {G : Nat → Nat → Int32} {Cn : Nat → Nat → Int64} (h : RP cy a e n T S M E r F B V G Cn) (hn : 1 ≤ n ∧ n ≤ 6) (t j : Nat) (ht : t < 12) (hj : j < n) (hW : WB S M E) {K : Nat} (hK : K ≤ 1900) (hVb : 0 < t → ∀ i, i < n → mg K (V (t - 1) i)) : Met l yX0_bestInto wsX0_bestInto ({ frames := 0, cells := 0, slots := 0, locals := 0 }) (gPc D clP cy 82 a e [.ref (a 0), .int (nI t), .int (nI j)]) (va_Qd (fun z e1 => ∃ G1 : Nat → Nat → Int32, RP cy a e1 n T S M E r F B V G1 Cn ∧ (t = 0 → z = S j) ∧ (0 < t → z = (fun i => FP.dmul (V (t - 1) i) (M i j)) (am (fun i => FP.dmul (V (t - 1) i) (M i j)) n)) ∧ (0 < t → G1 t j = nI (am (fun i => FP.dmul (V (t - 1) i) (M i j)) n)) ∧ (∀ u q, ¬ (u = t ∧ q = j) → G1 u q = G u q)) (gB D clP 82 a) (wA 82 a)) 0 0 (wA 82 a) := by
  refine g_met (cc := cX0_bestInto) (maxL := 9) (ret := (some .double)) (lv := [(0, .ref (a 0)), (1, .int (nI t)), (2, .int (nI j))]) (by decide) rfl (Nat.le_of_ble_eq_true rfl) rfl hi (fun k hk => ⟨k, hk, rfl⟩) ?_
  intro p en s m below meth c C hr hlocks
  have hin : ∀ w ∈ u_ws RX0 TX0 11, w ∈ wsX0_bestInto := by decide +kernel
  have f_startWeights := C.2.2.2.2.1 (.fieldLink RX0 9 "PathOdds" "startWeights" "[D") (by decide +kernel)
  have f_bestOdds := C.2.2.2.2.1 (.fieldLink RX0 38 "PathOdds" "bestOdds" "[[D") (by decide +kernel)
  have f_moveWeights := C.2.2.2.2.1 (.fieldLink RX0 15 "PathOdds" "moveWeights" "[[D") (by decide +kernel)
  have f_stateCount := C.2.2.2.2.1 (.fieldLink RX0 25 "PathOdds" "stateCount" "I") (by decide +kernel)
  have f_bestFrom := C.2.2.2.2.1 (.fieldLink RX0 43 "PathOdds" "bestFrom" "[[I") (by decide +kernel)
  obtain ⟨h0, hS, h2, h9, hr0, h17, h30, h43, h56, h69, hM, hE, hF, hB, hV, hG, hC⟩ := id h
  refine g_iload_n C dX0_bestInto_0 rfl 1 rfl ?_
  refine g_if_ne (tgt := 11) C dX0_bestInto_1 (by decide) (fun c1 => ?_) (fun c1 => ?_)
  · have ht0 : ¬ t = 0 := fun q => c1 (by rw [q]; rfl)
    have hb : ∀ q, q < n → mg (K + 3) ((fun i => FP.dmul (V (t - 1) i) (M i j)) q) := fun q hq => mg_mono (mg_mul (hVb (by omega) q hq) (hW.2.1 q j (by omega) (by omega)) (by omega) (by decide)) (by omega)
    refine g_iconst (v := nI 0) C dX0_bestInto_11 (by decide) ?_
    refine g_istore_n (lv' := [(0, .ref (a 0)), (1, .int (nI t)), (2, .int (nI j)), (3, .int (nI 0))]) C dX0_bestInto_12 rfl (by decide) [1, 2, 3, 0] rfl ?_
    refine g_aload_n C dX0_bestInto_13 rfl 0 rfl ?_
    refine g_get C 8 hin inl_pos0 (by decide) h0 (by decide) f_bestOdds rfl dX0_bestInto_14 ?_
    refine g_iload_n C dX0_bestInto_17 rfl 1 rfl ?_
    refine g_iconst (v := nI 1) C dX0_bestInto_18 (by decide) ?_
    refine g_isub (v := nI (t - 1)) C dX0_bestInto_19 (pk_sub (by omega)) ?_
    refine g_aald C (by omega) (tyD2 cy) h43 (by omega) (by decide) dX0_bestInto_20 ?_
    refine g_iconst (v := nI 0) C dX0_bestInto_21 (by decide) ?_
    refine g_dald C (by omega) (hV (t - 1) (by omega)) (by omega) (by decide) dX0_bestInto_22 ?_
    refine g_aload_n C dX0_bestInto_23 rfl 0 rfl ?_
    refine g_get C 1 hin inl_pos0 (by decide) h0 (by decide) f_moveWeights rfl dX0_bestInto_24 ?_
    refine g_iconst (v := nI 0) C dX0_bestInto_27 (by decide) ?_
    refine g_aald C (by omega) (tyD2 cy) h2 (by omega) (by decide) dX0_bestInto_28 ?_
    refine g_iload_n C dX0_bestInto_29 rfl 2 rfl ?_
    refine g_dald C (by omega) (hM 0 (by omega)) (by omega) (by decide) dX0_bestInto_30 ?_
    refine g_dmul C dX0_bestInto_31 (mg_n64 (hb 0 (by omega)) (by omega)) ?_
    refine g_dstore (lv' := [(0, .ref (a 0)), (1, .int (nI t)), (2, .int (nI j)), (3, .int (nI 0)), (4, .double (FP.dmul (V (t - 1) 0) (M 0 j)))]) C dX0_bestInto_32 (by decide) [1, 2, 3, 4, 0] rfl ?_
    refine g_iconst (v := nI 1) C dX0_bestInto_34 (by decide) ?_
    refine g_istore (lv' := [(0, .ref (a 0)), (1, .int (nI t)), (2, .int (nI j)), (3, .int (nI 0)), (4, .double (FP.dmul (V (t - 1) 0) (M 0 j))), (6, .int (nI 1))]) C dX0_bestInto_35 (by decide) [1, 2, 3, 4, 5, 0] rfl ?_
    have L : ∀ (k : Nat) (i : Nat), 1 ≤ i → i + k = n → GW p l en ({ frames := 0, cells := 0, slots := 0, locals := 0 }) s m ([.ref (a 0), .int (nI t), .int (nI j)] : List Value).toArray below meth c 0 0 (MQ below (va_Qd (fun z e1 => ∃ G1 : Nat → Nat → Int32, RP cy a e1 n T S M E r F B V G1 Cn ∧ (t = 0 → z = S j) ∧ (0 < t → z = (fun i => FP.dmul (V (t - 1) i) (M i j)) (am (fun i => FP.dmul (V (t - 1) i) (M i j)) n)) ∧ (0 < t → G1 t j = nI (am (fun i => FP.dmul (V (t - 1) i) (M i j)) n)) ∧ (∀ u q, ¬ (u = t ∧ q = j) → G1 u q = G u q)) (gB D clP 82 a) (wA 82 a)) ([.ref (a 0), .int (nI t), .int (nI j)] : List Value).toArray s 0 0 (wA 82 a)) D clP 82 9 a (wA 82 a) e 37 [(0, .ref (a 0)), (1, .int (nI t)), (2, .int (nI j)), (3, .int (nI (am (fun i => FP.dmul (V (t - 1) i) (M i j)) i))), (4, .double ((fun i => FP.dmul (V (t - 1) i) (M i j)) (am (fun i => FP.dmul (V (t - 1) i) (M i j)) i))), (6, .int (nI i))] [] := by
      intro k
      induction k with
      | zero =>
        intro i hi1 hk
        obtain ⟨h0, hS, h2, h9, hr0, h17, h30, h43, h56, h69, hM, hE, hF, hB, hV, hG, hC⟩ := id h
        refine g_iload C dX0_bestInto_37 5 rfl ?_
        refine g_aload_n C dX0_bestInto_39 rfl 0 rfl ?_
        refine g_get C 4 hin inl_pos0 (by decide) h0 (by decide) f_stateCount rfl dX0_bestInto_40 ?_
        refine g_icmp_ge (tgt := 90) C dX0_bestInto_43 (by decide) (fun c1 => ?_) (fun c1 => absurd c1 (fun q => q (nI_le (by omega) (by omega))))
        refine g_aload_n C dX0_bestInto_90 rfl 0 rfl ?_
        refine g_get C 9 hin inl_pos0 (by decide) h0 (by decide) f_bestFrom rfl dX0_bestInto_91 ?_
        refine g_iload_n C dX0_bestInto_94 rfl 1 rfl ?_
        refine g_aald C (by omega) (tyI2 cy) h56 (by omega) (by decide) dX0_bestInto_95 ?_
        refine g_iload_n C dX0_bestInto_96 rfl 2 rfl ?_
        refine g_iload_n C dX0_bestInto_97 rfl 3 rfl ?_
        refine g_iast C (by omega) (hG t (by omega)) (by omega) (by decide) dX0_bestInto_98 (fun y hy => ?_)
        have h2 := RP_G (t := t) h (by omega) hy
        generalize va_up e (57 + t) y = e2 at h2 ⊢
        refine g_dload C dX0_bestInto_99 4 rfl ?_
        exact g_dret C hr hlocks (⟨_, h2, fun q => absurd q ht0, fun _ => by rw [show n = i by omega], fun _ => by rw [va_up_self, va_up_self, show n = i by omega], fun u q hu => by
          by_cases h1 : u = t
          · subst h1
            rw [va_up_self, va_up_ne _ _ (fun h9 => hu ⟨rfl, h9⟩)]
          · rw [va_up_ne _ _ h1]⟩) dX0_bestInto_101
      | succ k ih =>
        intro i hi1 hk
        obtain ⟨h0, hS, h2, h9, hr0, h17, h30, h43, h56, h69, hM, hE, hF, hB, hV, hG, hC⟩ := id h
        refine g_iload C dX0_bestInto_37 5 rfl ?_
        refine g_aload_n C dX0_bestInto_39 rfl 0 rfl ?_
        refine g_get C 4 hin inl_pos0 (by decide) h0 (by decide) f_stateCount rfl dX0_bestInto_40 ?_
        refine g_icmp_ge (tgt := 90) C dX0_bestInto_43 (by decide) (fun c1 => absurd c1 (nI_ge (by omega) (by omega))) (fun c1 => ?_)
        refine g_aload_n C dX0_bestInto_46 rfl 0 rfl ?_
        refine g_get C 8 hin inl_pos0 (by decide) h0 (by decide) f_bestOdds rfl dX0_bestInto_47 ?_
        refine g_iload_n C dX0_bestInto_50 rfl 1 rfl ?_
        refine g_iconst (v := nI 1) C dX0_bestInto_51 (by decide) ?_
        refine g_isub (v := nI (t - 1)) C dX0_bestInto_52 (pk_sub (by omega)) ?_
        refine g_aald C (by omega) (tyD2 cy) h43 (by omega) (by decide) dX0_bestInto_53 ?_
        refine g_iload C dX0_bestInto_54 5 rfl ?_
        refine g_dald C (by omega) (hV (t - 1) (by omega)) (by omega) (by decide) dX0_bestInto_56 ?_
        refine g_aload_n C dX0_bestInto_57 rfl 0 rfl ?_
        refine g_get C 1 hin inl_pos0 (by decide) h0 (by decide) f_moveWeights rfl dX0_bestInto_58 ?_
        refine g_iload C dX0_bestInto_61 5 rfl ?_
        refine g_aald C (by omega) (tyD2 cy) h2 (by omega) (by decide) dX0_bestInto_63 ?_
        refine g_iload_n C dX0_bestInto_64 rfl 2 rfl ?_
        refine g_dald C (by omega) (hM i (by omega)) (by omega) (by decide) dX0_bestInto_65 ?_
        refine g_dmul C dX0_bestInto_66 (mg_n64 (hb i (by omega)) (by omega)) ?_
        refine g_dstore (lv' := [(0, .ref (a 0)), (1, .int (nI t)), (2, .int (nI j)), (3, .int (nI (am (fun i => FP.dmul (V (t - 1) i) (M i j)) i))), (4, .double ((fun i => FP.dmul (V (t - 1) i) (M i j)) (am (fun i => FP.dmul (V (t - 1) i) (M i j)) i))), (6, .int (nI i)), (7, .double (FP.dmul (V (t - 1) i) (M i j)))]) C dX0_bestInto_67 (by decide) [1, 2, 3, 4, 5, 6, 0] rfl ?_
        refine g_dload C dX0_bestInto_69 6 rfl ?_
        refine g_dload C dX0_bestInto_71 4 rfl ?_
        refine g_dcmp C dX0_bestInto_73 ?_
        refine g_if_le (tgt := 84) C dX0_bestInto_74 (by decide) (fun c2 => ?_) (fun c2 => ?_)
        · refine g_iinc (v := nI (i + 1)) (k := 5) (lv' := [(0, .ref (a 0)), (1, .int (nI t)), (2, .int (nI j)), (3, .int (nI (am (fun i => FP.dmul (V (t - 1) i) (M i j)) i))), (4, .double ((fun i => FP.dmul (V (t - 1) i) (M i j)) (am (fun i => FP.dmul (V (t - 1) i) (M i j)) i))), (6, .int (nI (i + 1))), (7, .double (FP.dmul (V (t - 1) i) (M i j)))]) C dX0_bestInto_84 rfl (nI_inc i) (by decide) [1, 2, 3, 4, 5, 0, 6] rfl ?_
          refine g_goto (tgt := 37) C dX0_bestInto_87 (by decide) ?_
          refine g_pick (lv' := [(0, .ref (a 0)), (1, .int (nI t)), (2, .int (nI j)), (3, .int (nI (am (fun i => FP.dmul (V (t - 1) i) (M i j)) i))), (4, .double ((fun i => FP.dmul (V (t - 1) i) (M i j)) (am (fun i => FP.dmul (V (t - 1) i) (M i j)) i))), (6, .int (nI (i + 1)))]) [0, 1, 2, 3, 4, 5] rfl ?_
          have q := ih (i + 1) (by omega) (by omega)
          rw [am_f (f := (fun i => FP.dmul (V (t - 1) i) (M i j))) (k := i) (gtD_f c2)] at q
          exact q
        · refine g_dload C dX0_bestInto_77 6 rfl ?_
          refine g_dstore (lv' := [(0, .ref (a 0)), (1, .int (nI t)), (2, .int (nI j)), (3, .int (nI (am (fun i => FP.dmul (V (t - 1) i) (M i j)) i))), (4, .double (FP.dmul (V (t - 1) i) (M i j))), (6, .int (nI i)), (7, .double (FP.dmul (V (t - 1) i) (M i j)))]) C dX0_bestInto_79 (by decide) [1, 2, 3, 4, 0, 5, 6] rfl ?_
          refine g_iload C dX0_bestInto_81 5 rfl ?_
          refine g_istore_n (lv' := [(0, .ref (a 0)), (1, .int (nI t)), (2, .int (nI j)), (3, .int (nI i)), (4, .double (FP.dmul (V (t - 1) i) (M i j))), (6, .int (nI i)), (7, .double (FP.dmul (V (t - 1) i) (M i j)))]) C dX0_bestInto_83 rfl (by decide) [1, 2, 3, 0, 4, 5, 6] rfl ?_
          refine g_iinc (v := nI (i + 1)) (k := 5) (lv' := [(0, .ref (a 0)), (1, .int (nI t)), (2, .int (nI j)), (3, .int (nI i)), (4, .double (FP.dmul (V (t - 1) i) (M i j))), (6, .int (nI (i + 1))), (7, .double (FP.dmul (V (t - 1) i) (M i j)))]) C dX0_bestInto_84 rfl (nI_inc i) (by decide) [1, 2, 3, 4, 5, 0, 6] rfl ?_
          refine g_goto (tgt := 37) C dX0_bestInto_87 (by decide) ?_
          refine g_pick (lv' := [(0, .ref (a 0)), (1, .int (nI t)), (2, .int (nI j)), (3, .int (nI i)), (4, .double (FP.dmul (V (t - 1) i) (M i j))), (6, .int (nI (i + 1)))]) [0, 1, 2, 3, 4, 5] rfl ?_
          have q := ih (i + 1) (by omega) (by omega)
          rw [am_t (f := (fun i => FP.dmul (V (t - 1) i) (M i j))) (k := i) (gtD_t c2)] at q
          exact q
    have q := L (n - 1) 1 (by omega) (by omega)
    rw [am_1] at q
    exact q
  · refine g_aload_n C dX0_bestInto_4 rfl 0 rfl ?_
    refine g_get C 0 hin inl_pos0 (by decide) h0 (by decide) f_startWeights rfl dX0_bestInto_5 ?_
    refine g_iload_n C dX0_bestInto_8 rfl 2 rfl ?_
    refine g_dald C (by omega) hS (by omega) (by decide) dX0_bestInto_9 ?_
    exact g_dret C hr hlocks (⟨G, h, fun _ => rfl, fun q => absurd q (by have := (nI_eq (a := t) (b := 0) (by omega) (by decide)).mp c1; omega), fun q => absurd q (by have := (nI_eq (a := t) (b := 0) (by omega) (by decide)).mp c1; omega), fun _ _ _ => rfl⟩) dX0_bestInto_10

set_option maxHeartbeats 4000000 in
set_option maxRecDepth 100000 in
theorem c_X0_fillBest (l : Launch) (D : va_G) (cy : Nat → ClassId) (a : Nat → Nat) (hi : wInj 82 a) {e : Nat → va_E} {n T : Nat} {S : Nat → UInt64} {M E : T2} {r : Nat → Nat} {F B V : T2} {G : Nat → Nat → Int32} {Cn : Nat → Nat → Int64} (h : RP cy a e n T S M E r F B V G Cn) (hn : 1 ≤ n ∧ n ≤ 6) (hT : T ≤ 12) (hW : WB S M E) (hr4 : RW4 r) : Met l yX0_fillBest wsX0_fillBest ({ frames := 1, cells := 0, slots := 0, locals := 28 }) (gPc D clP cy 82 a e [.ref (a 0)]) (va_Qv (fun e1 => ∃ V1 G1, RP cy a e1 n T S M E r F B V1 G1 Cn ∧ ∀ t j, t < T → j < n → V1 t j = fV n S M E r t j ∧ (0 < t → G1 t j = nI (fG n S M E r t j))) (gB D clP 82 a) (wA 82 a)) 0 0 (wA 82 a) := by
  refine g_met (cc := cX0_fillBest) (maxL := 4) (ret := none) (lv := [(0, .ref (a 0))]) (by decide) rfl (Nat.le_of_ble_eq_true rfl) rfl hi (fun k hk => ⟨k, hk, rfl⟩) ?_
  intro p en s m below meth c C hr hlocks
  have hin : ∀ w ∈ u_ws RX0 TX0 11, w ∈ wsX0_fillBest := by decide +kernel
  have f_rowLength := C.2.2.2.2.1 (.fieldLink RX0 29 "PathOdds" "rowLength" "I") (by decide +kernel)
  have f_row := C.2.2.2.2.1 (.fieldLink RX0 21 "PathOdds" "row" "[I") (by decide +kernel)
  have f_stateCount := C.2.2.2.2.1 (.fieldLink RX0 25 "PathOdds" "stateCount" "I") (by decide +kernel)
  have f_bestOdds := C.2.2.2.2.1 (.fieldLink RX0 38 "PathOdds" "bestOdds" "[[D") (by decide +kernel)
  have f_showWeights := C.2.2.2.2.1 (.fieldLink RX0 18 "PathOdds" "showWeights" "[[D") (by decide +kernel)
  obtain ⟨h0, hS, h2, h9, hr0, h17, h30, h43, h56, h69, hM, hE, hF, hB, hV, hG, hC⟩ := id h
  have L1 : ∀ (k : Nat) (t : Nat) (e : Nat → va_E) (V : T2) (G : Nat → Nat → Int32), t + k = T → RP cy a e n T S M E r F B V G Cn → (∀ u q, u < t → q < n → V u q = fV n S M E r u q ∧ (0 < u → G u q = nI (fG n S M E r u q))) → GW p l en ({ frames := 1, cells := 0, slots := 0, locals := 28 }) s m ([.ref (a 0)] : List Value).toArray below meth c 0 0 (MQ below (va_Qv (fun e1 => ∃ V1 G1, RP cy a e1 n T S M E r F B V1 G1 Cn ∧ ∀ t j, t < T → j < n → V1 t j = fV n S M E r t j ∧ (0 < t → G1 t j = nI (fG n S M E r t j))) (gB D clP 82 a) (wA 82 a)) ([.ref (a 0)] : List Value).toArray s 0 0 (wA 82 a)) D clP 82 4 a (wA 82 a) e 2 [(0, .ref (a 0)), (1, .int (nI t))] [] := by
    intro k
    induction k with
    | zero =>
      intro t e V G hk h hp
      obtain ⟨h0, hS, h2, h9, hr0, h17, h30, h43, h56, h69, hM, hE, hF, hB, hV, hG, hC⟩ := id h
      refine g_iload_n C dX0_fillBest_2 rfl 1 rfl ?_
      refine g_aload_n C dX0_fillBest_3 rfl 0 rfl ?_
      refine g_get C 5 hin inl_pos0 (by decide) h0 (by decide) f_rowLength rfl dX0_fillBest_4 ?_
      refine g_icmp_ge (tgt := 62) C dX0_fillBest_7 (by decide) (fun c1 => ?_) (fun c1 => absurd c1 (fun q => q (nI_le (by omega) (by omega))))
      exact g_vret C hr hlocks (⟨V, G, h, fun u q hu hq => hp u q (by omega) hq⟩) dX0_fillBest_62
    | succ k ih =>
      intro t e V G hk h hp
      obtain ⟨h0, hS, h2, h9, hr0, h17, h30, h43, h56, h69, hM, hE, hF, hB, hV, hG, hC⟩ := id h
      refine g_iload_n C dX0_fillBest_2 rfl 1 rfl ?_
      refine g_aload_n C dX0_fillBest_3 rfl 0 rfl ?_
      refine g_get C 5 hin inl_pos0 (by decide) h0 (by decide) f_rowLength rfl dX0_fillBest_4 ?_
      refine g_icmp_ge (tgt := 62) C dX0_fillBest_7 (by decide) (fun c1 => absurd c1 (nI_ge (by omega) (by omega))) (fun c1 => ?_)
      have hrt : r t < 4 := hr4 t (by omega)
      refine g_aload_n C dX0_fillBest_10 rfl 0 rfl ?_
      refine g_get C 3 hin inl_pos0 (by decide) h0 (by decide) f_row rfl dX0_fillBest_11 ?_
      refine g_iload_n C dX0_fillBest_14 rfl 1 rfl ?_
      refine g_iald C (by omega) hr0 (by omega) (by decide) dX0_fillBest_15 ?_
      refine g_istore_n (lv' := [(0, .ref (a 0)), (1, .int (nI t)), (2, .int (nI (r t)))]) C dX0_fillBest_16 rfl (by decide) [1, 2, 0] rfl ?_
      refine g_iconst (v := nI 0) C dX0_fillBest_17 (by decide) ?_
      refine g_istore_n (lv' := [(0, .ref (a 0)), (1, .int (nI t)), (2, .int (nI (r t))), (3, .int (nI 0))]) C dX0_fillBest_18 rfl (by decide) [1, 2, 3, 0] rfl ?_
      have L2 : ∀ (k2 : Nat) (j : Nat) (e : Nat → va_E) (V : T2) (G : Nat → Nat → Int32), j + k2 = n → RP cy a e n T S M E r F B V G Cn → (∀ u q, u < t → q < n → V u q = fV n S M E r u q ∧ (0 < u → G u q = nI (fG n S M E r u q))) → (∀ q, q < j → V t q = fV n S M E r t q ∧ (0 < t → G t q = nI (fG n S M E r t q))) → GW p l en ({ frames := 1, cells := 0, slots := 0, locals := 28 }) s m ([.ref (a 0)] : List Value).toArray below meth c 0 0 (MQ below (va_Qv (fun e1 => ∃ V1 G1, RP cy a e1 n T S M E r F B V1 G1 Cn ∧ ∀ t j, t < T → j < n → V1 t j = fV n S M E r t j ∧ (0 < t → G1 t j = nI (fG n S M E r t j))) (gB D clP 82 a) (wA 82 a)) ([.ref (a 0)] : List Value).toArray s 0 0 (wA 82 a)) D clP 82 4 a (wA 82 a) e 19 [(0, .ref (a 0)), (1, .int (nI t)), (2, .int (nI (r t))), (3, .int (nI j))] [] := by
        intro k2
        induction k2 with
        | zero =>
          intro j e V G hk2 h hp hpj
          obtain ⟨h0, hS, h2, h9, hr0, h17, h30, h43, h56, h69, hM, hE, hF, hB, hV, hG, hC⟩ := id h
          refine g_iload_n C dX0_fillBest_19 rfl 3 rfl ?_
          refine g_aload_n C dX0_fillBest_20 rfl 0 rfl ?_
          refine g_get C 4 hin inl_pos0 (by decide) h0 (by decide) f_stateCount rfl dX0_fillBest_21 ?_
          refine g_icmp_ge (tgt := 56) C dX0_fillBest_24 (by decide) (fun c1 => ?_) (fun c1 => absurd c1 (fun q => q (nI_le (by omega) (by omega))))
          refine g_iinc (v := nI (t + 1)) (k := 1) (lv' := [(0, .ref (a 0)), (1, .int (nI (t + 1))), (2, .int (nI (r t))), (3, .int (nI j))]) C dX0_fillBest_56 rfl (nI_inc t) (by decide) [1, 0, 2, 3] rfl ?_
          refine g_goto (tgt := 2) C dX0_fillBest_59 (by decide) ?_
          refine g_pick (lv' := [(0, .ref (a 0)), (1, .int (nI (t + 1)))]) [0, 1] rfl ?_
          exact ih (t + 1) e V G (by omega) h (fun u q hu hq => by
            by_cases hut : u = t
            · subst hut; exact hpj q (by omega)
            · exact hp u q (by omega) hq)
        | succ k2 ih2 =>
          intro j e V G hk2 h hp hpj
          obtain ⟨h0, hS, h2, h9, hr0, h17, h30, h43, h56, h69, hM, hE, hF, hB, hV, hG, hC⟩ := id h
          refine g_iload_n C dX0_fillBest_19 rfl 3 rfl ?_
          refine g_aload_n C dX0_fillBest_20 rfl 0 rfl ?_
          refine g_get C 4 hin inl_pos0 (by decide) h0 (by decide) f_stateCount rfl dX0_fillBest_21 ?_
          refine g_icmp_ge (tgt := 56) C dX0_fillBest_24 (by decide) (fun c1 => absurd c1 (nI_ge (by omega) (by omega))) (fun c1 => ?_)
          refine g_aload_n C dX0_fillBest_27 rfl 0 rfl ?_
          refine g_get C 8 hin inl_pos0 (by decide) h0 (by decide) f_bestOdds rfl dX0_fillBest_28 ?_
          refine g_iload_n C dX0_fillBest_31 rfl 1 rfl ?_
          refine g_aald C (by omega) (tyD2 cy) h43 (by omega) (by decide) dX0_fillBest_32 ?_
          refine g_iload_n C dX0_fillBest_33 rfl 3 rfl ?_
          refine g_aload_n C dX0_fillBest_34 rfl 0 rfl ?_
          refine g_iload_n C dX0_fillBest_35 rfl 1 rfl ?_
          refine g_iload_n C dX0_fillBest_36 rfl 3 rfl ?_
          refine g_calld (As := [.int (nI t), .int (nI j)]) (rest := [.int (nI j), .ref (a (44 + t))]) C (cwV 2 C.2.2.2.2.1 gX0_fillBest_X0_bestInto rfl rfl rfl (by decide +kernel) ⟨Nat.le_of_ble_eq_true rfl, Nat.le_of_ble_eq_true rfl⟩) (c_X0_bestInto l D cy a hi h hn t j (by omega) (by omega) hW (K := 1026 + 16 * (t - 1)) (by omega) (fun h0t q hq => by rw [(hp (t - 1) q (by omega) hq).1]; exact fV_mg (by omega) hn.2 hW hr4 (t - 1) q (by omega) (by omega))) (by decide) h0 inl_pos0 rfl rfl (Nat.le_of_ble_eq_true rfl) dX0_fillBest_37 ⟨Nat.zero_le _, Nat.zero_le _⟩ (fun z e1 hz => ?_)
          obtain ⟨G1, h, hz0, hz1, hg1, hg2⟩ := hz
          obtain ⟨h0, hS, h2, h9, hr0, h17, h30, h43, h56, h69, hM, hE, hF, hB, hV, hG, hC⟩ := id h
          have hzA : FP.dmul z (E j (r t)) = fV n S M E r t j := fV_step (by omega) hz0 hz1 (fun h0t q hq => (hp (t - 1) q (by omega) hq).1)
          refine g_aload_n C dX0_fillBest_40 rfl 0 rfl ?_
          refine g_get C 2 hin inl_pos0 (by decide) h0 (by decide) f_showWeights rfl dX0_fillBest_41 ?_
          refine g_iload_n C dX0_fillBest_44 rfl 3 rfl ?_
          refine g_aald C (by omega) (tyD2 cy) h9 (by omega) (by decide) dX0_fillBest_45 ?_
          refine g_iload_n C dX0_fillBest_46 rfl 2 rfl ?_
          refine g_dald C (by omega) (hE j (by omega)) (by omega) (by decide) dX0_fillBest_47 ?_
          refine g_dmul C dX0_fillBest_48 (by rw [hzA]; exact mg_n64 (fV_mg (by omega) hn.2 hW hr4 t j (by omega) (by omega)) (by omega)) ?_
          refine g_dast C (by omega) (hV t (by omega)) (by omega) (by decide) dX0_fillBest_49 (fun y hy => ?_)
          have h := RP_V (t := t) h (by omega) hy
          generalize va_up e1 (44 + t) y = e at h ⊢
          refine g_iinc (v := nI (j + 1)) (k := 3) (lv' := [(0, .ref (a 0)), (1, .int (nI t)), (2, .int (nI (r t))), (3, .int (nI (j + 1)))]) C dX0_fillBest_50 rfl (nI_inc j) (by decide) [1, 2, 3, 0] rfl ?_
          refine g_goto (tgt := 19) C dX0_fillBest_53 (by decide) ?_
          exact ih2 (j + 1) e _ G1 (by omega) h (fun u q hu hq => by
            rw [va_up_ne _ _ (by omega), hg2 u q (by omega)]
            exact hp u q hu hq) (fun q hq => by
            rw [va_up_self]
            by_cases hqj : q = j
            · subst hqj
              rw [va_up_self]
              exact ⟨hzA, fun h0t => by rw [hg1 h0t, fG_step (by omega) (fun q hq => (hp (t - 1) q (by omega) hq).1)]⟩
            · rw [va_up_ne _ _ hqj, hg2 t q (by omega)]
              exact hpj q (by omega))
      exact L2 n 0 e V G (by omega) h hp (fun q hq => absurd hq (by omega))
  refine g_iconst (v := nI 0) C dX0_fillBest_0 (by decide) ?_
  refine g_istore_n (lv' := [(0, .ref (a 0)), (1, .int (nI 0))]) C dX0_fillBest_1 rfl (by decide) [1, 0] rfl ?_
  exact L1 T 0 e V G (by omega) h (fun u q hu => absurd hu (by omega))

set_option maxHeartbeats 4000000 in
set_option maxRecDepth 100000 in
theorem c_X0_lastBestState (l : Launch) (D : va_G) (cy : Nat → ClassId) (a : Nat → Nat) (hi : wInj 82 a) {e : Nat → va_E} {n T : Nat} {S : Nat → UInt64} {M E : T2} {r : Nat → Nat} {F B V : T2} {G : Nat → Nat → Int32} {Cn : Nat → Nat → Int64} (h : RP cy a e n T S M E r F B V G Cn) (hn : 1 ≤ n ∧ n ≤ 6) (hT : 0 < T ∧ T ≤ 12) : Met l yX0_lastBestState wsX0_lastBestState ({ frames := 0, cells := 0, slots := 0, locals := 0 }) (gPc D clP cy 82 a e [.ref (a 0)]) (va_Qi (fun z e1 => e1 = e ∧ z = nI (am (fun j => V (T - 1) j) n)) (gB D clP 82 a) (wA 82 a)) 0 0 (wA 82 a) := by
  refine g_met (cc := cX0_lastBestState) (maxL := 3) (ret := (some .int)) (lv := [(0, .ref (a 0))]) (by decide) rfl (Nat.le_of_ble_eq_true rfl) rfl hi (fun k hk => ⟨k, hk, rfl⟩) ?_
  intro p en s m below meth c C hr hlocks
  have hin : ∀ w ∈ u_ws RX0 TX0 11, w ∈ wsX0_lastBestState := by decide +kernel
  have f_stateCount := C.2.2.2.2.1 (.fieldLink RX0 25 "PathOdds" "stateCount" "I") (by decide +kernel)
  have f_bestOdds := C.2.2.2.2.1 (.fieldLink RX0 38 "PathOdds" "bestOdds" "[[D") (by decide +kernel)
  have f_rowLength := C.2.2.2.2.1 (.fieldLink RX0 29 "PathOdds" "rowLength" "I") (by decide +kernel)
  obtain ⟨h0, hS, h2, h9, hr0, h17, h30, h43, h56, h69, hM, hE, hF, hB, hV, hG, hC⟩ := id h
  have L : ∀ (k : Nat) (i : Nat), 1 ≤ i → i + k = n → GW p l en ({ frames := 0, cells := 0, slots := 0, locals := 0 }) s m ([.ref (a 0)] : List Value).toArray below meth c 0 0 (MQ below (va_Qi (fun z e1 => e1 = e ∧ z = nI (am (fun j => V (T - 1) j) n)) (gB D clP 82 a) (wA 82 a)) ([.ref (a 0)] : List Value).toArray s 0 0 (wA 82 a)) D clP 82 3 a (wA 82 a) e 4 [(0, .ref (a 0)), (1, .int (nI (am (fun j => V (T - 1) j) i))), (2, .int (nI i))] [] := by
    intro k
    induction k with
    | zero =>
      intro i hi1 hk
      obtain ⟨h0, hS, h2, h9, hr0, h17, h30, h43, h56, h69, hM, hE, hF, hB, hV, hG, hC⟩ := id h
      refine g_iload_n C dX0_lastBestState_4 rfl 2 rfl ?_
      refine g_aload_n C dX0_lastBestState_5 rfl 0 rfl ?_
      refine g_get C 4 hin inl_pos0 (by decide) h0 (by decide) f_stateCount rfl dX0_lastBestState_6 ?_
      refine g_icmp_ge (tgt := 50) C dX0_lastBestState_9 (by decide) (fun c1 => ?_) (fun c1 => absurd c1 (fun q => q (nI_le (by omega) (by omega))))
      refine g_iload_n C dX0_lastBestState_50 rfl 1 rfl ?_
      exact g_iret C hr hlocks (⟨rfl, by rw [show n = i by omega]⟩) dX0_lastBestState_51
    | succ k ih =>
      intro i hi1 hk
      obtain ⟨h0, hS, h2, h9, hr0, h17, h30, h43, h56, h69, hM, hE, hF, hB, hV, hG, hC⟩ := id h
      have ha := am_lt (fun j => V (T - 1) j) i (by omega)
      refine g_iload_n C dX0_lastBestState_4 rfl 2 rfl ?_
      refine g_aload_n C dX0_lastBestState_5 rfl 0 rfl ?_
      refine g_get C 4 hin inl_pos0 (by decide) h0 (by decide) f_stateCount rfl dX0_lastBestState_6 ?_
      refine g_icmp_ge (tgt := 50) C dX0_lastBestState_9 (by decide) (fun c1 => absurd c1 (nI_ge (by omega) (by omega))) (fun c1 => ?_)
      refine g_aload_n C dX0_lastBestState_12 rfl 0 rfl ?_
      refine g_get C 8 hin inl_pos0 (by decide) h0 (by decide) f_bestOdds rfl dX0_lastBestState_13 ?_
      refine g_aload_n C dX0_lastBestState_16 rfl 0 rfl ?_
      refine g_get C 5 hin inl_pos0 (by decide) h0 (by decide) f_rowLength rfl dX0_lastBestState_17 ?_
      refine g_iconst (v := nI 1) C dX0_lastBestState_20 (by decide) ?_
      refine g_isub (v := nI (T - 1)) C dX0_lastBestState_21 (pk_sub (by omega)) ?_
      refine g_aald C (by omega) (tyD2 cy) h43 (by omega) (by decide) dX0_lastBestState_22 ?_
      refine g_iload_n C dX0_lastBestState_23 rfl 2 rfl ?_
      refine g_dald C (by omega) (hV (T - 1) (by omega)) (by omega) (by decide) dX0_lastBestState_24 ?_
      refine g_aload_n C dX0_lastBestState_25 rfl 0 rfl ?_
      refine g_get C 8 hin inl_pos0 (by decide) h0 (by decide) f_bestOdds rfl dX0_lastBestState_26 ?_
      refine g_aload_n C dX0_lastBestState_29 rfl 0 rfl ?_
      refine g_get C 5 hin inl_pos0 (by decide) h0 (by decide) f_rowLength rfl dX0_lastBestState_30 ?_
      refine g_iconst (v := nI 1) C dX0_lastBestState_33 (by decide) ?_
      refine g_isub (v := nI (T - 1)) C dX0_lastBestState_34 (pk_sub (by omega)) ?_
      refine g_aald C (by omega) (tyD2 cy) h43 (by omega) (by decide) dX0_lastBestState_35 ?_
      refine g_iload_n C dX0_lastBestState_36 rfl 1 rfl ?_
      refine g_dald C (by omega) (hV (T - 1) (by omega)) (by omega) (by decide) dX0_lastBestState_37 ?_
      refine g_dcmp C dX0_lastBestState_38 ?_
      refine g_if_le (tgt := 44) C dX0_lastBestState_39 (by decide) (fun c2 => ?_) (fun c2 => ?_)
      · refine g_iinc (v := nI (i + 1)) (k := 2) (lv' := [(0, .ref (a 0)), (1, .int (nI (am (fun j => V (T - 1) j) i))), (2, .int (nI (i + 1)))]) C dX0_lastBestState_44 rfl (nI_inc i) (by decide) [1, 2, 0] rfl ?_
        refine g_goto (tgt := 4) C dX0_lastBestState_47 (by decide) ?_
        have q := ih (i + 1) (by omega) (by omega)
        rw [am_f (f := (fun j => V (T - 1) j)) (k := i) (gtD_f c2)] at q
        exact q
      · refine g_iload_n C dX0_lastBestState_42 rfl 2 rfl ?_
        refine g_istore_n (lv' := [(0, .ref (a 0)), (1, .int (nI i)), (2, .int (nI i))]) C dX0_lastBestState_43 rfl (by decide) [1, 0, 2] rfl ?_
        refine g_iinc (v := nI (i + 1)) (k := 2) (lv' := [(0, .ref (a 0)), (1, .int (nI i)), (2, .int (nI (i + 1)))]) C dX0_lastBestState_44 rfl (nI_inc i) (by decide) [1, 2, 0] rfl ?_
        refine g_goto (tgt := 4) C dX0_lastBestState_47 (by decide) ?_
        have q := ih (i + 1) (by omega) (by omega)
        rw [am_t (f := (fun j => V (T - 1) j)) (k := i) (gtD_t c2)] at q
        exact q
  refine g_iconst (v := nI 0) C dX0_lastBestState_0 (by decide) ?_
  refine g_istore_n (lv' := [(0, .ref (a 0)), (1, .int (nI 0))]) C dX0_lastBestState_1 rfl (by decide) [1, 0] rfl ?_
  refine g_iconst (v := nI 1) C dX0_lastBestState_2 (by decide) ?_
  refine g_istore_n (lv' := [(0, .ref (a 0)), (1, .int (nI 0)), (2, .int (nI 1))]) C dX0_lastBestState_3 rfl (by decide) [1, 2, 0] rfl ?_
  have q := L (n - 1) 1 (by omega) (by omega)
  rw [am_1] at q
  exact q

set_option maxHeartbeats 4000000 in
set_option maxRecDepth 100000 in
theorem c_X0_waysInto (l : Launch) (D : va_G) (cy : Nat → ClassId) (a : Nat → Nat) (hi : wInj 82 a) {e : Nat → va_E} {n T : Nat} {S : Nat → UInt64} {M E : T2} {r : Nat → Nat} {F B V : T2} {G : Nat → Nat → Int32} {Cn : Nat → Nat → Int64} (h : RP cy a e n T S M E r F B V G Cn) (hn : n ≤ 6) (t j : Nat) (ht : t < 12) (hj : j < n) : Met l yX0_waysInto wsX0_waysInto ({ frames := 0, cells := 0, slots := 0, locals := 0 }) (gPc D clP cy 82 a e [.ref (a 0), .int (nI t), .int (nI j)]) (va_Ql (fun z e1 => e1 = e ∧ z = if t = 0 then (if gtD (S j) FP.dconst0 = true then 1 else 0) else csm (fun i => gtD (M i j) FP.dconst0) (Cn (t - 1)) n) (gB D clP 82 a) (wA 82 a)) 0 0 (wA 82 a) := by
  refine g_met (cc := cX0_waysInto) (maxL := 6) (ret := (some .long)) (lv := [(0, .ref (a 0)), (1, .int (nI t)), (2, .int (nI j))]) (by decide) rfl (Nat.le_of_ble_eq_true rfl) rfl hi (fun k hk => ⟨k, hk, rfl⟩) ?_
  intro p en s m below meth c C hr hlocks
  have hin : ∀ w ∈ u_ws RX0 TX0 11, w ∈ wsX0_waysInto := by decide +kernel
  have f_startWeights := C.2.2.2.2.1 (.fieldLink RX0 9 "PathOdds" "startWeights" "[D") (by decide +kernel)
  have f_stateCount := C.2.2.2.2.1 (.fieldLink RX0 25 "PathOdds" "stateCount" "I") (by decide +kernel)
  have f_moveWeights := C.2.2.2.2.1 (.fieldLink RX0 15 "PathOdds" "moveWeights" "[[D") (by decide +kernel)
  have f_wayCounts := C.2.2.2.2.1 (.fieldLink RX0 48 "PathOdds" "wayCounts" "[[J") (by decide +kernel)
  obtain ⟨h0, hS, h2, h9, hr0, h17, h30, h43, h56, h69, hM, hE, hF, hB, hV, hG, hC⟩ := id h
  refine g_iload_n C dX0_waysInto_0 rfl 1 rfl ?_
  refine g_if_ne (tgt := 21) C dX0_waysInto_1 (by decide) (fun c1 => ?_) (fun c1 => ?_)
  · have ht0 : ¬ t = 0 := fun q => c1 (by rw [q]; rfl)
    refine g_lconst (v := 0) C dX0_waysInto_21 (by decide) ?_
    refine g_lstore_n (lv' := [(0, .ref (a 0)), (1, .int (nI t)), (2, .int (nI j)), (3, .long 0)]) C dX0_waysInto_22 rfl (by decide) [1, 2, 3, 0] rfl ?_
    refine g_iconst (v := nI 0) C dX0_waysInto_23 (by decide) ?_
    refine g_istore (lv' := [(0, .ref (a 0)), (1, .int (nI t)), (2, .int (nI j)), (3, .long 0), (5, .int (nI 0))]) C dX0_waysInto_24 (by decide) [1, 2, 3, 4, 0] rfl ?_
    have L : ∀ (k : Nat) (i : Nat), i + k = n → GW p l en ({ frames := 0, cells := 0, slots := 0, locals := 0 }) s m ([.ref (a 0), .int (nI t), .int (nI j)] : List Value).toArray below meth c 0 0 (MQ below (va_Ql (fun z e1 => e1 = e ∧ z = if t = 0 then (if gtD (S j) FP.dconst0 = true then 1 else 0) else csm (fun i => gtD (M i j) FP.dconst0) (Cn (t - 1)) n) (gB D clP 82 a) (wA 82 a)) ([.ref (a 0), .int (nI t), .int (nI j)] : List Value).toArray s 0 0 (wA 82 a)) D clP 82 6 a (wA 82 a) e 26 [(0, .ref (a 0)), (1, .int (nI t)), (2, .int (nI j)), (3, .long (csm (fun i => gtD (M i j) FP.dconst0) (Cn (t - 1)) i)), (5, .int (nI i))] [] := by
      intro k
      induction k with
      | zero =>
        intro i hk
        obtain ⟨h0, hS, h2, h9, hr0, h17, h30, h43, h56, h69, hM, hE, hF, hB, hV, hG, hC⟩ := id h
        refine g_iload C dX0_waysInto_26 4 rfl ?_
        refine g_aload_n C dX0_waysInto_28 rfl 0 rfl ?_
        refine g_get C 4 hin inl_pos0 (by decide) h0 (by decide) f_stateCount rfl dX0_waysInto_29 ?_
        refine g_icmp_ge (tgt := 69) C dX0_waysInto_32 (by decide) (fun c1 => ?_) (fun c1 => absurd c1 (fun q => q (nI_le (by omega) (by omega))))
        refine g_lload_n C dX0_waysInto_69 rfl 3 rfl ?_
        exact g_lret C hr hlocks (⟨rfl, by rw [if_neg ht0, show n = i by omega]⟩) dX0_waysInto_70
      | succ k ih =>
        intro i hk
        obtain ⟨h0, hS, h2, h9, hr0, h17, h30, h43, h56, h69, hM, hE, hF, hB, hV, hG, hC⟩ := id h
        refine g_iload C dX0_waysInto_26 4 rfl ?_
        refine g_aload_n C dX0_waysInto_28 rfl 0 rfl ?_
        refine g_get C 4 hin inl_pos0 (by decide) h0 (by decide) f_stateCount rfl dX0_waysInto_29 ?_
        refine g_icmp_ge (tgt := 69) C dX0_waysInto_32 (by decide) (fun c1 => absurd c1 (nI_ge (by omega) (by omega))) (fun c1 => ?_)
        refine g_aload_n C dX0_waysInto_35 rfl 0 rfl ?_
        refine g_get C 1 hin inl_pos0 (by decide) h0 (by decide) f_moveWeights rfl dX0_waysInto_36 ?_
        refine g_iload C dX0_waysInto_39 4 rfl ?_
        refine g_aald C (by omega) (tyD2 cy) h2 (by omega) (by decide) dX0_waysInto_41 ?_
        refine g_iload_n C dX0_waysInto_42 rfl 2 rfl ?_
        refine g_dald C (by omega) (hM i (by omega)) (by omega) (by decide) dX0_waysInto_43 ?_
        refine g_dconst0 C dX0_waysInto_44 ?_
        refine g_dcmp C dX0_waysInto_45 ?_
        refine g_if_le (tgt := 63) C dX0_waysInto_46 (by decide) (fun c2 => ?_) (fun c2 => ?_)
        · refine g_iinc (v := nI (i + 1)) (k := 4) (lv' := [(0, .ref (a 0)), (1, .int (nI t)), (2, .int (nI j)), (3, .long (csm (fun i => gtD (M i j) FP.dconst0) (Cn (t - 1)) i)), (5, .int (nI (i + 1)))]) C dX0_waysInto_63 rfl (nI_inc i) (by decide) [1, 2, 3, 4, 0] rfl ?_
          refine g_goto (tgt := 26) C dX0_waysInto_66 (by decide) ?_
          have q := ih (i + 1) (by omega)
          rw [show csm (fun i => gtD (M i j) FP.dconst0) (Cn (t - 1)) (i + 1) = csm (fun i => gtD (M i j) FP.dconst0) (Cn (t - 1)) i from if_neg (by show ¬ gtD (M i j) FP.dconst0 = true; rw [gtD_f c2]; decide)] at q
          exact q
        · refine g_lload_n C dX0_waysInto_49 rfl 3 rfl ?_
          refine g_aload_n C dX0_waysInto_50 rfl 0 rfl ?_
          refine g_get C 10 hin inl_pos0 (by decide) h0 (by decide) f_wayCounts rfl dX0_waysInto_51 ?_
          refine g_iload_n C dX0_waysInto_54 rfl 1 rfl ?_
          refine g_iconst (v := nI 1) C dX0_waysInto_55 (by decide) ?_
          refine g_isub (v := nI (t - 1)) C dX0_waysInto_56 (pk_sub (by omega)) ?_
          refine g_aald C (by omega) (tyL2 cy) h69 (by omega) (by decide) dX0_waysInto_57 ?_
          refine g_iload C dX0_waysInto_58 4 rfl ?_
          refine g_lald C (by omega) (hC (t - 1) (by omega)) (by omega) (by decide) dX0_waysInto_60 ?_
          refine g_ladd C dX0_waysInto_61 ?_
          refine g_lstore_n (lv' := [(0, .ref (a 0)), (1, .int (nI t)), (2, .int (nI j)), (3, .long ((csm (fun i => gtD (M i j) FP.dconst0) (Cn (t - 1)) i) + (Cn (t - 1) i))), (5, .int (nI i))]) C dX0_waysInto_62 rfl (by decide) [1, 2, 3, 0, 4] rfl ?_
          refine g_iinc (v := nI (i + 1)) (k := 4) (lv' := [(0, .ref (a 0)), (1, .int (nI t)), (2, .int (nI j)), (3, .long ((csm (fun i => gtD (M i j) FP.dconst0) (Cn (t - 1)) i) + (Cn (t - 1) i))), (5, .int (nI (i + 1)))]) C dX0_waysInto_63 rfl (nI_inc i) (by decide) [1, 2, 3, 4, 0] rfl ?_
          refine g_goto (tgt := 26) C dX0_waysInto_66 (by decide) ?_
          have q := ih (i + 1) (by omega)
          rw [show csm (fun i => gtD (M i j) FP.dconst0) (Cn (t - 1)) (i + 1) = csm (fun i => gtD (M i j) FP.dconst0) (Cn (t - 1)) i + Cn (t - 1) i from if_pos (gtD_t c2)] at q
          exact q
    exact L n 0 (by omega)
  · have ht0 : t = 0 := (nI_eq (by omega) (by decide)).mp c1
    refine g_aload_n C dX0_waysInto_4 rfl 0 rfl ?_
    refine g_get C 0 hin inl_pos0 (by decide) h0 (by decide) f_startWeights rfl dX0_waysInto_5 ?_
    refine g_iload_n C dX0_waysInto_8 rfl 2 rfl ?_
    refine g_dald C (by omega) hS (by omega) (by decide) dX0_waysInto_9 ?_
    refine g_dconst0 C dX0_waysInto_10 ?_
    refine g_dcmp C dX0_waysInto_11 ?_
    refine g_if_le (tgt := 19) C dX0_waysInto_12 (by decide) (fun c2 => ?_) (fun c2 => ?_)
    · refine g_lconst (v := 0) C dX0_waysInto_19 (by decide) ?_
      exact g_lret C hr hlocks (⟨rfl, by rw [if_pos ht0, if_neg (by rw [gtD_f c2]; decide)]⟩) dX0_waysInto_20
    · refine g_lconst (v := 1) C dX0_waysInto_15 (by decide) ?_
      refine g_goto (tgt := 20) C dX0_waysInto_16 (by decide) ?_
      exact g_lret C hr hlocks (⟨rfl, by rw [if_pos ht0, if_pos (gtD_t c2)]⟩) dX0_waysInto_20

set_option maxHeartbeats 4000000 in
set_option maxRecDepth 100000 in
theorem c_X0_fillWayCounts (l : Launch) (D : va_G) (cy : Nat → ClassId) (a : Nat → Nat) (hi : wInj 82 a) {e : Nat → va_E} {n T : Nat} {S : Nat → UInt64} {M E : T2} {r : Nat → Nat} {F B V : T2} {G : Nat → Nat → Int32} {Cn : Nat → Nat → Int64} (h : RP cy a e n T S M E r F B V G Cn) (hn : 1 ≤ n ∧ n ≤ 6) (hT : T ≤ 12) (hr4 : RW4 r) : Met l yX0_fillWayCounts wsX0_fillWayCounts ({ frames := 1, cells := 0, slots := 0, locals := 25 }) (gPc D clP cy 82 a e [.ref (a 0)]) (va_Qv (fun e1 => ∃ C1 : Nat → Nat → Int64, RP cy a e1 n T S M E r F B V G C1 ∧ ∀ t j, t < T → j < n → C1 t j = fC n S M E r t j) (gB D clP 82 a) (wA 82 a)) 0 0 (wA 82 a) := by
  refine g_met (cc := cX0_fillWayCounts) (maxL := 4) (ret := none) (lv := [(0, .ref (a 0))]) (by decide) rfl (Nat.le_of_ble_eq_true rfl) rfl hi (fun k hk => ⟨k, hk, rfl⟩) ?_
  intro p en s m below meth c C hr hlocks
  have hin : ∀ w ∈ u_ws RX0 TX0 11, w ∈ wsX0_fillWayCounts := by decide +kernel
  have f_rowLength := C.2.2.2.2.1 (.fieldLink RX0 29 "PathOdds" "rowLength" "I") (by decide +kernel)
  have f_row := C.2.2.2.2.1 (.fieldLink RX0 21 "PathOdds" "row" "[I") (by decide +kernel)
  have f_stateCount := C.2.2.2.2.1 (.fieldLink RX0 25 "PathOdds" "stateCount" "I") (by decide +kernel)
  have f_wayCounts := C.2.2.2.2.1 (.fieldLink RX0 48 "PathOdds" "wayCounts" "[[J") (by decide +kernel)
  have f_showWeights := C.2.2.2.2.1 (.fieldLink RX0 18 "PathOdds" "showWeights" "[[D") (by decide +kernel)
  obtain ⟨h0, hS, h2, h9, hr0, h17, h30, h43, h56, h69, hM, hE, hF, hB, hV, hG, hC⟩ := id h
  have L1 : ∀ (k : Nat) (t : Nat) (e : Nat → va_E) (Cn : Nat → Nat → Int64), t + k = T → RP cy a e n T S M E r F B V G Cn → (∀ u q, u < t → q < n → Cn u q = fC n S M E r u q) → GW p l en ({ frames := 1, cells := 0, slots := 0, locals := 25 }) s m ([.ref (a 0)] : List Value).toArray below meth c 0 0 (MQ below (va_Qv (fun e1 => ∃ C1 : Nat → Nat → Int64, RP cy a e1 n T S M E r F B V G C1 ∧ ∀ t j, t < T → j < n → C1 t j = fC n S M E r t j) (gB D clP 82 a) (wA 82 a)) ([.ref (a 0)] : List Value).toArray s 0 0 (wA 82 a)) D clP 82 4 a (wA 82 a) e 2 [(0, .ref (a 0)), (1, .int (nI t))] [] := by
    intro k
    induction k with
    | zero =>
      intro t e Cn hk h hp
      obtain ⟨h0, hS, h2, h9, hr0, h17, h30, h43, h56, h69, hM, hE, hF, hB, hV, hG, hC⟩ := id h
      refine g_iload_n C dX0_fillWayCounts_2 rfl 1 rfl ?_
      refine g_aload_n C dX0_fillWayCounts_3 rfl 0 rfl ?_
      refine g_get C 5 hin inl_pos0 (by decide) h0 (by decide) f_rowLength rfl dX0_fillWayCounts_4 ?_
      refine g_icmp_ge (tgt := 70) C dX0_fillWayCounts_7 (by decide) (fun c1 => ?_) (fun c1 => absurd c1 (fun q => q (nI_le (by omega) (by omega))))
      exact g_vret C hr hlocks (⟨Cn, h, fun u q hu hq => hp u q (by omega) hq⟩) dX0_fillWayCounts_70
    | succ k ih =>
      intro t e Cn hk h hp
      obtain ⟨h0, hS, h2, h9, hr0, h17, h30, h43, h56, h69, hM, hE, hF, hB, hV, hG, hC⟩ := id h
      refine g_iload_n C dX0_fillWayCounts_2 rfl 1 rfl ?_
      refine g_aload_n C dX0_fillWayCounts_3 rfl 0 rfl ?_
      refine g_get C 5 hin inl_pos0 (by decide) h0 (by decide) f_rowLength rfl dX0_fillWayCounts_4 ?_
      refine g_icmp_ge (tgt := 70) C dX0_fillWayCounts_7 (by decide) (fun c1 => absurd c1 (nI_ge (by omega) (by omega))) (fun c1 => ?_)
      have hrt : r t < 4 := hr4 t (by omega)
      refine g_aload_n C dX0_fillWayCounts_10 rfl 0 rfl ?_
      refine g_get C 3 hin inl_pos0 (by decide) h0 (by decide) f_row rfl dX0_fillWayCounts_11 ?_
      refine g_iload_n C dX0_fillWayCounts_14 rfl 1 rfl ?_
      refine g_iald C (by omega) hr0 (by omega) (by decide) dX0_fillWayCounts_15 ?_
      refine g_istore_n (lv' := [(0, .ref (a 0)), (1, .int (nI t)), (2, .int (nI (r t)))]) C dX0_fillWayCounts_16 rfl (by decide) [1, 2, 0] rfl ?_
      refine g_iconst (v := nI 0) C dX0_fillWayCounts_17 (by decide) ?_
      refine g_istore_n (lv' := [(0, .ref (a 0)), (1, .int (nI t)), (2, .int (nI (r t))), (3, .int (nI 0))]) C dX0_fillWayCounts_18 rfl (by decide) [1, 2, 3, 0] rfl ?_
      have L2 : ∀ (k2 : Nat) (j : Nat) (e : Nat → va_E) (Cn : Nat → Nat → Int64), j + k2 = n → RP cy a e n T S M E r F B V G Cn → (∀ u q, u < t → q < n → Cn u q = fC n S M E r u q) → (∀ q, q < j → Cn t q = fC n S M E r t q) → GW p l en ({ frames := 1, cells := 0, slots := 0, locals := 25 }) s m ([.ref (a 0)] : List Value).toArray below meth c 0 0 (MQ below (va_Qv (fun e1 => ∃ C1 : Nat → Nat → Int64, RP cy a e1 n T S M E r F B V G C1 ∧ ∀ t j, t < T → j < n → C1 t j = fC n S M E r t j) (gB D clP 82 a) (wA 82 a)) ([.ref (a 0)] : List Value).toArray s 0 0 (wA 82 a)) D clP 82 4 a (wA 82 a) e 19 [(0, .ref (a 0)), (1, .int (nI t)), (2, .int (nI (r t))), (3, .int (nI j))] [] := by
        intro k2
        induction k2 with
        | zero =>
          intro j e Cn hk2 h hp hpj
          obtain ⟨h0, hS, h2, h9, hr0, h17, h30, h43, h56, h69, hM, hE, hF, hB, hV, hG, hC⟩ := id h
          refine g_iload_n C dX0_fillWayCounts_19 rfl 3 rfl ?_
          refine g_aload_n C dX0_fillWayCounts_20 rfl 0 rfl ?_
          refine g_get C 4 hin inl_pos0 (by decide) h0 (by decide) f_stateCount rfl dX0_fillWayCounts_21 ?_
          refine g_icmp_ge (tgt := 64) C dX0_fillWayCounts_24 (by decide) (fun c1 => ?_) (fun c1 => absurd c1 (fun q => q (nI_le (by omega) (by omega))))
          refine g_iinc (v := nI (t + 1)) (k := 1) (lv' := [(0, .ref (a 0)), (1, .int (nI (t + 1))), (2, .int (nI (r t))), (3, .int (nI j))]) C dX0_fillWayCounts_64 rfl (nI_inc t) (by decide) [1, 0, 2, 3] rfl ?_
          refine g_goto (tgt := 2) C dX0_fillWayCounts_67 (by decide) ?_
          refine g_pick (lv' := [(0, .ref (a 0)), (1, .int (nI (t + 1)))]) [0, 1] rfl ?_
          exact ih (t + 1) e Cn (by omega) h (fun u q hu hq => by
            by_cases hut : u = t
            · subst hut; exact hpj q (by omega)
            · exact hp u q (by omega) hq)
        | succ k2 ih2 =>
          intro j e Cn hk2 h hp hpj
          obtain ⟨h0, hS, h2, h9, hr0, h17, h30, h43, h56, h69, hM, hE, hF, hB, hV, hG, hC⟩ := id h
          refine g_iload_n C dX0_fillWayCounts_19 rfl 3 rfl ?_
          refine g_aload_n C dX0_fillWayCounts_20 rfl 0 rfl ?_
          refine g_get C 4 hin inl_pos0 (by decide) h0 (by decide) f_stateCount rfl dX0_fillWayCounts_21 ?_
          refine g_icmp_ge (tgt := 64) C dX0_fillWayCounts_24 (by decide) (fun c1 => absurd c1 (nI_ge (by omega) (by omega))) (fun c1 => ?_)
          refine g_aload_n C dX0_fillWayCounts_27 rfl 0 rfl ?_
          refine g_get C 10 hin inl_pos0 (by decide) h0 (by decide) f_wayCounts rfl dX0_fillWayCounts_28 ?_
          refine g_iload_n C dX0_fillWayCounts_31 rfl 1 rfl ?_
          refine g_aald C (by omega) (tyL2 cy) h69 (by omega) (by decide) dX0_fillWayCounts_32 ?_
          refine g_iload_n C dX0_fillWayCounts_33 rfl 3 rfl ?_
          refine g_aload_n C dX0_fillWayCounts_34 rfl 0 rfl ?_
          refine g_get C 2 hin inl_pos0 (by decide) h0 (by decide) f_showWeights rfl dX0_fillWayCounts_35 ?_
          refine g_iload_n C dX0_fillWayCounts_38 rfl 3 rfl ?_
          refine g_aald C (by omega) (tyD2 cy) h9 (by omega) (by decide) dX0_fillWayCounts_39 ?_
          refine g_iload_n C dX0_fillWayCounts_40 rfl 2 rfl ?_
          refine g_dald C (by omega) (hE j (by omega)) (by omega) (by decide) dX0_fillWayCounts_41 ?_
          refine g_dconst0 C dX0_fillWayCounts_42 ?_
          refine g_dcmp C dX0_fillWayCounts_43 ?_
          refine g_if_le (tgt := 56) C dX0_fillWayCounts_44 (by decide) (fun c2 => ?_) (fun c2 => ?_)
          · have hzA : (0 : Int64) = fC n S M E r t j := fC_no (gtD_f c2)
            refine g_lconst (v := 0) C dX0_fillWayCounts_56 (by decide) ?_
            refine g_last C (by omega) (hC t (by omega)) (by omega) (by decide) dX0_fillWayCounts_57 (fun y hy => ?_)
            have h := RP_C (t := t) h (by omega) hy
            generalize va_up e (70 + t) y = e at h ⊢
            refine g_iinc (v := nI (j + 1)) (k := 3) (lv' := [(0, .ref (a 0)), (1, .int (nI t)), (2, .int (nI (r t))), (3, .int (nI (j + 1)))]) C dX0_fillWayCounts_58 rfl (nI_inc j) (by decide) [1, 2, 3, 0] rfl ?_
            refine g_goto (tgt := 19) C dX0_fillWayCounts_61 (by decide) ?_
            exact ih2 (j + 1) e _ (by omega) h (fun u q hu hq => by rw [va_up_ne _ _ (by omega)]; exact hp u q hu hq) (fun q hq => by
              rw [va_up_self]
              by_cases hqj : q = j
              · subst hqj; rw [va_up_self]; exact hzA
              · rw [va_up_ne _ _ hqj]; exact hpj q (by omega))
          · refine g_aload_n C dX0_fillWayCounts_47 rfl 0 rfl ?_
            refine g_iload_n C dX0_fillWayCounts_48 rfl 1 rfl ?_
            refine g_iload_n C dX0_fillWayCounts_49 rfl 3 rfl ?_
            refine g_calll (As := [.int (nI t), .int (nI j)]) (rest := [.int (nI j), .ref (a (70 + t))]) C (cwV 2 C.2.2.2.2.1 gX0_fillWayCounts_X0_waysInto rfl rfl rfl (by decide +kernel) ⟨Nat.le_of_ble_eq_true rfl, Nat.le_of_ble_eq_true rfl⟩) (c_X0_waysInto l D cy a hi h (by omega) t j (by omega) (by omega)) (by decide) h0 inl_pos0 rfl rfl (Nat.le_of_ble_eq_true rfl) dX0_fillWayCounts_50 ⟨Nat.zero_le _, Nat.zero_le _⟩ (fun z e1 hz => ?_)
            rw [hz.1]
            have hzA : z = fC n S M E r t j := fC_step hz.2 (fun h0t q hq => hp (t - 1) q (by omega) hq) (gtD_t c2)
            refine g_goto (tgt := 57) C dX0_fillWayCounts_53 (by decide) ?_
            refine g_last C (by omega) (hC t (by omega)) (by omega) (by decide) dX0_fillWayCounts_57 (fun y hy => ?_)
            have h := RP_C (t := t) h (by omega) hy
            generalize va_up e (70 + t) y = e at h ⊢
            refine g_iinc (v := nI (j + 1)) (k := 3) (lv' := [(0, .ref (a 0)), (1, .int (nI t)), (2, .int (nI (r t))), (3, .int (nI (j + 1)))]) C dX0_fillWayCounts_58 rfl (nI_inc j) (by decide) [1, 2, 3, 0] rfl ?_
            refine g_goto (tgt := 19) C dX0_fillWayCounts_61 (by decide) ?_
            exact ih2 (j + 1) e _ (by omega) h (fun u q hu hq => by rw [va_up_ne _ _ (by omega)]; exact hp u q hu hq) (fun q hq => by
              rw [va_up_self]
              by_cases hqj : q = j
              · subst hqj; rw [va_up_self]; exact hzA
              · rw [va_up_ne _ _ hqj]; exact hpj q (by omega))
      exact L2 n 0 e Cn (by omega) h hp (fun q hq => absurd hq (by omega))
  refine g_iconst (v := nI 0) C dX0_fillWayCounts_0 (by decide) ?_
  refine g_istore_n (lv' := [(0, .ref (a 0)), (1, .int (nI 0))]) C dX0_fillWayCounts_1 rfl (by decide) [1, 0] rfl ?_
  exact L1 T 0 e Cn (by omega) h (fun u q hu => absurd hu (by omega))
end
section
/-- the total; the best; how many are possible -/
def fTot (n : Nat) (S : Nat → UInt64) (M E : T2) (r : Nat → Nat) (T : Nat) : UInt64 := if T = 0 then FP.dconst1 else fsm (fun j => fA n S M E r (T - 1) j) n
def fBest (n : Nat) (S : Nat → UInt64) (M E : T2) (r : Nat → Nat) (T : Nat) : UInt64 := if T = 0 then FP.dconst1 else fV n S M E r (T - 1) (am (fun j => fV n S M E r (T - 1) j) n)
def fPos (n : Nat) (S : Nat → UInt64) (M E : T2) (r : Nat → Nat) (T : Nat) : Int64 := if T = 0 then 1 else lsm (fun j => fC n S M E r (T - 1) j) n
theorem fH_lt {n : Nat} (hn : 0 < n) (S : Nat → UInt64) (M E : T2) (r : Nat → Nat) (T : Nat) : ∀ d, fH n S M E r T d < n
  | 0 => am_lt _ n hn
  | _ + 1 => am_lt _ n hn

set_option maxHeartbeats 4000000 in
set_option maxRecDepth 100000 in
theorem c_X0_total (l : Launch) (D : va_G) (cy : Nat → ClassId) (a : Nat → Nat) (hi : wInj 82 a) {e : Nat → va_E} {n T : Nat} {S : Nat → UInt64} {M E : T2} {r : Nat → Nat} {F B V : T2} {G : Nat → Nat → Int32} {Cn : Nat → Nat → Int64} (h : RP cy a e n T S M E r F B V G Cn) (hn : 1 ≤ n ∧ n ≤ 6) (hT : T ≤ 12) (hW : WB S M E) (hr4 : RW4 r) : Met l yX0_total wsX0_total ({ frames := 2, cells := 0, slots := 0, locals := 48 }) (gPc D clP cy 82 a e [.ref (a 0)]) (va_Qd (fun z e1 => (∃ F1, RP cy a e1 n T S M E r F1 B V G Cn) ∧ z = fTot n S M E r T) (gB D clP 82 a) (wA 82 a)) 0 0 (wA 82 a) := by
  refine g_met (cc := cX0_total) (maxL := 1) (ret := (some .double)) (lv := [(0, .ref (a 0))]) (by decide) rfl (Nat.le_of_ble_eq_true rfl) rfl hi (fun k hk => ⟨k, hk, rfl⟩) ?_
  intro p en s m below meth c C hr hlocks
  have hin : ∀ w ∈ u_ws RX0 TX0 11, w ∈ wsX0_total := by decide +kernel
  have f_rowLength := C.2.2.2.2.1 (.fieldLink RX0 29 "PathOdds" "rowLength" "I") (by decide +kernel)
  obtain ⟨h0, hS, h2, h9, hr0, h17, h30, h43, h56, h69, hM, hE, hF, hB, hV, hG, hC⟩ := id h
  refine g_aload_n C dX0_total_0 rfl 0 rfl ?_
  refine g_get C 5 hin inl_pos0 (by decide) h0 (by decide) f_rowLength rfl dX0_total_1 ?_
  refine g_if_ne (tgt := 9) C dX0_total_4 (by decide) (fun c1 => ?_) (fun c1 => ?_)
  · have hT0 : 0 < T := Nat.pos_of_ne_zero (fun q => c1 (by rw [q]; rfl))
    refine g_aload_n C dX0_total_9 rfl 0 rfl ?_
    refine g_callv (As := []) (rest := []) C (cwV 0 C.2.2.2.2.1 gX0_total_X0_fillForward rfl rfl rfl (by decide +kernel) ⟨Nat.le_of_ble_eq_true rfl, Nat.le_of_ble_eq_true rfl⟩) (c_X0_fillForward l D cy a hi h hn hT hW hr4) (by decide) h0 inl_pos0 rfl rfl (Nat.le_of_ble_eq_true rfl) dX0_total_10 ⟨Nat.zero_le _, Nat.zero_le _⟩ (fun e1 he => ?_)
    obtain ⟨F1, h, hp⟩ := he
    obtain ⟨h0, hS, h2, h9, hr0, h17, h30, h43, h56, h69, hM, hE, hF, hB, hV, hG, hC⟩ := id h
    refine g_aload_n C dX0_total_13 rfl 0 rfl ?_
    refine g_calld (As := []) (rest := []) C (cwV 0 C.2.2.2.2.1 gX0_total_X0_sumOfLastForward rfl rfl rfl (by decide +kernel) ⟨Nat.le_of_ble_eq_true rfl, Nat.le_of_ble_eq_true rfl⟩) (c_X0_sumOfLastForward l D cy a hi h (by omega) (by omega) (K := 1202) (by omega) (fun i hi1 => by rw [hp (T - 1) i (by omega) hi1]; exact mg_mono (fA_mg hn.2 hW hr4 (T - 1) i (by omega) (by omega)) (by omega))) (by decide) h0 inl_pos0 rfl rfl (Nat.le_of_ble_eq_true rfl) dX0_total_14 ⟨Nat.zero_le _, Nat.zero_le _⟩ (fun z e2 hz => ?_)
    rw [hz.1]
    exact g_dret C hr hlocks (⟨⟨F1, h⟩, by rw [hz.2, fTot, if_neg (by omega)]; exact fsm_congr (fun i hi1 => hp (T - 1) i (by omega) hi1) n (Nat.le_refl n)⟩) dX0_total_17
  · refine g_dconst1 C dX0_total_7 ?_
    exact g_dret C hr hlocks (⟨⟨F, h⟩, by rw [fTot, if_pos ((nI_eq (by omega) (by decide)).mp c1)]⟩) dX0_total_8

set_option maxHeartbeats 4000000 in
set_option maxRecDepth 100000 in
theorem c_X0_best (l : Launch) (D : va_G) (cy : Nat → ClassId) (a : Nat → Nat) (hi : wInj 82 a) {e : Nat → va_E} {n T : Nat} {S : Nat → UInt64} {M E : T2} {r : Nat → Nat} {F B V : T2} {G : Nat → Nat → Int32} {Cn : Nat → Nat → Int64} (h : RP cy a e n T S M E r F B V G Cn) (hn : 1 ≤ n ∧ n ≤ 6) (hT : T ≤ 12) (hW : WB S M E) (hr4 : RW4 r) : Met l yX0_best wsX0_best ({ frames := 2, cells := 0, slots := 0, locals := 51 }) (gPc D clP cy 82 a e [.ref (a 0)]) (va_Qd (fun z e1 => (∃ V1 G1, RP cy a e1 n T S M E r F B V1 G1 Cn) ∧ z = fBest n S M E r T) (gB D clP 82 a) (wA 82 a)) 0 0 (wA 82 a) := by
  refine g_met (cc := cX0_best) (maxL := 1) (ret := (some .double)) (lv := [(0, .ref (a 0))]) (by decide) rfl (Nat.le_of_ble_eq_true rfl) rfl hi (fun k hk => ⟨k, hk, rfl⟩) ?_
  intro p en s m below meth c C hr hlocks
  have hin : ∀ w ∈ u_ws RX0 TX0 11, w ∈ wsX0_best := by decide +kernel
  have f_rowLength := C.2.2.2.2.1 (.fieldLink RX0 29 "PathOdds" "rowLength" "I") (by decide +kernel)
  have f_bestOdds := C.2.2.2.2.1 (.fieldLink RX0 38 "PathOdds" "bestOdds" "[[D") (by decide +kernel)
  obtain ⟨h0, hS, h2, h9, hr0, h17, h30, h43, h56, h69, hM, hE, hF, hB, hV, hG, hC⟩ := id h
  refine g_aload_n C dX0_best_0 rfl 0 rfl ?_
  refine g_get C 5 hin inl_pos0 (by decide) h0 (by decide) f_rowLength rfl dX0_best_1 ?_
  refine g_if_ne (tgt := 9) C dX0_best_4 (by decide) (fun c1 => ?_) (fun c1 => ?_)
  · have hT0 : 0 < T := Nat.pos_of_ne_zero (fun q => c1 (by rw [q]; rfl))
    refine g_aload_n C dX0_best_9 rfl 0 rfl ?_
    refine g_callv (As := []) (rest := []) C (cwV 0 C.2.2.2.2.1 gX0_best_X0_fillBest rfl rfl rfl (by decide +kernel) ⟨Nat.le_of_ble_eq_true rfl, Nat.le_of_ble_eq_true rfl⟩) (c_X0_fillBest l D cy a hi h hn hT hW hr4) (by decide) h0 inl_pos0 rfl rfl (Nat.le_of_ble_eq_true rfl) dX0_best_10 ⟨Nat.zero_le _, Nat.zero_le _⟩ (fun e1 he => ?_)
    obtain ⟨V1, G1, h, hp⟩ := he
    obtain ⟨h0, hS, h2, h9, hr0, h17, h30, h43, h56, h69, hM, hE, hF, hB, hV, hG, hC⟩ := id h
    refine g_aload_n C dX0_best_13 rfl 0 rfl ?_
    refine g_get C 8 hin inl_pos0 (by decide) h0 (by decide) f_bestOdds rfl dX0_best_14 ?_
    refine g_aload_n C dX0_best_17 rfl 0 rfl ?_
    refine g_get C 5 hin inl_pos0 (by decide) h0 (by decide) f_rowLength rfl dX0_best_18 ?_
    refine g_iconst (v := nI 1) C dX0_best_21 (by decide) ?_
    refine g_isub (v := nI (T - 1)) C dX0_best_22 (pk_sub (by omega)) ?_
    refine g_aald C (by omega) (tyD2 cy) h43 (by omega) (by decide) dX0_best_23 ?_
    refine g_aload_n C dX0_best_24 rfl 0 rfl ?_
    refine g_calli (As := []) (rest := [.ref (a (44 + (T - 1)))]) C (cwV 0 C.2.2.2.2.1 gX0_best_X0_lastBestState rfl rfl rfl (by decide +kernel) ⟨Nat.le_of_ble_eq_true rfl, Nat.le_of_ble_eq_true rfl⟩) (c_X0_lastBestState l D cy a hi h hn (by omega)) (by decide) h0 inl_pos0 rfl rfl (Nat.le_of_ble_eq_true rfl) dX0_best_25 ⟨Nat.zero_le _, Nat.zero_le _⟩ (fun z e2 hz => ?_)
    rw [hz.1]
    obtain ⟨-, hz⟩ := hz
    have hc := am_congr (n := n) (f := fun j => V1 (T - 1) j) (g := fun j => fV n S M E r (T - 1) j) (by omega) (fun i hi1 => (hp (T - 1) i (by omega) hi1).1) n (Nat.le_refl n)
    rw [hc] at hz
    subst hz
    have ha := am_lt (fun j => fV n S M E r (T - 1) j) n (by omega)
    refine g_dald C (by omega) (hV (T - 1) (by omega)) (by omega) (by decide) dX0_best_28 ?_
    exact g_dret C hr hlocks (⟨⟨V1, G1, h⟩, by rw [fBest, if_neg (by omega)]; exact (hp (T - 1) _ (by omega) ha).1⟩) dX0_best_29
  · refine g_dconst1 C dX0_best_7 ?_
    exact g_dret C hr hlocks (⟨⟨V, G, h⟩, by rw [fBest, if_pos ((nI_eq (by omega) (by decide)).mp c1)]⟩) dX0_best_8

set_option maxHeartbeats 4000000 in
set_option maxRecDepth 100000 in
theorem c_X0_bestState (l : Launch) (D : va_G) (cy : Nat → ClassId) (a : Nat → Nat) (hi : wInj 82 a) {e : Nat → va_E} {n T : Nat} {S : Nat → UInt64} {M E : T2} {r : Nat → Nat} {F B V : T2} {G : Nat → Nat → Int32} {Cn : Nat → Nat → Int64} (h : RP cy a e n T S M E r F B V G Cn) (hn : 1 ≤ n ∧ n ≤ 6) (hT : T ≤ 12) (hW : WB S M E) (hr4 : RW4 r) (x : Int32) : Met l yX0_bestState wsX0_bestState ({ frames := 2, cells := 0, slots := 0, locals := 51 }) (gPc D clP cy 82 a e [.ref (a 0), .int x]) (va_Qi (fun z e1 => (∃ V1 G1, RP cy a e1 n T S M E r F B V1 G1 Cn) ∧ ((∃ t, t < T ∧ x = nI t ∧ z = nI (fH n S M E r T (T - 1 - t))) ∨ (¬ (∃ t, t < T ∧ x = nI t) ∧ z = -1))) (gB D clP 82 a) (wA 82 a)) 0 0 (wA 82 a) := by
  refine g_met (cc := cX0_bestState) (maxL := 4) (ret := (some .int)) (lv := [(0, .ref (a 0)), (1, .int x)]) (by decide) rfl (Nat.le_of_ble_eq_true rfl) rfl hi (fun k hk => ⟨k, hk, rfl⟩) ?_
  intro p en s m below meth c C hr hlocks
  have hin : ∀ w ∈ u_ws RX0 TX0 11, w ∈ wsX0_bestState := by decide +kernel
  have f_rowLength := C.2.2.2.2.1 (.fieldLink RX0 29 "PathOdds" "rowLength" "I") (by decide +kernel)
  have f_bestFrom := C.2.2.2.2.1 (.fieldLink RX0 43 "PathOdds" "bestFrom" "[[I") (by decide +kernel)
  obtain ⟨h0, hS, h2, h9, hr0, h17, h30, h43, h56, h69, hM, hE, hF, hB, hV, hG, hC⟩ := id h
  refine g_aload_n C dX0_bestState_0 rfl 0 rfl ?_
  refine g_iload_n C dX0_bestState_1 rfl 1 rfl ?_
  refine g_calli (As := [.int x]) (rest := []) C (cwV 1 C.2.2.2.2.1 gX0_bestState_X0_isPlace rfl rfl rfl (by decide +kernel) ⟨Nat.le_of_ble_eq_true rfl, Nat.le_of_ble_eq_true rfl⟩) (c_X0_isPlace l D cy a hi h (by omega) x) (by decide) h0 inl_pos0 rfl rfl (Nat.le_of_ble_eq_true rfl) dX0_bestState_2 ⟨Nat.zero_le _, Nat.zero_le _⟩ (fun z e1 hz => ?_)
  rw [hz.1]
  rcases hz.2 with ⟨rfl, t0, h_t, rfl⟩ | ⟨rfl, hno⟩
  · refine g_if_ne (tgt := 10) C dX0_bestState_5 (by decide) (fun c1 => ?_) (fun c1 => absurd c1 (by decide))
    refine g_aload_n C dX0_bestState_10 rfl 0 rfl ?_
    refine g_callv (As := []) (rest := []) C (cwV 0 C.2.2.2.2.1 gX0_bestState_X0_fillBest rfl rfl rfl (by decide +kernel) ⟨Nat.le_of_ble_eq_true rfl, Nat.le_of_ble_eq_true rfl⟩) (c_X0_fillBest l D cy a hi h hn hT hW hr4) (by decide) h0 inl_pos0 rfl rfl (Nat.le_of_ble_eq_true rfl) dX0_bestState_11 ⟨Nat.zero_le _, Nat.zero_le _⟩ (fun e1 he => ?_)
    obtain ⟨V1, G1, h, hp⟩ := he
    obtain ⟨h0, hS, h2, h9, hr0, h17, h30, h43, h56, h69, hM, hE, hF, hB, hV, hG, hC⟩ := id h
    refine g_aload_n C dX0_bestState_14 rfl 0 rfl ?_
    refine g_calli (As := []) (rest := []) C (cwV 0 C.2.2.2.2.1 gX0_bestState_X0_lastBestState rfl rfl rfl (by decide +kernel) ⟨Nat.le_of_ble_eq_true rfl, Nat.le_of_ble_eq_true rfl⟩) (c_X0_lastBestState l D cy a hi h hn (by omega)) (by decide) h0 inl_pos0 rfl rfl (Nat.le_of_ble_eq_true rfl) dX0_bestState_15 ⟨Nat.zero_le _, Nat.zero_le _⟩ (fun z e2 hz => ?_)
    rw [hz.1]
    obtain ⟨-, hz⟩ := hz
    have hc := am_congr (n := n) (f := fun j => V1 (T - 1) j) (g := fun j => fV n S M E r (T - 1) j) (by omega) (fun i hi1 => (hp (T - 1) i (by omega) hi1).1) n (Nat.le_refl n)
    rw [hc] at hz
    have hz : z = nI (fH n S M E r T 0) := hz
    subst hz
    refine g_istore_n (lv' := [(0, .ref (a 0)), (1, .int (nI t0)), (2, .int (nI (fH n S M E r T 0)))]) C dX0_bestState_18 rfl (by decide) [1, 2, 0] rfl ?_
    refine g_aload_n C dX0_bestState_19 rfl 0 rfl ?_
    refine g_get C 5 hin inl_pos0 (by decide) h0 (by decide) f_rowLength rfl dX0_bestState_20 ?_
    refine g_iconst (v := nI 1) C dX0_bestState_23 (by decide) ?_
    refine g_isub (v := nI (T - 1)) C dX0_bestState_24 (pk_sub (by omega)) ?_
    refine g_istore_n (lv' := [(0, .ref (a 0)), (1, .int (nI t0)), (2, .int (nI (fH n S M E r T 0))), (3, .int (nI (T - 1)))]) C dX0_bestState_25 rfl (by decide) [1, 2, 3, 0] rfl ?_
    have L : ∀ (k : Nat) (d : Nat), d + k = T - 1 - t0 → GW p l en ({ frames := 2, cells := 0, slots := 0, locals := 51 }) s m ([.ref (a 0), .int (nI t0)] : List Value).toArray below meth c 0 0 (MQ below (va_Qi (fun z e1 => (∃ V1 G1, RP cy a e1 n T S M E r F B V1 G1 Cn) ∧ ((∃ t, t < T ∧ nI t0 = nI t ∧ z = nI (fH n S M E r T (T - 1 - t))) ∨ (¬ (∃ t, t < T ∧ nI t0 = nI t) ∧ z = -1))) (gB D clP 82 a) (wA 82 a)) ([.ref (a 0), .int (nI t0)] : List Value).toArray s 0 0 (wA 82 a)) D clP 82 4 a (wA 82 a) e1 26 [(0, .ref (a 0)), (1, .int (nI t0)), (2, .int (nI (fH n S M E r T d))), (3, .int (nI (T - 1 - d)))] [] := by
      intro k
      induction k with
      | zero =>
        intro d hk
        skip
        refine g_iload_n C dX0_bestState_26 rfl 3 rfl ?_
        refine g_iload_n C dX0_bestState_27 rfl 1 rfl ?_
        refine g_icmp_le (tgt := 46) C dX0_bestState_28 (by decide) (fun c1 => ?_) (fun c1 => absurd c1 (fun q => q (nI_le (by omega) (by omega))))
        refine g_iload_n C dX0_bestState_46 rfl 2 rfl ?_
        exact g_iret C hr hlocks (⟨⟨V1, G1, h⟩, Or.inl ⟨t0, h_t, rfl, by rw [show T - 1 - t0 = d by omega]⟩⟩) dX0_bestState_47
      | succ k ih =>
        intro d hk
        skip
        have hl := fH_lt (n := n) (by omega) S M E r T d
        have hg : G1 (T - 1 - d) (fH n S M E r T d) = nI (fH n S M E r T (d + 1)) := (hp (T - 1 - d) _ (by omega) hl).2 (by omega)
        refine g_iload_n C dX0_bestState_26 rfl 3 rfl ?_
        refine g_iload_n C dX0_bestState_27 rfl 1 rfl ?_
        refine g_icmp_le (tgt := 46) C dX0_bestState_28 (by decide) (fun c1 => absurd c1 (nI_ge (by omega) (by omega))) (fun c1 => ?_)
        refine g_aload_n C dX0_bestState_31 rfl 0 rfl ?_
        refine g_get C 9 hin inl_pos0 (by decide) h0 (by decide) f_bestFrom rfl dX0_bestState_32 ?_
        refine g_iload_n C dX0_bestState_35 rfl 3 rfl ?_
        refine g_aald C (by omega) (tyI2 cy) h56 (by omega) (by decide) dX0_bestState_36 ?_
        refine g_iload_n C dX0_bestState_37 rfl 2 rfl ?_
        refine g_iald C (by omega) (hG (T - 1 - d) (by omega)) (by omega) (by decide) dX0_bestState_38 ?_
        rw [hg]
        refine g_istore_n (lv' := [(0, .ref (a 0)), (1, .int (nI t0)), (2, .int (nI (fH n S M E r T (d + 1)))), (3, .int (nI (T - 1 - d)))]) C dX0_bestState_39 rfl (by decide) [1, 2, 0, 3] rfl ?_
        refine g_iinc (v := nI (T - 1 - (d + 1))) (k := 3) (lv' := [(0, .ref (a 0)), (1, .int (nI t0)), (2, .int (nI (fH n S M E r T (d + 1)))), (3, .int (nI (T - 1 - (d + 1))))]) C dX0_bestState_40 rfl (by rw [nI_dec (by omega), show T - 1 - d - 1 = T - 1 - (d + 1) by omega]) (by decide) [1, 2, 3, 0] rfl ?_
        refine g_goto (tgt := 26) C dX0_bestState_43 (by decide) ?_
        exact ih (d + 1) (by omega)
    exact L (T - 1 - t0) 0 (by omega)
  · refine g_if_ne (tgt := 10) C dX0_bestState_5 (by decide) (fun c1 => absurd c1 (fun q => q (by decide))) (fun c1 => ?_)
    refine g_iconst (v := -1) C dX0_bestState_8 (by decide) ?_
    exact g_iret C hr hlocks (⟨⟨V, G, h⟩, Or.inr ⟨hno, rfl⟩⟩) dX0_bestState_9

set_option maxHeartbeats 4000000 in
set_option maxRecDepth 100000 in
theorem c_X0_possible (l : Launch) (D : va_G) (cy : Nat → ClassId) (a : Nat → Nat) (hi : wInj 82 a) {e : Nat → va_E} {n T : Nat} {S : Nat → UInt64} {M E : T2} {r : Nat → Nat} {F B V : T2} {G : Nat → Nat → Int32} {Cn : Nat → Nat → Int64} (h : RP cy a e n T S M E r F B V G Cn) (hn : 1 ≤ n ∧ n ≤ 6) (hT : T ≤ 12) (hr4 : RW4 r) : Met l yX0_possible wsX0_possible ({ frames := 2, cells := 0, slots := 0, locals := 48 }) (gPc D clP cy 82 a e [.ref (a 0)]) (va_Ql (fun z e1 => (∃ C1 : Nat → Nat → Int64, RP cy a e1 n T S M E r F B V G C1) ∧ z = fPos n S M E r T) (gB D clP 82 a) (wA 82 a)) 0 0 (wA 82 a) := by
  refine g_met (cc := cX0_possible) (maxL := 4) (ret := (some .long)) (lv := [(0, .ref (a 0))]) (by decide) rfl (Nat.le_of_ble_eq_true rfl) rfl hi (fun k hk => ⟨k, hk, rfl⟩) ?_
  intro p en s m below meth c C hr hlocks
  have hin : ∀ w ∈ u_ws RX0 TX0 11, w ∈ wsX0_possible := by decide +kernel
  have f_rowLength := C.2.2.2.2.1 (.fieldLink RX0 29 "PathOdds" "rowLength" "I") (by decide +kernel)
  have f_stateCount := C.2.2.2.2.1 (.fieldLink RX0 25 "PathOdds" "stateCount" "I") (by decide +kernel)
  have f_wayCounts := C.2.2.2.2.1 (.fieldLink RX0 48 "PathOdds" "wayCounts" "[[J") (by decide +kernel)
  obtain ⟨h0, hS, h2, h9, hr0, h17, h30, h43, h56, h69, hM, hE, hF, hB, hV, hG, hC⟩ := id h
  refine g_aload_n C dX0_possible_0 rfl 0 rfl ?_
  refine g_get C 5 hin inl_pos0 (by decide) h0 (by decide) f_rowLength rfl dX0_possible_1 ?_
  refine g_if_ne (tgt := 9) C dX0_possible_4 (by decide) (fun c1 => ?_) (fun c1 => ?_)
  · have hT0 : 0 < T := Nat.pos_of_ne_zero (fun q => c1 (by rw [q]; rfl))
    refine g_aload_n C dX0_possible_9 rfl 0 rfl ?_
    refine g_callv (As := []) (rest := []) C (cwV 0 C.2.2.2.2.1 gX0_possible_X0_fillWayCounts rfl rfl rfl (by decide +kernel) ⟨Nat.le_of_ble_eq_true rfl, Nat.le_of_ble_eq_true rfl⟩) (c_X0_fillWayCounts l D cy a hi h hn hT hr4) (by decide) h0 inl_pos0 rfl rfl (Nat.le_of_ble_eq_true rfl) dX0_possible_10 ⟨Nat.zero_le _, Nat.zero_le _⟩ (fun e1 he => ?_)
    obtain ⟨C1, h, hp⟩ := he
    obtain ⟨h0, hS, h2, h9, hr0, h17, h30, h43, h56, h69, hM, hE, hF, hB, hV, hG, hC⟩ := id h
    refine g_lconst (v := 0) C dX0_possible_13 (by decide) ?_
    refine g_lstore_n (lv' := [(0, .ref (a 0)), (1, .long 0)]) C dX0_possible_14 rfl (by decide) [1, 0] rfl ?_
    refine g_iconst (v := nI 0) C dX0_possible_15 (by decide) ?_
    refine g_istore_n (lv' := [(0, .ref (a 0)), (1, .long 0), (3, .int (nI 0))]) C dX0_possible_16 rfl (by decide) [1, 2, 0] rfl ?_
    have L : ∀ (k : Nat) (i : Nat), i + k = n → GW p l en ({ frames := 2, cells := 0, slots := 0, locals := 48 }) s m ([.ref (a 0)] : List Value).toArray below meth c 0 0 (MQ below (va_Ql (fun z e1 => (∃ C1 : Nat → Nat → Int64, RP cy a e1 n T S M E r F B V G C1) ∧ z = fPos n S M E r T) (gB D clP 82 a) (wA 82 a)) ([.ref (a 0)] : List Value).toArray s 0 0 (wA 82 a)) D clP 82 4 a (wA 82 a) e1 17 [(0, .ref (a 0)), (1, .long (lsm (fun j => C1 (T - 1) j) i)), (3, .int (nI i))] [] := by
      intro k
      induction k with
      | zero =>
        intro i hk
        skip
        refine g_iload_n C dX0_possible_17 rfl 2 rfl ?_
        refine g_aload_n C dX0_possible_18 rfl 0 rfl ?_
        refine g_get C 4 hin inl_pos0 (by decide) h0 (by decide) f_stateCount rfl dX0_possible_19 ?_
        refine g_icmp_ge (tgt := 47) C dX0_possible_22 (by decide) (fun c1 => ?_) (fun c1 => absurd c1 (fun q => q (nI_le (by omega) (by omega))))
        refine g_lload_n C dX0_possible_47 rfl 1 rfl ?_
        exact g_lret C hr hlocks (⟨⟨C1, h⟩, by rw [fPos, if_neg (by omega), show i = n from by omega]; exact lsm_congr (fun q hq => hp (T - 1) q (by omega) hq) n (Nat.le_refl n)⟩) dX0_possible_48
      | succ k ih =>
        intro i hk
        skip
        refine g_iload_n C dX0_possible_17 rfl 2 rfl ?_
        refine g_aload_n C dX0_possible_18 rfl 0 rfl ?_
        refine g_get C 4 hin inl_pos0 (by decide) h0 (by decide) f_stateCount rfl dX0_possible_19 ?_
        refine g_icmp_ge (tgt := 47) C dX0_possible_22 (by decide) (fun c1 => absurd c1 (nI_ge (by omega) (by omega))) (fun c1 => ?_)
        refine g_lload_n C dX0_possible_25 rfl 1 rfl ?_
        refine g_aload_n C dX0_possible_26 rfl 0 rfl ?_
        refine g_get C 10 hin inl_pos0 (by decide) h0 (by decide) f_wayCounts rfl dX0_possible_27 ?_
        refine g_aload_n C dX0_possible_30 rfl 0 rfl ?_
        refine g_get C 5 hin inl_pos0 (by decide) h0 (by decide) f_rowLength rfl dX0_possible_31 ?_
        refine g_iconst (v := nI 1) C dX0_possible_34 (by decide) ?_
        refine g_isub (v := nI (T - 1)) C dX0_possible_35 (pk_sub (by omega)) ?_
        refine g_aald C (by omega) (tyL2 cy) h69 (by omega) (by decide) dX0_possible_36 ?_
        refine g_iload_n C dX0_possible_37 rfl 2 rfl ?_
        refine g_lald C (by omega) (hC (T - 1) (by omega)) (by omega) (by decide) dX0_possible_38 ?_
        refine g_ladd C dX0_possible_39 ?_
        refine g_lstore_n (lv' := [(0, .ref (a 0)), (1, .long ((lsm (fun j => C1 (T - 1) j) i) + (C1 (T - 1) i))), (3, .int (nI i))]) C dX0_possible_40 rfl (by decide) [1, 0, 2] rfl ?_
        refine g_iinc (v := nI (i + 1)) (k := 2) (lv' := [(0, .ref (a 0)), (1, .long ((lsm (fun j => C1 (T - 1) j) i) + (C1 (T - 1) i))), (3, .int (nI (i + 1)))]) C dX0_possible_41 rfl (nI_inc i) (by decide) [1, 2, 0] rfl ?_
        refine g_goto (tgt := 17) C dX0_possible_44 (by decide) ?_
        exact ih (i + 1) (by omega)
    exact L n 0 (by omega)
  · refine g_lconst (v := 1) C dX0_possible_7 (by decide) ?_
    exact g_lret C hr hlocks (⟨⟨Cn, h⟩, by rw [fPos, if_pos ((nI_eq (by omega) (by decide)).mp c1)]⟩) dX0_possible_8
end
section
theorem flat_div {w i j : Nat} (h : j < w) : (w * i + j) / w = i := by
  rw [Nat.mul_add_div (by omega), Nat.div_eq_of_lt h]
  rfl
theorem flat_mod {w i j : Nat} (h : j < w) : (w * i + j) % w = j := by
  rw [Nat.mul_add_mod, Nat.mod_eq_of_lt h]
theorem flat_up {M : T2} {w i j n : Nat} {x : UInt64} (hj : j < w) : ∀ k, k < n → va_up (fun k => M (k / w) (k % w)) (w * i + j) x k = (fun k => va_up M i (va_up (M i) j x) (k / w) (k % w)) k := fun k _ => by
  show va_up (fun k => M (k / w) (k % w)) (w * i + j) x k = va_up M i (va_up (M i) j x) (k / w) (k % w)
  by_cases h1 : k = w * i + j
  · subst h1
    rw [va_up_self, flat_div hj, flat_mod hj, va_up_self, va_up_self]
  · rw [va_up_ne _ _ h1]
    show M (k / w) (k % w) = _
    by_cases h2 : k / w = i
    · have h3 : k % w ≠ j := fun h => h1 (by rw [← h2, ← h]; exact (Nat.div_add_mod k w).symm)
      rw [h2, va_up_self, va_up_ne _ _ h3]
    · rw [va_up_ne _ _ h2]
section GC3
variable {p : Program} {l : Launch} {en : Env} {R : Room} {s : State} {m : MethodId} {args : Array Value} {below : List Frame} {meth : Method} {c : Code} {cells slots : Nat} {Q : State → Prop} {D : va_G} {cl : List vw_C} {cy : Nat → ClassId} {N nL : Nat} {a : Nat → Nat} {A : Nat → Prop} {e : Nat → va_E} {cc : ByteArray} {pc : Nat} {lv : List (Nat × Value)} {st : List Value} {Ts : List Cond} {own : String}

theorem g_dald2 (C : Cx p s m args c cc Ts own D cl cy N nL a A) {q0 n w i j : Nat} {M : T2} (hq0 : q0 < N) (he : isD cy (e q0) n (fun k => M (k / w) (k % w))) (hj : j < w) (hi : w * i + j < n) (hn : n < 2 ^ 31) (hdg : decode cc pc = .ok (.daload, 1)) (kk : GW p l en R s m args below meth c cells slots Q D cl N nL a A e (pc + 1) lv (.double (M i j) :: st)) : GW p l en R s m args below meth c cells slots Q D cl N nL a A e (pc) lv (.int (nI (w * i + j)) :: .ref (a q0) :: st) := by
  refine g_dald C hq0 he hi hn hdg ?_
  show GW p l en R s m args below meth c cells slots Q D cl N nL a A e (pc + 1) lv (.double (M ((w * i + j) / w) ((w * i + j) % w)) :: st)
  rw [flat_div hj, flat_mod hj]
  exact kk
theorem g_dast2 (C : Cx p s m args c cc Ts own D cl cy N nL a A) {q0 n w i j : Nat} {M : T2} {x : UInt64} (hq0 : q0 < N) (he : isD cy (e q0) n (fun k => M (k / w) (k % w))) (hj : j < w) (hi : w * i + j < n) (hn : n < 2 ^ 31) (hdg : decode cc pc = .ok (.dastore, 1)) (kk : ∀ y : va_E, isD cy y n (fun k => va_up M i (va_up (M i) j x) (k / w) (k % w)) → GW p l en R s m args below meth c cells slots Q D cl N nL a A (va_up e q0 y) (pc + 1) lv (st)) : GW p l en R s m args below meth c cells slots Q D cl N nL a A e (pc) lv (.double x :: .int (nI (w * i + j)) :: .ref (a q0) :: st) := g_dast C hq0 he hi hn hdg (fun y hy => kk y (hy.to (flat_up hj)))
end GC3
theorem RM_sc {cy : Nat → ClassId} {a : Nat → Nat} {e : Nat → va_E} {n T th : Nat} {S : Nat → UInt64} {M E : T2} {r : Nat → Nat} {nw od nw' od' : Nat → UInt64} {cn bf cn' bf' : Nat → Int64} (h : RM cy a e n T th S M E r nw od cn bf) (h1 : ∀ j, j < 6 → nw j = nw' j) (h2 : ∀ j, j < 6 → od j = od' j) (h3 : ∀ j, j < 6 → cn j = cn' j) (h4 : ∀ j, j < 6 → bf j = bf' j) : RM cy a e n T th S M E r nw' od' cn' bf' := by
  obtain ⟨k0, kS, kM, kE, kr, k5, k6, k7, k8⟩ := h
  exact ⟨k0, kS, kM, kE, kr, k5.to h1, k6.to h2, k7.to h3, k8.to h4⟩
theorem sym_hi {x : Int32} (h : nI 3 < x) : ¬ ∃ j, j < 4 ∧ x = nI j := fun ⟨j, h1, h2⟩ => by
  subst h2
  exact nI_nlt (a := 3) (b := j) (by omega) (by decide) h
theorem sym_in {x : Int32} (h0 : ¬ x < 0) (h : ¬ nI 3 < x) : ∃ j, j < 4 ∧ x = nI j := by
  rcases pk_ix x (n := 4) (by decide) with q | q | q
  · exact absurd q h0
  · refine absurd ?_ h
    rw [Int32.lt_iff_toInt_lt, nI_toInt (by decide)]
    rw [Int32.le_iff_toInt_le, nI_toInt (by decide)] at q
    omega
  · exact q
end
section
set_option maxHeartbeats 4000000 in
set_option maxRecDepth 100000 in
theorem c_X1_thrown (l : Launch) (D : va_G) (cy : Nat → ClassId) (a : Nat → Nat) (hi : wInj 9 a) {e : Nat → va_E} {n T th : Nat} {S : Nat → UInt64} {M E : T2} {r : Nat → Nat} {nw od : Nat → UInt64} {cn bf : Nat → Int64} (h : RM cy a e n T th S M E r nw od cn bf)  : Met l yX1_thrown wsX1_thrown ({ frames := 0, cells := 0, slots := 0, locals := 0 }) (gPc D clP cy 9 a e [.ref (a 0)]) (va_Qi (fun z e1 => e1 = e ∧ z = nI th) (gB D clP 9 a) (wA 9 a)) 0 0 (wA 9 a) := by
  refine g_met (cc := cX1_thrown) (maxL := 1) (ret := (some .int)) (lv := [(0, .ref (a 0))]) (by decide) rfl (Nat.le_of_ble_eq_true rfl) rfl hi (fun k hk => ⟨k, hk, rfl⟩) ?_
  intro p en s m below meth c C hr hlocks
  have hin : ∀ w ∈ u_ws RX1 TX1 11, w ∈ wsX1_thrown := by decide +kernel
  have f_thrown := C.2.2.2.2.1 (.fieldLink RX1 40 "PathOddsModel" "thrown" "I") (by decide +kernel)
  obtain ⟨h0, hS, hM, hE, hr0, hnw, hod, hcn, hbf⟩ := id h
  refine g_aload_n C dX1_thrown_0 rfl 0 rfl ?_
  refine g_get C 2 hin inl_pos1 (by decide) h0 (by decide) f_thrown rfl dX1_thrown_1 ?_
  exact g_iret C hr hlocks (⟨rfl, rfl⟩) dX1_thrown_4

set_option maxHeartbeats 4000000 in
set_option maxRecDepth 100000 in
theorem c_X1_state (l : Launch) (D : va_G) (cy : Nat → ClassId) (a : Nat → Nat) (hi : wInj 9 a) {e : Nat → va_E} {n T th : Nat} {S : Nat → UInt64} {M E : T2} {r : Nat → Nat} {nw od : Nat → UInt64} {cn bf : Nat → Int64} (h : RM cy a e n T th S M E r nw od cn bf) (hb : n ≤ 100) (x : Int32) : Met l yX1_state wsX1_state ({ frames := 0, cells := 0, slots := 0, locals := 0 }) (gPc D clP cy 9 a e [.ref (a 0), .int x]) (va_Qi (fun z e1 => e1 = e ∧ inB n x z) (gB D clP 9 a) (wA 9 a)) 0 0 (wA 9 a) := by
  refine g_met (cc := cX1_state) (maxL := 2) (ret := (some .boolean)) (lv := [(0, .ref (a 0)), (1, .int x)]) (by decide) rfl (Nat.le_of_ble_eq_true rfl) rfl hi (fun k hk => ⟨k, hk, rfl⟩) ?_
  intro p en s m below meth c C hr hlocks
  have hin : ∀ w ∈ u_ws RX1 TX1 11, w ∈ wsX1_state := by decide +kernel
  have f_n := C.2.2.2.2.1 (.fieldLink RX1 36 "PathOddsModel" "n" "I") (by decide +kernel)
  obtain ⟨h0, hS, hM, hE, hr0, hnw, hod, hcn, hbf⟩ := id h
  refine g_iload_n C dX1_state_0 rfl 1 rfl ?_
  refine g_if_lt (tgt := 16) C dX1_state_1 (by decide) (fun c1 => ?_) (fun c1 => ?_)
  · refine g_iconst (v := nI 0) C dX1_state_16 (by decide) ?_
    exact g_zret C hr hlocks (by decide) (⟨rfl, Or.inr ⟨rfl, inB_neg (by omega) c1⟩⟩) dX1_state_17
  · refine g_iload_n C dX1_state_4 rfl 1 rfl ?_
    refine g_aload_n C dX1_state_5 rfl 0 rfl ?_
    refine g_get C 0 hin inl_pos1 (by decide) h0 (by decide) f_n rfl dX1_state_6 ?_
    refine g_icmp_ge (tgt := 16) C dX1_state_9 (by decide) (fun c2 => ?_) (fun c2 => ?_)
    · refine g_iconst (v := nI 0) C dX1_state_16 (by decide) ?_
      exact g_zret C hr hlocks (by decide) (⟨rfl, Or.inr ⟨rfl, inB_big (by omega) c2⟩⟩) dX1_state_17
    · refine g_iconst (v := nI 1) C dX1_state_12 (by decide) ?_
      refine g_goto (tgt := 17) C dX1_state_13 (by decide) ?_
      exact g_zret C hr hlocks (by decide) (⟨rfl, Or.inl ⟨rfl, inB_in (by omega) c1 c2⟩⟩) dX1_state_17

set_option maxHeartbeats 4000000 in
set_option maxRecDepth 100000 in
theorem c_X1_symbol (l : Launch) (D : va_G) (cy : Nat → ClassId) (a : Nat → Nat) (hi : wInj 9 a) {e : Nat → va_E} {n T th : Nat} {S : Nat → UInt64} {M E : T2} {r : Nat → Nat} {nw od : Nat → UInt64} {cn bf : Nat → Int64} (h : RM cy a e n T th S M E r nw od cn bf) (x : Int32) : Met l yX1_symbol wsX1_symbol ({ frames := 0, cells := 0, slots := 0, locals := 0 }) (gPc D clP cy 9 a e [.int x]) (va_Qi (fun z e1 => e1 = e ∧ inB 4 x z) (gB D clP 9 a) (wA 9 a)) 0 0 (wA 9 a) := by
  refine g_met (cc := cX1_symbol) (maxL := 1) (ret := (some .boolean)) (lv := [(0, .int x)]) (by decide) rfl (Nat.le_of_ble_eq_true rfl) rfl hi (fun k hk => ⟨k, hk, rfl⟩) ?_
  intro p en s m below meth c C hr hlocks
  refine g_iload_n C dX1_symbol_0 rfl 0 rfl ?_
  refine g_if_lt (tgt := 13) C dX1_symbol_1 (by decide) (fun c1 => ?_) (fun c1 => ?_)
  · refine g_iconst (v := nI 0) C dX1_symbol_13 (by decide) ?_
    exact g_zret C hr hlocks (by decide) (⟨rfl, Or.inr ⟨rfl, inB_neg (by omega) c1⟩⟩) dX1_symbol_14
  · refine g_iload_n C dX1_symbol_4 rfl 0 rfl ?_
    refine g_iconst (v := nI 3) C dX1_symbol_5 (by decide) ?_
    refine g_icmp_gt (tgt := 13) C dX1_symbol_6 (by decide) (fun c2 => ?_) (fun c2 => ?_)
    · refine g_iconst (v := nI 0) C dX1_symbol_13 (by decide) ?_
      exact g_zret C hr hlocks (by decide) (⟨rfl, Or.inr ⟨rfl, sym_hi c2⟩⟩) dX1_symbol_14
    · refine g_iconst (v := nI 1) C dX1_symbol_9 (by decide) ?_
      refine g_goto (tgt := 14) C dX1_symbol_10 (by decide) ?_
      exact g_zret C hr hlocks (by decide) (⟨rfl, Or.inl ⟨rfl, sym_in c1 c2⟩⟩) dX1_symbol_14

set_option maxHeartbeats 4000000 in
set_option maxRecDepth 100000 in
theorem c_X1_unit (l : Launch) (D : va_G) (cy : Nat → ClassId) (a : Nat → Nat) (hi : wInj 9 a) {e : Nat → va_E} {n T th : Nat} {S : Nat → UInt64} {M E : T2} {r : Nat → Nat} {nw od : Nat → UInt64} {cn bf : Nat → Int64} (h : RM cy a e n T th S M E r nw od cn bf) (x : UInt64) : Met l yX1_unit wsX1_unit ({ frames := 0, cells := 0, slots := 0, locals := 0 }) (gPc D clP cy 9 a e [.double x]) (va_Qi (fun z e1 => e1 = e ∧ okB x z) (gB D clP 9 a) (wA 9 a)) 0 0 (wA 9 a) := by
  refine g_met (cc := cX1_unit) (maxL := 2) (ret := (some .boolean)) (lv := [(0, .double x)]) (by decide) rfl (Nat.le_of_ble_eq_true rfl) rfl hi (fun k hk => ⟨k, hk, rfl⟩) ?_
  intro p en s m below meth c C hr hlocks
  refine g_dload_n C dX1_unit_0 rfl 0 rfl ?_
  refine g_dconst0 C dX1_unit_1 ?_
  refine g_dcmp C dX1_unit_2 ?_
  refine g_if_lt (tgt := 16) C dX1_unit_3 (by decide) (fun c1 => ?_) (fun c1 => ?_)
  · refine g_iconst (v := nI 0) C dX1_unit_16 (by decide) ?_
    exact g_zret C hr hlocks (by decide) (⟨rfl, Or.inr ⟨rfl, fun q => q.1 c1⟩⟩) dX1_unit_17
  · refine g_dload_n C dX1_unit_6 rfl 0 rfl ?_
    refine g_dconst1 C dX1_unit_7 ?_
    refine g_dcmp C dX1_unit_8 ?_
    refine g_if_gt (tgt := 16) C dX1_unit_9 (by decide) (fun c2 => ?_) (fun c2 => ?_)
    · refine g_iconst (v := nI 0) C dX1_unit_16 (by decide) ?_
      exact g_zret C hr hlocks (by decide) (⟨rfl, Or.inr ⟨rfl, fun q => q.2 c2⟩⟩) dX1_unit_17
    · refine g_iconst (v := nI 1) C dX1_unit_12 (by decide) ?_
      refine g_goto (tgt := 17) C dX1_unit_13 (by decide) ?_
      exact g_zret C hr hlocks (by decide) (⟨rfl, Or.inl ⟨rfl, c1, c2⟩⟩) dX1_unit_17

set_option maxHeartbeats 4000000 in
set_option maxRecDepth 100000 in
theorem c_X1_size (l : Launch) (D : va_G) (cy : Nat → ClassId) (a : Nat → Nat) (hi : wInj 9 a) {e : Nat → va_E} {n T th : Nat} {S : Nat → UInt64} {M E : T2} {r : Nat → Nat} {nw od : Nat → UInt64} {cn bf : Nat → Int64} (h : RM cy a e n T th S M E r nw od cn bf)  : Met l yX1_size wsX1_size ({ frames := 0, cells := 0, slots := 0, locals := 0 }) (gPc D clP cy 9 a e [.ref (a 0)]) (va_Qi (fun z e1 => RM cy a e1 n T 0 S M E r nw od cn bf ∧ z = nI n) (gB D clP 9 a) (wA 9 a)) 0 0 (wA 9 a) := by
  refine g_met (cc := cX1_size) (maxL := 1) (ret := (some .int)) (lv := [(0, .ref (a 0))]) (by decide) rfl (Nat.le_of_ble_eq_true rfl) rfl hi (fun k hk => ⟨k, hk, rfl⟩) ?_
  intro p en s m below meth c C hr hlocks
  have hin : ∀ w ∈ u_ws RX1 TX1 11, w ∈ wsX1_size := by decide +kernel
  have f_thrown := C.2.2.2.2.1 (.fieldLink RX1 40 "PathOddsModel" "thrown" "I") (by decide +kernel)
  have f_n := C.2.2.2.2.1 (.fieldLink RX1 36 "PathOddsModel" "n" "I") (by decide +kernel)
  obtain ⟨h0, hS, hM, hE, hr0, hnw, hod, hcn, hbf⟩ := id h
  refine g_aload_n C dX1_size_0 rfl 0 rfl ?_
  refine g_iconst (v := nI 0) C dX1_size_1 (by decide) ?_
  refine g_putE C 2 tyX1 tyX1_ok nmX1 hin inl_pos1 (by decide) h0 (by decide) f_thrown rfl (ty := .int) (by decide +kernel) rfl rfl (Nat.le_of_ble_eq_true rfl) dX1_size_2 (fun e2 he2 => ?_)
  have h : RM cy a e2 n T 0 S M E r nw od cn bf := by rw [he2]; exact RM_obj h rfl
  generalize e2 = e0 at h ⊢
  obtain ⟨h0, hS, hM, hE, hr0, hnw, hod, hcn, hbf⟩ := id h
  refine g_aload_n C dX1_size_5 rfl 0 rfl ?_
  refine g_get C 0 hin inl_pos1 (by decide) h0 (by decide) f_n rfl dX1_size_6 ?_
  exact g_iret C hr hlocks (⟨h, rfl⟩) dX1_size_9

set_option maxHeartbeats 4000000 in
set_option maxRecDepth 100000 in
theorem c_X1_length (l : Launch) (D : va_G) (cy : Nat → ClassId) (a : Nat → Nat) (hi : wInj 9 a) {e : Nat → va_E} {n T th : Nat} {S : Nat → UInt64} {M E : T2} {r : Nat → Nat} {nw od : Nat → UInt64} {cn bf : Nat → Int64} (h : RM cy a e n T th S M E r nw od cn bf)  : Met l yX1_length wsX1_length ({ frames := 0, cells := 0, slots := 0, locals := 0 }) (gPc D clP cy 9 a e [.ref (a 0)]) (va_Qi (fun z e1 => RM cy a e1 n T 0 S M E r nw od cn bf ∧ z = nI T) (gB D clP 9 a) (wA 9 a)) 0 0 (wA 9 a) := by
  refine g_met (cc := cX1_length) (maxL := 1) (ret := (some .int)) (lv := [(0, .ref (a 0))]) (by decide) rfl (Nat.le_of_ble_eq_true rfl) rfl hi (fun k hk => ⟨k, hk, rfl⟩) ?_
  intro p en s m below meth c C hr hlocks
  have hin : ∀ w ∈ u_ws RX1 TX1 11, w ∈ wsX1_length := by decide +kernel
  have f_thrown := C.2.2.2.2.1 (.fieldLink RX1 40 "PathOddsModel" "thrown" "I") (by decide +kernel)
  have f_length := C.2.2.2.2.1 (.fieldLink RX1 43 "PathOddsModel" "length" "I") (by decide +kernel)
  obtain ⟨h0, hS, hM, hE, hr0, hnw, hod, hcn, hbf⟩ := id h
  refine g_aload_n C dX1_length_0 rfl 0 rfl ?_
  refine g_iconst (v := nI 0) C dX1_length_1 (by decide) ?_
  refine g_putE C 2 tyX1 tyX1_ok nmX1 hin inl_pos1 (by decide) h0 (by decide) f_thrown rfl (ty := .int) (by decide +kernel) rfl rfl (Nat.le_of_ble_eq_true rfl) dX1_length_2 (fun e2 he2 => ?_)
  have h : RM cy a e2 n T 0 S M E r nw od cn bf := by rw [he2]; exact RM_obj h rfl
  generalize e2 = e0 at h ⊢
  obtain ⟨h0, hS, hM, hE, hr0, hnw, hod, hcn, hbf⟩ := id h
  refine g_aload_n C dX1_length_5 rfl 0 rfl ?_
  refine g_get C 1 hin inl_pos1 (by decide) h0 (by decide) f_length rfl dX1_length_6 ?_
  exact g_iret C hr hlocks (⟨h, rfl⟩) dX1_length_9

/-- the reference's state, its two flat tables as they lie -/
def RMx (cy : Nat → ClassId) (b : Nat → Nat) (e : Nat → va_E) (n T th : Nat) (S v v2 : Nat → UInt64) (r : Nat → Nat) (nw od : Nat → UInt64) (cn bf : Nat → Int64) : Prop :=
  e 0 = .inr (1, [.int (nI n), .int (nI T), .int (nI th), .ref (b 1), .ref (b 2), .ref (b 3), .ref (b 4), .ref (b 5), .ref (b 6), .ref (b 7), .ref (b 8)]) ∧ isD cy (e 1) 6 S ∧ isD cy (e 2) 36 v ∧ isD cy (e 3) 24 v2 ∧ isI cy (e 4) 12 (fun t => nI (r t)) ∧ isD cy (e 5) 6 nw ∧ isD cy (e 6) 6 od ∧ isL cy (e 7) 6 cn ∧ isL cy (e 8) 6 bf
section RMxs
variable {cy : Nat → ClassId} {a : Nat → Nat} {e : Nat → va_E} {n T th : Nat} {S v v2 : Nat → UInt64} {M E : T2} {r : Nat → Nat} {nw od : Nat → UInt64} {cn bf : Nat → Int64}
theorem RMx_of (h : RM cy a e n T th S M E r nw od cn bf) : RMx cy a e n T th S (fun k => M (k / 6) (k % 6)) (fun k => E (k / 4) (k % 4)) r nw od cn bf := h
theorem RMx_S {x : Nat → UInt64} {y : va_E} (h : RMx cy a e n T th S v v2 r nw od cn bf) (hy : isD cy y 6 x) : RMx cy a (va_up e 1 y) n T th x v v2 r nw od cn bf := by
  obtain ⟨k0, kS, kM, kE, kr, k5, k6, k7, k8⟩ := h
  exact ⟨by rw [up_ne (by omega)]; exact k0, by rw [up_eq]; exact hy, by rw [up_ne (by omega)]; exact kM, by rw [up_ne (by omega)]; exact kE, by rw [up_ne (by omega)]; exact kr, by rw [up_ne (by omega)]; exact k5, by rw [up_ne (by omega)]; exact k6, by rw [up_ne (by omega)]; exact k7, by rw [up_ne (by omega)]; exact k8⟩
theorem RMx_M {x : Nat → UInt64} {y : va_E} (h : RMx cy a e n T th S v v2 r nw od cn bf) (hy : isD cy y 36 x) : RMx cy a (va_up e 2 y) n T th S x v2 r nw od cn bf := by
  obtain ⟨k0, kS, kM, kE, kr, k5, k6, k7, k8⟩ := h
  exact ⟨by rw [up_ne (by omega)]; exact k0, by rw [up_ne (by omega)]; exact kS, by rw [up_eq]; exact hy, by rw [up_ne (by omega)]; exact kE, by rw [up_ne (by omega)]; exact kr, by rw [up_ne (by omega)]; exact k5, by rw [up_ne (by omega)]; exact k6, by rw [up_ne (by omega)]; exact k7, by rw [up_ne (by omega)]; exact k8⟩
theorem RMx_E {x : Nat → UInt64} {y : va_E} (h : RMx cy a e n T th S v v2 r nw od cn bf) (hy : isD cy y 24 x) : RMx cy a (va_up e 3 y) n T th S v x r nw od cn bf := by
  obtain ⟨k0, kS, kM, kE, kr, k5, k6, k7, k8⟩ := h
  exact ⟨by rw [up_ne (by omega)]; exact k0, by rw [up_ne (by omega)]; exact kS, by rw [up_ne (by omega)]; exact kM, by rw [up_eq]; exact hy, by rw [up_ne (by omega)]; exact kr, by rw [up_ne (by omega)]; exact k5, by rw [up_ne (by omega)]; exact k6, by rw [up_ne (by omega)]; exact k7, by rw [up_ne (by omega)]; exact k8⟩
theorem RMx_to (h : RMx cy a e n T th S v v2 r nw od cn bf) (hz : ∀ q, q < 36 → v q = FP.dconst0) : RMx cy a e n T th S (fun k => z2 (k / 6) (k % 6)) v2 r nw od cn bf := by
  obtain ⟨k0, kS, kM, kE, kr, k5, k6, k7, k8⟩ := h
  exact ⟨k0, kS, kM.to hz, kE, kr, k5, k6, k7, k8⟩
theorem RM_E0 (h : RMx cy a e n T th S (fun k => M (k / 6) (k % 6)) v2 r nw od cn bf) (hz : ∀ q, q < 24 → v2 q = FP.dconst0) : RM cy a e n T th S M z2 r nw od cn bf := by
  obtain ⟨k0, kS, kM, kE, kr, k5, k6, k7, k8⟩ := h
  exact ⟨k0, kS, kM, kE.to hz, kr, k5, k6, k7, k8⟩
end RMxs

set_option maxHeartbeats 4000000 in
set_option maxRecDepth 100000 in
theorem c_X1_states (l : Launch) (D : va_G) (cy : Nat → ClassId) (a : Nat → Nat) (hi : wInj 9 a) {e : Nat → va_E} {n T th : Nat} {S : Nat → UInt64} {M E : T2} {r : Nat → Nat} {nw od : Nat → UInt64} {cn bf : Nat → Int64} (h : RM cy a e n T th S M E r nw od cn bf) (x : Int32) : Met l yX1_states wsX1_states ({ frames := 0, cells := 0, slots := 0, locals := 0 }) (gPc D clP cy 9 a e [.ref (a 0), .int x]) (va_Qi (fun z e1 => (z = nI 1 ∧ ∃ k, 1 ≤ k ∧ k ≤ 6 ∧ x = nI k ∧ RM cy a e1 k 0 0 z1 z2 z2 r nw od cn bf) ∨ (z = nI 0 ∧ (¬ ∃ k, 1 ≤ k ∧ k ≤ 6 ∧ x = nI k) ∧ RM cy a e1 n T 0 S M E r nw od cn bf)) (gB D clP 9 a) (wA 9 a)) 0 0 (wA 9 a) := by
  refine g_met (cc := cX1_states) (maxL := 3) (ret := (some .boolean)) (lv := [(0, .ref (a 0)), (1, .int x)]) (by decide) rfl (Nat.le_of_ble_eq_true rfl) rfl hi (fun k hk => ⟨k, hk, rfl⟩) ?_
  intro p en s m below meth c C hr hlocks
  have hin : ∀ w ∈ u_ws RX1 TX1 11, w ∈ wsX1_states := by decide +kernel
  have f_thrown := C.2.2.2.2.1 (.fieldLink RX1 40 "PathOddsModel" "thrown" "I") (by decide +kernel)
  have f_n := C.2.2.2.2.1 (.fieldLink RX1 36 "PathOddsModel" "n" "I") (by decide +kernel)
  have f_length := C.2.2.2.2.1 (.fieldLink RX1 43 "PathOddsModel" "length" "I") (by decide +kernel)
  have f_starts := C.2.2.2.2.1 (.fieldLink RX1 7 "PathOddsModel" "starts" "[D") (by decide +kernel)
  have f_moves := C.2.2.2.2.1 (.fieldLink RX1 13 "PathOddsModel" "moves" "[D") (by decide +kernel)
  have f_shows := C.2.2.2.2.1 (.fieldLink RX1 16 "PathOddsModel" "shows" "[D") (by decide +kernel)
  obtain ⟨h0, hS, hM, hE, hr0, hnw, hod, hcn, hbf⟩ := id h
  refine g_aload_n C dX1_states_0 rfl 0 rfl ?_
  refine g_iconst (v := nI 0) C dX1_states_1 (by decide) ?_
  refine g_putE C 2 tyX1 tyX1_ok nmX1 hin inl_pos1 (by decide) h0 (by decide) f_thrown rfl (ty := .int) (by decide +kernel) rfl rfl (Nat.le_of_ble_eq_true rfl) dX1_states_2 (fun e2 he2 => ?_)
  have h : RM cy a e2 n T 0 S M E r nw od cn bf := by rw [he2]; exact RM_obj h rfl
  generalize e2 = e0 at h ⊢
  obtain ⟨h0, hS, hM, hE, hr0, hnw, hod, hcn, hbf⟩ := id h
  refine g_iload_n C dX1_states_5 rfl 1 rfl ?_
  refine g_iconst (v := nI 1) C dX1_states_6 (by decide) ?_
  refine g_icmp_lt (tgt := 16) C dX1_states_7 (by decide) (fun c1 => ?_) (fun c1 => ?_)
  · refine g_iconst (v := nI 0) C dX1_states_16 (by decide) ?_
    exact g_zret C hr hlocks (by decide) (Or.inr ⟨rfl, rng16_lo c1, h⟩) dX1_states_17
  · refine g_iload_n C dX1_states_10 rfl 1 rfl ?_
    refine g_bipush (v := nI 6) C dX1_states_11 (by decide) ?_
    refine g_icmp_le (tgt := 18) C dX1_states_13 (by decide) (fun c2 => ?_) (fun c2 => ?_)
    · obtain ⟨k0, hk1, hk6, rfl⟩ := rng16 c1 c2
      refine g_aload_n C dX1_states_18 rfl 0 rfl ?_
      refine g_iload_n C dX1_states_19 rfl 1 rfl ?_
      refine g_putE C 0 tyX1 tyX1_ok nmX1 hin inl_pos1 (by decide) h0 (by decide) f_n rfl (ty := .int) (by decide +kernel) rfl rfl (Nat.le_of_ble_eq_true rfl) dX1_states_20 (fun e2 he2 => ?_)
      have h : RM cy a e2 k0 T 0 S M E r nw od cn bf := by rw [he2]; exact RM_obj h rfl
      obtain ⟨h0, hS, hM, hE, hr0, hnw, hod, hcn, hbf⟩ := id h
      refine g_aload_n C dX1_states_23 rfl 0 rfl ?_
      refine g_iconst (v := nI 0) C dX1_states_24 (by decide) ?_
      refine g_putE C 1 tyX1 tyX1_ok nmX1 hin inl_pos1 (by decide) h0 (by decide) f_length rfl (ty := .int) (by decide +kernel) rfl rfl (Nat.le_of_ble_eq_true rfl) dX1_states_25 (fun e2 he2 => ?_)
      have h : RM cy a e2 k0 0 0 S M E r nw od cn bf := by rw [he2]; exact RM_obj h rfl
      generalize e2 = e at h ⊢
      obtain ⟨h0, hS, hM, hE, hr0, hnw, hod, hcn, hbf⟩ := id h
      have L3 : ∀ (k : Nat) (j : Nat) (e : Nat → va_E) (S5 : Nat → UInt64) (M5 : T2) (v : Nat → UInt64), j + k = 24 → RMx cy a e k0 0 0 S5 (fun k => M5 (k / 6) (k % 6)) v r nw od cn bf → (∀ q, q < 6 → S5 q = FP.dconst0) → (∀ q u, q < 6 → u < 6 → M5 q u = FP.dconst0) → (∀ q, q < j → v q = FP.dconst0) → GW p l en ({ frames := 0, cells := 0, slots := 0, locals := 0 }) s m ([.ref (a 0), .int (nI k0)] : List Value).toArray below meth c 0 0 (MQ below (va_Qi (fun z e1 => (z = nI 1 ∧ ∃ k, 1 ≤ k ∧ k ≤ 6 ∧ nI k0 = nI k ∧ RM cy a e1 k 0 0 z1 z2 z2 r nw od cn bf) ∨ (z = nI 0 ∧ (¬ ∃ k, 1 ≤ k ∧ k ≤ 6 ∧ nI k0 = nI k) ∧ RM cy a e1 n T 0 S M E r nw od cn bf)) (gB D clP 9 a) (wA 9 a)) ([.ref (a 0), .int (nI k0)] : List Value).toArray s 0 0 (wA 9 a)) D clP 9 3 a (wA 9 a) e 72 [(0, .ref (a 0)), (1, .int (nI k0)), (2, .int (nI j))] [] := by
        intro k
        induction k with
        | zero =>
          intro j e S5 M5 v hk h hS0 hM0 hz
          obtain ⟨h0, hS, hM, hE, hr0, hnw, hod, hcn, hbf⟩ := id h
          refine g_iload_n C dX1_states_72 rfl 2 rfl ?_
          refine g_bipush (v := nI 24) C dX1_states_73 (by decide) ?_
          refine g_icmp_ge (tgt := 91) C dX1_states_75 (by decide) (fun c1 => ?_) (fun c1 => absurd c1 (fun q => q (nI_le (by omega) (by omega))))
          refine g_iconst (v := nI 1) C dX1_states_91 (by decide) ?_
          exact g_zret C hr hlocks (by decide) (Or.inl ⟨rfl, k0, hk1, hk6, rfl, RM_to (RM_E0 h (fun q hq => hz q (by omega))) (fun q hq => hS0 q hq) (fun q u hq hu => hM0 q u hq hu) (fun _ _ _ _ => rfl)⟩) dX1_states_92
        | succ k ih =>
          intro j e S5 M5 v hk h hS0 hM0 hz
          obtain ⟨h0, hS, hM, hE, hr0, hnw, hod, hcn, hbf⟩ := id h
          refine g_iload_n C dX1_states_72 rfl 2 rfl ?_
          refine g_bipush (v := nI 24) C dX1_states_73 (by decide) ?_
          refine g_icmp_ge (tgt := 91) C dX1_states_75 (by decide) (fun c1 => absurd c1 (nI_ge (by omega) (by decide))) (fun c1 => ?_)
          refine g_aload_n C dX1_states_78 rfl 0 rfl ?_
          refine g_get C 5 hin inl_pos1 (by decide) h0 (by decide) f_shows rfl dX1_states_79 ?_
          refine g_iload_n C dX1_states_82 rfl 2 rfl ?_
          refine g_dconst0 C dX1_states_83 ?_
          refine g_dast C (by omega) hE (by omega) (by decide) dX1_states_84 (fun y hy => ?_)
          have h := RMx_E h hy
          generalize va_up e 3 y = e at h ⊢
          refine g_iinc (v := nI (j + 1)) (k := 2) (lv' := [(0, .ref (a 0)), (1, .int (nI k0)), (2, .int (nI (j + 1)))]) C dX1_states_85 rfl (nI_inc j) (by decide) [1, 2, 0] rfl ?_
          refine g_goto (tgt := 72) C dX1_states_88 (by decide) ?_
          exact ih (j + 1) e S5 M5 _ (by omega) h hS0 hM0 (fun q hq => by
            by_cases hqj : q = j
            · subst hqj; exact va_up_self _ _ _
            · rw [va_up_ne _ _ hqj]; exact hz q (by omega))
      have L2 : ∀ (k : Nat) (j : Nat) (e : Nat → va_E) (S5 v v2 : Nat → UInt64), j + k = 36 → RMx cy a e k0 0 0 S5 v v2 r nw od cn bf → (∀ q, q < 6 → S5 q = FP.dconst0) → (∀ q, q < j → v q = FP.dconst0) → GW p l en ({ frames := 0, cells := 0, slots := 0, locals := 0 }) s m ([.ref (a 0), .int (nI k0)] : List Value).toArray below meth c 0 0 (MQ below (va_Qi (fun z e1 => (z = nI 1 ∧ ∃ k, 1 ≤ k ∧ k ≤ 6 ∧ nI k0 = nI k ∧ RM cy a e1 k 0 0 z1 z2 z2 r nw od cn bf) ∨ (z = nI 0 ∧ (¬ ∃ k, 1 ≤ k ∧ k ≤ 6 ∧ nI k0 = nI k) ∧ RM cy a e1 n T 0 S M E r nw od cn bf)) (gB D clP 9 a) (wA 9 a)) ([.ref (a 0), .int (nI k0)] : List Value).toArray s 0 0 (wA 9 a)) D clP 9 3 a (wA 9 a) e 51 [(0, .ref (a 0)), (1, .int (nI k0)), (2, .int (nI j))] [] := by
        intro k
        induction k with
        | zero =>
          intro j e S5 v v2 hk h hS0 hz
          obtain ⟨h0, hS, hM, hE, hr0, hnw, hod, hcn, hbf⟩ := id h
          refine g_iload_n C dX1_states_51 rfl 2 rfl ?_
          refine g_bipush (v := nI 36) C dX1_states_52 (by decide) ?_
          refine g_icmp_ge (tgt := 70) C dX1_states_54 (by decide) (fun c1 => ?_) (fun c1 => absurd c1 (fun q => q (nI_le (by omega) (by omega))))
          refine g_iconst (v := nI 0) C dX1_states_70 (by decide) ?_
          refine g_istore_n (lv' := [(0, .ref (a 0)), (1, .int (nI k0)), (2, .int (nI 0))]) C dX1_states_71 rfl (by decide) [1, 2, 0] rfl ?_
          exact L3 24 0 e S5 z2 v2 (by omega) (RMx_to h (fun q hq => hz q (by omega))) hS0 (fun _ _ _ _ => rfl) (fun q hq => absurd hq (by omega))
        | succ k ih =>
          intro j e S5 v v2 hk h hS0 hz
          obtain ⟨h0, hS, hM, hE, hr0, hnw, hod, hcn, hbf⟩ := id h
          refine g_iload_n C dX1_states_51 rfl 2 rfl ?_
          refine g_bipush (v := nI 36) C dX1_states_52 (by decide) ?_
          refine g_icmp_ge (tgt := 70) C dX1_states_54 (by decide) (fun c1 => absurd c1 (nI_ge (by omega) (by decide))) (fun c1 => ?_)
          refine g_aload_n C dX1_states_57 rfl 0 rfl ?_
          refine g_get C 4 hin inl_pos1 (by decide) h0 (by decide) f_moves rfl dX1_states_58 ?_
          refine g_iload_n C dX1_states_61 rfl 2 rfl ?_
          refine g_dconst0 C dX1_states_62 ?_
          refine g_dast C (by omega) hM (by omega) (by decide) dX1_states_63 (fun y hy => ?_)
          have h := RMx_M h hy
          generalize va_up e 2 y = e at h ⊢
          refine g_iinc (v := nI (j + 1)) (k := 2) (lv' := [(0, .ref (a 0)), (1, .int (nI k0)), (2, .int (nI (j + 1)))]) C dX1_states_64 rfl (nI_inc j) (by decide) [1, 2, 0] rfl ?_
          refine g_goto (tgt := 51) C dX1_states_67 (by decide) ?_
          exact ih (j + 1) e S5 _ v2 (by omega) h hS0 (fun q hq => by
            by_cases hqj : q = j
            · subst hqj; exact va_up_self _ _ _
            · rw [va_up_ne _ _ hqj]; exact hz q (by omega))
      have L1 : ∀ (k : Nat) (j : Nat) (e : Nat → va_E) (S5 v v2 : Nat → UInt64), j + k = 6 → RMx cy a e k0 0 0 S5 v v2 r nw od cn bf → (∀ q, q < j → S5 q = FP.dconst0) → GW p l en ({ frames := 0, cells := 0, slots := 0, locals := 0 }) s m ([.ref (a 0), .int (nI k0)] : List Value).toArray below meth c 0 0 (MQ below (va_Qi (fun z e1 => (z = nI 1 ∧ ∃ k, 1 ≤ k ∧ k ≤ 6 ∧ nI k0 = nI k ∧ RM cy a e1 k 0 0 z1 z2 z2 r nw od cn bf) ∨ (z = nI 0 ∧ (¬ ∃ k, 1 ≤ k ∧ k ≤ 6 ∧ nI k0 = nI k) ∧ RM cy a e1 n T 0 S M E r nw od cn bf)) (gB D clP 9 a) (wA 9 a)) ([.ref (a 0), .int (nI k0)] : List Value).toArray s 0 0 (wA 9 a)) D clP 9 3 a (wA 9 a) e 30 [(0, .ref (a 0)), (1, .int (nI k0)), (2, .int (nI j))] [] := by
        intro k
        induction k with
        | zero =>
          intro j e S5 v v2 hk h hz
          obtain ⟨h0, hS, hM, hE, hr0, hnw, hod, hcn, hbf⟩ := id h
          refine g_iload_n C dX1_states_30 rfl 2 rfl ?_
          refine g_bipush (v := nI 6) C dX1_states_31 (by decide) ?_
          refine g_icmp_ge (tgt := 49) C dX1_states_33 (by decide) (fun c1 => ?_) (fun c1 => absurd c1 (fun q => q (nI_le (by omega) (by omega))))
          refine g_iconst (v := nI 0) C dX1_states_49 (by decide) ?_
          refine g_istore_n (lv' := [(0, .ref (a 0)), (1, .int (nI k0)), (2, .int (nI 0))]) C dX1_states_50 rfl (by decide) [1, 2, 0] rfl ?_
          exact L2 36 0 e S5 v v2 (by omega) h (fun q hq => hz q (by omega)) (fun q hq => absurd hq (by omega))
        | succ k ih =>
          intro j e S5 v v2 hk h hz
          obtain ⟨h0, hS, hM, hE, hr0, hnw, hod, hcn, hbf⟩ := id h
          refine g_iload_n C dX1_states_30 rfl 2 rfl ?_
          refine g_bipush (v := nI 6) C dX1_states_31 (by decide) ?_
          refine g_icmp_ge (tgt := 49) C dX1_states_33 (by decide) (fun c1 => absurd c1 (nI_ge (by omega) (by decide))) (fun c1 => ?_)
          refine g_aload_n C dX1_states_36 rfl 0 rfl ?_
          refine g_get C 3 hin inl_pos1 (by decide) h0 (by decide) f_starts rfl dX1_states_37 ?_
          refine g_iload_n C dX1_states_40 rfl 2 rfl ?_
          refine g_dconst0 C dX1_states_41 ?_
          refine g_dast C (by omega) hS (by omega) (by decide) dX1_states_42 (fun y hy => ?_)
          have h := RMx_S h hy
          generalize va_up e 1 y = e at h ⊢
          refine g_iinc (v := nI (j + 1)) (k := 2) (lv' := [(0, .ref (a 0)), (1, .int (nI k0)), (2, .int (nI (j + 1)))]) C dX1_states_43 rfl (nI_inc j) (by decide) [1, 2, 0] rfl ?_
          refine g_goto (tgt := 30) C dX1_states_46 (by decide) ?_
          exact ih (j + 1) e _ v v2 (by omega) h (fun q hq => by
            by_cases hqj : q = j
            · subst hqj; exact va_up_self _ _ _
            · rw [va_up_ne _ _ hqj]; exact hz q (by omega))
      refine g_iconst (v := nI 0) C dX1_states_28 (by decide) ?_
      refine g_istore_n (lv' := [(0, .ref (a 0)), (1, .int (nI k0)), (2, .int (nI 0))]) C dX1_states_29 rfl (by decide) [1, 2, 0] rfl ?_
      exact L1 6 0 e S _ _ (by omega) (RMx_of h) (fun q hq => absurd hq (by omega))
    · refine g_iconst (v := nI 0) C dX1_states_16 (by decide) ?_
      exact g_zret C hr hlocks (by decide) (Or.inr ⟨rfl, rng16_hi c2, h⟩) dX1_states_17

set_option maxHeartbeats 4000000 in
set_option maxRecDepth 100000 in
theorem c_X1_start (l : Launch) (D : va_G) (cy : Nat → ClassId) (a : Nat → Nat) (hi : wInj 9 a) {e : Nat → va_E} {n T th : Nat} {S : Nat → UInt64} {M E : T2} {r : Nat → Nat} {nw od : Nat → UInt64} {cn bf : Nat → Int64} (h : RM cy a e n T th S M E r nw od cn bf) (hb : n ≤ 6) (x : Int32) (w : UInt64) : Met l yX1_start wsX1_start ({ frames := 1, cells := 0, slots := 0, locals := 21 }) (gPc D clP cy 9 a e [.ref (a 0), .int x, .double w]) (va_Qi (fun z e1 => (z = nI 1 ∧ ∃ i, i < n ∧ x = nI i ∧ okW w ∧ RM cy a e1 n T 0 (va_up S i w) M E r nw od cn bf) ∨ (z = nI 0 ∧ ¬ ((∃ i, i < n ∧ x = nI i) ∧ okW w) ∧ RM cy a e1 n T 0 S M E r nw od cn bf)) (gB D clP 9 a) (wA 9 a)) 0 0 (wA 9 a) := by
  refine g_met (cc := cX1_start) (maxL := 4) (ret := (some .boolean)) (lv := [(0, .ref (a 0)), (1, .int x), (2, .double w)]) (by decide) rfl (Nat.le_of_ble_eq_true rfl) rfl hi (fun k hk => ⟨k, hk, rfl⟩) ?_
  intro p en s m below meth c C hr hlocks
  have hin : ∀ w ∈ u_ws RX1 TX1 11, w ∈ wsX1_start := by decide +kernel
  have f_thrown := C.2.2.2.2.1 (.fieldLink RX1 40 "PathOddsModel" "thrown" "I") (by decide +kernel)
  have f_starts := C.2.2.2.2.1 (.fieldLink RX1 7 "PathOddsModel" "starts" "[D") (by decide +kernel)
  obtain ⟨h0, hS, hM, hE, hr0, hnw, hod, hcn, hbf⟩ := id h
  refine g_aload_n C dX1_start_0 rfl 0 rfl ?_
  refine g_iconst (v := nI 0) C dX1_start_1 (by decide) ?_
  refine g_putE C 2 tyX1 tyX1_ok nmX1 hin inl_pos1 (by decide) h0 (by decide) f_thrown rfl (ty := .int) (by decide +kernel) rfl rfl (Nat.le_of_ble_eq_true rfl) dX1_start_2 (fun e2 he2 => ?_)
  have h : RM cy a e2 n T 0 S M E r nw od cn bf := by rw [he2]; exact RM_obj h rfl
  generalize e2 = e0 at h ⊢
  obtain ⟨h0, hS, hM, hE, hr0, hnw, hod, hcn, hbf⟩ := id h
  refine g_aload_n C dX1_start_5 rfl 0 rfl ?_
  refine g_iload_n C dX1_start_6 rfl 1 rfl ?_
  refine g_calli (As := [.int x]) (rest := []) C (cwV 1 C.2.2.2.2.1 gX1_start_X1_state rfl rfl rfl (by decide +kernel) ⟨Nat.le_of_ble_eq_true rfl, Nat.le_of_ble_eq_true rfl⟩) (c_X1_state l D cy a hi h (by omega) x) (by decide) h0 inl_pos1 rfl rfl (Nat.le_of_ble_eq_true rfl) dX1_start_7 ⟨Nat.zero_le _, Nat.zero_le _⟩ (fun z e1 hz => ?_)
  rw [hz.1]
  rcases hz.2 with ⟨rfl, i, h_i, rfl⟩ | ⟨rfl, hno⟩
  · refine g_if_eq (tgt := 20) C dX1_start_10 (by decide) (fun c1 => absurd c1 (by decide)) (fun c1 => ?_)
    refine g_dload_n C dX1_start_13 rfl 2 rfl ?_
    refine g_callSz (As := [.double w]) (rest := []) C (va_cwS 1 C.2.2.2.2.1 gX1_start_X1_unit rfl rfl rfl (by decide +kernel) ⟨Nat.le_of_ble_eq_true rfl, Nat.le_of_ble_eq_true rfl⟩) (c_X1_unit l D cy a hi h w) rfl rfl (Nat.le_of_ble_eq_true rfl) dX1_start_14 ⟨Nat.zero_le _, Nat.zero_le _⟩ (fun z e1 hz => ?_)
    rw [hz.1]
    rcases hz.2 with ⟨rfl, hok⟩ | ⟨rfl, hno⟩
    · refine g_if_ne (tgt := 22) C dX1_start_17 (by decide) (fun c1 => ?_) (fun c1 => absurd c1 (by decide))
      refine g_aload_n C dX1_start_22 rfl 0 rfl ?_
      refine g_get C 3 hin inl_pos1 (by decide) h0 (by decide) f_starts rfl dX1_start_23 ?_
      refine g_iload_n C dX1_start_26 rfl 1 rfl ?_
      refine g_dload_n C dX1_start_27 rfl 2 rfl ?_
      refine g_dast C (by omega) hS (by omega) (by decide) dX1_start_28 (fun y hy => ?_)
      have h2 := RM_S h hy
      generalize va_up e0 1 y = e2 at h2 ⊢
      refine g_iconst (v := nI 1) C dX1_start_29 (by decide) ?_
      exact g_zret C hr hlocks (by decide) (Or.inl ⟨rfl, i, h_i, rfl, hok, h2⟩) dX1_start_30
    · refine g_if_ne (tgt := 22) C dX1_start_17 (by decide) (fun c1 => absurd c1 (fun q => q (by decide))) (fun c1 => ?_)
      refine g_iconst (v := nI 0) C dX1_start_20 (by decide) ?_
      exact g_zret C hr hlocks (by decide) (Or.inr ⟨rfl, fun q => hno q.2, h⟩) dX1_start_21
  · refine g_if_eq (tgt := 20) C dX1_start_10 (by decide) (fun c1 => ?_) (fun c1 => absurd c1 (fun q => q (by decide)))
    refine g_iconst (v := nI 0) C dX1_start_20 (by decide) ?_
    exact g_zret C hr hlocks (by decide) (Or.inr ⟨rfl, fun q => hno q.1, h⟩) dX1_start_21

set_option maxHeartbeats 4000000 in
set_option maxRecDepth 100000 in
theorem c_X1_move (l : Launch) (D : va_G) (cy : Nat → ClassId) (a : Nat → Nat) (hi : wInj 9 a) {e : Nat → va_E} {n T th : Nat} {S : Nat → UInt64} {M E : T2} {r : Nat → Nat} {nw od : Nat → UInt64} {cn bf : Nat → Int64} (h : RM cy a e n T th S M E r nw od cn bf) (hb : n ≤ 6) (x x2 : Int32) (w : UInt64) : Met l yX1_move wsX1_move ({ frames := 1, cells := 0, slots := 0, locals := 21 }) (gPc D clP cy 9 a e [.ref (a 0), .int x, .int x2, .double w]) (va_Qi (fun z e1 => (z = nI 1 ∧ ∃ i j, i < n ∧ j < n ∧ x = nI i ∧ x2 = nI j ∧ okW w ∧ RM cy a e1 n T 0 S (va_up M i (va_up (M i) j w)) E r nw od cn bf) ∨ (z = nI 0 ∧ ¬ ((∃ i, i < n ∧ x = nI i) ∧ (∃ j, j < n ∧ x2 = nI j) ∧ okW w) ∧ RM cy a e1 n T 0 S M E r nw od cn bf)) (gB D clP 9 a) (wA 9 a)) 0 0 (wA 9 a) := by
  refine g_met (cc := cX1_move) (maxL := 5) (ret := (some .boolean)) (lv := [(0, .ref (a 0)), (1, .int x), (2, .int x2), (3, .double w)]) (by decide) rfl (Nat.le_of_ble_eq_true rfl) rfl hi (fun k hk => ⟨k, hk, rfl⟩) ?_
  intro p en s m below meth c C hr hlocks
  have hin : ∀ w ∈ u_ws RX1 TX1 11, w ∈ wsX1_move := by decide +kernel
  have f_thrown := C.2.2.2.2.1 (.fieldLink RX1 40 "PathOddsModel" "thrown" "I") (by decide +kernel)
  have f_moves := C.2.2.2.2.1 (.fieldLink RX1 13 "PathOddsModel" "moves" "[D") (by decide +kernel)
  obtain ⟨h0, hS, hM, hE, hr0, hnw, hod, hcn, hbf⟩ := id h
  refine g_aload_n C dX1_move_0 rfl 0 rfl ?_
  refine g_iconst (v := nI 0) C dX1_move_1 (by decide) ?_
  refine g_putE C 2 tyX1 tyX1_ok nmX1 hin inl_pos1 (by decide) h0 (by decide) f_thrown rfl (ty := .int) (by decide +kernel) rfl rfl (Nat.le_of_ble_eq_true rfl) dX1_move_2 (fun e2 he2 => ?_)
  have h : RM cy a e2 n T 0 S M E r nw od cn bf := by rw [he2]; exact RM_obj h rfl
  generalize e2 = e0 at h ⊢
  obtain ⟨h0, hS, hM, hE, hr0, hnw, hod, hcn, hbf⟩ := id h
  refine g_aload_n C dX1_move_5 rfl 0 rfl ?_
  refine g_iload_n C dX1_move_6 rfl 1 rfl ?_
  refine g_calli (As := [.int x]) (rest := []) C (cwV 1 C.2.2.2.2.1 gX1_move_X1_state rfl rfl rfl (by decide +kernel) ⟨Nat.le_of_ble_eq_true rfl, Nat.le_of_ble_eq_true rfl⟩) (c_X1_state l D cy a hi h (by omega) x) (by decide) h0 inl_pos1 rfl rfl (Nat.le_of_ble_eq_true rfl) dX1_move_7 ⟨Nat.zero_le _, Nat.zero_le _⟩ (fun z e1 hz => ?_)
  rw [hz.1]
  rcases hz.2 with ⟨rfl, i, h_i, rfl⟩ | ⟨rfl, hno⟩
  · refine g_if_eq (tgt := 28) C dX1_move_10 (by decide) (fun c1 => absurd c1 (by decide)) (fun c1 => ?_)
    refine g_aload_n C dX1_move_13 rfl 0 rfl ?_
    refine g_iload_n C dX1_move_14 rfl 2 rfl ?_
    refine g_calli (As := [.int x2]) (rest := []) C (cwV 1 C.2.2.2.2.1 gX1_move_X1_state rfl rfl rfl (by decide +kernel) ⟨Nat.le_of_ble_eq_true rfl, Nat.le_of_ble_eq_true rfl⟩) (c_X1_state l D cy a hi h (by omega) x2) (by decide) h0 inl_pos1 rfl rfl (Nat.le_of_ble_eq_true rfl) dX1_move_15 ⟨Nat.zero_le _, Nat.zero_le _⟩ (fun z e1 hz => ?_)
    rw [hz.1]
    rcases hz.2 with ⟨rfl, j, h_j, rfl⟩ | ⟨rfl, hno⟩
    · refine g_if_eq (tgt := 28) C dX1_move_18 (by decide) (fun c1 => absurd c1 (by decide)) (fun c1 => ?_)
      refine g_dload_n C dX1_move_21 rfl 3 rfl ?_
      refine g_callSz (As := [.double w]) (rest := []) C (va_cwS 1 C.2.2.2.2.1 gX1_move_X1_unit rfl rfl rfl (by decide +kernel) ⟨Nat.le_of_ble_eq_true rfl, Nat.le_of_ble_eq_true rfl⟩) (c_X1_unit l D cy a hi h w) rfl rfl (Nat.le_of_ble_eq_true rfl) dX1_move_22 ⟨Nat.zero_le _, Nat.zero_le _⟩ (fun z e1 hz => ?_)
      rw [hz.1]
      rcases hz.2 with ⟨rfl, hok⟩ | ⟨rfl, hno⟩
      · refine g_if_ne (tgt := 30) C dX1_move_25 (by decide) (fun c1 => ?_) (fun c1 => absurd c1 (by decide))
        refine g_aload_n C dX1_move_30 rfl 0 rfl ?_
        refine g_get C 4 hin inl_pos1 (by decide) h0 (by decide) f_moves rfl dX1_move_31 ?_
        refine g_bipush (v := nI 6) C dX1_move_34 (by decide) ?_
        refine g_iload_n C dX1_move_36 rfl 1 rfl ?_
        refine g_imul (v := nI (6 * i)) C dX1_move_37 (pk_mul 6 i) ?_
        refine g_iload_n C dX1_move_38 rfl 2 rfl ?_
        refine g_iadd (v := nI ((6 * i) + j)) C dX1_move_39 (nI_add (6 * i) j) ?_
        refine g_dload_n C dX1_move_40 rfl 3 rfl ?_
        refine g_dast2 (i := i) (j := j) C (by omega) hM (by omega) (by omega) (by decide) dX1_move_41 (fun y hy => ?_)
        have h2 := RM_M (M' := va_up M i (va_up (M i) j w)) h hy
        generalize va_up e0 2 y = e2 at h2 ⊢
        refine g_iconst (v := nI 1) C dX1_move_42 (by decide) ?_
        exact g_zret C hr hlocks (by decide) (Or.inl ⟨rfl, i, j, h_i, h_j, rfl, rfl, hok, h2⟩) dX1_move_43
      · refine g_if_ne (tgt := 30) C dX1_move_25 (by decide) (fun c1 => absurd c1 (fun q => q (by decide))) (fun c1 => ?_)
        refine g_iconst (v := nI 0) C dX1_move_28 (by decide) ?_
        exact g_zret C hr hlocks (by decide) (Or.inr ⟨rfl, fun q => hno q.2.2, h⟩) dX1_move_29
    · refine g_if_eq (tgt := 28) C dX1_move_18 (by decide) (fun c1 => ?_) (fun c1 => absurd c1 (fun q => q (by decide)))
      refine g_iconst (v := nI 0) C dX1_move_28 (by decide) ?_
      exact g_zret C hr hlocks (by decide) (Or.inr ⟨rfl, fun q => hno q.2.1, h⟩) dX1_move_29
  · refine g_if_eq (tgt := 28) C dX1_move_10 (by decide) (fun c1 => ?_) (fun c1 => absurd c1 (fun q => q (by decide)))
    refine g_iconst (v := nI 0) C dX1_move_28 (by decide) ?_
    exact g_zret C hr hlocks (by decide) (Or.inr ⟨rfl, fun q => hno q.1, h⟩) dX1_move_29

set_option maxHeartbeats 4000000 in
set_option maxRecDepth 100000 in
theorem c_X1_show (l : Launch) (D : va_G) (cy : Nat → ClassId) (a : Nat → Nat) (hi : wInj 9 a) {e : Nat → va_E} {n T th : Nat} {S : Nat → UInt64} {M E : T2} {r : Nat → Nat} {nw od : Nat → UInt64} {cn bf : Nat → Int64} (h : RM cy a e n T th S M E r nw od cn bf) (hb : n ≤ 6) (x x2 : Int32) (w : UInt64) : Met l yX1_show wsX1_show ({ frames := 1, cells := 0, slots := 0, locals := 21 }) (gPc D clP cy 9 a e [.ref (a 0), .int x, .int x2, .double w]) (va_Qi (fun z e1 => (z = nI 1 ∧ ∃ i j, i < n ∧ j < 4 ∧ x = nI i ∧ x2 = nI j ∧ okW w ∧ RM cy a e1 n T 0 S M (va_up E i (va_up (E i) j w)) r nw od cn bf) ∨ (z = nI 0 ∧ ¬ ((∃ i, i < n ∧ x = nI i) ∧ (∃ j, j < 4 ∧ x2 = nI j) ∧ okW w) ∧ RM cy a e1 n T 0 S M E r nw od cn bf)) (gB D clP 9 a) (wA 9 a)) 0 0 (wA 9 a) := by
  refine g_met (cc := cX1_show) (maxL := 5) (ret := (some .boolean)) (lv := [(0, .ref (a 0)), (1, .int x), (2, .int x2), (3, .double w)]) (by decide) rfl (Nat.le_of_ble_eq_true rfl) rfl hi (fun k hk => ⟨k, hk, rfl⟩) ?_
  intro p en s m below meth c C hr hlocks
  have hin : ∀ w ∈ u_ws RX1 TX1 11, w ∈ wsX1_show := by decide +kernel
  have f_thrown := C.2.2.2.2.1 (.fieldLink RX1 40 "PathOddsModel" "thrown" "I") (by decide +kernel)
  have f_shows := C.2.2.2.2.1 (.fieldLink RX1 16 "PathOddsModel" "shows" "[D") (by decide +kernel)
  obtain ⟨h0, hS, hM, hE, hr0, hnw, hod, hcn, hbf⟩ := id h
  refine g_aload_n C dX1_show_0 rfl 0 rfl ?_
  refine g_iconst (v := nI 0) C dX1_show_1 (by decide) ?_
  refine g_putE C 2 tyX1 tyX1_ok nmX1 hin inl_pos1 (by decide) h0 (by decide) f_thrown rfl (ty := .int) (by decide +kernel) rfl rfl (Nat.le_of_ble_eq_true rfl) dX1_show_2 (fun e2 he2 => ?_)
  have h : RM cy a e2 n T 0 S M E r nw od cn bf := by rw [he2]; exact RM_obj h rfl
  generalize e2 = e0 at h ⊢
  obtain ⟨h0, hS, hM, hE, hr0, hnw, hod, hcn, hbf⟩ := id h
  refine g_aload_n C dX1_show_5 rfl 0 rfl ?_
  refine g_iload_n C dX1_show_6 rfl 1 rfl ?_
  refine g_calli (As := [.int x]) (rest := []) C (cwV 1 C.2.2.2.2.1 gX1_show_X1_state rfl rfl rfl (by decide +kernel) ⟨Nat.le_of_ble_eq_true rfl, Nat.le_of_ble_eq_true rfl⟩) (c_X1_state l D cy a hi h (by omega) x) (by decide) h0 inl_pos1 rfl rfl (Nat.le_of_ble_eq_true rfl) dX1_show_7 ⟨Nat.zero_le _, Nat.zero_le _⟩ (fun z e1 hz => ?_)
  rw [hz.1]
  rcases hz.2 with ⟨rfl, i, h_i, rfl⟩ | ⟨rfl, hno⟩
  · refine g_if_eq (tgt := 27) C dX1_show_10 (by decide) (fun c1 => absurd c1 (by decide)) (fun c1 => ?_)
    refine g_iload_n C dX1_show_13 rfl 2 rfl ?_
    refine g_callSz (As := [.int x2]) (rest := []) C (va_cwS 1 C.2.2.2.2.1 gX1_show_X1_symbol rfl rfl rfl (by decide +kernel) ⟨Nat.le_of_ble_eq_true rfl, Nat.le_of_ble_eq_true rfl⟩) (c_X1_symbol l D cy a hi h x2) rfl rfl (Nat.le_of_ble_eq_true rfl) dX1_show_14 ⟨Nat.zero_le _, Nat.zero_le _⟩ (fun z e1 hz => ?_)
    rw [hz.1]
    rcases hz.2 with ⟨rfl, j, h_j, rfl⟩ | ⟨rfl, hno⟩
    · refine g_if_eq (tgt := 27) C dX1_show_17 (by decide) (fun c1 => absurd c1 (by decide)) (fun c1 => ?_)
      refine g_dload_n C dX1_show_20 rfl 3 rfl ?_
      refine g_callSz (As := [.double w]) (rest := []) C (va_cwS 1 C.2.2.2.2.1 gX1_show_X1_unit rfl rfl rfl (by decide +kernel) ⟨Nat.le_of_ble_eq_true rfl, Nat.le_of_ble_eq_true rfl⟩) (c_X1_unit l D cy a hi h w) rfl rfl (Nat.le_of_ble_eq_true rfl) dX1_show_21 ⟨Nat.zero_le _, Nat.zero_le _⟩ (fun z e1 hz => ?_)
      rw [hz.1]
      rcases hz.2 with ⟨rfl, hok⟩ | ⟨rfl, hno⟩
      · refine g_if_ne (tgt := 29) C dX1_show_24 (by decide) (fun c1 => ?_) (fun c1 => absurd c1 (by decide))
        refine g_aload_n C dX1_show_29 rfl 0 rfl ?_
        refine g_get C 5 hin inl_pos1 (by decide) h0 (by decide) f_shows rfl dX1_show_30 ?_
        refine g_iconst (v := nI 4) C dX1_show_33 (by decide) ?_
        refine g_iload_n C dX1_show_34 rfl 1 rfl ?_
        refine g_imul (v := nI (4 * i)) C dX1_show_35 (pk_mul 4 i) ?_
        refine g_iload_n C dX1_show_36 rfl 2 rfl ?_
        refine g_iadd (v := nI ((4 * i) + j)) C dX1_show_37 (nI_add (4 * i) j) ?_
        refine g_dload_n C dX1_show_38 rfl 3 rfl ?_
        refine g_dast2 (i := i) (j := j) C (by omega) hE (by omega) (by omega) (by decide) dX1_show_39 (fun y hy => ?_)
        have h2 := RM_E (E' := va_up E i (va_up (E i) j w)) h hy
        generalize va_up e0 3 y = e2 at h2 ⊢
        refine g_iconst (v := nI 1) C dX1_show_40 (by decide) ?_
        exact g_zret C hr hlocks (by decide) (Or.inl ⟨rfl, i, j, h_i, h_j, rfl, rfl, hok, h2⟩) dX1_show_41
      · refine g_if_ne (tgt := 29) C dX1_show_24 (by decide) (fun c1 => absurd c1 (fun q => q (by decide))) (fun c1 => ?_)
        refine g_iconst (v := nI 0) C dX1_show_27 (by decide) ?_
        exact g_zret C hr hlocks (by decide) (Or.inr ⟨rfl, fun q => hno q.2.2, h⟩) dX1_show_28
    · refine g_if_eq (tgt := 27) C dX1_show_17 (by decide) (fun c1 => ?_) (fun c1 => absurd c1 (fun q => q (by decide)))
      refine g_iconst (v := nI 0) C dX1_show_27 (by decide) ?_
      exact g_zret C hr hlocks (by decide) (Or.inr ⟨rfl, fun q => hno q.2.1, h⟩) dX1_show_28
  · refine g_if_eq (tgt := 27) C dX1_show_10 (by decide) (fun c1 => ?_) (fun c1 => absurd c1 (fun q => q (by decide)))
    refine g_iconst (v := nI 0) C dX1_show_27 (by decide) ?_
    exact g_zret C hr hlocks (by decide) (Or.inr ⟨rfl, fun q => hno q.1, h⟩) dX1_show_28

set_option maxHeartbeats 4000000 in
set_option maxRecDepth 100000 in
theorem c_X1_read (l : Launch) (D : va_G) (cy : Nat → ClassId) (a : Nat → Nat) (hi : wInj 9 a) {e : Nat → va_E} {n T th : Nat} {S : Nat → UInt64} {M E : T2} {r : Nat → Nat} {nw od : Nat → UInt64} {cn bf : Nat → Int64} (h : RM cy a e n T th S M E r nw od cn bf) (hb : T ≤ 12) (x : Int32) : Met l yX1_read wsX1_read ({ frames := 1, cells := 0, slots := 0, locals := 20 }) (gPc D clP cy 9 a e [.ref (a 0), .int x]) (va_Qi (fun z e1 => (z = nI 1 ∧ ∃ k, k < 4 ∧ x = nI k ∧ T < 12 ∧ RM cy a e1 n (T + 1) 0 S M E (va_up r T k) nw od cn bf) ∨ (z = nI 0 ∧ ¬ ((∃ k, k < 4 ∧ x = nI k) ∧ T < 12) ∧ RM cy a e1 n T 0 S M E r nw od cn bf)) (gB D clP 9 a) (wA 9 a)) 0 0 (wA 9 a) := by
  refine g_met (cc := cX1_read) (maxL := 2) (ret := (some .boolean)) (lv := [(0, .ref (a 0)), (1, .int x)]) (by decide) rfl (Nat.le_of_ble_eq_true rfl) rfl hi (fun k hk => ⟨k, hk, rfl⟩) ?_
  intro p en s m below meth c C hr hlocks
  have hin : ∀ w ∈ u_ws RX1 TX1 11, w ∈ wsX1_read := by decide +kernel
  have f_thrown := C.2.2.2.2.1 (.fieldLink RX1 40 "PathOddsModel" "thrown" "I") (by decide +kernel)
  have f_length := C.2.2.2.2.1 (.fieldLink RX1 43 "PathOddsModel" "length" "I") (by decide +kernel)
  have f_row := C.2.2.2.2.1 (.fieldLink RX1 19 "PathOddsModel" "row" "[I") (by decide +kernel)
  obtain ⟨h0, hS, hM, hE, hr0, hnw, hod, hcn, hbf⟩ := id h
  refine g_aload_n C dX1_read_0 rfl 0 rfl ?_
  refine g_iconst (v := nI 0) C dX1_read_1 (by decide) ?_
  refine g_putE C 2 tyX1 tyX1_ok nmX1 hin inl_pos1 (by decide) h0 (by decide) f_thrown rfl (ty := .int) (by decide +kernel) rfl rfl (Nat.le_of_ble_eq_true rfl) dX1_read_2 (fun e2 he2 => ?_)
  have h : RM cy a e2 n T 0 S M E r nw od cn bf := by rw [he2]; exact RM_obj h rfl
  generalize e2 = e0 at h ⊢
  obtain ⟨h0, hS, hM, hE, hr0, hnw, hod, hcn, hbf⟩ := id h
  refine g_iload_n C dX1_read_5 rfl 1 rfl ?_
  refine g_callSz (As := [.int x]) (rest := []) C (va_cwS 1 C.2.2.2.2.1 gX1_read_X1_symbol rfl rfl rfl (by decide +kernel) ⟨Nat.le_of_ble_eq_true rfl, Nat.le_of_ble_eq_true rfl⟩) (c_X1_symbol l D cy a hi h x) rfl rfl (Nat.le_of_ble_eq_true rfl) dX1_read_6 ⟨Nat.zero_le _, Nat.zero_le _⟩ (fun z e1 hz => ?_)
  rw [hz.1]
  rcases hz.2 with ⟨rfl, k, h_k, rfl⟩ | ⟨rfl, hno⟩
  · refine g_if_eq (tgt := 21) C dX1_read_9 (by decide) (fun c1 => absurd c1 (by decide)) (fun c1 => ?_)
    refine g_aload_n C dX1_read_12 rfl 0 rfl ?_
    refine g_get C 1 hin inl_pos1 (by decide) h0 (by decide) f_length rfl dX1_read_13 ?_
    refine g_bipush (v := nI 12) C dX1_read_16 (by decide) ?_
    refine g_icmp_ne (tgt := 23) C dX1_read_18 (by decide) (fun c2 => ?_) (fun c2 => ?_)
    · have hT12 : T < 12 := Nat.lt_of_le_of_ne hb (fun q => c2 (by rw [q]))
      refine g_aload_n C dX1_read_23 rfl 0 rfl ?_
      refine g_get C 6 hin inl_pos1 (by decide) h0 (by decide) f_row rfl dX1_read_24 ?_
      refine g_aload_n C dX1_read_27 rfl 0 rfl ?_
      refine g_get C 1 hin inl_pos1 (by decide) h0 (by decide) f_length rfl dX1_read_28 ?_
      refine g_iload_n C dX1_read_31 rfl 1 rfl ?_
      refine g_iast C (by omega) hr0 (by omega) (by decide) dX1_read_32 (fun y hy => ?_)
      have h := RM_r h (row_up hy)
      generalize va_up e0 4 y = e at h ⊢
      obtain ⟨h0, hS, hM, hE, hr0, hnw, hod, hcn, hbf⟩ := id h
      refine g_aload_n C dX1_read_33 rfl 0 rfl ?_
      refine g_aload_n C dX1_read_34 rfl 0 rfl ?_
      refine g_get C 1 hin inl_pos1 (by decide) h0 (by decide) f_length rfl dX1_read_35 ?_
      refine g_iconst (v := nI 1) C dX1_read_38 (by decide) ?_
      refine g_iadd (v := nI (T + 1)) C dX1_read_39 (nI_add T 1) ?_
      refine g_putE C 1 tyX1 tyX1_ok nmX1 hin inl_pos1 (by decide) h0 (by decide) f_length rfl (ty := .int) (by decide +kernel) rfl rfl (Nat.le_of_ble_eq_true rfl) dX1_read_40 (fun e2 he2 => ?_)
      have h : RM cy a e2 n (T + 1) 0 S M E (va_up r T k) nw od cn bf := by rw [he2]; exact RM_obj h rfl
      refine g_iconst (v := nI 1) C dX1_read_43 (by decide) ?_
      exact g_zret C hr hlocks (by decide) (Or.inl ⟨rfl, k, h_k, rfl, hT12, h⟩) dX1_read_44
    · refine g_iconst (v := nI 0) C dX1_read_21 (by decide) ?_
      exact g_zret C hr hlocks (by decide) (Or.inr ⟨rfl, fun q => absurd ((nI_eq (by omega) (by decide)).mp c2) (by omega), h⟩) dX1_read_22
  · refine g_if_eq (tgt := 21) C dX1_read_9 (by decide) (fun c1 => ?_) (fun c1 => absurd c1 (fun q => q (by decide)))
    refine g_iconst (v := nI 0) C dX1_read_21 (by decide) ?_
    exact g_zret C hr hlocks (by decide) (Or.inr ⟨rfl, fun q => hno q.1, h⟩) dX1_read_22

set_option maxHeartbeats 4000000 in
set_option maxRecDepth 100000 in
theorem c_X1_unread (l : Launch) (D : va_G) (cy : Nat → ClassId) (a : Nat → Nat) (hi : wInj 9 a) {e : Nat → va_E} {n T th : Nat} {S : Nat → UInt64} {M E : T2} {r : Nat → Nat} {nw od : Nat → UInt64} {cn bf : Nat → Int64} (h : RM cy a e n T th S M E r nw od cn bf) (hb : T ≤ 12) : Met l yX1_unread wsX1_unread ({ frames := 0, cells := 0, slots := 0, locals := 0 }) (gPc D clP cy 9 a e [.ref (a 0)]) (va_Qi (fun z e1 => (z = nI 1 ∧ 0 < T ∧ RM cy a e1 n (T - 1) 0 S M E r nw od cn bf) ∨ (z = nI 0 ∧ T = 0 ∧ RM cy a e1 n T 0 S M E r nw od cn bf)) (gB D clP 9 a) (wA 9 a)) 0 0 (wA 9 a) := by
  refine g_met (cc := cX1_unread) (maxL := 1) (ret := (some .boolean)) (lv := [(0, .ref (a 0))]) (by decide) rfl (Nat.le_of_ble_eq_true rfl) rfl hi (fun k hk => ⟨k, hk, rfl⟩) ?_
  intro p en s m below meth c C hr hlocks
  have hin : ∀ w ∈ u_ws RX1 TX1 11, w ∈ wsX1_unread := by decide +kernel
  have f_thrown := C.2.2.2.2.1 (.fieldLink RX1 40 "PathOddsModel" "thrown" "I") (by decide +kernel)
  have f_length := C.2.2.2.2.1 (.fieldLink RX1 43 "PathOddsModel" "length" "I") (by decide +kernel)
  obtain ⟨h0, hS, hM, hE, hr0, hnw, hod, hcn, hbf⟩ := id h
  refine g_aload_n C dX1_unread_0 rfl 0 rfl ?_
  refine g_iconst (v := nI 0) C dX1_unread_1 (by decide) ?_
  refine g_putE C 2 tyX1 tyX1_ok nmX1 hin inl_pos1 (by decide) h0 (by decide) f_thrown rfl (ty := .int) (by decide +kernel) rfl rfl (Nat.le_of_ble_eq_true rfl) dX1_unread_2 (fun e2 he2 => ?_)
  have h : RM cy a e2 n T 0 S M E r nw od cn bf := by rw [he2]; exact RM_obj h rfl
  generalize e2 = e0 at h ⊢
  obtain ⟨h0, hS, hM, hE, hr0, hnw, hod, hcn, hbf⟩ := id h
  refine g_aload_n C dX1_unread_5 rfl 0 rfl ?_
  refine g_get C 1 hin inl_pos1 (by decide) h0 (by decide) f_length rfl dX1_unread_6 ?_
  refine g_if_ne (tgt := 14) C dX1_unread_9 (by decide) (fun c1 => ?_) (fun c1 => ?_)
  · have hT0 : 0 < T := Nat.pos_of_ne_zero (fun q => c1 (by rw [q]; rfl))
    refine g_aload_n C dX1_unread_14 rfl 0 rfl ?_
    refine g_aload_n C dX1_unread_15 rfl 0 rfl ?_
    refine g_get C 1 hin inl_pos1 (by decide) h0 (by decide) f_length rfl dX1_unread_16 ?_
    refine g_iconst (v := nI 1) C dX1_unread_19 (by decide) ?_
    refine g_isub (v := nI (T - 1)) C dX1_unread_20 (pk_sub (by omega)) ?_
    refine g_putE C 1 tyX1 tyX1_ok nmX1 hin inl_pos1 (by decide) h0 (by decide) f_length rfl (ty := .int) (by decide +kernel) rfl rfl (Nat.le_of_ble_eq_true rfl) dX1_unread_21 (fun e2 he2 => ?_)
    have h : RM cy a e2 n (T - 1) 0 S M E r nw od cn bf := by rw [he2]; exact RM_obj h rfl
    refine g_iconst (v := nI 1) C dX1_unread_24 (by decide) ?_
    exact g_zret C hr hlocks (by decide) (Or.inl ⟨rfl, hT0, h⟩) dX1_unread_25
  · refine g_iconst (v := nI 0) C dX1_unread_12 (by decide) ?_
    exact g_zret C hr hlocks (by decide) (Or.inr ⟨rfl, (nI_eq (by omega) (by decide)).mp c1, h⟩) dX1_unread_13
end
section
set_option maxHeartbeats 4000000 in
set_option maxRecDepth 100000 in
theorem c_X1_shown (l : Launch) (D : va_G) (cy : Nat → ClassId) (a : Nat → Nat) (hi : wInj 9 a) {e : Nat → va_E} {n T th : Nat} {S : Nat → UInt64} {M E : T2} {r : Nat → Nat} {nw od : Nat → UInt64} {cn bf : Nat → Int64} (h : RM cy a e n T th S M E r nw od cn bf) (i t : Nat) (hi6 : i < 6) (ht : t < 12) (hr4 : RW4 r) : Met l yX1_shown wsX1_shown ({ frames := 0, cells := 0, slots := 0, locals := 0 }) (gPc D clP cy 9 a e [.ref (a 0), .int (nI i), .int (nI t)]) (va_Qd (fun z e1 => e1 = e ∧ z = E i (r t)) (gB D clP 9 a) (wA 9 a)) 0 0 (wA 9 a) := by
  refine g_met (cc := cX1_shown) (maxL := 3) (ret := (some .double)) (lv := [(0, .ref (a 0)), (1, .int (nI i)), (2, .int (nI t))]) (by decide) rfl (Nat.le_of_ble_eq_true rfl) rfl hi (fun k hk => ⟨k, hk, rfl⟩) ?_
  intro p en s m below meth c C hr hlocks
  have hin : ∀ w ∈ u_ws RX1 TX1 11, w ∈ wsX1_shown := by decide +kernel
  have f_shows := C.2.2.2.2.1 (.fieldLink RX1 16 "PathOddsModel" "shows" "[D") (by decide +kernel)
  have f_row := C.2.2.2.2.1 (.fieldLink RX1 19 "PathOddsModel" "row" "[I") (by decide +kernel)
  obtain ⟨h0, hS, hM, hE, hr0, hnw, hod, hcn, hbf⟩ := id h
  have hrt : r t < 4 := hr4 t ht
  refine g_aload_n C dX1_shown_0 rfl 0 rfl ?_
  refine g_get C 5 hin inl_pos1 (by decide) h0 (by decide) f_shows rfl dX1_shown_1 ?_
  refine g_iconst (v := nI 4) C dX1_shown_4 (by decide) ?_
  refine g_iload_n C dX1_shown_5 rfl 1 rfl ?_
  refine g_imul (v := nI (4 * i)) C dX1_shown_6 (pk_mul 4 i) ?_
  refine g_aload_n C dX1_shown_7 rfl 0 rfl ?_
  refine g_get C 6 hin inl_pos1 (by decide) h0 (by decide) f_row rfl dX1_shown_8 ?_
  refine g_iload_n C dX1_shown_11 rfl 2 rfl ?_
  refine g_iald C (by omega) hr0 (by omega) (by decide) dX1_shown_12 ?_
  refine g_iadd (v := nI ((4 * i) + (r t))) C dX1_shown_13 (nI_add (4 * i) (r t)) ?_
  refine g_dald2 (i := i) (j := (r t)) C (by omega) hE (by omega) (by omega) (by decide) dX1_shown_14 ?_
  exact g_dret C hr hlocks (⟨rfl, rfl⟩) dX1_shown_15

set_option maxHeartbeats 4000000 in
set_option maxRecDepth 100000 in
theorem c_X1_shift (l : Launch) (D : va_G) (cy : Nat → ClassId) (a : Nat → Nat) (hi : wInj 9 a) {e : Nat → va_E} {n T th : Nat} {S : Nat → UInt64} {M E : T2} {r : Nat → Nat} {nw od : Nat → UInt64} {cn bf : Nat → Int64} (h : RM cy a e n T th S M E r nw od cn bf)  : Met l yX1_shift wsX1_shift ({ frames := 0, cells := 0, slots := 0, locals := 0 }) (gPc D clP cy 9 a e [.ref (a 0)]) (va_Qv (fun e1 => RM cy a e1 n T th S M E r nw nw cn bf) (gB D clP 9 a) (wA 9 a)) 0 0 (wA 9 a) := by
  refine g_met (cc := cX1_shift) (maxL := 2) (ret := none) (lv := [(0, .ref (a 0))]) (by decide) rfl (Nat.le_of_ble_eq_true rfl) rfl hi (fun k hk => ⟨k, hk, rfl⟩) ?_
  intro p en s m below meth c C hr hlocks
  have hin : ∀ w ∈ u_ws RX1 TX1 11, w ∈ wsX1_shift := by decide +kernel
  have f_old := C.2.2.2.2.1 (.fieldLink RX1 26 "PathOddsModel" "old" "[D") (by decide +kernel)
  have f_now := C.2.2.2.2.1 (.fieldLink RX1 23 "PathOddsModel" "now" "[D") (by decide +kernel)
  obtain ⟨h0, hS, hM, hE, hr0, hnw, hod, hcn, hbf⟩ := id h
  have L : ∀ (k : Nat) (i : Nat) (e : Nat → va_E) (od : Nat → UInt64), i + k = 6 → RM cy a e n T th S M E r nw od cn bf → (∀ q, q < i → od q = nw q) → GW p l en ({ frames := 0, cells := 0, slots := 0, locals := 0 }) s m ([.ref (a 0)] : List Value).toArray below meth c 0 0 (MQ below (va_Qv (fun e1 => RM cy a e1 n T th S M E r nw nw cn bf) (gB D clP 9 a) (wA 9 a)) ([.ref (a 0)] : List Value).toArray s 0 0 (wA 9 a)) D clP 9 2 a (wA 9 a) e 2 [(0, .ref (a 0)), (1, .int (nI i))] [] := by
    intro k
    induction k with
    | zero =>
      intro i e od hk h hp
      obtain ⟨h0, hS, hM, hE, hr0, hnw, hod, hcn, hbf⟩ := id h
      refine g_iload_n C dX1_shift_2 rfl 1 rfl ?_
      refine g_bipush (v := nI 6) C dX1_shift_3 (by decide) ?_
      refine g_icmp_ge (tgt := 26) C dX1_shift_5 (by decide) (fun c1 => ?_) (fun c1 => absurd c1 (fun q => q (nI_le (by omega) (by omega))))
      exact g_vret C hr hlocks (RM_sc h (fun _ _ => rfl) (fun q hq => hp q (by omega)) (fun _ _ => rfl) (fun _ _ => rfl)) dX1_shift_26
    | succ k ih =>
      intro i e od hk h hp
      obtain ⟨h0, hS, hM, hE, hr0, hnw, hod, hcn, hbf⟩ := id h
      refine g_iload_n C dX1_shift_2 rfl 1 rfl ?_
      refine g_bipush (v := nI 6) C dX1_shift_3 (by decide) ?_
      refine g_icmp_ge (tgt := 26) C dX1_shift_5 (by decide) (fun c1 => absurd c1 (nI_ge (by omega) (by decide))) (fun c1 => ?_)
      refine g_aload_n C dX1_shift_8 rfl 0 rfl ?_
      refine g_get C 8 hin inl_pos1 (by decide) h0 (by decide) f_old rfl dX1_shift_9 ?_
      refine g_iload_n C dX1_shift_12 rfl 1 rfl ?_
      refine g_aload_n C dX1_shift_13 rfl 0 rfl ?_
      refine g_get C 7 hin inl_pos1 (by decide) h0 (by decide) f_now rfl dX1_shift_14 ?_
      refine g_iload_n C dX1_shift_17 rfl 1 rfl ?_
      refine g_dald C (by omega) hnw (by omega) (by decide) dX1_shift_18 ?_
      refine g_dast C (by omega) hod (by omega) (by decide) dX1_shift_19 (fun y hy => ?_)
      have h := RM_od h hy
      generalize va_up e 6 y = e at h ⊢
      refine g_iinc (v := nI (i + 1)) (k := 1) (lv' := [(0, .ref (a 0)), (1, .int (nI (i + 1)))]) C dX1_shift_20 rfl (nI_inc i) (by decide) [1, 0] rfl ?_
      refine g_goto (tgt := 2) C dX1_shift_23 (by decide) ?_
      exact ih (i + 1) e _ (by omega) h (fun q hq => by
        by_cases hqi : q = i
        · subst hqi; exact va_up_self _ _ _
        · rw [va_up_ne _ _ hqi]; exact hp q (by omega))
  refine g_iconst (v := nI 0) C dX1_shift_0 (by decide) ?_
  refine g_istore_n (lv' := [(0, .ref (a 0)), (1, .int (nI 0))]) C dX1_shift_1 rfl (by decide) [1, 0] rfl ?_
  exact L 6 0 e od (by omega) h (fun q hq => absurd hq (by omega))

set_option maxHeartbeats 4000000 in
set_option maxRecDepth 100000 in
theorem c_X1_from (l : Launch) (D : va_G) (cy : Nat → ClassId) (a : Nat → Nat) (hi : wInj 9 a) {e : Nat → va_E} {n T th : Nat} {S : Nat → UInt64} {M E : T2} {r : Nat → Nat} {nw od : Nat → UInt64} {cn bf : Nat → Int64} (h : RM cy a e n T th S M E r nw od cn bf) (hn : 1 ≤ n ∧ n ≤ 6) (j : Nat) (hj : j < n) (hW : WB S M E) {K : Nat} (hK : K ≤ 1900) (hob : ∀ i, i < n → mg K (od i)) : Met l yX1_from wsX1_from ({ frames := 0, cells := 0, slots := 0, locals := 0 }) (gPc D clP cy 9 a e [.ref (a 0), .int (nI j)]) (va_Qi (fun z e1 => e1 = e ∧ z = nI (am (fun i => FP.dmul (od i) (M i j)) n)) (gB D clP 9 a) (wA 9 a)) 0 0 (wA 9 a) := by
  refine g_met (cc := cX1_from) (maxL := 4) (ret := (some .int)) (lv := [(0, .ref (a 0)), (1, .int (nI j))]) (by decide) rfl (Nat.le_of_ble_eq_true rfl) rfl hi (fun k hk => ⟨k, hk, rfl⟩) ?_
  intro p en s m below meth c C hr hlocks
  have hin : ∀ w ∈ u_ws RX1 TX1 11, w ∈ wsX1_from := by decide +kernel
  have f_n := C.2.2.2.2.1 (.fieldLink RX1 36 "PathOddsModel" "n" "I") (by decide +kernel)
  have f_old := C.2.2.2.2.1 (.fieldLink RX1 26 "PathOddsModel" "old" "[D") (by decide +kernel)
  have f_moves := C.2.2.2.2.1 (.fieldLink RX1 13 "PathOddsModel" "moves" "[D") (by decide +kernel)
  obtain ⟨h0, hS, hM, hE, hr0, hnw, hod, hcn, hbf⟩ := id h
  have hb : ∀ q, q < n → mg (K + 3) ((fun i => FP.dmul (od i) (M i j)) q) := fun q hq => mg_mono (mg_mul (hob q hq) (hW.2.1 q j (by omega) (by omega)) (by omega) (by decide)) (by omega)
  have L : ∀ (k : Nat) (i : Nat), 1 ≤ i → i + k = n → GW p l en ({ frames := 0, cells := 0, slots := 0, locals := 0 }) s m ([.ref (a 0), .int (nI j)] : List Value).toArray below meth c 0 0 (MQ below (va_Qi (fun z e1 => e1 = e ∧ z = nI (am (fun i => FP.dmul (od i) (M i j)) n)) (gB D clP 9 a) (wA 9 a)) ([.ref (a 0), .int (nI j)] : List Value).toArray s 0 0 (wA 9 a)) D clP 9 4 a (wA 9 a) e 4 [(0, .ref (a 0)), (1, .int (nI j)), (2, .int (nI (am (fun i => FP.dmul (od i) (M i j)) i))), (3, .int (nI i))] [] := by
    intro k
    induction k with
    | zero =>
      intro i hi1 hk
      obtain ⟨h0, hS, hM, hE, hr0, hnw, hod, hcn, hbf⟩ := id h
      refine g_iload_n C dX1_from_4 rfl 3 rfl ?_
      refine g_aload_n C dX1_from_5 rfl 0 rfl ?_
      refine g_get C 0 hin inl_pos1 (by decide) h0 (by decide) f_n rfl dX1_from_6 ?_
      refine g_icmp_ge (tgt := 60) C dX1_from_9 (by decide) (fun c1 => ?_) (fun c1 => absurd c1 (fun q => q (nI_le (by omega) (by omega))))
      refine g_iload_n C dX1_from_60 rfl 2 rfl ?_
      exact g_iret C hr hlocks (⟨rfl, by rw [show n = i by omega]⟩) dX1_from_61
    | succ k ih =>
      intro i hi1 hk
      obtain ⟨h0, hS, hM, hE, hr0, hnw, hod, hcn, hbf⟩ := id h
      have ha := am_lt (fun i => FP.dmul (od i) (M i j)) i (by omega)
      refine g_iload_n C dX1_from_4 rfl 3 rfl ?_
      refine g_aload_n C dX1_from_5 rfl 0 rfl ?_
      refine g_get C 0 hin inl_pos1 (by decide) h0 (by decide) f_n rfl dX1_from_6 ?_
      refine g_icmp_ge (tgt := 60) C dX1_from_9 (by decide) (fun c1 => absurd c1 (nI_ge (by omega) (by omega))) (fun c1 => ?_)
      refine g_aload_n C dX1_from_12 rfl 0 rfl ?_
      refine g_get C 8 hin inl_pos1 (by decide) h0 (by decide) f_old rfl dX1_from_13 ?_
      refine g_iload_n C dX1_from_16 rfl 3 rfl ?_
      refine g_dald C (by omega) hod (by omega) (by decide) dX1_from_17 ?_
      refine g_aload_n C dX1_from_18 rfl 0 rfl ?_
      refine g_get C 4 hin inl_pos1 (by decide) h0 (by decide) f_moves rfl dX1_from_19 ?_
      refine g_bipush (v := nI 6) C dX1_from_22 (by decide) ?_
      refine g_iload_n C dX1_from_24 rfl 3 rfl ?_
      refine g_imul (v := nI (6 * i)) C dX1_from_25 (pk_mul 6 i) ?_
      refine g_iload_n C dX1_from_26 rfl 1 rfl ?_
      refine g_iadd (v := nI ((6 * i) + j)) C dX1_from_27 (nI_add (6 * i) j) ?_
      refine g_dald2 (i := i) (j := j) C (by omega) hM (by omega) (by omega) (by decide) dX1_from_28 ?_
      refine g_dmul C dX1_from_29 (mg_n64 (hb i (by omega)) (by omega)) ?_
      refine g_aload_n C dX1_from_30 rfl 0 rfl ?_
      refine g_get C 8 hin inl_pos1 (by decide) h0 (by decide) f_old rfl dX1_from_31 ?_
      refine g_iload_n C dX1_from_34 rfl 2 rfl ?_
      refine g_dald C (by omega) hod (by omega) (by decide) dX1_from_35 ?_
      refine g_aload_n C dX1_from_36 rfl 0 rfl ?_
      refine g_get C 4 hin inl_pos1 (by decide) h0 (by decide) f_moves rfl dX1_from_37 ?_
      refine g_bipush (v := nI 6) C dX1_from_40 (by decide) ?_
      refine g_iload_n C dX1_from_42 rfl 2 rfl ?_
      refine g_imul (v := nI (6 * (am (fun i => FP.dmul (od i) (M i j)) i))) C dX1_from_43 (pk_mul 6 (am (fun i => FP.dmul (od i) (M i j)) i)) ?_
      refine g_iload_n C dX1_from_44 rfl 1 rfl ?_
      refine g_iadd (v := nI ((6 * (am (fun i => FP.dmul (od i) (M i j)) i)) + j)) C dX1_from_45 (nI_add (6 * (am (fun i => FP.dmul (od i) (M i j)) i)) j) ?_
      refine g_dald2 (i := (am (fun i => FP.dmul (od i) (M i j)) i)) (j := j) C (by omega) hM (by omega) (by omega) (by decide) dX1_from_46 ?_
      refine g_dmul C dX1_from_47 (mg_n64 (hb _ (by omega)) (by omega)) ?_
      refine g_dcmp C dX1_from_48 ?_
      refine g_if_le (tgt := 54) C dX1_from_49 (by decide) (fun c2 => ?_) (fun c2 => ?_)
      · refine g_iinc (v := nI (i + 1)) (k := 3) (lv' := [(0, .ref (a 0)), (1, .int (nI j)), (2, .int (nI (am (fun i => FP.dmul (od i) (M i j)) i))), (3, .int (nI (i + 1)))]) C dX1_from_54 rfl (nI_inc i) (by decide) [1, 2, 3, 0] rfl ?_
        refine g_goto (tgt := 4) C dX1_from_57 (by decide) ?_
        have q := ih (i + 1) (by omega) (by omega)
        rw [am_f (f := (fun i => FP.dmul (od i) (M i j))) (k := i) (gtD_f c2)] at q
        exact q
      · refine g_iload_n C dX1_from_52 rfl 3 rfl ?_
        refine g_istore_n (lv' := [(0, .ref (a 0)), (1, .int (nI j)), (2, .int (nI i)), (3, .int (nI i))]) C dX1_from_53 rfl (by decide) [1, 2, 0, 3] rfl ?_
        refine g_iinc (v := nI (i + 1)) (k := 3) (lv' := [(0, .ref (a 0)), (1, .int (nI j)), (2, .int (nI i)), (3, .int (nI (i + 1)))]) C dX1_from_54 rfl (nI_inc i) (by decide) [1, 2, 3, 0] rfl ?_
        refine g_goto (tgt := 4) C dX1_from_57 (by decide) ?_
        have q := ih (i + 1) (by omega) (by omega)
        rw [am_t (f := (fun i => FP.dmul (od i) (M i j))) (k := i) (gtD_t c2)] at q
        exact q
  refine g_iconst (v := nI 0) C dX1_from_0 (by decide) ?_
  refine g_istore_n (lv' := [(0, .ref (a 0)), (1, .int (nI j)), (2, .int (nI 0))]) C dX1_from_1 rfl (by decide) [1, 2, 0] rfl ?_
  refine g_iconst (v := nI 1) C dX1_from_2 (by decide) ?_
  refine g_istore_n (lv' := [(0, .ref (a 0)), (1, .int (nI j)), (2, .int (nI 0)), (3, .int (nI 1))]) C dX1_from_3 rfl (by decide) [1, 2, 3, 0] rfl ?_
  have q := L (n - 1) 1 (by omega) (by omega)
  rw [am_1] at q
  exact q

set_option maxHeartbeats 4000000 in
set_option maxRecDepth 100000 in
theorem c_X1_last (l : Launch) (D : va_G) (cy : Nat → ClassId) (a : Nat → Nat) (hi : wInj 9 a) {e : Nat → va_E} {n T th : Nat} {S : Nat → UInt64} {M E : T2} {r : Nat → Nat} {nw od : Nat → UInt64} {cn bf : Nat → Int64} (h : RM cy a e n T th S M E r nw od cn bf) (hn : 1 ≤ n ∧ n ≤ 6) : Met l yX1_last wsX1_last ({ frames := 0, cells := 0, slots := 0, locals := 0 }) (gPc D clP cy 9 a e [.ref (a 0)]) (va_Qi (fun z e1 => e1 = e ∧ z = nI (am (fun j => nw j) n)) (gB D clP 9 a) (wA 9 a)) 0 0 (wA 9 a) := by
  refine g_met (cc := cX1_last) (maxL := 3) (ret := (some .int)) (lv := [(0, .ref (a 0))]) (by decide) rfl (Nat.le_of_ble_eq_true rfl) rfl hi (fun k hk => ⟨k, hk, rfl⟩) ?_
  intro p en s m below meth c C hr hlocks
  have hin : ∀ w ∈ u_ws RX1 TX1 11, w ∈ wsX1_last := by decide +kernel
  have f_n := C.2.2.2.2.1 (.fieldLink RX1 36 "PathOddsModel" "n" "I") (by decide +kernel)
  have f_now := C.2.2.2.2.1 (.fieldLink RX1 23 "PathOddsModel" "now" "[D") (by decide +kernel)
  obtain ⟨h0, hS, hM, hE, hr0, hnw, hod, hcn, hbf⟩ := id h
  have L : ∀ (k : Nat) (i : Nat), 1 ≤ i → i + k = n → GW p l en ({ frames := 0, cells := 0, slots := 0, locals := 0 }) s m ([.ref (a 0)] : List Value).toArray below meth c 0 0 (MQ below (va_Qi (fun z e1 => e1 = e ∧ z = nI (am (fun j => nw j) n)) (gB D clP 9 a) (wA 9 a)) ([.ref (a 0)] : List Value).toArray s 0 0 (wA 9 a)) D clP 9 3 a (wA 9 a) e 4 [(0, .ref (a 0)), (1, .int (nI (am (fun j => nw j) i))), (2, .int (nI i))] [] := by
    intro k
    induction k with
    | zero =>
      intro i hi1 hk
      obtain ⟨h0, hS, hM, hE, hr0, hnw, hod, hcn, hbf⟩ := id h
      refine g_iload_n C dX1_last_4 rfl 2 rfl ?_
      refine g_aload_n C dX1_last_5 rfl 0 rfl ?_
      refine g_get C 0 hin inl_pos1 (by decide) h0 (by decide) f_n rfl dX1_last_6 ?_
      refine g_icmp_ge (tgt := 36) C dX1_last_9 (by decide) (fun c1 => ?_) (fun c1 => absurd c1 (fun q => q (nI_le (by omega) (by omega))))
      refine g_iload_n C dX1_last_36 rfl 1 rfl ?_
      exact g_iret C hr hlocks (⟨rfl, by rw [show n = i by omega]⟩) dX1_last_37
    | succ k ih =>
      intro i hi1 hk
      obtain ⟨h0, hS, hM, hE, hr0, hnw, hod, hcn, hbf⟩ := id h
      have ha := am_lt (fun j => nw j) i (by omega)
      refine g_iload_n C dX1_last_4 rfl 2 rfl ?_
      refine g_aload_n C dX1_last_5 rfl 0 rfl ?_
      refine g_get C 0 hin inl_pos1 (by decide) h0 (by decide) f_n rfl dX1_last_6 ?_
      refine g_icmp_ge (tgt := 36) C dX1_last_9 (by decide) (fun c1 => absurd c1 (nI_ge (by omega) (by omega))) (fun c1 => ?_)
      refine g_aload_n C dX1_last_12 rfl 0 rfl ?_
      refine g_get C 7 hin inl_pos1 (by decide) h0 (by decide) f_now rfl dX1_last_13 ?_
      refine g_iload_n C dX1_last_16 rfl 2 rfl ?_
      refine g_dald C (by omega) hnw (by omega) (by decide) dX1_last_17 ?_
      refine g_aload_n C dX1_last_18 rfl 0 rfl ?_
      refine g_get C 7 hin inl_pos1 (by decide) h0 (by decide) f_now rfl dX1_last_19 ?_
      refine g_iload_n C dX1_last_22 rfl 1 rfl ?_
      refine g_dald C (by omega) hnw (by omega) (by decide) dX1_last_23 ?_
      refine g_dcmp C dX1_last_24 ?_
      refine g_if_le (tgt := 30) C dX1_last_25 (by decide) (fun c2 => ?_) (fun c2 => ?_)
      · refine g_iinc (v := nI (i + 1)) (k := 2) (lv' := [(0, .ref (a 0)), (1, .int (nI (am (fun j => nw j) i))), (2, .int (nI (i + 1)))]) C dX1_last_30 rfl (nI_inc i) (by decide) [1, 2, 0] rfl ?_
        refine g_goto (tgt := 4) C dX1_last_33 (by decide) ?_
        have q := ih (i + 1) (by omega) (by omega)
        rw [am_f (f := (fun j => nw j)) (k := i) (gtD_f c2)] at q
        exact q
      · refine g_iload_n C dX1_last_28 rfl 2 rfl ?_
        refine g_istore_n (lv' := [(0, .ref (a 0)), (1, .int (nI i)), (2, .int (nI i))]) C dX1_last_29 rfl (by decide) [1, 0, 2] rfl ?_
        refine g_iinc (v := nI (i + 1)) (k := 2) (lv' := [(0, .ref (a 0)), (1, .int (nI i)), (2, .int (nI (i + 1)))]) C dX1_last_30 rfl (nI_inc i) (by decide) [1, 2, 0] rfl ?_
        refine g_goto (tgt := 4) C dX1_last_33 (by decide) ?_
        have q := ih (i + 1) (by omega) (by omega)
        rw [am_t (f := (fun j => nw j)) (k := i) (gtD_t c2)] at q
        exact q
  refine g_iconst (v := nI 0) C dX1_last_0 (by decide) ?_
  refine g_istore_n (lv' := [(0, .ref (a 0)), (1, .int (nI 0))]) C dX1_last_1 rfl (by decide) [1, 0] rfl ?_
  refine g_iconst (v := nI 1) C dX1_last_2 (by decide) ?_
  refine g_istore_n (lv' := [(0, .ref (a 0)), (1, .int (nI 0)), (2, .int (nI 1))]) C dX1_last_3 rfl (by decide) [1, 2, 0] rfl ?_
  have q := L (n - 1) 1 (by omega) (by omega)
  rw [am_1] at q
  exact q

set_option maxHeartbeats 4000000 in
set_option maxRecDepth 100000 in
theorem c_X1_ahead (l : Launch) (D : va_G) (cy : Nat → ClassId) (a : Nat → Nat) (hi : wInj 9 a) {e : Nat → va_E} {n T th : Nat} {S : Nat → UInt64} {M E : T2} {r : Nat → Nat} {nw od : Nat → UInt64} {cn bf : Nat → Int64} (h : RM cy a e n T th S M E r nw od cn bf) (hn : 1 ≤ n ∧ n ≤ 6) (hW : WB S M E) (hr4 : RW4 r) (t : Nat) (ht : t < 12) : Met l yX1_ahead wsX1_ahead ({ frames := 1, cells := 0, slots := 0, locals := 22 }) (gPc D clP cy 9 a e [.ref (a 0), .int (nI t)]) (va_Qv (fun e1 => ∃ nw1 od1, RM cy a e1 n T th S M E r nw1 od1 cn bf ∧ ∀ j, j < n → nw1 j = fA n S M E r t j) (gB D clP 9 a) (wA 9 a)) 0 0 (wA 9 a) := by
  refine g_met (cc := cX1_ahead) (maxL := 7) (ret := none) (lv := [(0, .ref (a 0)), (1, .int (nI t))]) (by decide) rfl (Nat.le_of_ble_eq_true rfl) rfl hi (fun k hk => ⟨k, hk, rfl⟩) ?_
  intro p en s m below meth c C hr hlocks
  have hin : ∀ w ∈ u_ws RX1 TX1 11, w ∈ wsX1_ahead := by decide +kernel
  have f_n := C.2.2.2.2.1 (.fieldLink RX1 36 "PathOddsModel" "n" "I") (by decide +kernel)
  have f_now := C.2.2.2.2.1 (.fieldLink RX1 23 "PathOddsModel" "now" "[D") (by decide +kernel)
  have f_starts := C.2.2.2.2.1 (.fieldLink RX1 7 "PathOddsModel" "starts" "[D") (by decide +kernel)
  have f_old := C.2.2.2.2.1 (.fieldLink RX1 26 "PathOddsModel" "old" "[D") (by decide +kernel)
  have f_moves := C.2.2.2.2.1 (.fieldLink RX1 13 "PathOddsModel" "moves" "[D") (by decide +kernel)
  obtain ⟨h0, hS, hM, hE, hr0, hnw, hod, hcn, hbf⟩ := id h
  have K1 : ∀ (k : Nat) (u : Nat) (e : Nat → va_E) (nw od : Nat → UInt64), 1 ≤ u → u + k = t + 1 → RM cy a e n T th S M E r nw od cn bf → (∀ q, q < n → nw q = fA n S M E r (u - 1) q) → GW p l en ({ frames := 1, cells := 0, slots := 0, locals := 22 }) s m ([.ref (a 0), .int (nI t)] : List Value).toArray below meth c 0 0 (MQ below (va_Qv (fun e1 => ∃ nw1 od1, RM cy a e1 n T th S M E r nw1 od1 cn bf ∧ ∀ j, j < n → nw1 j = fA n S M E r t j) (gB D clP 9 a) (wA 9 a)) ([.ref (a 0), .int (nI t)] : List Value).toArray s 0 0 (wA 9 a)) D clP 9 7 a (wA 9 a) e 37 [(0, .ref (a 0)), (1, .int (nI t)), (2, .int (nI u))] [] := by
    intro k
    induction k with
    | zero =>
      intro u e nw od hu hk h hp
      obtain ⟨h0, hS, hM, hE, hr0, hnw, hod, hcn, hbf⟩ := id h
      refine g_iload_n C dX1_ahead_37 rfl 2 rfl ?_
      refine g_iload_n C dX1_ahead_38 rfl 1 rfl ?_
      refine g_icmp_gt (tgt := 129) C dX1_ahead_39 (by decide) (fun c1 => ?_) (fun c1 => absurd c1 (fun q => q (nI_lt (by omega) (by omega))))
      exact g_vret C hr hlocks (⟨nw, od, h, fun q hq => by rw [hp q hq, show u - 1 = t by omega]⟩) dX1_ahead_129
    | succ k ih =>
      intro u e nw od hu hk h hp
      obtain ⟨h0, hS, hM, hE, hr0, hnw, hod, hcn, hbf⟩ := id h
      refine g_iload_n C dX1_ahead_37 rfl 2 rfl ?_
      refine g_iload_n C dX1_ahead_38 rfl 1 rfl ?_
      refine g_icmp_gt (tgt := 129) C dX1_ahead_39 (by decide) (fun c1 => absurd c1 (nI_nlt (by omega) (by omega))) (fun c1 => ?_)
      have hru : r u < 4 := hr4 u (by omega)
      refine g_aload_n C dX1_ahead_42 rfl 0 rfl ?_
      refine g_callv (As := []) (rest := []) C (cwV 0 C.2.2.2.2.1 gX1_ahead_X1_shift rfl rfl rfl (by decide +kernel) ⟨Nat.le_of_ble_eq_true rfl, Nat.le_of_ble_eq_true rfl⟩) (c_X1_shift l D cy a hi h) (by decide) h0 inl_pos1 rfl rfl (Nat.le_of_ble_eq_true rfl) dX1_ahead_43 ⟨Nat.zero_le _, Nat.zero_le _⟩ (fun e1 h => ?_)
      obtain ⟨h0, hS, hM, hE, hr0, hnw, hod, hcn, hbf⟩ := id h
      refine g_iconst (v := nI 0) C dX1_ahead_46 (by decide) ?_
      refine g_istore_n (lv' := [(0, .ref (a 0)), (1, .int (nI t)), (2, .int (nI u)), (3, .int (nI 0))]) C dX1_ahead_47 rfl (by decide) [1, 2, 3, 0] rfl ?_
      have L2 : ∀ (k2 : Nat) (j : Nat) (e : Nat → va_E) (nw2 : Nat → UInt64), j + k2 = n → RM cy a e n T th S M E r nw2 nw cn bf → (∀ q, q < j → nw2 q = fA n S M E r u q) → GW p l en ({ frames := 1, cells := 0, slots := 0, locals := 22 }) s m ([.ref (a 0), .int (nI t)] : List Value).toArray below meth c 0 0 (MQ below (va_Qv (fun e1 => ∃ nw1 od1, RM cy a e1 n T th S M E r nw1 od1 cn bf ∧ ∀ j, j < n → nw1 j = fA n S M E r t j) (gB D clP 9 a) (wA 9 a)) ([.ref (a 0), .int (nI t)] : List Value).toArray s 0 0 (wA 9 a)) D clP 9 7 a (wA 9 a) e 48 [(0, .ref (a 0)), (1, .int (nI t)), (2, .int (nI u)), (3, .int (nI j))] [] := by
        intro k2
        induction k2 with
        | zero =>
          intro j e nw2 hk2 h hpj
          obtain ⟨h0, hS, hM, hE, hr0, hnw, hod, hcn, hbf⟩ := id h
          refine g_iload_n C dX1_ahead_48 rfl 3 rfl ?_
          refine g_aload_n C dX1_ahead_49 rfl 0 rfl ?_
          refine g_get C 0 hin inl_pos1 (by decide) h0 (by decide) f_n rfl dX1_ahead_50 ?_
          refine g_icmp_ge (tgt := 123) C dX1_ahead_53 (by decide) (fun c1 => ?_) (fun c1 => absurd c1 (fun q => q (nI_le (by omega) (by omega))))
          refine g_iinc (v := nI (u + 1)) (k := 2) (lv' := [(0, .ref (a 0)), (1, .int (nI t)), (2, .int (nI (u + 1))), (3, .int (nI j))]) C dX1_ahead_123 rfl (nI_inc u) (by decide) [1, 2, 0, 3] rfl ?_
          refine g_goto (tgt := 37) C dX1_ahead_126 (by decide) ?_
          refine g_pick (lv' := [(0, .ref (a 0)), (1, .int (nI t)), (2, .int (nI (u + 1)))]) [0, 1, 2] rfl ?_
          exact ih (u + 1) e nw2 nw (by omega) (by omega) h (fun q hq => hpj q (by omega))
        | succ k2 ih2 =>
          intro j e nw2 hk2 h hpj
          obtain ⟨h0, hS, hM, hE, hr0, hnw, hod, hcn, hbf⟩ := id h
          have hb : ∀ q, q < n → mg (1028 + 16 * (u - 1)) ((fun i => FP.dmul (nw i) (M i j)) q) := fun q hq => mg_mono (mg_mul (by rw [hp q hq]; exact fA_mg hn.2 hW hr4 (u - 1) q (by omega) (by omega)) (hW.2.1 q j (by omega) (by omega)) (by omega) (by decide)) (by omega)
          refine g_iload_n C dX1_ahead_48 rfl 3 rfl ?_
          refine g_aload_n C dX1_ahead_49 rfl 0 rfl ?_
          refine g_get C 0 hin inl_pos1 (by decide) h0 (by decide) f_n rfl dX1_ahead_50 ?_
          refine g_icmp_ge (tgt := 123) C dX1_ahead_53 (by decide) (fun c1 => absurd c1 (nI_ge (by omega) (by omega))) (fun c1 => ?_)
          refine g_dconst0 C dX1_ahead_56 ?_
          refine g_dstore (lv' := [(0, .ref (a 0)), (1, .int (nI t)), (2, .int (nI u)), (3, .int (nI j)), (4, .double FP.dconst0)]) C dX1_ahead_57 (by decide) [1, 2, 3, 4, 0] rfl ?_
          refine g_iconst (v := nI 0) C dX1_ahead_59 (by decide) ?_
          refine g_istore (lv' := [(0, .ref (a 0)), (1, .int (nI t)), (2, .int (nI u)), (3, .int (nI j)), (4, .double FP.dconst0), (6, .int (nI 0))]) C dX1_ahead_60 (by decide) [1, 2, 3, 4, 5, 0] rfl ?_
          have L3 : ∀ (k3 : Nat) (i : Nat), i + k3 = n → GW p l en ({ frames := 1, cells := 0, slots := 0, locals := 22 }) s m ([.ref (a 0), .int (nI t)] : List Value).toArray below meth c 0 0 (MQ below (va_Qv (fun e1 => ∃ nw1 od1, RM cy a e1 n T th S M E r nw1 od1 cn bf ∧ ∀ j, j < n → nw1 j = fA n S M E r t j) (gB D clP 9 a) (wA 9 a)) ([.ref (a 0), .int (nI t)] : List Value).toArray s 0 0 (wA 9 a)) D clP 9 7 a (wA 9 a) e 62 [(0, .ref (a 0)), (1, .int (nI t)), (2, .int (nI u)), (3, .int (nI j)), (4, .double (fsm (fun i => FP.dmul (nw i) (M i j)) i)), (6, .int (nI i))] [] := by
            intro k3
            induction k3 with
            | zero =>
              intro i hk3
              obtain ⟨h0, hS, hM, hE, hr0, hnw, hod, hcn, hbf⟩ := id h
              refine g_iload C dX1_ahead_62 5 rfl ?_
              refine g_aload_n C dX1_ahead_64 rfl 0 rfl ?_
              refine g_get C 0 hin inl_pos1 (by decide) h0 (by decide) f_n rfl dX1_ahead_65 ?_
              refine g_icmp_ge (tgt := 102) C dX1_ahead_68 (by decide) (fun c1 => ?_) (fun c1 => absurd c1 (fun q => q (nI_le (by omega) (by omega))))
              refine g_aload_n C dX1_ahead_102 rfl 0 rfl ?_
              refine g_get C 7 hin inl_pos1 (by decide) h0 (by decide) f_now rfl dX1_ahead_103 ?_
              refine g_iload_n C dX1_ahead_106 rfl 3 rfl ?_
              refine g_dload C dX1_ahead_107 4 rfl ?_
              refine g_aload_n C dX1_ahead_109 rfl 0 rfl ?_
              refine g_iload_n C dX1_ahead_110 rfl 3 rfl ?_
              refine g_iload_n C dX1_ahead_111 rfl 2 rfl ?_
              refine g_calld (As := [.int (nI j), .int (nI u)]) (rest := [.double (fsm (fun i => FP.dmul (nw i) (M i j)) i), .int (nI j), .ref (a 5)]) C (cwV 2 C.2.2.2.2.1 gX1_ahead_X1_shown rfl rfl rfl (by decide +kernel) ⟨Nat.le_of_ble_eq_true rfl, Nat.le_of_ble_eq_true rfl⟩) (c_X1_shown l D cy a hi h j u (by omega) (by omega) hr4) (by decide) h0 inl_pos1 rfl rfl (Nat.le_of_ble_eq_true rfl) dX1_ahead_112 ⟨Nat.zero_le _, Nat.zero_le _⟩ (fun z e1 hz => ?_)
              rw [hz.1]
              obtain ⟨-, rfl⟩ := hz
              have hzA : FP.dmul (fsm (fun i => FP.dmul (nw i) (M i j)) i) (E j (r u)) = fA n S M E r u j := fA_step (F := fun _ => nw) (by rw [if_neg (by omega), show i = n from by omega]) (fun _ q hq => hp q hq)
              refine g_dmul C dX1_ahead_115 (by rw [hzA]; exact mg_n64 (fA_mg hn.2 hW hr4 u j (by omega) (by omega)) (by omega)) ?_
              refine g_dast C (by omega) hnw (by omega) (by decide) dX1_ahead_116 (fun y hy => ?_)
              have h := RM_nw h hy
              generalize va_up e 5 y = e at h ⊢
              refine g_iinc (v := nI (j + 1)) (k := 3) (lv' := [(0, .ref (a 0)), (1, .int (nI t)), (2, .int (nI u)), (3, .int (nI (j + 1))), (4, .double (fsm (fun i => FP.dmul (nw i) (M i j)) i)), (6, .int (nI i))]) C dX1_ahead_117 rfl (nI_inc j) (by decide) [1, 2, 3, 0, 4, 5] rfl ?_
              refine g_goto (tgt := 48) C dX1_ahead_120 (by decide) ?_
              refine g_pick (lv' := [(0, .ref (a 0)), (1, .int (nI t)), (2, .int (nI u)), (3, .int (nI (j + 1)))]) [0, 1, 2, 3] rfl ?_
              exact ih2 (j + 1) e _ (by omega) h (fun q hq => by
                by_cases hqj : q = j
                · subst hqj; rw [va_up_self]; exact hzA
                · rw [va_up_ne _ _ hqj]; exact hpj q (by omega))
            | succ k3 ih3 =>
              intro i hk3
              obtain ⟨h0, hS, hM, hE, hr0, hnw, hod, hcn, hbf⟩ := id h
              refine g_iload C dX1_ahead_62 5 rfl ?_
              refine g_aload_n C dX1_ahead_64 rfl 0 rfl ?_
              refine g_get C 0 hin inl_pos1 (by decide) h0 (by decide) f_n rfl dX1_ahead_65 ?_
              refine g_icmp_ge (tgt := 102) C dX1_ahead_68 (by decide) (fun c1 => absurd c1 (nI_ge (by omega) (by omega))) (fun c1 => ?_)
              refine g_dload C dX1_ahead_71 4 rfl ?_
              refine g_aload_n C dX1_ahead_73 rfl 0 rfl ?_
              refine g_get C 8 hin inl_pos1 (by decide) h0 (by decide) f_old rfl dX1_ahead_74 ?_
              refine g_iload C dX1_ahead_77 5 rfl ?_
              refine g_dald C (by omega) hod (by omega) (by decide) dX1_ahead_79 ?_
              refine g_aload_n C dX1_ahead_80 rfl 0 rfl ?_
              refine g_get C 4 hin inl_pos1 (by decide) h0 (by decide) f_moves rfl dX1_ahead_81 ?_
              refine g_bipush (v := nI 6) C dX1_ahead_84 (by decide) ?_
              refine g_iload C dX1_ahead_86 5 rfl ?_
              refine g_imul (v := nI (6 * i)) C dX1_ahead_88 (pk_mul 6 i) ?_
              refine g_iload_n C dX1_ahead_89 rfl 3 rfl ?_
              refine g_iadd (v := nI ((6 * i) + j)) C dX1_ahead_90 (nI_add (6 * i) j) ?_
              refine g_dald2 (i := i) (j := j) C (by omega) hM (by omega) (by omega) (by decide) dX1_ahead_91 ?_
              refine g_dmul C dX1_ahead_92 (mg_n64 (hb i (by omega)) (by omega)) ?_
              refine g_dadd C dX1_ahead_93 (mg_n64 (mg_add (fsm_mg hb (by omega) (by omega) i (by omega)) (mg_mono (hb i (by omega)) (by omega)) (by omega)) (by omega)) ?_
              refine g_dstore (lv' := [(0, .ref (a 0)), (1, .int (nI t)), (2, .int (nI u)), (3, .int (nI j)), (4, .double (FP.dadd (fsm (fun i => FP.dmul (nw i) (M i j)) i) (FP.dmul (nw i) (M i j)))), (6, .int (nI i))]) C dX1_ahead_94 (by decide) [1, 2, 3, 4, 0, 5] rfl ?_
              refine g_iinc (v := nI (i + 1)) (k := 5) (lv' := [(0, .ref (a 0)), (1, .int (nI t)), (2, .int (nI u)), (3, .int (nI j)), (4, .double (FP.dadd (fsm (fun i => FP.dmul (nw i) (M i j)) i) (FP.dmul (nw i) (M i j)))), (6, .int (nI (i + 1)))]) C dX1_ahead_96 rfl (nI_inc i) (by decide) [1, 2, 3, 4, 5, 0] rfl ?_
              refine g_goto (tgt := 62) C dX1_ahead_99 (by decide) ?_
              exact ih3 (i + 1) (by omega)
          exact L3 n 0 (by omega)
      exact L2 n 0 e1 nw (by omega) h (fun q hq => absurd hq (by omega))
  have L0 : ∀ (k : Nat) (j : Nat) (e : Nat → va_E) (nw : Nat → UInt64), j + k = n → RM cy a e n T th S M E r nw od cn bf → (∀ q, q < j → nw q = fA n S M E r 0 q) → GW p l en ({ frames := 1, cells := 0, slots := 0, locals := 22 }) s m ([.ref (a 0), .int (nI t)] : List Value).toArray below meth c 0 0 (MQ below (va_Qv (fun e1 => ∃ nw1 od1, RM cy a e1 n T th S M E r nw1 od1 cn bf ∧ ∀ j, j < n → nw1 j = fA n S M E r t j) (gB D clP 9 a) (wA 9 a)) ([.ref (a 0), .int (nI t)] : List Value).toArray s 0 0 (wA 9 a)) D clP 9 7 a (wA 9 a) e 2 [(0, .ref (a 0)), (1, .int (nI t)), (2, .int (nI j))] [] := by
    intro k
    induction k with
    | zero =>
      intro j e nw hk h hp
      obtain ⟨h0, hS, hM, hE, hr0, hnw, hod, hcn, hbf⟩ := id h
      refine g_iload_n C dX1_ahead_2 rfl 2 rfl ?_
      refine g_aload_n C dX1_ahead_3 rfl 0 rfl ?_
      refine g_get C 0 hin inl_pos1 (by decide) h0 (by decide) f_n rfl dX1_ahead_4 ?_
      refine g_icmp_ge (tgt := 35) C dX1_ahead_7 (by decide) (fun c1 => ?_) (fun c1 => absurd c1 (fun q => q (nI_le (by omega) (by omega))))
      refine g_iconst (v := nI 1) C dX1_ahead_35 (by decide) ?_
      refine g_istore_n (lv' := [(0, .ref (a 0)), (1, .int (nI t)), (2, .int (nI 1))]) C dX1_ahead_36 rfl (by decide) [1, 2, 0] rfl ?_
      exact K1 t 1 e nw od (by omega) (by omega) h (fun q hq => hp q (by omega))
    | succ k ih =>
      intro j e nw hk h hp
      obtain ⟨h0, hS, hM, hE, hr0, hnw, hod, hcn, hbf⟩ := id h
      refine g_iload_n C dX1_ahead_2 rfl 2 rfl ?_
      refine g_aload_n C dX1_ahead_3 rfl 0 rfl ?_
      refine g_get C 0 hin inl_pos1 (by decide) h0 (by decide) f_n rfl dX1_ahead_4 ?_
      refine g_icmp_ge (tgt := 35) C dX1_ahead_7 (by decide) (fun c1 => absurd c1 (nI_ge (by omega) (by omega))) (fun c1 => ?_)
      refine g_aload_n C dX1_ahead_10 rfl 0 rfl ?_
      refine g_get C 7 hin inl_pos1 (by decide) h0 (by decide) f_now rfl dX1_ahead_11 ?_
      refine g_iload_n C dX1_ahead_14 rfl 2 rfl ?_
      refine g_aload_n C dX1_ahead_15 rfl 0 rfl ?_
      refine g_get C 3 hin inl_pos1 (by decide) h0 (by decide) f_starts rfl dX1_ahead_16 ?_
      refine g_iload_n C dX1_ahead_19 rfl 2 rfl ?_
      refine g_dald C (by omega) hS (by omega) (by decide) dX1_ahead_20 ?_
      refine g_aload_n C dX1_ahead_21 rfl 0 rfl ?_
      refine g_iload_n C dX1_ahead_22 rfl 2 rfl ?_
      refine g_iconst (v := nI 0) C dX1_ahead_23 (by decide) ?_
      refine g_calld (As := [.int (nI j), .int (nI 0)]) (rest := [.double (S j), .int (nI j), .ref (a 5)]) C (cwV 2 C.2.2.2.2.1 gX1_ahead_X1_shown rfl rfl rfl (by decide +kernel) ⟨Nat.le_of_ble_eq_true rfl, Nat.le_of_ble_eq_true rfl⟩) (c_X1_shown l D cy a hi h j 0 (by omega) (by omega) hr4) (by decide) h0 inl_pos1 rfl rfl (Nat.le_of_ble_eq_true rfl) dX1_ahead_24 ⟨Nat.zero_le _, Nat.zero_le _⟩ (fun z e1 hz => ?_)
      rw [hz.1]
      obtain ⟨-, rfl⟩ := hz
      refine g_dmul C dX1_ahead_27 (mg_n64 (fA_mg hn.2 hW hr4 0 j (by omega) (by omega)) (by omega)) ?_
      refine g_dast C (by omega) hnw (by omega) (by decide) dX1_ahead_28 (fun y hy => ?_)
      have h := RM_nw h hy
      generalize va_up e 5 y = e at h ⊢
      refine g_iinc (v := nI (j + 1)) (k := 2) (lv' := [(0, .ref (a 0)), (1, .int (nI t)), (2, .int (nI (j + 1)))]) C dX1_ahead_29 rfl (nI_inc j) (by decide) [1, 2, 0] rfl ?_
      refine g_goto (tgt := 2) C dX1_ahead_32 (by decide) ?_
      exact ih (j + 1) e _ (by omega) h (fun q hq => by
        by_cases hqj : q = j
        · subst hqj; rw [va_up_self]; rfl
        · rw [va_up_ne _ _ hqj]; exact hp q (by omega))
  refine g_iconst (v := nI 0) C dX1_ahead_0 (by decide) ?_
  refine g_istore_n (lv' := [(0, .ref (a 0)), (1, .int (nI t)), (2, .int (nI 0))]) C dX1_ahead_1 rfl (by decide) [1, 2, 0] rfl ?_
  exact L0 n 0 e nw (by omega) h (fun q hq => absurd hq (by omega))

set_option maxHeartbeats 4000000 in
set_option maxRecDepth 100000 in
theorem c_X1_greatest (l : Launch) (D : va_G) (cy : Nat → ClassId) (a : Nat → Nat) (hi : wInj 9 a) {e : Nat → va_E} {n T th : Nat} {S : Nat → UInt64} {M E : T2} {r : Nat → Nat} {nw od : Nat → UInt64} {cn bf : Nat → Int64} (h : RM cy a e n T th S M E r nw od cn bf) (hn : 1 ≤ n ∧ n ≤ 6) (hW : WB S M E) (hr4 : RW4 r) (t : Nat) (ht : t < 12) : Met l yX1_greatest wsX1_greatest ({ frames := 1, cells := 0, slots := 0, locals := 23 }) (gPc D clP cy 9 a e [.ref (a 0), .int (nI t)]) (va_Qv (fun e1 => ∃ nw1 od1, RM cy a e1 n T th S M E r nw1 od1 cn bf ∧ ∀ j, j < n → nw1 j = fV n S M E r t j) (gB D clP 9 a) (wA 9 a)) 0 0 (wA 9 a) := by
  refine g_met (cc := cX1_greatest) (maxL := 4) (ret := none) (lv := [(0, .ref (a 0)), (1, .int (nI t))]) (by decide) rfl (Nat.le_of_ble_eq_true rfl) rfl hi (fun k hk => ⟨k, hk, rfl⟩) ?_
  intro p en s m below meth c C hr hlocks
  have hin : ∀ w ∈ u_ws RX1 TX1 11, w ∈ wsX1_greatest := by decide +kernel
  have f_n := C.2.2.2.2.1 (.fieldLink RX1 36 "PathOddsModel" "n" "I") (by decide +kernel)
  have f_now := C.2.2.2.2.1 (.fieldLink RX1 23 "PathOddsModel" "now" "[D") (by decide +kernel)
  have f_starts := C.2.2.2.2.1 (.fieldLink RX1 7 "PathOddsModel" "starts" "[D") (by decide +kernel)
  have f_old := C.2.2.2.2.1 (.fieldLink RX1 26 "PathOddsModel" "old" "[D") (by decide +kernel)
  have f_moves := C.2.2.2.2.1 (.fieldLink RX1 13 "PathOddsModel" "moves" "[D") (by decide +kernel)
  obtain ⟨h0, hS, hM, hE, hr0, hnw, hod, hcn, hbf⟩ := id h
  have K1 : ∀ (k : Nat) (u : Nat) (e : Nat → va_E) (nw od : Nat → UInt64), 1 ≤ u → u + k = t + 1 → RM cy a e n T th S M E r nw od cn bf → (∀ q, q < n → nw q = fV n S M E r (u - 1) q) → GW p l en ({ frames := 1, cells := 0, slots := 0, locals := 23 }) s m ([.ref (a 0), .int (nI t)] : List Value).toArray below meth c 0 0 (MQ below (va_Qv (fun e1 => ∃ nw1 od1, RM cy a e1 n T th S M E r nw1 od1 cn bf ∧ ∀ j, j < n → nw1 j = fV n S M E r t j) (gB D clP 9 a) (wA 9 a)) ([.ref (a 0), .int (nI t)] : List Value).toArray s 0 0 (wA 9 a)) D clP 9 4 a (wA 9 a) e 37 [(0, .ref (a 0)), (1, .int (nI t)), (2, .int (nI u))] [] := by
    intro k
    induction k with
    | zero =>
      intro u e nw od hu hk h hp
      obtain ⟨h0, hS, hM, hE, hr0, hnw, hod, hcn, hbf⟩ := id h
      refine g_iload_n C dX1_greatest_37 rfl 2 rfl ?_
      refine g_iload_n C dX1_greatest_38 rfl 1 rfl ?_
      refine g_icmp_gt (tgt := 107) C dX1_greatest_39 (by decide) (fun c1 => ?_) (fun c1 => absurd c1 (fun q => q (nI_lt (by omega) (by omega))))
      exact g_vret C hr hlocks (⟨nw, od, h, fun q hq => by rw [hp q hq, show u - 1 = t by omega]⟩) dX1_greatest_107
    | succ k ih =>
      intro u e nw od hu hk h hp
      obtain ⟨h0, hS, hM, hE, hr0, hnw, hod, hcn, hbf⟩ := id h
      refine g_iload_n C dX1_greatest_37 rfl 2 rfl ?_
      refine g_iload_n C dX1_greatest_38 rfl 1 rfl ?_
      refine g_icmp_gt (tgt := 107) C dX1_greatest_39 (by decide) (fun c1 => absurd c1 (nI_nlt (by omega) (by omega))) (fun c1 => ?_)
      have hru : r u < 4 := hr4 u (by omega)
      refine g_aload_n C dX1_greatest_42 rfl 0 rfl ?_
      refine g_callv (As := []) (rest := []) C (cwV 0 C.2.2.2.2.1 gX1_greatest_X1_shift rfl rfl rfl (by decide +kernel) ⟨Nat.le_of_ble_eq_true rfl, Nat.le_of_ble_eq_true rfl⟩) (c_X1_shift l D cy a hi h) (by decide) h0 inl_pos1 rfl rfl (Nat.le_of_ble_eq_true rfl) dX1_greatest_43 ⟨Nat.zero_le _, Nat.zero_le _⟩ (fun e1 h => ?_)
      obtain ⟨h0, hS, hM, hE, hr0, hnw, hod, hcn, hbf⟩ := id h
      refine g_iconst (v := nI 0) C dX1_greatest_46 (by decide) ?_
      refine g_istore_n (lv' := [(0, .ref (a 0)), (1, .int (nI t)), (2, .int (nI u)), (3, .int (nI 0))]) C dX1_greatest_47 rfl (by decide) [1, 2, 3, 0] rfl ?_
      have L2 : ∀ (k2 : Nat) (j : Nat) (e : Nat → va_E) (nw2 : Nat → UInt64), j + k2 = n → RM cy a e n T th S M E r nw2 nw cn bf → (∀ q, q < j → nw2 q = fV n S M E r u q) → GW p l en ({ frames := 1, cells := 0, slots := 0, locals := 23 }) s m ([.ref (a 0), .int (nI t)] : List Value).toArray below meth c 0 0 (MQ below (va_Qv (fun e1 => ∃ nw1 od1, RM cy a e1 n T th S M E r nw1 od1 cn bf ∧ ∀ j, j < n → nw1 j = fV n S M E r t j) (gB D clP 9 a) (wA 9 a)) ([.ref (a 0), .int (nI t)] : List Value).toArray s 0 0 (wA 9 a)) D clP 9 4 a (wA 9 a) e 48 [(0, .ref (a 0)), (1, .int (nI t)), (2, .int (nI u)), (3, .int (nI j))] [] := by
        intro k2
        induction k2 with
        | zero =>
          intro j e nw2 hk2 h hpj
          obtain ⟨h0, hS, hM, hE, hr0, hnw, hod, hcn, hbf⟩ := id h
          refine g_iload_n C dX1_greatest_48 rfl 3 rfl ?_
          refine g_aload_n C dX1_greatest_49 rfl 0 rfl ?_
          refine g_get C 0 hin inl_pos1 (by decide) h0 (by decide) f_n rfl dX1_greatest_50 ?_
          refine g_icmp_ge (tgt := 101) C dX1_greatest_53 (by decide) (fun c1 => ?_) (fun c1 => absurd c1 (fun q => q (nI_le (by omega) (by omega))))
          refine g_iinc (v := nI (u + 1)) (k := 2) (lv' := [(0, .ref (a 0)), (1, .int (nI t)), (2, .int (nI (u + 1))), (3, .int (nI j))]) C dX1_greatest_101 rfl (nI_inc u) (by decide) [1, 2, 0, 3] rfl ?_
          refine g_goto (tgt := 37) C dX1_greatest_104 (by decide) ?_
          refine g_pick (lv' := [(0, .ref (a 0)), (1, .int (nI t)), (2, .int (nI (u + 1)))]) [0, 1, 2] rfl ?_
          exact ih (u + 1) e nw2 nw (by omega) (by omega) h (fun q hq => hpj q (by omega))
        | succ k2 ih2 =>
          intro j e nw2 hk2 h hpj
          obtain ⟨h0, hS, hM, hE, hr0, hnw, hod, hcn, hbf⟩ := id h
          have hob : ∀ q, q < n → mg (1026 + 16 * (u - 1)) (nw q) := fun q hq => by rw [hp q hq]; exact fV_mg (by omega) hn.2 hW hr4 (u - 1) q (by omega) (by omega)
          refine g_iload_n C dX1_greatest_48 rfl 3 rfl ?_
          refine g_aload_n C dX1_greatest_49 rfl 0 rfl ?_
          refine g_get C 0 hin inl_pos1 (by decide) h0 (by decide) f_n rfl dX1_greatest_50 ?_
          refine g_icmp_ge (tgt := 101) C dX1_greatest_53 (by decide) (fun c1 => absurd c1 (nI_ge (by omega) (by omega))) (fun c1 => ?_)
          have hal : am (fun i => FP.dmul (nw i) (M i j)) n < n := am_lt (fun i => FP.dmul (nw i) (M i j)) n (by omega)
          generalize hg : am (fun i => FP.dmul (nw i) (M i j)) n = g at hal
          refine g_aload_n C dX1_greatest_56 rfl 0 rfl ?_
          refine g_get C 7 hin inl_pos1 (by decide) h0 (by decide) f_now rfl dX1_greatest_57 ?_
          refine g_iload_n C dX1_greatest_60 rfl 3 rfl ?_
          refine g_aload_n C dX1_greatest_61 rfl 0 rfl ?_
          refine g_get C 8 hin inl_pos1 (by decide) h0 (by decide) f_old rfl dX1_greatest_62 ?_
          refine g_aload_n C dX1_greatest_65 rfl 0 rfl ?_
          refine g_iload_n C dX1_greatest_66 rfl 3 rfl ?_
          refine g_calli (As := [.int (nI j)]) (rest := [.ref (a 6), .int (nI j), .ref (a 5)]) C (cwV 1 C.2.2.2.2.1 gX1_greatest_X1_from rfl rfl rfl (by decide +kernel) ⟨Nat.le_of_ble_eq_true rfl, Nat.le_of_ble_eq_true rfl⟩) (c_X1_from l D cy a hi h hn j (by omega) hW (K := 1026 + 16 * (u - 1)) (by omega) hob) (by decide) h0 inl_pos1 rfl rfl (Nat.le_of_ble_eq_true rfl) dX1_greatest_67 ⟨Nat.zero_le _, Nat.zero_le _⟩ (fun z e1 hz => ?_)
          rw [hz.1]
          obtain ⟨-, hz⟩ := hz
          rw [hg] at hz
          subst hz
          refine g_dald C (by omega) hod (by omega) (by decide) dX1_greatest_70 ?_
          refine g_aload_n C dX1_greatest_71 rfl 0 rfl ?_
          refine g_get C 4 hin inl_pos1 (by decide) h0 (by decide) f_moves rfl dX1_greatest_72 ?_
          refine g_bipush (v := nI 6) C dX1_greatest_75 (by decide) ?_
          refine g_aload_n C dX1_greatest_77 rfl 0 rfl ?_
          refine g_iload_n C dX1_greatest_78 rfl 3 rfl ?_
          refine g_calli (As := [.int (nI j)]) (rest := [.int (nI 6), .ref (a 2), .double (nw g), .int (nI j), .ref (a 5)]) C (cwV 1 C.2.2.2.2.1 gX1_greatest_X1_from rfl rfl rfl (by decide +kernel) ⟨Nat.le_of_ble_eq_true rfl, Nat.le_of_ble_eq_true rfl⟩) (c_X1_from l D cy a hi h hn j (by omega) hW (K := 1026 + 16 * (u - 1)) (by omega) hob) (by decide) h0 inl_pos1 rfl rfl (Nat.le_of_ble_eq_true rfl) dX1_greatest_79 ⟨Nat.zero_le _, Nat.zero_le _⟩ (fun z e1 hz => ?_)
          rw [hz.1]
          obtain ⟨-, hz⟩ := hz
          rw [hg] at hz
          subst hz
          refine g_imul (v := nI (6 * g)) C dX1_greatest_82 (pk_mul 6 g) ?_
          refine g_iload_n C dX1_greatest_83 rfl 3 rfl ?_
          refine g_iadd (v := nI ((6 * g) + j)) C dX1_greatest_84 (nI_add (6 * g) j) ?_
          refine g_dald2 (i := g) (j := j) C (by omega) hM (by omega) (by omega) (by decide) dX1_greatest_85 ?_
          refine g_dmul C dX1_greatest_86 (mg_n64 (mg_mul (hob g hal) (hW.2.1 g j (by omega) (by omega)) (by omega) (by decide)) (by omega)) ?_
          refine g_aload_n C dX1_greatest_87 rfl 0 rfl ?_
          refine g_iload_n C dX1_greatest_88 rfl 3 rfl ?_
          refine g_iload_n C dX1_greatest_89 rfl 2 rfl ?_
          refine g_calld (As := [.int (nI j), .int (nI u)]) (rest := [.double (FP.dmul (nw g) (M g j)), .int (nI j), .ref (a 5)]) C (cwV 2 C.2.2.2.2.1 gX1_greatest_X1_shown rfl rfl rfl (by decide +kernel) ⟨Nat.le_of_ble_eq_true rfl, Nat.le_of_ble_eq_true rfl⟩) (c_X1_shown l D cy a hi h j u (by omega) (by omega) hr4) (by decide) h0 inl_pos1 rfl rfl (Nat.le_of_ble_eq_true rfl) dX1_greatest_90 ⟨Nat.zero_le _, Nat.zero_le _⟩ (fun z e1 hz => ?_)
          rw [hz.1]
          obtain ⟨-, rfl⟩ := hz
          have hzA : FP.dmul (FP.dmul (nw g) (M g j)) (E j (r u)) = fV n S M E r u j := fV_step (V := fun _ => nw) (by omega) (fun q => absurd q (by omega)) (fun _ => by rw [show am (fun i => FP.dmul ((fun _ => nw) (u - 1) i) (M i j)) n = g from hg]) (fun _ q hq => hp q hq)
          refine g_dmul C dX1_greatest_93 (by rw [hzA]; exact mg_n64 (fV_mg (by omega) hn.2 hW hr4 u j (by omega) (by omega)) (by omega)) ?_
          refine g_dast C (by omega) hnw (by omega) (by decide) dX1_greatest_94 (fun y hy => ?_)
          have h := RM_nw h hy
          generalize va_up e 5 y = e at h ⊢
          refine g_iinc (v := nI (j + 1)) (k := 3) (lv' := [(0, .ref (a 0)), (1, .int (nI t)), (2, .int (nI u)), (3, .int (nI (j + 1)))]) C dX1_greatest_95 rfl (nI_inc j) (by decide) [1, 2, 3, 0] rfl ?_
          refine g_goto (tgt := 48) C dX1_greatest_98 (by decide) ?_
          exact ih2 (j + 1) e _ (by omega) h (fun q hq => by
            by_cases hqj : q = j
            · subst hqj; rw [va_up_self]; exact hzA
            · rw [va_up_ne _ _ hqj]; exact hpj q (by omega))
      exact L2 n 0 e1 nw (by omega) h (fun q hq => absurd hq (by omega))
  have L0 : ∀ (k : Nat) (j : Nat) (e : Nat → va_E) (nw : Nat → UInt64), j + k = n → RM cy a e n T th S M E r nw od cn bf → (∀ q, q < j → nw q = fV n S M E r 0 q) → GW p l en ({ frames := 1, cells := 0, slots := 0, locals := 23 }) s m ([.ref (a 0), .int (nI t)] : List Value).toArray below meth c 0 0 (MQ below (va_Qv (fun e1 => ∃ nw1 od1, RM cy a e1 n T th S M E r nw1 od1 cn bf ∧ ∀ j, j < n → nw1 j = fV n S M E r t j) (gB D clP 9 a) (wA 9 a)) ([.ref (a 0), .int (nI t)] : List Value).toArray s 0 0 (wA 9 a)) D clP 9 4 a (wA 9 a) e 2 [(0, .ref (a 0)), (1, .int (nI t)), (2, .int (nI j))] [] := by
    intro k
    induction k with
    | zero =>
      intro j e nw hk h hp
      obtain ⟨h0, hS, hM, hE, hr0, hnw, hod, hcn, hbf⟩ := id h
      refine g_iload_n C dX1_greatest_2 rfl 2 rfl ?_
      refine g_aload_n C dX1_greatest_3 rfl 0 rfl ?_
      refine g_get C 0 hin inl_pos1 (by decide) h0 (by decide) f_n rfl dX1_greatest_4 ?_
      refine g_icmp_ge (tgt := 35) C dX1_greatest_7 (by decide) (fun c1 => ?_) (fun c1 => absurd c1 (fun q => q (nI_le (by omega) (by omega))))
      refine g_iconst (v := nI 1) C dX1_greatest_35 (by decide) ?_
      refine g_istore_n (lv' := [(0, .ref (a 0)), (1, .int (nI t)), (2, .int (nI 1))]) C dX1_greatest_36 rfl (by decide) [1, 2, 0] rfl ?_
      exact K1 t 1 e nw od (by omega) (by omega) h (fun q hq => hp q (by omega))
    | succ k ih =>
      intro j e nw hk h hp
      obtain ⟨h0, hS, hM, hE, hr0, hnw, hod, hcn, hbf⟩ := id h
      refine g_iload_n C dX1_greatest_2 rfl 2 rfl ?_
      refine g_aload_n C dX1_greatest_3 rfl 0 rfl ?_
      refine g_get C 0 hin inl_pos1 (by decide) h0 (by decide) f_n rfl dX1_greatest_4 ?_
      refine g_icmp_ge (tgt := 35) C dX1_greatest_7 (by decide) (fun c1 => absurd c1 (nI_ge (by omega) (by omega))) (fun c1 => ?_)
      refine g_aload_n C dX1_greatest_10 rfl 0 rfl ?_
      refine g_get C 7 hin inl_pos1 (by decide) h0 (by decide) f_now rfl dX1_greatest_11 ?_
      refine g_iload_n C dX1_greatest_14 rfl 2 rfl ?_
      refine g_aload_n C dX1_greatest_15 rfl 0 rfl ?_
      refine g_get C 3 hin inl_pos1 (by decide) h0 (by decide) f_starts rfl dX1_greatest_16 ?_
      refine g_iload_n C dX1_greatest_19 rfl 2 rfl ?_
      refine g_dald C (by omega) hS (by omega) (by decide) dX1_greatest_20 ?_
      refine g_aload_n C dX1_greatest_21 rfl 0 rfl ?_
      refine g_iload_n C dX1_greatest_22 rfl 2 rfl ?_
      refine g_iconst (v := nI 0) C dX1_greatest_23 (by decide) ?_
      refine g_calld (As := [.int (nI j), .int (nI 0)]) (rest := [.double (S j), .int (nI j), .ref (a 5)]) C (cwV 2 C.2.2.2.2.1 gX1_greatest_X1_shown rfl rfl rfl (by decide +kernel) ⟨Nat.le_of_ble_eq_true rfl, Nat.le_of_ble_eq_true rfl⟩) (c_X1_shown l D cy a hi h j 0 (by omega) (by omega) hr4) (by decide) h0 inl_pos1 rfl rfl (Nat.le_of_ble_eq_true rfl) dX1_greatest_24 ⟨Nat.zero_le _, Nat.zero_le _⟩ (fun z e1 hz => ?_)
      rw [hz.1]
      obtain ⟨-, rfl⟩ := hz
      refine g_dmul C dX1_greatest_27 (mg_n64 (fV_mg (by omega) hn.2 hW hr4 0 j (by omega) (by omega)) (by omega)) ?_
      refine g_dast C (by omega) hnw (by omega) (by decide) dX1_greatest_28 (fun y hy => ?_)
      have h := RM_nw h hy
      generalize va_up e 5 y = e at h ⊢
      refine g_iinc (v := nI (j + 1)) (k := 2) (lv' := [(0, .ref (a 0)), (1, .int (nI t)), (2, .int (nI (j + 1)))]) C dX1_greatest_29 rfl (nI_inc j) (by decide) [1, 2, 0] rfl ?_
      refine g_goto (tgt := 2) C dX1_greatest_32 (by decide) ?_
      exact ih (j + 1) e _ (by omega) h (fun q hq => by
        by_cases hqj : q = j
        · subst hqj; rw [va_up_self]; rfl
        · rw [va_up_ne _ _ hqj]; exact hp q (by omega))
  refine g_iconst (v := nI 0) C dX1_greatest_0 (by decide) ?_
  refine g_istore_n (lv' := [(0, .ref (a 0)), (1, .int (nI t)), (2, .int (nI 0))]) C dX1_greatest_1 rfl (by decide) [1, 2, 0] rfl ?_
  exact L0 n 0 e nw (by omega) h (fun q hq => absurd hq (by omega))

set_option maxHeartbeats 4000000 in
set_option maxRecDepth 100000 in
theorem c_X1_behind (l : Launch) (D : va_G) (cy : Nat → ClassId) (a : Nat → Nat) (hi : wInj 9 a) {e : Nat → va_E} {n T th : Nat} {S : Nat → UInt64} {M E : T2} {r : Nat → Nat} {nw od : Nat → UInt64} {cn bf : Nat → Int64} (h : RM cy a e n T th S M E r nw od cn bf) (hn : 1 ≤ n ∧ n ≤ 6) (hW : WB S M E) (hr4 : RW4 r) (hT : T ≤ 12) (t : Nat) (ht : t < T) : Met l yX1_behind wsX1_behind ({ frames := 1, cells := 0, slots := 0, locals := 22 }) (gPc D clP cy 9 a e [.ref (a 0), .int (nI t)]) (va_Qv (fun e1 => ∃ nw1 od1, RM cy a e1 n T th S M E r nw1 od1 cn bf ∧ ∀ j, j < n → nw1 j = fB n M E r T (T - 1 - t) j) (gB D clP 9 a) (wA 9 a)) 0 0 (wA 9 a) := by
  refine g_met (cc := cX1_behind) (maxL := 7) (ret := none) (lv := [(0, .ref (a 0)), (1, .int (nI t))]) (by decide) rfl (Nat.le_of_ble_eq_true rfl) rfl hi (fun k hk => ⟨k, hk, rfl⟩) ?_
  intro p en s m below meth c C hr hlocks
  have hin : ∀ w ∈ u_ws RX1 TX1 11, w ∈ wsX1_behind := by decide +kernel
  have f_n := C.2.2.2.2.1 (.fieldLink RX1 36 "PathOddsModel" "n" "I") (by decide +kernel)
  have f_now := C.2.2.2.2.1 (.fieldLink RX1 23 "PathOddsModel" "now" "[D") (by decide +kernel)
  have f_length := C.2.2.2.2.1 (.fieldLink RX1 43 "PathOddsModel" "length" "I") (by decide +kernel)
  have f_moves := C.2.2.2.2.1 (.fieldLink RX1 13 "PathOddsModel" "moves" "[D") (by decide +kernel)
  have f_old := C.2.2.2.2.1 (.fieldLink RX1 26 "PathOddsModel" "old" "[D") (by decide +kernel)
  obtain ⟨h0, hS, hM, hE, hr0, hnw, hod, hcn, hbf⟩ := id h
  have K1 : ∀ (k : Nat) (d : Nat) (e : Nat → va_E) (nw od : Nat → UInt64) (x2 : Int32), d + k = T - 1 - t → RM cy a e n T th S M E r nw od cn bf → (∀ q, q < n → nw q = fB n M E r T d q) → ((d + 2 ≤ T → x2 = nI (T - 2 - d)) ∧ (d + 1 = T → x2 = -1)) → GW p l en ({ frames := 1, cells := 0, slots := 0, locals := 22 }) s m ([.ref (a 0), .int (nI t)] : List Value).toArray below meth c 0 0 (MQ below (va_Qv (fun e1 => ∃ nw1 od1, RM cy a e1 n T th S M E r nw1 od1 cn bf ∧ ∀ j, j < n → nw1 j = fB n M E r T (T - 1 - t) j) (gB D clP 9 a) (wA 9 a)) ([.ref (a 0), .int (nI t)] : List Value).toArray s 0 0 (wA 9 a)) D clP 9 7 a (wA 9 a) e 30 [(0, .ref (a 0)), (1, .int (nI t)), (2, .int x2)] [] := by
    intro k
    induction k with
    | zero =>
      intro d e nw od x2 hk h hp hx
      obtain ⟨h0, hS, hM, hE, hr0, hnw, hod, hcn, hbf⟩ := id h
      have hlt : x2 < nI t := by
        by_cases h0t : t = 0
        · rw [hx.2 (by omega), h0t]; decide
        · rw [hx.1 (by omega)]; exact nI_lt (by omega) (by omega)
      refine g_iload_n C dX1_behind_30 rfl 2 rfl ?_
      refine g_iload_n C dX1_behind_31 rfl 1 rfl ?_
      refine g_icmp_lt (tgt := 125) C dX1_behind_32 (by decide) (fun c1 => ?_) (fun c1 => absurd c1 (fun q => q hlt))
      exact g_vret C hr hlocks (⟨nw, od, h, fun q hq => by rw [hp q hq, show d = T - 1 - t by omega]⟩) dX1_behind_125
    | succ k ih =>
      intro d e nw od x2 hk h hp hx
      obtain ⟨h0, hS, hM, hE, hr0, hnw, hod, hcn, hbf⟩ := id h
      have hx1 := hx.1 (by omega)
      subst hx1
      refine g_iload_n C dX1_behind_30 rfl 2 rfl ?_
      refine g_iload_n C dX1_behind_31 rfl 1 rfl ?_
      refine g_icmp_lt (tgt := 125) C dX1_behind_32 (by decide) (fun c1 => absurd c1 (nI_nlt (by omega) (by omega))) (fun c1 => ?_)
      have hru : r (T - 2 - d + 1) < 4 := hr4 _ (by omega)
      refine g_aload_n C dX1_behind_35 rfl 0 rfl ?_
      refine g_callv (As := []) (rest := []) C (cwV 0 C.2.2.2.2.1 gX1_behind_X1_shift rfl rfl rfl (by decide +kernel) ⟨Nat.le_of_ble_eq_true rfl, Nat.le_of_ble_eq_true rfl⟩) (c_X1_shift l D cy a hi h) (by decide) h0 inl_pos1 rfl rfl (Nat.le_of_ble_eq_true rfl) dX1_behind_36 ⟨Nat.zero_le _, Nat.zero_le _⟩ (fun e1 h => ?_)
      obtain ⟨h0, hS, hM, hE, hr0, hnw, hod, hcn, hbf⟩ := id h
      refine g_iconst (v := nI 0) C dX1_behind_39 (by decide) ?_
      refine g_istore_n (lv' := [(0, .ref (a 0)), (1, .int (nI t)), (2, .int (nI (T - 2 - d))), (3, .int (nI 0))]) C dX1_behind_40 rfl (by decide) [1, 2, 3, 0] rfl ?_
      have L2 : ∀ (k2 : Nat) (j : Nat) (e : Nat → va_E) (nw2 : Nat → UInt64), j + k2 = n → RM cy a e n T th S M E r nw2 nw cn bf → (∀ q, q < j → nw2 q = fB n M E r T (d + 1) q) → GW p l en ({ frames := 1, cells := 0, slots := 0, locals := 22 }) s m ([.ref (a 0), .int (nI t)] : List Value).toArray below meth c 0 0 (MQ below (va_Qv (fun e1 => ∃ nw1 od1, RM cy a e1 n T th S M E r nw1 od1 cn bf ∧ ∀ j, j < n → nw1 j = fB n M E r T (T - 1 - t) j) (gB D clP 9 a) (wA 9 a)) ([.ref (a 0), .int (nI t)] : List Value).toArray s 0 0 (wA 9 a)) D clP 9 7 a (wA 9 a) e 41 [(0, .ref (a 0)), (1, .int (nI t)), (2, .int (nI (T - 2 - d))), (3, .int (nI j))] [] := by
        intro k2
        induction k2 with
        | zero =>
          intro j e nw2 hk2 h hpj
          obtain ⟨h0, hS, hM, hE, hr0, hnw, hod, hcn, hbf⟩ := id h
          refine g_iload_n C dX1_behind_41 rfl 3 rfl ?_
          refine g_aload_n C dX1_behind_42 rfl 0 rfl ?_
          refine g_get C 0 hin inl_pos1 (by decide) h0 (by decide) f_n rfl dX1_behind_43 ?_
          refine g_icmp_ge (tgt := 119) C dX1_behind_46 (by decide) (fun c1 => ?_) (fun c1 => absurd c1 (fun q => q (nI_le (by omega) (by omega))))
          refine g_iinc (v := nI (T - 2 - d) + Int32.ofInt (-1)) (k := 2) (lv' := [(0, .ref (a 0)), (1, .int (nI t)), (2, .int (nI (T - 2 - d) + Int32.ofInt (-1))), (3, .int (nI j))]) C dX1_behind_119 rfl (rfl) (by decide) [1, 2, 0, 3] rfl ?_
          refine g_goto (tgt := 30) C dX1_behind_122 (by decide) ?_
          refine g_pick (lv' := [(0, .ref (a 0)), (1, .int (nI t)), (2, .int (nI (T - 2 - d) + Int32.ofInt (-1)))]) [0, 1, 2] rfl ?_
          exact ih (d + 1) e nw2 nw _ (by omega) h (fun q hq => hpj q (by omega)) ⟨fun hd => by rw [nI_dec (by omega), show T - 2 - d - 1 = T - 2 - (d + 1) by omega], fun hd => by rw [show T - 2 - d = 0 by omega]; decide⟩
        | succ k2 ih2 =>
          intro j e nw2 hk2 h hpj
          obtain ⟨h0, hS, hM, hE, hr0, hnw, hod, hcn, hbf⟩ := id h
          have hm : ∀ q, q < n → j < n → mg 1026 (FP.dmul (M j q) (E q (r (T - 2 - d + 1)))) := fun q hq hj => mg_mono (mg_mul (hW.2.1 j q (by omega) (by omega)) (hW.2.2 q _ (by omega) hru) (by decide) (by decide)) (by decide)
          have hb : ∀ q, q < n → mg (1028 + 16 * d) ((fun q => FP.dmul (FP.dmul (M j q) (E q (r (T - 2 - d + 1)))) (nw q)) q) := fun q hq => mg_mono (mg_mul (hm q hq (by omega)) (by rw [hp q hq]; exact fB_mg (S := S) hn.2 hT hW hr4 d q (by omega) (by omega)) (by decide) (by omega)) (by omega)
          refine g_iload_n C dX1_behind_41 rfl 3 rfl ?_
          refine g_aload_n C dX1_behind_42 rfl 0 rfl ?_
          refine g_get C 0 hin inl_pos1 (by decide) h0 (by decide) f_n rfl dX1_behind_43 ?_
          refine g_icmp_ge (tgt := 119) C dX1_behind_46 (by decide) (fun c1 => absurd c1 (nI_ge (by omega) (by omega))) (fun c1 => ?_)
          refine g_dconst0 C dX1_behind_49 ?_
          refine g_dstore (lv' := [(0, .ref (a 0)), (1, .int (nI t)), (2, .int (nI (T - 2 - d))), (3, .int (nI j)), (4, .double FP.dconst0)]) C dX1_behind_50 (by decide) [1, 2, 3, 4, 0] rfl ?_
          refine g_iconst (v := nI 0) C dX1_behind_52 (by decide) ?_
          refine g_istore (lv' := [(0, .ref (a 0)), (1, .int (nI t)), (2, .int (nI (T - 2 - d))), (3, .int (nI j)), (4, .double FP.dconst0), (6, .int (nI 0))]) C dX1_behind_53 (by decide) [1, 2, 3, 4, 5, 0] rfl ?_
          have L3 : ∀ (k3 : Nat) (i : Nat), i + k3 = n → GW p l en ({ frames := 1, cells := 0, slots := 0, locals := 22 }) s m ([.ref (a 0), .int (nI t)] : List Value).toArray below meth c 0 0 (MQ below (va_Qv (fun e1 => ∃ nw1 od1, RM cy a e1 n T th S M E r nw1 od1 cn bf ∧ ∀ j, j < n → nw1 j = fB n M E r T (T - 1 - t) j) (gB D clP 9 a) (wA 9 a)) ([.ref (a 0), .int (nI t)] : List Value).toArray s 0 0 (wA 9 a)) D clP 9 7 a (wA 9 a) e 55 [(0, .ref (a 0)), (1, .int (nI t)), (2, .int (nI (T - 2 - d))), (3, .int (nI j)), (4, .double (fsm (fun q => FP.dmul (FP.dmul (M j q) (E q (r (T - 2 - d + 1)))) (nw q)) i)), (6, .int (nI i))] [] := by
            intro k3
            induction k3 with
            | zero =>
              intro i hk3
              obtain ⟨h0, hS, hM, hE, hr0, hnw, hod, hcn, hbf⟩ := id h
              refine g_iload C dX1_behind_55 5 rfl ?_
              refine g_aload_n C dX1_behind_57 rfl 0 rfl ?_
              refine g_get C 0 hin inl_pos1 (by decide) h0 (by decide) f_n rfl dX1_behind_58 ?_
              refine g_icmp_ge (tgt := 105) C dX1_behind_61 (by decide) (fun c1 => ?_) (fun c1 => absurd c1 (fun q => q (nI_le (by omega) (by omega))))
              refine g_aload_n C dX1_behind_105 rfl 0 rfl ?_
              refine g_get C 7 hin inl_pos1 (by decide) h0 (by decide) f_now rfl dX1_behind_106 ?_
              refine g_iload_n C dX1_behind_109 rfl 3 rfl ?_
              refine g_dload C dX1_behind_110 4 rfl ?_
              have hzA : fsm (fun q => FP.dmul (FP.dmul (M j q) (E q (r (T - 2 - d + 1)))) (nw q)) i = fB n M E r T (d + 1) j := by
                rw [show i = n from by omega]
                exact fsm_congr (fun q hq => by
                  show FP.dmul (FP.dmul (M j q) (E q (r (T - 2 - d + 1)))) (nw q) = FP.dmul (FP.dmul (M j q) (E q (r (T - 1 - d)))) (fB n M E r T d q)
                  rw [hp q hq, show T - 2 - d + 1 = T - 1 - d by omega]) n (Nat.le_refl n)
              refine g_dast C (by omega) hnw (by omega) (by decide) dX1_behind_112 (fun y hy => ?_)
              have h := RM_nw h hy
              generalize va_up e 5 y = e at h ⊢
              refine g_iinc (v := nI (j + 1)) (k := 3) (lv' := [(0, .ref (a 0)), (1, .int (nI t)), (2, .int (nI (T - 2 - d))), (3, .int (nI (j + 1))), (4, .double (fsm (fun q => FP.dmul (FP.dmul (M j q) (E q (r (T - 2 - d + 1)))) (nw q)) i)), (6, .int (nI i))]) C dX1_behind_113 rfl (nI_inc j) (by decide) [1, 2, 3, 0, 4, 5] rfl ?_
              refine g_goto (tgt := 41) C dX1_behind_116 (by decide) ?_
              refine g_pick (lv' := [(0, .ref (a 0)), (1, .int (nI t)), (2, .int (nI (T - 2 - d))), (3, .int (nI (j + 1)))]) [0, 1, 2, 3] rfl ?_
              exact ih2 (j + 1) e _ (by omega) h (fun q hq => by
                by_cases hqj : q = j
                · subst hqj; rw [va_up_self]; exact hzA
                · rw [va_up_ne _ _ hqj]; exact hpj q (by omega))
            | succ k3 ih3 =>
              intro i hk3
              obtain ⟨h0, hS, hM, hE, hr0, hnw, hod, hcn, hbf⟩ := id h
              refine g_iload C dX1_behind_55 5 rfl ?_
              refine g_aload_n C dX1_behind_57 rfl 0 rfl ?_
              refine g_get C 0 hin inl_pos1 (by decide) h0 (by decide) f_n rfl dX1_behind_58 ?_
              refine g_icmp_ge (tgt := 105) C dX1_behind_61 (by decide) (fun c1 => absurd c1 (nI_ge (by omega) (by omega))) (fun c1 => ?_)
              refine g_dload C dX1_behind_64 4 rfl ?_
              refine g_aload_n C dX1_behind_66 rfl 0 rfl ?_
              refine g_get C 4 hin inl_pos1 (by decide) h0 (by decide) f_moves rfl dX1_behind_67 ?_
              refine g_bipush (v := nI 6) C dX1_behind_70 (by decide) ?_
              refine g_iload_n C dX1_behind_72 rfl 3 rfl ?_
              refine g_imul (v := nI (6 * j)) C dX1_behind_73 (pk_mul 6 j) ?_
              refine g_iload C dX1_behind_74 5 rfl ?_
              refine g_iadd (v := nI ((6 * j) + i)) C dX1_behind_76 (nI_add (6 * j) i) ?_
              refine g_dald2 (i := j) (j := i) C (by omega) hM (by omega) (by omega) (by decide) dX1_behind_77 ?_
              refine g_aload_n C dX1_behind_78 rfl 0 rfl ?_
              refine g_iload C dX1_behind_79 5 rfl ?_
              refine g_iload_n C dX1_behind_81 rfl 2 rfl ?_
              refine g_iconst (v := nI 1) C dX1_behind_82 (by decide) ?_
              refine g_iadd (v := nI ((T - 2 - d) + 1)) C dX1_behind_83 (nI_add (T - 2 - d) 1) ?_
              refine g_calld (As := [.int (nI i), .int (nI ((T - 2 - d) + 1))]) (rest := [.double (M j i), .double (fsm (fun q => FP.dmul (FP.dmul (M j q) (E q (r (T - 2 - d + 1)))) (nw q)) i)]) C (cwV 2 C.2.2.2.2.1 gX1_behind_X1_shown rfl rfl rfl (by decide +kernel) ⟨Nat.le_of_ble_eq_true rfl, Nat.le_of_ble_eq_true rfl⟩) (c_X1_shown l D cy a hi h i (T - 2 - d + 1) (by omega) (by omega) hr4) (by decide) h0 inl_pos1 rfl rfl (Nat.le_of_ble_eq_true rfl) dX1_behind_84 ⟨Nat.zero_le _, Nat.zero_le _⟩ (fun z e1 hz => ?_)
              rw [hz.1]
              obtain ⟨-, rfl⟩ := hz
              refine g_dmul C dX1_behind_87 (mg_n64 (hm i (by omega) (by omega)) (by omega)) ?_
              refine g_aload_n C dX1_behind_88 rfl 0 rfl ?_
              refine g_get C 8 hin inl_pos1 (by decide) h0 (by decide) f_old rfl dX1_behind_89 ?_
              refine g_iload C dX1_behind_92 5 rfl ?_
              refine g_dald C (by omega) hod (by omega) (by decide) dX1_behind_94 ?_
              refine g_dmul C dX1_behind_95 (mg_n64 (hb i (by omega)) (by omega)) ?_
              refine g_dadd C dX1_behind_96 (mg_n64 (mg_add (fsm_mg hb (by omega) (by omega) i (by omega)) (mg_mono (hb i (by omega)) (by omega)) (by omega)) (by omega)) ?_
              refine g_dstore (lv' := [(0, .ref (a 0)), (1, .int (nI t)), (2, .int (nI (T - 2 - d))), (3, .int (nI j)), (4, .double (FP.dadd (fsm (fun q => FP.dmul (FP.dmul (M j q) (E q (r (T - 2 - d + 1)))) (nw q)) i) (FP.dmul (FP.dmul (M j i) (E i (r (T - 2 - d + 1)))) (nw i)))), (6, .int (nI i))]) C dX1_behind_97 (by decide) [1, 2, 3, 4, 0, 5] rfl ?_
              refine g_iinc (v := nI (i + 1)) (k := 5) (lv' := [(0, .ref (a 0)), (1, .int (nI t)), (2, .int (nI (T - 2 - d))), (3, .int (nI j)), (4, .double (FP.dadd (fsm (fun q => FP.dmul (FP.dmul (M j q) (E q (r (T - 2 - d + 1)))) (nw q)) i) (FP.dmul (FP.dmul (M j i) (E i (r (T - 2 - d + 1)))) (nw i)))), (6, .int (nI (i + 1)))]) C dX1_behind_99 rfl (nI_inc i) (by decide) [1, 2, 3, 4, 5, 0] rfl ?_
              refine g_goto (tgt := 55) C dX1_behind_102 (by decide) ?_
              exact ih3 (i + 1) (by omega)
          exact L3 n 0 (by omega)
      exact L2 n 0 e1 nw (by omega) h (fun q hq => absurd hq (by omega))
  have L0 : ∀ (k : Nat) (j : Nat) (e : Nat → va_E) (nw : Nat → UInt64), j + k = n → RM cy a e n T th S M E r nw od cn bf → (∀ q, q < j → nw q = fB n M E r T 0 q) → GW p l en ({ frames := 1, cells := 0, slots := 0, locals := 22 }) s m ([.ref (a 0), .int (nI t)] : List Value).toArray below meth c 0 0 (MQ below (va_Qv (fun e1 => ∃ nw1 od1, RM cy a e1 n T th S M E r nw1 od1 cn bf ∧ ∀ j, j < n → nw1 j = fB n M E r T (T - 1 - t) j) (gB D clP 9 a) (wA 9 a)) ([.ref (a 0), .int (nI t)] : List Value).toArray s 0 0 (wA 9 a)) D clP 9 7 a (wA 9 a) e 2 [(0, .ref (a 0)), (1, .int (nI t)), (2, .int (nI j))] [] := by
    intro k
    induction k with
    | zero =>
      intro j e nw hk h hp
      obtain ⟨h0, hS, hM, hE, hr0, hnw, hod, hcn, hbf⟩ := id h
      refine g_iload_n C dX1_behind_2 rfl 2 rfl ?_
      refine g_aload_n C dX1_behind_3 rfl 0 rfl ?_
      refine g_get C 0 hin inl_pos1 (by decide) h0 (by decide) f_n rfl dX1_behind_4 ?_
      refine g_icmp_ge (tgt := 23) C dX1_behind_7 (by decide) (fun c1 => ?_) (fun c1 => absurd c1 (fun q => q (nI_le (by omega) (by omega))))
      refine g_aload_n C dX1_behind_23 rfl 0 rfl ?_
      refine g_get C 1 hin inl_pos1 (by decide) h0 (by decide) f_length rfl dX1_behind_24 ?_
      refine g_iconst (v := nI 2) C dX1_behind_27 (by decide) ?_
      refine g_isub (v := nI T - nI 2) C dX1_behind_28 rfl ?_
      refine g_istore_n (lv' := [(0, .ref (a 0)), (1, .int (nI t)), (2, .int (nI T - nI 2))]) C dX1_behind_29 rfl (by decide) [1, 2, 0] rfl ?_
      exact K1 (T - 1 - t) 0 e nw od _ (by omega) h (fun q hq => hp q (by omega)) ⟨fun hd => pk_sub hd, fun hd => by rw [show T = 1 by omega]; decide⟩
    | succ k ih =>
      intro j e nw hk h hp
      obtain ⟨h0, hS, hM, hE, hr0, hnw, hod, hcn, hbf⟩ := id h
      refine g_iload_n C dX1_behind_2 rfl 2 rfl ?_
      refine g_aload_n C dX1_behind_3 rfl 0 rfl ?_
      refine g_get C 0 hin inl_pos1 (by decide) h0 (by decide) f_n rfl dX1_behind_4 ?_
      refine g_icmp_ge (tgt := 23) C dX1_behind_7 (by decide) (fun c1 => absurd c1 (nI_ge (by omega) (by omega))) (fun c1 => ?_)
      refine g_aload_n C dX1_behind_10 rfl 0 rfl ?_
      refine g_get C 7 hin inl_pos1 (by decide) h0 (by decide) f_now rfl dX1_behind_11 ?_
      refine g_iload_n C dX1_behind_14 rfl 2 rfl ?_
      refine g_dconst1 C dX1_behind_15 ?_
      refine g_dast C (by omega) hnw (by omega) (by decide) dX1_behind_16 (fun y hy => ?_)
      have h := RM_nw h hy
      generalize va_up e 5 y = e at h ⊢
      refine g_iinc (v := nI (j + 1)) (k := 2) (lv' := [(0, .ref (a 0)), (1, .int (nI t)), (2, .int (nI (j + 1)))]) C dX1_behind_17 rfl (nI_inc j) (by decide) [1, 2, 0] rfl ?_
      refine g_goto (tgt := 2) C dX1_behind_20 (by decide) ?_
      exact ih (j + 1) e _ (by omega) h (fun q hq => by
        by_cases hqj : q = j
        · subst hqj; rw [va_up_self]; rfl
        · rw [va_up_ne _ _ hqj]; exact hp q (by omega))
  refine g_iconst (v := nI 0) C dX1_behind_0 (by decide) ?_
  refine g_istore_n (lv' := [(0, .ref (a 0)), (1, .int (nI t)), (2, .int (nI 0))]) C dX1_behind_1 rfl (by decide) [1, 2, 0] rfl ?_
  exact L0 n 0 e nw (by omega) h (fun q hq => absurd hq (by omega))
end
section
set_option maxHeartbeats 4000000 in
set_option maxRecDepth 100000 in
theorem c_X1_fault (l : Launch) (D : va_G) (cy : Nat → ClassId) (a : Nat → Nat) (hi : wInj 9 a) {e : Nat → va_E} {n T th : Nat} {S : Nat → UInt64} {M E : T2} {r : Nat → Nat} {nw od : Nat → UInt64} {cn bf : Nat → Int64} (h : RM cy a e n T th S M E r nw od cn bf) (hn : n ≤ 6) (hT : T ≤ 12) (x x2 : Int32) : Met l yX1_fault wsX1_fault ({ frames := 1, cells := 0, slots := 0, locals := 21 }) (gPc D clP cy 9 a e [.ref (a 0), .int x, .int x2]) (va_Qi (fun z e1 => e1 = e ∧ ((z = nI 1 ∧ ¬ (∃ t, t < T ∧ x = nI t)) ∨ (z = nI 2 ∧ (∃ t, t < T ∧ x = nI t) ∧ ¬ (∃ i, i < n ∧ x2 = nI i)) ∨ (z = nI 0 ∧ (∃ t, t < T ∧ x = nI t) ∧ (∃ i, i < n ∧ x2 = nI i)))) (gB D clP 9 a) (wA 9 a)) 0 0 (wA 9 a) := by
  refine g_met (cc := cX1_fault) (maxL := 3) (ret := (some .int)) (lv := [(0, .ref (a 0)), (1, .int x), (2, .int x2)]) (by decide) rfl (Nat.le_of_ble_eq_true rfl) rfl hi (fun k hk => ⟨k, hk, rfl⟩) ?_
  intro p en s m below meth c C hr hlocks
  have hin : ∀ w ∈ u_ws RX1 TX1 11, w ∈ wsX1_fault := by decide +kernel
  have f_length := C.2.2.2.2.1 (.fieldLink RX1 43 "PathOddsModel" "length" "I") (by decide +kernel)
  obtain ⟨h0, hS, hM, hE, hr0, hnw, hod, hcn, hbf⟩ := id h
  refine g_iload_n C dX1_fault_0 rfl 1 rfl ?_
  refine g_if_lt (tgt := 12) C dX1_fault_1 (by decide) (fun c1 => ?_) (fun c1 => ?_)
  · refine g_iconst (v := nI 1) C dX1_fault_12 (by decide) ?_
    refine g_goto (tgt := 29) C dX1_fault_13 (by decide) ?_
    exact g_iret C hr hlocks (⟨rfl, Or.inl ⟨rfl, inB_neg (by omega) c1⟩⟩) dX1_fault_29
  · refine g_iload_n C dX1_fault_4 rfl 1 rfl ?_
    refine g_aload_n C dX1_fault_5 rfl 0 rfl ?_
    refine g_get C 1 hin inl_pos1 (by decide) h0 (by decide) f_length rfl dX1_fault_6 ?_
    refine g_icmp_lt (tgt := 16) C dX1_fault_9 (by decide) (fun c2 => ?_) (fun c2 => ?_)
    · have hpl : ∃ t, t < T ∧ x = nI t := inB_in (by omega) c1 (fun q => absurd c2 (by rw [Int32.lt_iff_toInt_lt]; rw [Int32.le_iff_toInt_le] at q; omega))
      refine g_aload_n C dX1_fault_16 rfl 0 rfl ?_
      refine g_iload_n C dX1_fault_17 rfl 2 rfl ?_
      refine g_calli (As := [.int x2]) (rest := []) C (cwV 1 C.2.2.2.2.1 gX1_fault_X1_state rfl rfl rfl (by decide +kernel) ⟨Nat.le_of_ble_eq_true rfl, Nat.le_of_ble_eq_true rfl⟩) (c_X1_state l D cy a hi h (by omega) x2) (by decide) h0 inl_pos1 rfl rfl (Nat.le_of_ble_eq_true rfl) dX1_fault_18 ⟨Nat.zero_le _, Nat.zero_le _⟩ (fun z e1 hz => ?_)
      rw [hz.1]
      rcases hz.2 with ⟨rfl, hst⟩ | ⟨rfl, hno⟩
      · refine g_if_eq (tgt := 28) C dX1_fault_21 (by decide) (fun c1 => absurd c1 (by decide)) (fun c1 => ?_)
        refine g_iconst (v := nI 0) C dX1_fault_24 (by decide) ?_
        refine g_goto (tgt := 29) C dX1_fault_25 (by decide) ?_
        exact g_iret C hr hlocks (⟨rfl, Or.inr (Or.inr ⟨rfl, hpl, hst⟩)⟩) dX1_fault_29
      · refine g_if_eq (tgt := 28) C dX1_fault_21 (by decide) (fun c1 => ?_) (fun c1 => absurd c1 (fun q => q (by decide)))
        refine g_iconst (v := nI 2) C dX1_fault_28 (by decide) ?_
        exact g_iret C hr hlocks (⟨rfl, Or.inr (Or.inl ⟨rfl, hpl, hno⟩)⟩) dX1_fault_29
    · refine g_iconst (v := nI 1) C dX1_fault_12 (by decide) ?_
      refine g_goto (tgt := 29) C dX1_fault_13 (by decide) ?_
      exact g_iret C hr hlocks (⟨rfl, Or.inl ⟨rfl, inB_big (by omega) (by rw [Int32.le_iff_toInt_le]; rw [Int32.lt_iff_toInt_lt] at c2; omega)⟩⟩) dX1_fault_29

set_option maxHeartbeats 4000000 in
set_option maxRecDepth 100000 in
theorem c_X1_all (l : Launch) (D : va_G) (cy : Nat → ClassId) (a : Nat → Nat) (hi : wInj 9 a) {e : Nat → va_E} {n T th : Nat} {S : Nat → UInt64} {M E : T2} {r : Nat → Nat} {nw od : Nat → UInt64} {cn bf : Nat → Int64} (h : RM cy a e n T th S M E r nw od cn bf) (hn : 1 ≤ n ∧ n ≤ 6) (hT : T ≤ 12) (hW : WB S M E) (hr4 : RW4 r) : Met l yX1_all wsX1_all ({ frames := 2, cells := 0, slots := 0, locals := 48 }) (gPc D clP cy 9 a e [.ref (a 0)]) (va_Qd (fun z e1 => (∃ nw1 od1, RM cy a e1 n T th S M E r nw1 od1 cn bf) ∧ z = fTot n S M E r T) (gB D clP 9 a) (wA 9 a)) 0 0 (wA 9 a) := by
  refine g_met (cc := cX1_all) (maxL := 4) (ret := (some .double)) (lv := [(0, .ref (a 0))]) (by decide) rfl (Nat.le_of_ble_eq_true rfl) rfl hi (fun k hk => ⟨k, hk, rfl⟩) ?_
  intro p en s m below meth c C hr hlocks
  have hin : ∀ w ∈ u_ws RX1 TX1 11, w ∈ wsX1_all := by decide +kernel
  have f_length := C.2.2.2.2.1 (.fieldLink RX1 43 "PathOddsModel" "length" "I") (by decide +kernel)
  have f_n := C.2.2.2.2.1 (.fieldLink RX1 36 "PathOddsModel" "n" "I") (by decide +kernel)
  have f_now := C.2.2.2.2.1 (.fieldLink RX1 23 "PathOddsModel" "now" "[D") (by decide +kernel)
  obtain ⟨h0, hS, hM, hE, hr0, hnw, hod, hcn, hbf⟩ := id h
  refine g_aload_n C dX1_all_0 rfl 0 rfl ?_
  refine g_get C 1 hin inl_pos1 (by decide) h0 (by decide) f_length rfl dX1_all_1 ?_
  refine g_if_ne (tgt := 9) C dX1_all_4 (by decide) (fun c1 => ?_) (fun c1 => ?_)
  · have hT0 : 0 < T := Nat.pos_of_ne_zero (fun q => c1 (by rw [q]; rfl))
    refine g_aload_n C dX1_all_9 rfl 0 rfl ?_
    refine g_aload_n C dX1_all_10 rfl 0 rfl ?_
    refine g_get C 1 hin inl_pos1 (by decide) h0 (by decide) f_length rfl dX1_all_11 ?_
    refine g_iconst (v := nI 1) C dX1_all_14 (by decide) ?_
    refine g_isub (v := nI (T - 1)) C dX1_all_15 (pk_sub (by omega)) ?_
    refine g_callv (As := [.int (nI (T - 1))]) (rest := []) C (cwV 1 C.2.2.2.2.1 gX1_all_X1_ahead rfl rfl rfl (by decide +kernel) ⟨Nat.le_of_ble_eq_true rfl, Nat.le_of_ble_eq_true rfl⟩) (c_X1_ahead l D cy a hi h hn hW hr4 (T - 1) (by omega)) (by decide) h0 inl_pos1 rfl rfl (Nat.le_of_ble_eq_true rfl) dX1_all_16 ⟨Nat.zero_le _, Nat.zero_le _⟩ (fun e1 he => ?_)
    obtain ⟨nw1, od1, h, hp⟩ := he
    obtain ⟨h0, hS, hM, hE, hr0, hnw, hod, hcn, hbf⟩ := id h
    refine g_dconst0 C dX1_all_19 ?_
    refine g_dstore_n (lv' := [(0, .ref (a 0)), (1, .double FP.dconst0)]) C dX1_all_20 rfl (by decide) [1, 0] rfl ?_
    refine g_iconst (v := nI 0) C dX1_all_21 (by decide) ?_
    refine g_istore_n (lv' := [(0, .ref (a 0)), (1, .double FP.dconst0), (3, .int (nI 0))]) C dX1_all_22 rfl (by decide) [1, 2, 0] rfl ?_
    have hb : ∀ q, q < n → mg 1202 ((fun j => nw1 j) q) := fun q hq => by show mg 1202 (nw1 q); rw [hp q hq]; exact mg_mono (fA_mg hn.2 hW hr4 (T - 1) q (by omega) (by omega)) (by omega)
    have L : ∀ (k : Nat) (i : Nat), i + k = n → GW p l en ({ frames := 2, cells := 0, slots := 0, locals := 48 }) s m ([.ref (a 0)] : List Value).toArray below meth c 0 0 (MQ below (va_Qd (fun z e1 => (∃ nw1 od1, RM cy a e1 n T th S M E r nw1 od1 cn bf) ∧ z = fTot n S M E r T) (gB D clP 9 a) (wA 9 a)) ([.ref (a 0)] : List Value).toArray s 0 0 (wA 9 a)) D clP 9 4 a (wA 9 a) e1 23 [(0, .ref (a 0)), (1, .double (fsm (fun j => nw1 j) i)), (3, .int (nI i))] [] := by
      intro k
      induction k with
      | zero =>
        intro i hk
        skip
        refine g_iload_n C dX1_all_23 rfl 2 rfl ?_
        refine g_aload_n C dX1_all_24 rfl 0 rfl ?_
        refine g_get C 0 hin inl_pos1 (by decide) h0 (by decide) f_n rfl dX1_all_25 ?_
        refine g_icmp_ge (tgt := 46) C dX1_all_28 (by decide) (fun c1 => ?_) (fun c1 => absurd c1 (fun q => q (nI_le (by omega) (by omega))))
        refine g_dload_n C dX1_all_46 rfl 1 rfl ?_
        exact g_dret C hr hlocks (⟨⟨nw1, od1, h⟩, by rw [fTot, if_neg (by omega), show i = n from by omega]; exact fsm_congr (fun q hq => hp q hq) n (Nat.le_refl n)⟩) dX1_all_47
      | succ k ih =>
        intro i hk
        skip
        refine g_iload_n C dX1_all_23 rfl 2 rfl ?_
        refine g_aload_n C dX1_all_24 rfl 0 rfl ?_
        refine g_get C 0 hin inl_pos1 (by decide) h0 (by decide) f_n rfl dX1_all_25 ?_
        refine g_icmp_ge (tgt := 46) C dX1_all_28 (by decide) (fun c1 => absurd c1 (nI_ge (by omega) (by omega))) (fun c1 => ?_)
        refine g_dload_n C dX1_all_31 rfl 1 rfl ?_
        refine g_aload_n C dX1_all_32 rfl 0 rfl ?_
        refine g_get C 7 hin inl_pos1 (by decide) h0 (by decide) f_now rfl dX1_all_33 ?_
        refine g_iload_n C dX1_all_36 rfl 2 rfl ?_
        refine g_dald C (by omega) hnw (by omega) (by decide) dX1_all_37 ?_
        refine g_dadd C dX1_all_38 (mg_n64 (mg_add (fsm_mg hb (by omega) (by omega) i (by omega)) (mg_mono (hb i (by omega)) (by omega)) (by omega)) (by omega)) ?_
        refine g_dstore_n (lv' := [(0, .ref (a 0)), (1, .double (FP.dadd (fsm (fun j => nw1 j) i) (nw1 i))), (3, .int (nI i))]) C dX1_all_39 rfl (by decide) [1, 0, 2] rfl ?_
        refine g_iinc (v := nI (i + 1)) (k := 2) (lv' := [(0, .ref (a 0)), (1, .double (FP.dadd (fsm (fun j => nw1 j) i) (nw1 i))), (3, .int (nI (i + 1)))]) C dX1_all_40 rfl (nI_inc i) (by decide) [1, 2, 0] rfl ?_
        refine g_goto (tgt := 23) C dX1_all_43 (by decide) ?_
        exact ih (i + 1) (by omega)
    exact L n 0 (by omega)
  · refine g_dconst1 C dX1_all_7 ?_
    exact g_dret C hr hlocks (⟨⟨nw, od, h⟩, by rw [fTot, if_pos ((nI_eq (by omega) (by decide)).mp c1)]⟩) dX1_all_8

set_option maxHeartbeats 4000000 in
set_option maxRecDepth 100000 in
theorem c_X1_total (l : Launch) (D : va_G) (cy : Nat → ClassId) (a : Nat → Nat) (hi : wInj 9 a) {e : Nat → va_E} {n T th : Nat} {S : Nat → UInt64} {M E : T2} {r : Nat → Nat} {nw od : Nat → UInt64} {cn bf : Nat → Int64} (h : RM cy a e n T th S M E r nw od cn bf) (hn : 1 ≤ n ∧ n ≤ 6) (hT : T ≤ 12) (hW : WB S M E) (hr4 : RW4 r) : Met l yX1_total wsX1_total ({ frames := 3, cells := 0, slots := 0, locals := 71 }) (gPc D clP cy 9 a e [.ref (a 0)]) (va_Qd (fun z e1 => (∃ nw1 od1, RM cy a e1 n T 0 S M E r nw1 od1 cn bf) ∧ z = fTot n S M E r T) (gB D clP 9 a) (wA 9 a)) 0 0 (wA 9 a) := by
  refine g_met (cc := cX1_total) (maxL := 1) (ret := (some .double)) (lv := [(0, .ref (a 0))]) (by decide) rfl (Nat.le_of_ble_eq_true rfl) rfl hi (fun k hk => ⟨k, hk, rfl⟩) ?_
  intro p en s m below meth c C hr hlocks
  have hin : ∀ w ∈ u_ws RX1 TX1 11, w ∈ wsX1_total := by decide +kernel
  have f_thrown := C.2.2.2.2.1 (.fieldLink RX1 40 "PathOddsModel" "thrown" "I") (by decide +kernel)
  obtain ⟨h0, hS, hM, hE, hr0, hnw, hod, hcn, hbf⟩ := id h
  refine g_aload_n C dX1_total_0 rfl 0 rfl ?_
  refine g_iconst (v := nI 0) C dX1_total_1 (by decide) ?_
  refine g_putE C 2 tyX1 tyX1_ok nmX1 hin inl_pos1 (by decide) h0 (by decide) f_thrown rfl (ty := .int) (by decide +kernel) rfl rfl (Nat.le_of_ble_eq_true rfl) dX1_total_2 (fun e2 he2 => ?_)
  have h : RM cy a e2 n T 0 S M E r nw od cn bf := by rw [he2]; exact RM_obj h rfl
  generalize e2 = e0 at h ⊢
  obtain ⟨h0, hS, hM, hE, hr0, hnw, hod, hcn, hbf⟩ := id h
  refine g_aload_n C dX1_total_5 rfl 0 rfl ?_
  refine g_calld (As := []) (rest := []) C (cwV 0 C.2.2.2.2.1 gX1_total_X1_all rfl rfl rfl (by decide +kernel) ⟨Nat.le_of_ble_eq_true rfl, Nat.le_of_ble_eq_true rfl⟩) (c_X1_all l D cy a hi h hn hT hW hr4) (by decide) h0 inl_pos1 rfl rfl (Nat.le_of_ble_eq_true rfl) dX1_total_6 ⟨Nat.zero_le _, Nat.zero_le _⟩ (fun z e1 hz => ?_)
  exact g_dret C hr hlocks (hz) dX1_total_9

set_option maxHeartbeats 4000000 in
set_option maxRecDepth 100000 in
theorem c_X1_best (l : Launch) (D : va_G) (cy : Nat → ClassId) (a : Nat → Nat) (hi : wInj 9 a) {e : Nat → va_E} {n T th : Nat} {S : Nat → UInt64} {M E : T2} {r : Nat → Nat} {nw od : Nat → UInt64} {cn bf : Nat → Int64} (h : RM cy a e n T th S M E r nw od cn bf) (hn : 1 ≤ n ∧ n ≤ 6) (hT : T ≤ 12) (hW : WB S M E) (hr4 : RW4 r) : Met l yX1_best wsX1_best ({ frames := 2, cells := 0, slots := 0, locals := 46 }) (gPc D clP cy 9 a e [.ref (a 0)]) (va_Qd (fun z e1 => (∃ nw1 od1, RM cy a e1 n T 0 S M E r nw1 od1 cn bf) ∧ z = fBest n S M E r T) (gB D clP 9 a) (wA 9 a)) 0 0 (wA 9 a) := by
  refine g_met (cc := cX1_best) (maxL := 1) (ret := (some .double)) (lv := [(0, .ref (a 0))]) (by decide) rfl (Nat.le_of_ble_eq_true rfl) rfl hi (fun k hk => ⟨k, hk, rfl⟩) ?_
  intro p en s m below meth c C hr hlocks
  have hin : ∀ w ∈ u_ws RX1 TX1 11, w ∈ wsX1_best := by decide +kernel
  have f_thrown := C.2.2.2.2.1 (.fieldLink RX1 40 "PathOddsModel" "thrown" "I") (by decide +kernel)
  have f_length := C.2.2.2.2.1 (.fieldLink RX1 43 "PathOddsModel" "length" "I") (by decide +kernel)
  have f_now := C.2.2.2.2.1 (.fieldLink RX1 23 "PathOddsModel" "now" "[D") (by decide +kernel)
  obtain ⟨h0, hS, hM, hE, hr0, hnw, hod, hcn, hbf⟩ := id h
  refine g_aload_n C dX1_best_0 rfl 0 rfl ?_
  refine g_iconst (v := nI 0) C dX1_best_1 (by decide) ?_
  refine g_putE C 2 tyX1 tyX1_ok nmX1 hin inl_pos1 (by decide) h0 (by decide) f_thrown rfl (ty := .int) (by decide +kernel) rfl rfl (Nat.le_of_ble_eq_true rfl) dX1_best_2 (fun e2 he2 => ?_)
  have h : RM cy a e2 n T 0 S M E r nw od cn bf := by rw [he2]; exact RM_obj h rfl
  generalize e2 = e0 at h ⊢
  obtain ⟨h0, hS, hM, hE, hr0, hnw, hod, hcn, hbf⟩ := id h
  refine g_aload_n C dX1_best_5 rfl 0 rfl ?_
  refine g_get C 1 hin inl_pos1 (by decide) h0 (by decide) f_length rfl dX1_best_6 ?_
  refine g_if_ne (tgt := 14) C dX1_best_9 (by decide) (fun c1 => ?_) (fun c1 => ?_)
  · have hT0 : 0 < T := Nat.pos_of_ne_zero (fun q => c1 (by rw [q]; rfl))
    refine g_aload_n C dX1_best_14 rfl 0 rfl ?_
    refine g_aload_n C dX1_best_15 rfl 0 rfl ?_
    refine g_get C 1 hin inl_pos1 (by decide) h0 (by decide) f_length rfl dX1_best_16 ?_
    refine g_iconst (v := nI 1) C dX1_best_19 (by decide) ?_
    refine g_isub (v := nI (T - 1)) C dX1_best_20 (pk_sub (by omega)) ?_
    refine g_callv (As := [.int (nI (T - 1))]) (rest := []) C (cwV 1 C.2.2.2.2.1 gX1_best_X1_greatest rfl rfl rfl (by decide +kernel) ⟨Nat.le_of_ble_eq_true rfl, Nat.le_of_ble_eq_true rfl⟩) (c_X1_greatest l D cy a hi h hn hW hr4 (T - 1) (by omega)) (by decide) h0 inl_pos1 rfl rfl (Nat.le_of_ble_eq_true rfl) dX1_best_21 ⟨Nat.zero_le _, Nat.zero_le _⟩ (fun e1 he => ?_)
    obtain ⟨nw1, od1, h, hp⟩ := he
    obtain ⟨h0, hS, hM, hE, hr0, hnw, hod, hcn, hbf⟩ := id h
    refine g_aload_n C dX1_best_24 rfl 0 rfl ?_
    refine g_get C 7 hin inl_pos1 (by decide) h0 (by decide) f_now rfl dX1_best_25 ?_
    refine g_aload_n C dX1_best_28 rfl 0 rfl ?_
    refine g_calli (As := []) (rest := [.ref (a 5)]) C (cwV 0 C.2.2.2.2.1 gX1_best_X1_last rfl rfl rfl (by decide +kernel) ⟨Nat.le_of_ble_eq_true rfl, Nat.le_of_ble_eq_true rfl⟩) (c_X1_last l D cy a hi h hn) (by decide) h0 inl_pos1 rfl rfl (Nat.le_of_ble_eq_true rfl) dX1_best_29 ⟨Nat.zero_le _, Nat.zero_le _⟩ (fun z e2 hz => ?_)
    rw [hz.1]
    obtain ⟨-, hz⟩ := hz
    have hc := am_congr (n := n) (f := fun j => nw1 j) (g := fun j => fV n S M E r (T - 1) j) (by omega) (fun i hi1 => hp i hi1) n (Nat.le_refl n)
    rw [hc] at hz
    subst hz
    have ha := am_lt (fun j => fV n S M E r (T - 1) j) n (by omega)
    refine g_dald C (by omega) hnw (by omega) (by decide) dX1_best_32 ?_
    exact g_dret C hr hlocks (⟨⟨nw1, od1, h⟩, by rw [fBest, if_neg (by omega)]; exact hp _ ha⟩) dX1_best_33
  · refine g_dconst1 C dX1_best_12 ?_
    exact g_dret C hr hlocks (⟨⟨nw, od, h⟩, by rw [fBest, if_pos ((nI_eq (by omega) (by decide)).mp c1)]⟩) dX1_best_13

set_option maxHeartbeats 4000000 in
set_option maxRecDepth 100000 in
theorem c_X1_bestState (l : Launch) (D : va_G) (cy : Nat → ClassId) (a : Nat → Nat) (hi : wInj 9 a) {e : Nat → va_E} {n T th : Nat} {S : Nat → UInt64} {M E : T2} {r : Nat → Nat} {nw od : Nat → UInt64} {cn bf : Nat → Int64} (h : RM cy a e n T th S M E r nw od cn bf) (hn : 1 ≤ n ∧ n ≤ 6) (hT : T ≤ 12) (hW : WB S M E) (hr4 : RW4 r) (x : Int32) : Met l yX1_bestState wsX1_bestState ({ frames := 2, cells := 0, slots := 0, locals := 46 }) (gPc D clP cy 9 a e [.ref (a 0), .int x]) (va_Qi (fun z e1 => (∃ nw1 od1, RM cy a e1 n T 0 S M E r nw1 od1 cn bf) ∧ ((∃ t, t < T ∧ x = nI t ∧ z = nI (fH n S M E r T (T - 1 - t))) ∨ (¬ (∃ t, t < T ∧ x = nI t) ∧ z = -1))) (gB D clP 9 a) (wA 9 a)) 0 0 (wA 9 a) := by
  refine g_met (cc := cX1_bestState) (maxL := 4) (ret := (some .int)) (lv := [(0, .ref (a 0)), (1, .int x)]) (by decide) rfl (Nat.le_of_ble_eq_true rfl) rfl hi (fun k hk => ⟨k, hk, rfl⟩) ?_
  intro p en s m below meth c C hr hlocks
  have hin : ∀ w ∈ u_ws RX1 TX1 11, w ∈ wsX1_bestState := by decide +kernel
  have f_thrown := C.2.2.2.2.1 (.fieldLink RX1 40 "PathOddsModel" "thrown" "I") (by decide +kernel)
  have f_length := C.2.2.2.2.1 (.fieldLink RX1 43 "PathOddsModel" "length" "I") (by decide +kernel)
  obtain ⟨h0, hS, hM, hE, hr0, hnw, hod, hcn, hbf⟩ := id h
  refine g_aload_n C dX1_bestState_0 rfl 0 rfl ?_
  refine g_iconst (v := nI 0) C dX1_bestState_1 (by decide) ?_
  refine g_putE C 2 tyX1 tyX1_ok nmX1 hin inl_pos1 (by decide) h0 (by decide) f_thrown rfl (ty := .int) (by decide +kernel) rfl rfl (Nat.le_of_ble_eq_true rfl) dX1_bestState_2 (fun e2 he2 => ?_)
  have h : RM cy a e2 n T 0 S M E r nw od cn bf := by rw [he2]; exact RM_obj h rfl
  generalize e2 = e0 at h ⊢
  obtain ⟨h0, hS, hM, hE, hr0, hnw, hod, hcn, hbf⟩ := id h
  refine g_iload_n C dX1_bestState_5 rfl 1 rfl ?_
  refine g_if_lt (tgt := 17) C dX1_bestState_6 (by decide) (fun c1 => ?_) (fun c1 => ?_)
  · refine g_iconst (v := -1) C dX1_bestState_17 (by decide) ?_
    exact g_iret C hr hlocks (⟨⟨nw, od, h⟩, Or.inr ⟨inB_neg (by omega) c1, rfl⟩⟩) dX1_bestState_18
  · refine g_iload_n C dX1_bestState_9 rfl 1 rfl ?_
    refine g_aload_n C dX1_bestState_10 rfl 0 rfl ?_
    refine g_get C 1 hin inl_pos1 (by decide) h0 (by decide) f_length rfl dX1_bestState_11 ?_
    refine g_icmp_lt (tgt := 19) C dX1_bestState_14 (by decide) (fun c2 => ?_) (fun c2 => ?_)
    · obtain ⟨t0, h_t, rfl⟩ : ∃ t, t < T ∧ x = nI t := inB_in (by omega) c1 (fun q => absurd c2 (by rw [Int32.lt_iff_toInt_lt]; rw [Int32.le_iff_toInt_le] at q; omega))
      refine g_aload_n C dX1_bestState_19 rfl 0 rfl ?_
      refine g_aload_n C dX1_bestState_20 rfl 0 rfl ?_
      refine g_get C 1 hin inl_pos1 (by decide) h0 (by decide) f_length rfl dX1_bestState_21 ?_
      refine g_iconst (v := nI 1) C dX1_bestState_24 (by decide) ?_
      refine g_isub (v := nI (T - 1)) C dX1_bestState_25 (pk_sub (by omega)) ?_
      refine g_callv (As := [.int (nI (T - 1))]) (rest := []) C (cwV 1 C.2.2.2.2.1 gX1_bestState_X1_greatest rfl rfl rfl (by decide +kernel) ⟨Nat.le_of_ble_eq_true rfl, Nat.le_of_ble_eq_true rfl⟩) (c_X1_greatest l D cy a hi h hn hW hr4 (T - 1) (by omega)) (by decide) h0 inl_pos1 rfl rfl (Nat.le_of_ble_eq_true rfl) dX1_bestState_26 ⟨Nat.zero_le _, Nat.zero_le _⟩ (fun e1 he => ?_)
      obtain ⟨nw1, od1, h, hp⟩ := he
      obtain ⟨h0, hS, hM, hE, hr0, hnw, hod, hcn, hbf⟩ := id h
      refine g_aload_n C dX1_bestState_29 rfl 0 rfl ?_
      refine g_calli (As := []) (rest := []) C (cwV 0 C.2.2.2.2.1 gX1_bestState_X1_last rfl rfl rfl (by decide +kernel) ⟨Nat.le_of_ble_eq_true rfl, Nat.le_of_ble_eq_true rfl⟩) (c_X1_last l D cy a hi h hn) (by decide) h0 inl_pos1 rfl rfl (Nat.le_of_ble_eq_true rfl) dX1_bestState_30 ⟨Nat.zero_le _, Nat.zero_le _⟩ (fun z e2 hz => ?_)
      rw [hz.1]
      obtain ⟨-, hz⟩ := hz
      have hc := am_congr (n := n) (f := fun j => nw1 j) (g := fun j => fV n S M E r (T - 1) j) (by omega) (fun i hi1 => hp i hi1) n (Nat.le_refl n)
      rw [hc] at hz
      have hz : z = nI (fH n S M E r T 0) := hz
      subst hz
      refine g_istore_n (lv' := [(0, .ref (a 0)), (1, .int (nI t0)), (2, .int (nI (fH n S M E r T 0)))]) C dX1_bestState_33 rfl (by decide) [1, 2, 0] rfl ?_
      refine g_aload_n C dX1_bestState_34 rfl 0 rfl ?_
      refine g_get C 1 hin inl_pos1 (by decide) h0 (by decide) f_length rfl dX1_bestState_35 ?_
      refine g_iconst (v := nI 1) C dX1_bestState_38 (by decide) ?_
      refine g_isub (v := nI (T - 1)) C dX1_bestState_39 (pk_sub (by omega)) ?_
      refine g_istore_n (lv' := [(0, .ref (a 0)), (1, .int (nI t0)), (2, .int (nI (fH n S M E r T 0))), (3, .int (nI (T - 1)))]) C dX1_bestState_40 rfl (by decide) [1, 2, 3, 0] rfl ?_
      have L : ∀ (k : Nat) (d : Nat) (e : Nat → va_E) (nw5 od5 : Nat → UInt64), d + k = T - 1 - t0 → RM cy a e n T 0 S M E r nw5 od5 cn bf → GW p l en ({ frames := 2, cells := 0, slots := 0, locals := 46 }) s m ([.ref (a 0), .int (nI t0)] : List Value).toArray below meth c 0 0 (MQ below (va_Qi (fun z e1 => (∃ nw1 od1, RM cy a e1 n T 0 S M E r nw1 od1 cn bf) ∧ ((∃ t, t < T ∧ nI t0 = nI t ∧ z = nI (fH n S M E r T (T - 1 - t))) ∨ (¬ (∃ t, t < T ∧ nI t0 = nI t) ∧ z = -1))) (gB D clP 9 a) (wA 9 a)) ([.ref (a 0), .int (nI t0)] : List Value).toArray s 0 0 (wA 9 a)) D clP 9 4 a (wA 9 a) e 41 [(0, .ref (a 0)), (1, .int (nI t0)), (2, .int (nI (fH n S M E r T d))), (3, .int (nI (T - 1 - d)))] [] := by
        intro k
        induction k with
        | zero =>
          intro d e nw5 od5 hk h
          obtain ⟨h0, hS, hM, hE, hr0, hnw, hod, hcn, hbf⟩ := id h
          refine g_iload_n C dX1_bestState_41 rfl 3 rfl ?_
          refine g_iload_n C dX1_bestState_42 rfl 1 rfl ?_
          refine g_icmp_le (tgt := 69) C dX1_bestState_43 (by decide) (fun c1 => ?_) (fun c1 => absurd c1 (fun q => q (nI_le (by omega) (by omega))))
          refine g_iload_n C dX1_bestState_69 rfl 2 rfl ?_
          exact g_iret C hr hlocks (⟨⟨nw5, od5, h⟩, Or.inl ⟨t0, h_t, rfl, by rw [show T - 1 - t0 = d by omega]⟩⟩) dX1_bestState_70
        | succ k ih =>
          intro d e nw5 od5 hk h
          obtain ⟨h0, hS, hM, hE, hr0, hnw, hod, hcn, hbf⟩ := id h
          have hl := fH_lt (n := n) (by omega) S M E r T d
          refine g_iload_n C dX1_bestState_41 rfl 3 rfl ?_
          refine g_iload_n C dX1_bestState_42 rfl 1 rfl ?_
          refine g_icmp_le (tgt := 69) C dX1_bestState_43 (by decide) (fun c1 => absurd c1 (nI_ge (by omega) (by omega))) (fun c1 => ?_)
          refine g_aload_n C dX1_bestState_46 rfl 0 rfl ?_
          refine g_iload_n C dX1_bestState_47 rfl 3 rfl ?_
          refine g_iconst (v := nI 1) C dX1_bestState_48 (by decide) ?_
          refine g_isub (v := nI ((T - 1 - d) - 1)) C dX1_bestState_49 (pk_sub (by omega)) ?_
          refine g_callv (As := [.int (nI ((T - 1 - d) - 1))]) (rest := []) C (cwV 1 C.2.2.2.2.1 gX1_bestState_X1_greatest rfl rfl rfl (by decide +kernel) ⟨Nat.le_of_ble_eq_true rfl, Nat.le_of_ble_eq_true rfl⟩) (c_X1_greatest l D cy a hi h hn hW hr4 (T - 1 - d - 1) (by omega)) (by decide) h0 inl_pos1 rfl rfl (Nat.le_of_ble_eq_true rfl) dX1_bestState_50 ⟨Nat.zero_le _, Nat.zero_le _⟩ (fun e1 he => ?_)
          obtain ⟨nw6, od6, h, hp6⟩ := he
          obtain ⟨h0, hS, hM, hE, hr0, hnw, hod, hcn, hbf⟩ := id h
          refine g_aload_n C dX1_bestState_53 rfl 0 rfl ?_
          refine g_callv (As := []) (rest := []) C (cwV 0 C.2.2.2.2.1 gX1_bestState_X1_shift rfl rfl rfl (by decide +kernel) ⟨Nat.le_of_ble_eq_true rfl, Nat.le_of_ble_eq_true rfl⟩) (c_X1_shift l D cy a hi h) (by decide) h0 inl_pos1 rfl rfl (Nat.le_of_ble_eq_true rfl) dX1_bestState_54 ⟨Nat.zero_le _, Nat.zero_le _⟩ (fun e2 h => ?_)
          obtain ⟨h0, hS, hM, hE, hr0, hnw, hod, hcn, hbf⟩ := id h
          refine g_aload_n C dX1_bestState_57 rfl 0 rfl ?_
          refine g_iload_n C dX1_bestState_58 rfl 2 rfl ?_
          refine g_calli (As := [.int (nI (fH n S M E r T d))]) (rest := []) C (cwV 1 C.2.2.2.2.1 gX1_bestState_X1_from rfl rfl rfl (by decide +kernel) ⟨Nat.le_of_ble_eq_true rfl, Nat.le_of_ble_eq_true rfl⟩) (c_X1_from l D cy a hi h hn (fH n S M E r T d) hl hW (K := 1202) (by omega) (fun q hq => by rw [hp6 q hq]; exact mg_mono (fV_mg (by omega) hn.2 hW hr4 _ q (by omega) (by omega)) (by omega))) (by decide) h0 inl_pos1 rfl rfl (Nat.le_of_ble_eq_true rfl) dX1_bestState_59 ⟨Nat.zero_le _, Nat.zero_le _⟩ (fun z e3 hz => ?_)
          rw [hz.1]
          obtain ⟨-, hz⟩ := hz
          have hz : z = nI (fH n S M E r T (d + 1)) := by rw [hz, fG_step (V := fun _ => nw6) (E := E) (S := S) (r := r) (t := T - 1 - d) (by omega) (fun q hq => hp6 q hq)]; rfl
          subst hz
          refine g_istore_n (lv' := [(0, .ref (a 0)), (1, .int (nI t0)), (2, .int (nI (fH n S M E r T (d + 1)))), (3, .int (nI (T - 1 - d)))]) C dX1_bestState_62 rfl (by decide) [1, 2, 0, 3] rfl ?_
          refine g_iinc (v := nI (T - 1 - (d + 1))) (k := 3) (lv' := [(0, .ref (a 0)), (1, .int (nI t0)), (2, .int (nI (fH n S M E r T (d + 1)))), (3, .int (nI (T - 1 - (d + 1))))]) C dX1_bestState_63 rfl (by rw [nI_dec (by omega), show T - 1 - d - 1 = T - 1 - (d + 1) by omega]) (by decide) [1, 2, 3, 0] rfl ?_
          refine g_goto (tgt := 41) C dX1_bestState_66 (by decide) ?_
          exact ih (d + 1) e2 nw6 nw6 (by omega) h
      exact L (T - 1 - t0) 0 e1 nw1 od1 (by omega) h
    · refine g_iconst (v := -1) C dX1_bestState_17 (by decide) ?_
      exact g_iret C hr hlocks (⟨⟨nw, od, h⟩, Or.inr ⟨inB_big (by omega) (by rw [Int32.le_iff_toInt_le]; rw [Int32.lt_iff_toInt_lt] at c2; omega), rfl⟩⟩) dX1_bestState_18

set_option maxHeartbeats 4000000 in
set_option maxRecDepth 100000 in
theorem c_X1_forward (l : Launch) (D : va_G) (cy : Nat → ClassId) (a : Nat → Nat) (hi : wInj 9 a) {e : Nat → va_E} {n T th : Nat} {S : Nat → UInt64} {M E : T2} {r : Nat → Nat} {nw od : Nat → UInt64} {cn bf : Nat → Int64} (h : RM cy a e n T th S M E r nw od cn bf) (hn : 1 ≤ n ∧ n ≤ 6) (hT : T ≤ 12) (hW : WB S M E) (hr4 : RW4 r) (x x2 : Int32) : Met l yX1_forward wsX1_forward ({ frames := 2, cells := 0, slots := 0, locals := 48 }) (gPc D clP cy 9 a e [.ref (a 0), .int x, .int x2]) (va_Qd (fun z e1 => ∃ th1, (∃ nw1 od1, RM cy a e1 n T th1 S M E r nw1 od1 cn bf) ∧ ((th1 = 1 ∧ ¬ (∃ t, t < T ∧ x = nI t)) ∨ (th1 = 2 ∧ (∃ t, t < T ∧ x = nI t) ∧ ¬ (∃ i, i < n ∧ x2 = nI i)) ∨ (th1 = 0 ∧ ∃ t i, t < T ∧ i < n ∧ x = nI t ∧ x2 = nI i ∧ z = fA n S M E r t i))) (gB D clP 9 a) (wA 9 a)) 0 0 (wA 9 a) := by
  refine g_met (cc := cX1_forward) (maxL := 3) (ret := (some .double)) (lv := [(0, .ref (a 0)), (1, .int x), (2, .int x2)]) (by decide) rfl (Nat.le_of_ble_eq_true rfl) rfl hi (fun k hk => ⟨k, hk, rfl⟩) ?_
  intro p en s m below meth c C hr hlocks
  have hin : ∀ w ∈ u_ws RX1 TX1 11, w ∈ wsX1_forward := by decide +kernel
  have f_thrown := C.2.2.2.2.1 (.fieldLink RX1 40 "PathOddsModel" "thrown" "I") (by decide +kernel)
  have f_now := C.2.2.2.2.1 (.fieldLink RX1 23 "PathOddsModel" "now" "[D") (by decide +kernel)
  obtain ⟨h0, hS, hM, hE, hr0, hnw, hod, hcn, hbf⟩ := id h
  refine g_aload_n C dX1_forward_0 rfl 0 rfl ?_
  refine g_aload_n C dX1_forward_1 rfl 0 rfl ?_
  refine g_iload_n C dX1_forward_2 rfl 1 rfl ?_
  refine g_iload_n C dX1_forward_3 rfl 2 rfl ?_
  refine g_calli (As := [.int x, .int x2]) (rest := [.ref (a 0)]) C (cwV 2 C.2.2.2.2.1 gX1_forward_X1_fault rfl rfl rfl (by decide +kernel) ⟨Nat.le_of_ble_eq_true rfl, Nat.le_of_ble_eq_true rfl⟩) (c_X1_fault l D cy a hi h (by omega) hT x x2) (by decide) h0 inl_pos1 rfl rfl (Nat.le_of_ble_eq_true rfl) dX1_forward_4 ⟨Nat.zero_le _, Nat.zero_le _⟩ (fun z e1 hz => ?_)
  rw [hz.1]
  rcases hz.2 with ⟨rfl, hno⟩ | ⟨rfl, hpl, hno⟩ | ⟨rfl, ⟨t0, ht0, rfl⟩, ⟨i0, hi0, rfl⟩⟩
  · refine g_putE C 2 tyX1 tyX1_ok nmX1 hin inl_pos1 (by decide) h0 (by decide) f_thrown rfl (ty := .int) (by decide +kernel) rfl rfl (Nat.le_of_ble_eq_true rfl) dX1_forward_7 (fun e2 he2 => ?_)
    have h : RM cy a e2 n T 1 S M E r nw od cn bf := by rw [he2]; exact RM_obj h rfl
    obtain ⟨h0, hS, hM, hE, hr0, hnw, hod, hcn, hbf⟩ := id h
    refine g_aload_n C dX1_forward_10 rfl 0 rfl ?_
    refine g_get C 2 hin inl_pos1 (by decide) h0 (by decide) f_thrown rfl dX1_forward_11 ?_
    refine g_if_le (tgt := 19) C dX1_forward_14 (by decide) (fun c1 => absurd c1 (by decide)) (fun c1 => ?_)
    refine g_dconst0 C dX1_forward_17 ?_
    exact g_dret C hr hlocks (⟨1, ⟨nw, od, h⟩, Or.inl ⟨rfl, hno⟩⟩) dX1_forward_18
  · refine g_putE C 2 tyX1 tyX1_ok nmX1 hin inl_pos1 (by decide) h0 (by decide) f_thrown rfl (ty := .int) (by decide +kernel) rfl rfl (Nat.le_of_ble_eq_true rfl) dX1_forward_7 (fun e2 he2 => ?_)
    have h : RM cy a e2 n T 2 S M E r nw od cn bf := by rw [he2]; exact RM_obj h rfl
    obtain ⟨h0, hS, hM, hE, hr0, hnw, hod, hcn, hbf⟩ := id h
    refine g_aload_n C dX1_forward_10 rfl 0 rfl ?_
    refine g_get C 2 hin inl_pos1 (by decide) h0 (by decide) f_thrown rfl dX1_forward_11 ?_
    refine g_if_le (tgt := 19) C dX1_forward_14 (by decide) (fun c1 => absurd c1 (by decide)) (fun c1 => ?_)
    refine g_dconst0 C dX1_forward_17 ?_
    exact g_dret C hr hlocks (⟨2, ⟨nw, od, h⟩, Or.inr (Or.inl ⟨rfl, hpl, hno⟩)⟩) dX1_forward_18
  · refine g_putE C 2 tyX1 tyX1_ok nmX1 hin inl_pos1 (by decide) h0 (by decide) f_thrown rfl (ty := .int) (by decide +kernel) rfl rfl (Nat.le_of_ble_eq_true rfl) dX1_forward_7 (fun e2 he2 => ?_)
    have h : RM cy a e2 n T 0 S M E r nw od cn bf := by rw [he2]; exact RM_obj h rfl
    obtain ⟨h0, hS, hM, hE, hr0, hnw, hod, hcn, hbf⟩ := id h
    refine g_aload_n C dX1_forward_10 rfl 0 rfl ?_
    refine g_get C 2 hin inl_pos1 (by decide) h0 (by decide) f_thrown rfl dX1_forward_11 ?_
    refine g_if_le (tgt := 19) C dX1_forward_14 (by decide) (fun c1 => ?_) (fun c1 => absurd c1 (fun q => q (by decide)))
    refine g_aload_n C dX1_forward_19 rfl 0 rfl ?_
    refine g_iload_n C dX1_forward_20 rfl 1 rfl ?_
    refine g_callv (As := [.int (nI t0)]) (rest := []) C (cwV 1 C.2.2.2.2.1 gX1_forward_X1_ahead rfl rfl rfl (by decide +kernel) ⟨Nat.le_of_ble_eq_true rfl, Nat.le_of_ble_eq_true rfl⟩) (c_X1_ahead l D cy a hi h hn hW hr4 t0 (by omega)) (by decide) h0 inl_pos1 rfl rfl (Nat.le_of_ble_eq_true rfl) dX1_forward_21 ⟨Nat.zero_le _, Nat.zero_le _⟩ (fun e3 he => ?_)
    obtain ⟨nw1, od1, h, hp⟩ := he
    obtain ⟨h0, hS, hM, hE, hr0, hnw, hod, hcn, hbf⟩ := id h
    refine g_aload_n C dX1_forward_24 rfl 0 rfl ?_
    refine g_get C 7 hin inl_pos1 (by decide) h0 (by decide) f_now rfl dX1_forward_25 ?_
    refine g_iload_n C dX1_forward_28 rfl 2 rfl ?_
    refine g_dald C (by omega) hnw (by omega) (by decide) dX1_forward_29 ?_
    exact g_dret C hr hlocks (⟨0, ⟨nw1, od1, h⟩, Or.inr (Or.inr ⟨rfl, t0, i0, ht0, hi0, rfl, rfl, hp i0 hi0⟩)⟩) dX1_forward_30

set_option maxHeartbeats 4000000 in
set_option maxRecDepth 100000 in
theorem c_X1_backward (l : Launch) (D : va_G) (cy : Nat → ClassId) (a : Nat → Nat) (hi : wInj 9 a) {e : Nat → va_E} {n T th : Nat} {S : Nat → UInt64} {M E : T2} {r : Nat → Nat} {nw od : Nat → UInt64} {cn bf : Nat → Int64} (h : RM cy a e n T th S M E r nw od cn bf) (hn : 1 ≤ n ∧ n ≤ 6) (hT : T ≤ 12) (hW : WB S M E) (hr4 : RW4 r) (x x2 : Int32) : Met l yX1_backward wsX1_backward ({ frames := 2, cells := 0, slots := 0, locals := 48 }) (gPc D clP cy 9 a e [.ref (a 0), .int x, .int x2]) (va_Qd (fun z e1 => ∃ th1, (∃ nw1 od1, RM cy a e1 n T th1 S M E r nw1 od1 cn bf) ∧ ((th1 = 1 ∧ ¬ (∃ t, t < T ∧ x = nI t)) ∨ (th1 = 2 ∧ (∃ t, t < T ∧ x = nI t) ∧ ¬ (∃ i, i < n ∧ x2 = nI i)) ∨ (th1 = 0 ∧ ∃ t i, t < T ∧ i < n ∧ x = nI t ∧ x2 = nI i ∧ z = fB n M E r T (T - 1 - t) i))) (gB D clP 9 a) (wA 9 a)) 0 0 (wA 9 a) := by
  refine g_met (cc := cX1_backward) (maxL := 3) (ret := (some .double)) (lv := [(0, .ref (a 0)), (1, .int x), (2, .int x2)]) (by decide) rfl (Nat.le_of_ble_eq_true rfl) rfl hi (fun k hk => ⟨k, hk, rfl⟩) ?_
  intro p en s m below meth c C hr hlocks
  have hin : ∀ w ∈ u_ws RX1 TX1 11, w ∈ wsX1_backward := by decide +kernel
  have f_thrown := C.2.2.2.2.1 (.fieldLink RX1 40 "PathOddsModel" "thrown" "I") (by decide +kernel)
  have f_now := C.2.2.2.2.1 (.fieldLink RX1 23 "PathOddsModel" "now" "[D") (by decide +kernel)
  obtain ⟨h0, hS, hM, hE, hr0, hnw, hod, hcn, hbf⟩ := id h
  refine g_aload_n C dX1_backward_0 rfl 0 rfl ?_
  refine g_aload_n C dX1_backward_1 rfl 0 rfl ?_
  refine g_iload_n C dX1_backward_2 rfl 1 rfl ?_
  refine g_iload_n C dX1_backward_3 rfl 2 rfl ?_
  refine g_calli (As := [.int x, .int x2]) (rest := [.ref (a 0)]) C (cwV 2 C.2.2.2.2.1 gX1_backward_X1_fault rfl rfl rfl (by decide +kernel) ⟨Nat.le_of_ble_eq_true rfl, Nat.le_of_ble_eq_true rfl⟩) (c_X1_fault l D cy a hi h (by omega) hT x x2) (by decide) h0 inl_pos1 rfl rfl (Nat.le_of_ble_eq_true rfl) dX1_backward_4 ⟨Nat.zero_le _, Nat.zero_le _⟩ (fun z e1 hz => ?_)
  rw [hz.1]
  rcases hz.2 with ⟨rfl, hno⟩ | ⟨rfl, hpl, hno⟩ | ⟨rfl, ⟨t0, ht0, rfl⟩, ⟨i0, hi0, rfl⟩⟩
  · refine g_putE C 2 tyX1 tyX1_ok nmX1 hin inl_pos1 (by decide) h0 (by decide) f_thrown rfl (ty := .int) (by decide +kernel) rfl rfl (Nat.le_of_ble_eq_true rfl) dX1_backward_7 (fun e2 he2 => ?_)
    have h : RM cy a e2 n T 1 S M E r nw od cn bf := by rw [he2]; exact RM_obj h rfl
    obtain ⟨h0, hS, hM, hE, hr0, hnw, hod, hcn, hbf⟩ := id h
    refine g_aload_n C dX1_backward_10 rfl 0 rfl ?_
    refine g_get C 2 hin inl_pos1 (by decide) h0 (by decide) f_thrown rfl dX1_backward_11 ?_
    refine g_if_le (tgt := 19) C dX1_backward_14 (by decide) (fun c1 => absurd c1 (by decide)) (fun c1 => ?_)
    refine g_dconst0 C dX1_backward_17 ?_
    exact g_dret C hr hlocks (⟨1, ⟨nw, od, h⟩, Or.inl ⟨rfl, hno⟩⟩) dX1_backward_18
  · refine g_putE C 2 tyX1 tyX1_ok nmX1 hin inl_pos1 (by decide) h0 (by decide) f_thrown rfl (ty := .int) (by decide +kernel) rfl rfl (Nat.le_of_ble_eq_true rfl) dX1_backward_7 (fun e2 he2 => ?_)
    have h : RM cy a e2 n T 2 S M E r nw od cn bf := by rw [he2]; exact RM_obj h rfl
    obtain ⟨h0, hS, hM, hE, hr0, hnw, hod, hcn, hbf⟩ := id h
    refine g_aload_n C dX1_backward_10 rfl 0 rfl ?_
    refine g_get C 2 hin inl_pos1 (by decide) h0 (by decide) f_thrown rfl dX1_backward_11 ?_
    refine g_if_le (tgt := 19) C dX1_backward_14 (by decide) (fun c1 => absurd c1 (by decide)) (fun c1 => ?_)
    refine g_dconst0 C dX1_backward_17 ?_
    exact g_dret C hr hlocks (⟨2, ⟨nw, od, h⟩, Or.inr (Or.inl ⟨rfl, hpl, hno⟩)⟩) dX1_backward_18
  · refine g_putE C 2 tyX1 tyX1_ok nmX1 hin inl_pos1 (by decide) h0 (by decide) f_thrown rfl (ty := .int) (by decide +kernel) rfl rfl (Nat.le_of_ble_eq_true rfl) dX1_backward_7 (fun e2 he2 => ?_)
    have h : RM cy a e2 n T 0 S M E r nw od cn bf := by rw [he2]; exact RM_obj h rfl
    obtain ⟨h0, hS, hM, hE, hr0, hnw, hod, hcn, hbf⟩ := id h
    refine g_aload_n C dX1_backward_10 rfl 0 rfl ?_
    refine g_get C 2 hin inl_pos1 (by decide) h0 (by decide) f_thrown rfl dX1_backward_11 ?_
    refine g_if_le (tgt := 19) C dX1_backward_14 (by decide) (fun c1 => ?_) (fun c1 => absurd c1 (fun q => q (by decide)))
    refine g_aload_n C dX1_backward_19 rfl 0 rfl ?_
    refine g_iload_n C dX1_backward_20 rfl 1 rfl ?_
    refine g_callv (As := [.int (nI t0)]) (rest := []) C (cwV 1 C.2.2.2.2.1 gX1_backward_X1_behind rfl rfl rfl (by decide +kernel) ⟨Nat.le_of_ble_eq_true rfl, Nat.le_of_ble_eq_true rfl⟩) (c_X1_behind l D cy a hi h hn hW hr4 hT t0 ht0) (by decide) h0 inl_pos1 rfl rfl (Nat.le_of_ble_eq_true rfl) dX1_backward_21 ⟨Nat.zero_le _, Nat.zero_le _⟩ (fun e3 he => ?_)
    obtain ⟨nw1, od1, h, hp⟩ := he
    obtain ⟨h0, hS, hM, hE, hr0, hnw, hod, hcn, hbf⟩ := id h
    refine g_aload_n C dX1_backward_24 rfl 0 rfl ?_
    refine g_get C 7 hin inl_pos1 (by decide) h0 (by decide) f_now rfl dX1_backward_25 ?_
    refine g_iload_n C dX1_backward_28 rfl 2 rfl ?_
    refine g_dald C (by omega) hnw (by omega) (by decide) dX1_backward_29 ?_
    exact g_dret C hr hlocks (⟨0, ⟨nw1, od1, h⟩, Or.inr (Or.inr ⟨rfl, t0, i0, ht0, hi0, rfl, rfl, hp i0 hi0⟩)⟩) dX1_backward_30

theorem fTot_mg {n T : Nat} {S : Nat → UInt64} {M E : T2} {r : Nat → Nat} (hn : n ≤ 6) (hT : T ≤ 12) (hW : WB S M E) (hr : RW4 r) : mg 1214 (fTot n S M E r T) := by
  unfold fTot
  by_cases h : T = 0
  · rw [if_pos h]
    exact mg_mono mg_1 (by decide)
  · rw [if_neg h]
    exact mg_mono (fsm_mg (K := 1202) (fun i hi => mg_mono (fA_mg hn hW hr (T - 1) i (by omega) (by omega)) (by omega)) (by omega) (by omega) n (Nat.le_refl n)) (by omega)

set_option maxHeartbeats 4000000 in
set_option maxRecDepth 100000 in
theorem c_X1_share (l : Launch) (D : va_G) (cy : Nat → ClassId) (a : Nat → Nat) (hi : wInj 9 a) {e : Nat → va_E} {n T th : Nat} {S : Nat → UInt64} {M E : T2} {r : Nat → Nat} {nw od : Nat → UInt64} {cn bf : Nat → Int64} (h : RM cy a e n T th S M E r nw od cn bf) (hn : 1 ≤ n ∧ n ≤ 6) (hT : T ≤ 12) (hW : WB S M E) (hr4 : RW4 r) (x x2 : Int32) : Met l yX1_share wsX1_share ({ frames := 3, cells := 0, slots := 0, locals := 71 }) (gPc D clP cy 9 a e [.ref (a 0), .int x, .int x2]) (va_Qd (fun z e1 => ∃ th1, (∃ nw1 od1, RM cy a e1 n T th1 S M E r nw1 od1 cn bf) ∧ ((th1 = 1 ∧ ¬ (∃ t, t < T ∧ x = nI t)) ∨ (th1 = 2 ∧ (∃ t, t < T ∧ x = nI t) ∧ ¬ (∃ i, i < n ∧ x2 = nI i)) ∨ (th1 = 3 ∧ (∃ t, t < T ∧ x = nI t) ∧ (∃ i, i < n ∧ x2 = nI i) ∧ Op.cmpValue (FP.dcmp (fTot n S M E r T) FP.dconst0) CmpOp.l = 0) ∨ (th1 = 0 ∧ ¬ Op.cmpValue (FP.dcmp (fTot n S M E r T) FP.dconst0) CmpOp.l = 0 ∧ ∃ t i, t < T ∧ i < n ∧ x = nI t ∧ x2 = nI i ∧ z = FP.ddiv (FP.dmul (fA n S M E r t i) (fB n M E r T (T - 1 - t) i)) (fTot n S M E r T)))) (gB D clP 9 a) (wA 9 a)) 0 0 (wA 9 a) := by
  refine g_met (cc := cX1_share) (maxL := 7) (ret := (some .double)) (lv := [(0, .ref (a 0)), (1, .int x), (2, .int x2)]) (by decide) rfl (Nat.le_of_ble_eq_true rfl) rfl hi (fun k hk => ⟨k, hk, rfl⟩) ?_
  intro p en s m below meth c C hr hlocks
  have hin : ∀ w ∈ u_ws RX1 TX1 11, w ∈ wsX1_share := by decide +kernel
  have f_thrown := C.2.2.2.2.1 (.fieldLink RX1 40 "PathOddsModel" "thrown" "I") (by decide +kernel)
  have f_now := C.2.2.2.2.1 (.fieldLink RX1 23 "PathOddsModel" "now" "[D") (by decide +kernel)
  obtain ⟨h0, hS, hM, hE, hr0, hnw, hod, hcn, hbf⟩ := id h
  refine g_aload_n C dX1_share_0 rfl 0 rfl ?_
  refine g_aload_n C dX1_share_1 rfl 0 rfl ?_
  refine g_iload_n C dX1_share_2 rfl 1 rfl ?_
  refine g_iload_n C dX1_share_3 rfl 2 rfl ?_
  refine g_calli (As := [.int x, .int x2]) (rest := [.ref (a 0)]) C (cwV 2 C.2.2.2.2.1 gX1_share_X1_fault rfl rfl rfl (by decide +kernel) ⟨Nat.le_of_ble_eq_true rfl, Nat.le_of_ble_eq_true rfl⟩) (c_X1_fault l D cy a hi h (by omega) hT x x2) (by decide) h0 inl_pos1 rfl rfl (Nat.le_of_ble_eq_true rfl) dX1_share_4 ⟨Nat.zero_le _, Nat.zero_le _⟩ (fun z e1 hz => ?_)
  rw [hz.1]
  rcases hz.2 with ⟨rfl, hno⟩ | ⟨rfl, hpl, hno⟩ | ⟨rfl, ⟨t0, ht0, rfl⟩, ⟨i0, hi0, rfl⟩⟩
  · refine g_putE C 2 tyX1 tyX1_ok nmX1 hin inl_pos1 (by decide) h0 (by decide) f_thrown rfl (ty := .int) (by decide +kernel) rfl rfl (Nat.le_of_ble_eq_true rfl) dX1_share_7 (fun e2 he2 => ?_)
    have h : RM cy a e2 n T 1 S M E r nw od cn bf := by rw [he2]; exact RM_obj h rfl
    obtain ⟨h0, hS, hM, hE, hr0, hnw, hod, hcn, hbf⟩ := id h
    refine g_aload_n C dX1_share_10 rfl 0 rfl ?_
    refine g_get C 2 hin inl_pos1 (by decide) h0 (by decide) f_thrown rfl dX1_share_11 ?_
    refine g_if_le (tgt := 19) C dX1_share_14 (by decide) (fun c1 => absurd c1 (by decide)) (fun c1 => ?_)
    refine g_dconst0 C dX1_share_17 ?_
    exact g_dret C hr hlocks (⟨1, ⟨nw, od, h⟩, Or.inl ⟨rfl, hno⟩⟩) dX1_share_18
  · refine g_putE C 2 tyX1 tyX1_ok nmX1 hin inl_pos1 (by decide) h0 (by decide) f_thrown rfl (ty := .int) (by decide +kernel) rfl rfl (Nat.le_of_ble_eq_true rfl) dX1_share_7 (fun e2 he2 => ?_)
    have h : RM cy a e2 n T 2 S M E r nw od cn bf := by rw [he2]; exact RM_obj h rfl
    obtain ⟨h0, hS, hM, hE, hr0, hnw, hod, hcn, hbf⟩ := id h
    refine g_aload_n C dX1_share_10 rfl 0 rfl ?_
    refine g_get C 2 hin inl_pos1 (by decide) h0 (by decide) f_thrown rfl dX1_share_11 ?_
    refine g_if_le (tgt := 19) C dX1_share_14 (by decide) (fun c1 => absurd c1 (by decide)) (fun c1 => ?_)
    refine g_dconst0 C dX1_share_17 ?_
    exact g_dret C hr hlocks (⟨2, ⟨nw, od, h⟩, Or.inr (Or.inl ⟨rfl, hpl, hno⟩)⟩) dX1_share_18
  · refine g_putE C 2 tyX1 tyX1_ok nmX1 hin inl_pos1 (by decide) h0 (by decide) f_thrown rfl (ty := .int) (by decide +kernel) rfl rfl (Nat.le_of_ble_eq_true rfl) dX1_share_7 (fun e2 he2 => ?_)
    have h : RM cy a e2 n T 0 S M E r nw od cn bf := by rw [he2]; exact RM_obj h rfl
    obtain ⟨h0, hS, hM, hE, hr0, hnw, hod, hcn, hbf⟩ := id h
    refine g_aload_n C dX1_share_10 rfl 0 rfl ?_
    refine g_get C 2 hin inl_pos1 (by decide) h0 (by decide) f_thrown rfl dX1_share_11 ?_
    refine g_if_le (tgt := 19) C dX1_share_14 (by decide) (fun c1 => ?_) (fun c1 => absurd c1 (fun q => q (by decide)))
    refine g_aload_n C dX1_share_19 rfl 0 rfl ?_
    refine g_calld (As := []) (rest := []) C (cwV 0 C.2.2.2.2.1 gX1_share_X1_all rfl rfl rfl (by decide +kernel) ⟨Nat.le_of_ble_eq_true rfl, Nat.le_of_ble_eq_true rfl⟩) (c_X1_all l D cy a hi h hn hT hW hr4) (by decide) h0 inl_pos1 rfl rfl (Nat.le_of_ble_eq_true rfl) dX1_share_20 ⟨Nat.zero_le _, Nat.zero_le _⟩ (fun z e3 hz => ?_)
    obtain ⟨⟨nw1, od1, h⟩, rfl⟩ := hz
    obtain ⟨h0, hS, hM, hE, hr0, hnw, hod, hcn, hbf⟩ := id h
    refine g_dstore_n (lv' := [(0, .ref (a 0)), (1, .int (nI t0)), (2, .int (nI i0)), (3, .double (fTot n S M E r T))]) C dX1_share_23 rfl (by decide) [1, 2, 3, 0] rfl ?_
    refine g_dload_n C dX1_share_24 rfl 3 rfl ?_
    refine g_dconst0 C dX1_share_25 ?_
    refine g_dcmp C dX1_share_26 ?_
    refine g_if_ne (tgt := 37) C dX1_share_27 (by decide) (fun c2 => ?_) (fun c2 => ?_)
    · refine g_aload_n C dX1_share_37 rfl 0 rfl ?_
      refine g_iload_n C dX1_share_38 rfl 1 rfl ?_
      refine g_callv (As := [.int (nI t0)]) (rest := []) C (cwV 1 C.2.2.2.2.1 gX1_share_X1_ahead rfl rfl rfl (by decide +kernel) ⟨Nat.le_of_ble_eq_true rfl, Nat.le_of_ble_eq_true rfl⟩) (c_X1_ahead l D cy a hi h hn hW hr4 t0 (by omega)) (by decide) h0 inl_pos1 rfl rfl (Nat.le_of_ble_eq_true rfl) dX1_share_39 ⟨Nat.zero_le _, Nat.zero_le _⟩ (fun e4 he => ?_)
      obtain ⟨nw2, od2, h, hp⟩ := he
      obtain ⟨h0, hS, hM, hE, hr0, hnw, hod, hcn, hbf⟩ := id h
      refine g_aload_n C dX1_share_42 rfl 0 rfl ?_
      refine g_get C 7 hin inl_pos1 (by decide) h0 (by decide) f_now rfl dX1_share_43 ?_
      refine g_iload_n C dX1_share_46 rfl 2 rfl ?_
      refine g_dald C (by omega) hnw (by omega) (by decide) dX1_share_47 ?_
      rw [hp i0 hi0]
      refine g_dstore (lv' := [(0, .ref (a 0)), (1, .int (nI t0)), (2, .int (nI i0)), (3, .double (fTot n S M E r T)), (5, .double (fA n S M E r t0 i0))]) C dX1_share_48 (by decide) [1, 2, 3, 4, 0] rfl ?_
      refine g_aload_n C dX1_share_50 rfl 0 rfl ?_
      refine g_iload_n C dX1_share_51 rfl 1 rfl ?_
      refine g_callv (As := [.int (nI t0)]) (rest := []) C (cwV 1 C.2.2.2.2.1 gX1_share_X1_behind rfl rfl rfl (by decide +kernel) ⟨Nat.le_of_ble_eq_true rfl, Nat.le_of_ble_eq_true rfl⟩) (c_X1_behind l D cy a hi h hn hW hr4 hT t0 ht0) (by decide) h0 inl_pos1 rfl rfl (Nat.le_of_ble_eq_true rfl) dX1_share_52 ⟨Nat.zero_le _, Nat.zero_le _⟩ (fun e5 he => ?_)
      obtain ⟨nw3, od3, h, hp3⟩ := he
      obtain ⟨h0, hS, hM, hE, hr0, hnw, hod, hcn, hbf⟩ := id h
      refine g_dload C dX1_share_55 4 rfl ?_
      refine g_aload_n C dX1_share_57 rfl 0 rfl ?_
      refine g_get C 7 hin inl_pos1 (by decide) h0 (by decide) f_now rfl dX1_share_58 ?_
      refine g_iload_n C dX1_share_61 rfl 2 rfl ?_
      refine g_dald C (by omega) hnw (by omega) (by decide) dX1_share_62 ?_
      rw [hp3 i0 hi0]
      have hm := mg_mul (fA_mg hn.2 hW hr4 t0 i0 (by omega) (by omega)) (fB_mg (S := S) hn.2 hT hW hr4 (T - 1 - t0) i0 (by omega) (by omega)) (by omega) (by omega)
      refine g_dmul C dX1_share_63 (mg_n64 hm (by omega)) ?_
      refine g_dload_n C dX1_share_64 rfl 3 rfl ?_
      refine g_ddiv C dX1_share_65 (div_n64 hm (fTot_mg hn.2 hT hW hr4) (by omega) (by decide) (ne0_of (fTot_mg hn.2 hT hW hr4) (by decide) c2)) ?_
      exact g_dret C hr hlocks (⟨0, ⟨nw3, od3, h⟩, Or.inr (Or.inr (Or.inr ⟨rfl, c2, t0, i0, ht0, hi0, rfl, rfl, rfl⟩))⟩) dX1_share_66
    · refine g_aload_n C dX1_share_30 rfl 0 rfl ?_
      refine g_iconst (v := nI 3) C dX1_share_31 (by decide) ?_
      refine g_putE C 2 tyX1 tyX1_ok nmX1 hin inl_pos1 (by decide) h0 (by decide) f_thrown rfl (ty := .int) (by decide +kernel) rfl rfl (Nat.le_of_ble_eq_true rfl) dX1_share_32 (fun e2 he2 => ?_)
      have h : RM cy a e2 n T 3 S M E r nw1 od1 cn bf := by rw [he2]; exact RM_obj h rfl
      obtain ⟨h0, hS, hM, hE, hr0, hnw, hod, hcn, hbf⟩ := id h
      refine g_dconst0 C dX1_share_35 ?_
      exact g_dret C hr hlocks (⟨3, ⟨nw1, od1, h⟩, Or.inr (Or.inr (Or.inl ⟨rfl, ⟨t0, ht0, rfl⟩, ⟨i0, hi0, rfl⟩, c2⟩))⟩) dX1_share_36

theorem fC_model {n : Nat} {S : Nat → UInt64} {M E : T2} {r : Nat → Nat} {bf : Nat → Int64} {u j : Nat} (hu : 0 < u) (hp : ∀ q, q < n → bf q = fC n S M E r (u - 1) q) : csm (fun i => gtD (M i j) FP.dconst0 && gtD (E j (r u)) FP.dconst0) bf n = fC n S M E r u j := by
  obtain ⟨w, rfl⟩ : ∃ w, u = w + 1 := ⟨u - 1, by omega⟩
  show _ = if gtD (E j (r (w + 1))) FP.dconst0 = true then csm (fun i => gtD (M i j) FP.dconst0) (fC n S M E r w) n else 0
  by_cases hg : gtD (E j (r (w + 1))) FP.dconst0 = true
  · rw [if_pos hg]
    exact csm_congr (fun i _ => by rw [hg, Bool.and_true]) hp n (Nat.le_refl n)
  · rw [if_neg hg]
    have hf : gtD (E j (r (w + 1))) FP.dconst0 = false := by simpa using hg
    rw [csm_congr (d := fun _ => false) (g := bf) (fun i _ => by rw [hf, Bool.and_false]) (fun _ _ => rfl) n (Nat.le_refl n), csm_none]

set_option maxHeartbeats 4000000 in
set_option maxRecDepth 100000 in
theorem c_X1_possible (l : Launch) (D : va_G) (cy : Nat → ClassId) (a : Nat → Nat) (hi : wInj 9 a) {e : Nat → va_E} {n T th : Nat} {S : Nat → UInt64} {M E : T2} {r : Nat → Nat} {nw od : Nat → UInt64} {cn bf : Nat → Int64} (h : RM cy a e n T th S M E r nw od cn bf) (hn : 1 ≤ n ∧ n ≤ 6) (hT : T ≤ 12) (hr4 : RW4 r) : Met l yX1_possible wsX1_possible ({ frames := 1, cells := 0, slots := 0, locals := 22 }) (gPc D clP cy 9 a e [.ref (a 0)]) (va_Ql (fun z e1 => (∃ cn1 bf1, RM cy a e1 n T 0 S M E r nw od cn1 bf1) ∧ z = fPos n S M E r T) (gB D clP 9 a) (wA 9 a)) 0 0 (wA 9 a) := by
  refine g_met (cc := cX1_possible) (maxL := 4) (ret := (some .long)) (lv := [(0, .ref (a 0))]) (by decide) rfl (Nat.le_of_ble_eq_true rfl) rfl hi (fun k hk => ⟨k, hk, rfl⟩) ?_
  intro p en s m below meth c C hr hlocks
  have hin : ∀ w ∈ u_ws RX1 TX1 11, w ∈ wsX1_possible := by decide +kernel
  have f_thrown := C.2.2.2.2.1 (.fieldLink RX1 40 "PathOddsModel" "thrown" "I") (by decide +kernel)
  have f_length := C.2.2.2.2.1 (.fieldLink RX1 43 "PathOddsModel" "length" "I") (by decide +kernel)
  have f_counts := C.2.2.2.2.1 (.fieldLink RX1 29 "PathOddsModel" "counts" "[J") (by decide +kernel)
  have f_n := C.2.2.2.2.1 (.fieldLink RX1 36 "PathOddsModel" "n" "I") (by decide +kernel)
  have f_starts := C.2.2.2.2.1 (.fieldLink RX1 7 "PathOddsModel" "starts" "[D") (by decide +kernel)
  have f_before := C.2.2.2.2.1 (.fieldLink RX1 33 "PathOddsModel" "before" "[J") (by decide +kernel)
  have f_moves := C.2.2.2.2.1 (.fieldLink RX1 13 "PathOddsModel" "moves" "[D") (by decide +kernel)
  obtain ⟨h0, hS, hM, hE, hr0, hnw, hod, hcn, hbf⟩ := id h
  refine g_aload_n C dX1_possible_0 rfl 0 rfl ?_
  refine g_iconst (v := nI 0) C dX1_possible_1 (by decide) ?_
  refine g_putE C 2 tyX1 tyX1_ok nmX1 hin inl_pos1 (by decide) h0 (by decide) f_thrown rfl (ty := .int) (by decide +kernel) rfl rfl (Nat.le_of_ble_eq_true rfl) dX1_possible_2 (fun e2 he2 => ?_)
  have h : RM cy a e2 n T 0 S M E r nw od cn bf := by rw [he2]; exact RM_obj h rfl
  generalize e2 = e0 at h ⊢
  obtain ⟨h0, hS, hM, hE, hr0, hnw, hod, hcn, hbf⟩ := id h
  refine g_aload_n C dX1_possible_5 rfl 0 rfl ?_
  refine g_get C 1 hin inl_pos1 (by decide) h0 (by decide) f_length rfl dX1_possible_6 ?_
  refine g_if_ne (tgt := 14) C dX1_possible_9 (by decide) (fun c1 => ?_) (fun c1 => ?_)
  · have hT0 : 0 < T := Nat.pos_of_ne_zero (fun q => c1 (by rw [q]; rfl))
    have K1 : ∀ (k : Nat) (u : Nat) (e : Nat → va_E) (cn5 bf5 : Nat → Int64), 1 ≤ u → u + k = T → RM cy a e n T 0 S M E r nw od cn5 bf5 → (∀ q, q < n → cn5 q = fC n S M E r (u - 1) q) → GW p l en ({ frames := 1, cells := 0, slots := 0, locals := 22 }) s m ([.ref (a 0)] : List Value).toArray below meth c 0 0 (MQ below (va_Ql (fun z e1 => (∃ cn1 bf1, RM cy a e1 n T 0 S M E r nw od cn1 bf1) ∧ z = fPos n S M E r T) (gB D clP 9 a) (wA 9 a)) ([.ref (a 0)] : List Value).toArray s 0 0 (wA 9 a)) D clP 9 4 a (wA 9 a) e 71 [(0, .ref (a 0)), (1, .int (nI u))] [] := by
      intro k
      induction k with
      | zero =>
        intro u e cn5 bf5 hu hk h hp
        obtain ⟨h0, hS, hM, hE, hr0, hnw, hod, hcn, hbf⟩ := id h
        refine g_iload_n C dX1_possible_71 rfl 1 rfl ?_
        refine g_aload_n C dX1_possible_72 rfl 0 rfl ?_
        refine g_get C 1 hin inl_pos1 (by decide) h0 (by decide) f_length rfl dX1_possible_73 ?_
        refine g_icmp_ge (tgt := 196) C dX1_possible_76 (by decide) (fun c1 => ?_) (fun c1 => absurd c1 (fun q => q (nI_le (by omega) (by omega))))
        refine g_lconst (v := 0) C dX1_possible_196 (by decide) ?_
        refine g_lstore_n (lv' := [(0, .ref (a 0)), (1, .long 0)]) C dX1_possible_197 rfl (by decide) [1, 0] rfl ?_
        refine g_iconst (v := nI 0) C dX1_possible_198 (by decide) ?_
        refine g_istore_n (lv' := [(0, .ref (a 0)), (1, .long 0), (3, .int (nI 0))]) C dX1_possible_199 rfl (by decide) [1, 2, 0] rfl ?_
        have LS : ∀ (k : Nat) (i : Nat), i + k = n → GW p l en ({ frames := 1, cells := 0, slots := 0, locals := 22 }) s m ([.ref (a 0)] : List Value).toArray below meth c 0 0 (MQ below (va_Ql (fun z e1 => (∃ cn1 bf1, RM cy a e1 n T 0 S M E r nw od cn1 bf1) ∧ z = fPos n S M E r T) (gB D clP 9 a) (wA 9 a)) ([.ref (a 0)] : List Value).toArray s 0 0 (wA 9 a)) D clP 9 4 a (wA 9 a) e 200 [(0, .ref (a 0)), (1, .long (lsm (fun j => cn5 j) i)), (3, .int (nI i))] [] := by
          intro k
          induction k with
          | zero =>
            intro i hk
            skip
            refine g_iload_n C dX1_possible_200 rfl 2 rfl ?_
            refine g_aload_n C dX1_possible_201 rfl 0 rfl ?_
            refine g_get C 0 hin inl_pos1 (by decide) h0 (by decide) f_n rfl dX1_possible_202 ?_
            refine g_icmp_ge (tgt := 223) C dX1_possible_205 (by decide) (fun c1 => ?_) (fun c1 => absurd c1 (fun q => q (nI_le (by omega) (by omega))))
            refine g_lload_n C dX1_possible_223 rfl 1 rfl ?_
            exact g_lret C hr hlocks (⟨⟨cn5, bf5, h⟩, by rw [fPos, if_neg (by omega), show i = n from by omega]; exact lsm_congr (fun q hq => by show cn5 q = _; rw [hp q hq, show u = T from by omega]) n (Nat.le_refl n)⟩) dX1_possible_224
          | succ k ih =>
            intro i hk
            skip
            refine g_iload_n C dX1_possible_200 rfl 2 rfl ?_
            refine g_aload_n C dX1_possible_201 rfl 0 rfl ?_
            refine g_get C 0 hin inl_pos1 (by decide) h0 (by decide) f_n rfl dX1_possible_202 ?_
            refine g_icmp_ge (tgt := 223) C dX1_possible_205 (by decide) (fun c1 => absurd c1 (nI_ge (by omega) (by omega))) (fun c1 => ?_)
            refine g_lload_n C dX1_possible_208 rfl 1 rfl ?_
            refine g_aload_n C dX1_possible_209 rfl 0 rfl ?_
            refine g_get C 9 hin inl_pos1 (by decide) h0 (by decide) f_counts rfl dX1_possible_210 ?_
            refine g_iload_n C dX1_possible_213 rfl 2 rfl ?_
            refine g_lald C (by omega) hcn (by omega) (by decide) dX1_possible_214 ?_
            refine g_ladd C dX1_possible_215 ?_
            refine g_lstore_n (lv' := [(0, .ref (a 0)), (1, .long ((lsm (fun j => cn5 j) i) + (cn5 i))), (3, .int (nI i))]) C dX1_possible_216 rfl (by decide) [1, 0, 2] rfl ?_
            refine g_iinc (v := nI (i + 1)) (k := 2) (lv' := [(0, .ref (a 0)), (1, .long ((lsm (fun j => cn5 j) i) + (cn5 i))), (3, .int (nI (i + 1)))]) C dX1_possible_217 rfl (nI_inc i) (by decide) [1, 2, 0] rfl ?_
            refine g_goto (tgt := 200) C dX1_possible_220 (by decide) ?_
            exact ih (i + 1) (by omega)
        refine g_pick (lv' := [(0, .ref (a 0)), (1, .long 0), (3, .int (nI 0))]) [0, 1, 2] rfl ?_
        exact LS n 0 (by omega)
      | succ k ih =>
        intro u e cn5 bf5 hu hk h hp
        obtain ⟨h0, hS, hM, hE, hr0, hnw, hod, hcn, hbf⟩ := id h
        refine g_iload_n C dX1_possible_71 rfl 1 rfl ?_
        refine g_aload_n C dX1_possible_72 rfl 0 rfl ?_
        refine g_get C 1 hin inl_pos1 (by decide) h0 (by decide) f_length rfl dX1_possible_73 ?_
        refine g_icmp_ge (tgt := 196) C dX1_possible_76 (by decide) (fun c1 => absurd c1 (nI_ge (by omega) (by omega))) (fun c1 => ?_)
        have hru : r u < 4 := hr4 u (by omega)
        refine g_iconst (v := nI 0) C dX1_possible_79 (by decide) ?_
        refine g_istore_n (lv' := [(0, .ref (a 0)), (1, .int (nI u)), (2, .int (nI 0))]) C dX1_possible_80 rfl (by decide) [1, 2, 0] rfl ?_
        have L2 : ∀ (k2 : Nat) (j : Nat) (e : Nat → va_E) (cn6 bf6 : Nat → Int64), j + k2 = n → RM cy a e n T 0 S M E r nw od cn6 bf6 → (∀ q, q < n → bf6 q = fC n S M E r (u - 1) q) → (∀ q, q < j → cn6 q = fC n S M E r u q) → GW p l en ({ frames := 1, cells := 0, slots := 0, locals := 22 }) s m ([.ref (a 0)] : List Value).toArray below meth c 0 0 (MQ below (va_Ql (fun z e1 => (∃ cn1 bf1, RM cy a e1 n T 0 S M E r nw od cn1 bf1) ∧ z = fPos n S M E r T) (gB D clP 9 a) (wA 9 a)) ([.ref (a 0)] : List Value).toArray s 0 0 (wA 9 a)) D clP 9 4 a (wA 9 a) e 107 [(0, .ref (a 0)), (1, .int (nI u)), (2, .int (nI j))] [] := by
          intro k2
          induction k2 with
          | zero =>
            intro j e cn6 bf6 hk2 h hb6 hpj
            obtain ⟨h0, hS, hM, hE, hr0, hnw, hod, hcn, hbf⟩ := id h
            refine g_iload_n C dX1_possible_107 rfl 2 rfl ?_
            refine g_aload_n C dX1_possible_108 rfl 0 rfl ?_
            refine g_get C 0 hin inl_pos1 (by decide) h0 (by decide) f_n rfl dX1_possible_109 ?_
            refine g_icmp_ge (tgt := 190) C dX1_possible_112 (by decide) (fun c1 => ?_) (fun c1 => absurd c1 (fun q => q (nI_le (by omega) (by omega))))
            refine g_iinc (v := nI (u + 1)) (k := 1) (lv' := [(0, .ref (a 0)), (1, .int (nI (u + 1))), (2, .int (nI j))]) C dX1_possible_190 rfl (nI_inc u) (by decide) [1, 0, 2] rfl ?_
            refine g_goto (tgt := 71) C dX1_possible_193 (by decide) ?_
            refine g_pick (lv' := [(0, .ref (a 0)), (1, .int (nI (u + 1)))]) [0, 1] rfl ?_
            exact ih (u + 1) e cn6 bf6 (by omega) (by omega) h (fun q hq => hpj q (by omega))
          | succ k2 ih2 =>
            intro j e cn6 bf6 hk2 h hb6 hpj
            obtain ⟨h0, hS, hM, hE, hr0, hnw, hod, hcn, hbf⟩ := id h
            refine g_iload_n C dX1_possible_107 rfl 2 rfl ?_
            refine g_aload_n C dX1_possible_108 rfl 0 rfl ?_
            refine g_get C 0 hin inl_pos1 (by decide) h0 (by decide) f_n rfl dX1_possible_109 ?_
            refine g_icmp_ge (tgt := 190) C dX1_possible_112 (by decide) (fun c1 => absurd c1 (nI_ge (by omega) (by omega))) (fun c1 => ?_)
            refine g_aload_n C dX1_possible_115 rfl 0 rfl ?_
            refine g_get C 9 hin inl_pos1 (by decide) h0 (by decide) f_counts rfl dX1_possible_116 ?_
            refine g_iload_n C dX1_possible_119 rfl 2 rfl ?_
            refine g_lconst (v := 0) C dX1_possible_120 (by decide) ?_
            refine g_last C (by omega) hcn (by omega) (by decide) dX1_possible_121 (fun y hy => ?_)
            have h := RM_cn h hy
            generalize va_up e 7 y = e at h ⊢
            generalize hcE : va_up cn6 j 0 = cn7 at h
            have hc0 : cn7 j = 0 := by rw [← hcE, va_up_self]
            have hc1 : ∀ q, q < j → cn7 q = fC n S M E r u q := fun q hq => by rw [← hcE, va_up_ne _ _ (by omega)]; exact hpj q hq
            obtain ⟨h0, hS, hM, hE, hr0, hnw, hod, hcn, hbf⟩ := id h
            refine g_iconst (v := nI 0) C dX1_possible_122 (by decide) ?_
            refine g_istore_n (lv' := [(0, .ref (a 0)), (1, .int (nI u)), (2, .int (nI j)), (3, .int (nI 0))]) C dX1_possible_123 rfl (by decide) [1, 2, 3, 0] rfl ?_
            have L3 : ∀ (k3 : Nat) (i : Nat) (e : Nat → va_E) (cn8 : Nat → Int64), i + k3 = n → RM cy a e n T 0 S M E r nw od cn8 bf6 → cn8 j = csm (fun i => gtD (M i j) FP.dconst0 && gtD (E j (r u)) FP.dconst0) bf6 i → (∀ q, q < j → cn8 q = fC n S M E r u q) → GW p l en ({ frames := 1, cells := 0, slots := 0, locals := 22 }) s m ([.ref (a 0)] : List Value).toArray below meth c 0 0 (MQ below (va_Ql (fun z e1 => (∃ cn1 bf1, RM cy a e1 n T 0 S M E r nw od cn1 bf1) ∧ z = fPos n S M E r T) (gB D clP 9 a) (wA 9 a)) ([.ref (a 0)] : List Value).toArray s 0 0 (wA 9 a)) D clP 9 4 a (wA 9 a) e 124 [(0, .ref (a 0)), (1, .int (nI u)), (2, .int (nI j)), (3, .int (nI i))] [] := by
              intro k3
              induction k3 with
              | zero =>
                intro i e cn8 hk3 h hci hcq
                obtain ⟨h0, hS, hM, hE, hr0, hnw, hod, hcn, hbf⟩ := id h
                refine g_iload_n C dX1_possible_124 rfl 3 rfl ?_
                refine g_aload_n C dX1_possible_125 rfl 0 rfl ?_
                refine g_get C 0 hin inl_pos1 (by decide) h0 (by decide) f_n rfl dX1_possible_126 ?_
                refine g_icmp_ge (tgt := 184) C dX1_possible_129 (by decide) (fun c1 => ?_) (fun c1 => absurd c1 (fun q => q (nI_le (by omega) (by omega))))
                refine g_iinc (v := nI (j + 1)) (k := 2) (lv' := [(0, .ref (a 0)), (1, .int (nI u)), (2, .int (nI (j + 1))), (3, .int (nI i))]) C dX1_possible_184 rfl (nI_inc j) (by decide) [1, 2, 0, 3] rfl ?_
                refine g_goto (tgt := 107) C dX1_possible_187 (by decide) ?_
                refine g_pick (lv' := [(0, .ref (a 0)), (1, .int (nI u)), (2, .int (nI (j + 1)))]) [0, 1, 2] rfl ?_
                exact ih2 (j + 1) e cn8 bf6 (by omega) h hb6 (fun q hq => by
                  by_cases hqj : q = j
                  · subst hqj; rw [hci, show i = n from by omega]; exact fC_model (by omega) hb6
                  · exact hcq q (by omega))
              | succ k3 ih3 =>
                intro i e cn8 hk3 h hci hcq
                obtain ⟨h0, hS, hM, hE, hr0, hnw, hod, hcn, hbf⟩ := id h
                refine g_iload_n C dX1_possible_124 rfl 3 rfl ?_
                refine g_aload_n C dX1_possible_125 rfl 0 rfl ?_
                refine g_get C 0 hin inl_pos1 (by decide) h0 (by decide) f_n rfl dX1_possible_126 ?_
                refine g_icmp_ge (tgt := 184) C dX1_possible_129 (by decide) (fun c1 => absurd c1 (nI_ge (by omega) (by omega))) (fun c1 => ?_)
                refine g_aload_n C dX1_possible_132 rfl 0 rfl ?_
                refine g_get C 4 hin inl_pos1 (by decide) h0 (by decide) f_moves rfl dX1_possible_133 ?_
                refine g_bipush (v := nI 6) C dX1_possible_136 (by decide) ?_
                refine g_iload_n C dX1_possible_138 rfl 3 rfl ?_
                refine g_imul (v := nI (6 * i)) C dX1_possible_139 (pk_mul 6 i) ?_
                refine g_iload_n C dX1_possible_140 rfl 2 rfl ?_
                refine g_iadd (v := nI ((6 * i) + j)) C dX1_possible_141 (nI_add (6 * i) j) ?_
                refine g_dald2 (i := i) (j := j) C (by omega) hM (by omega) (by omega) (by decide) dX1_possible_142 ?_
                refine g_dconst0 C dX1_possible_143 ?_
                refine g_dcmp C dX1_possible_144 ?_
                refine g_if_le (tgt := 178) C dX1_possible_145 (by decide) (fun c2 => ?_) (fun c2 => ?_)
                · refine g_iinc (v := nI (i + 1)) (k := 3) (lv' := [(0, .ref (a 0)), (1, .int (nI u)), (2, .int (nI j)), (3, .int (nI (i + 1)))]) C dX1_possible_178 rfl (nI_inc i) (by decide) [1, 2, 3, 0] rfl ?_
                  refine g_goto (tgt := 124) C dX1_possible_181 (by decide) ?_
                  exact ih3 (i + 1) e cn8 (by omega) h (by rw [hci]; exact (if_neg (by show ¬ (gtD (M i j) FP.dconst0 && gtD (E j (r u)) FP.dconst0) = true; rw [gtD_f c2]; simp)).symm) hcq
                · refine g_aload_n C dX1_possible_148 rfl 0 rfl ?_
                  refine g_iload_n C dX1_possible_149 rfl 2 rfl ?_
                  refine g_iload_n C dX1_possible_150 rfl 1 rfl ?_
                  refine g_calld (As := [.int (nI j), .int (nI u)]) (rest := []) C (cwV 2 C.2.2.2.2.1 gX1_possible_X1_shown rfl rfl rfl (by decide +kernel) ⟨Nat.le_of_ble_eq_true rfl, Nat.le_of_ble_eq_true rfl⟩) (c_X1_shown l D cy a hi h j u (by omega) (by omega) hr4) (by decide) h0 inl_pos1 rfl rfl (Nat.le_of_ble_eq_true rfl) dX1_possible_151 ⟨Nat.zero_le _, Nat.zero_le _⟩ (fun z e1 hz => ?_)
                  rw [hz.1]
                  obtain ⟨-, rfl⟩ := hz
                  refine g_dconst0 C dX1_possible_154 ?_
                  refine g_dcmp C dX1_possible_155 ?_
                  refine g_if_le (tgt := 178) C dX1_possible_156 (by decide) (fun c3 => ?_) (fun c3 => ?_)
                  · refine g_iinc (v := nI (i + 1)) (k := 3) (lv' := [(0, .ref (a 0)), (1, .int (nI u)), (2, .int (nI j)), (3, .int (nI (i + 1)))]) C dX1_possible_178 rfl (nI_inc i) (by decide) [1, 2, 3, 0] rfl ?_
                    refine g_goto (tgt := 124) C dX1_possible_181 (by decide) ?_
                    exact ih3 (i + 1) e cn8 (by omega) h (by rw [hci]; exact (if_neg (by show ¬ (gtD (M i j) FP.dconst0 && gtD (E j (r u)) FP.dconst0) = true; rw [gtD_f c3]; simp)).symm) hcq
                  · refine g_aload_n C dX1_possible_159 rfl 0 rfl ?_
                    refine g_get C 9 hin inl_pos1 (by decide) h0 (by decide) f_counts rfl dX1_possible_160 ?_
                    refine g_iload_n C dX1_possible_163 rfl 2 rfl ?_
                    refine g_aload_n C dX1_possible_164 rfl 0 rfl ?_
                    refine g_get C 9 hin inl_pos1 (by decide) h0 (by decide) f_counts rfl dX1_possible_165 ?_
                    refine g_iload_n C dX1_possible_168 rfl 2 rfl ?_
                    refine g_lald C (by omega) hcn (by omega) (by decide) dX1_possible_169 ?_
                    refine g_aload_n C dX1_possible_170 rfl 0 rfl ?_
                    refine g_get C 10 hin inl_pos1 (by decide) h0 (by decide) f_before rfl dX1_possible_171 ?_
                    refine g_iload_n C dX1_possible_174 rfl 3 rfl ?_
                    refine g_lald C (by omega) hbf (by omega) (by decide) dX1_possible_175 ?_
                    refine g_ladd C dX1_possible_176 ?_
                    refine g_last C (by omega) hcn (by omega) (by decide) dX1_possible_177 (fun y hy => ?_)
                    have h := RM_cn h hy
                    generalize va_up e 7 y = e at h ⊢
                    refine g_iinc (v := nI (i + 1)) (k := 3) (lv' := [(0, .ref (a 0)), (1, .int (nI u)), (2, .int (nI j)), (3, .int (nI (i + 1)))]) C dX1_possible_178 rfl (nI_inc i) (by decide) [1, 2, 3, 0] rfl ?_
                    refine g_goto (tgt := 124) C dX1_possible_181 (by decide) ?_
                    exact ih3 (i + 1) e _ (by omega) h (by rw [va_up_self, hci]; exact (if_pos (by show (gtD (M i j) FP.dconst0 && gtD (E j (r u)) FP.dconst0) = true; rw [gtD_t c2, gtD_t c3]; rfl)).symm) (fun q hq => by rw [va_up_ne _ _ (by omega)]; exact hcq q hq)
            exact L3 n 0 e cn7 (by omega) h hc0 hc1
        have L1 : ∀ (k2 : Nat) (j : Nat) (e : Nat → va_E) (bf6 : Nat → Int64), j + k2 = 6 → RM cy a e n T 0 S M E r nw od cn5 bf6 → (∀ q, q < j → bf6 q = cn5 q) → GW p l en ({ frames := 1, cells := 0, slots := 0, locals := 22 }) s m ([.ref (a 0)] : List Value).toArray below meth c 0 0 (MQ below (va_Ql (fun z e1 => (∃ cn1 bf1, RM cy a e1 n T 0 S M E r nw od cn1 bf1) ∧ z = fPos n S M E r T) (gB D clP 9 a) (wA 9 a)) ([.ref (a 0)] : List Value).toArray s 0 0 (wA 9 a)) D clP 9 4 a (wA 9 a) e 81 [(0, .ref (a 0)), (1, .int (nI u)), (2, .int (nI j))] [] := by
          intro k2
          induction k2 with
          | zero =>
            intro j e bf6 hk2 h hcp
            obtain ⟨h0, hS, hM, hE, hr0, hnw, hod, hcn, hbf⟩ := id h
            refine g_iload_n C dX1_possible_81 rfl 2 rfl ?_
            refine g_bipush (v := nI 6) C dX1_possible_82 (by decide) ?_
            refine g_icmp_ge (tgt := 105) C dX1_possible_84 (by decide) (fun c1 => ?_) (fun c1 => absurd c1 (fun q => q (nI_le (by omega) (by omega))))
            refine g_iconst (v := nI 0) C dX1_possible_105 (by decide) ?_
            refine g_istore_n (lv' := [(0, .ref (a 0)), (1, .int (nI u)), (2, .int (nI 0))]) C dX1_possible_106 rfl (by decide) [1, 2, 0] rfl ?_
            exact L2 n 0 e cn5 bf6 (by omega) h (fun q hq => by rw [hcp q (by omega)]; exact hp q hq) (fun q hq => absurd hq (by omega))
          | succ k2 ih2 =>
            intro j e bf6 hk2 h hcp
            obtain ⟨h0, hS, hM, hE, hr0, hnw, hod, hcn, hbf⟩ := id h
            refine g_iload_n C dX1_possible_81 rfl 2 rfl ?_
            refine g_bipush (v := nI 6) C dX1_possible_82 (by decide) ?_
            refine g_icmp_ge (tgt := 105) C dX1_possible_84 (by decide) (fun c1 => absurd c1 (nI_ge (by omega) (by decide))) (fun c1 => ?_)
            refine g_aload_n C dX1_possible_87 rfl 0 rfl ?_
            refine g_get C 10 hin inl_pos1 (by decide) h0 (by decide) f_before rfl dX1_possible_88 ?_
            refine g_iload_n C dX1_possible_91 rfl 2 rfl ?_
            refine g_aload_n C dX1_possible_92 rfl 0 rfl ?_
            refine g_get C 9 hin inl_pos1 (by decide) h0 (by decide) f_counts rfl dX1_possible_93 ?_
            refine g_iload_n C dX1_possible_96 rfl 2 rfl ?_
            refine g_lald C (by omega) hcn (by omega) (by decide) dX1_possible_97 ?_
            refine g_last C (by omega) hbf (by omega) (by decide) dX1_possible_98 (fun y hy => ?_)
            have h := RM_bf h hy
            generalize va_up e 8 y = e at h ⊢
            refine g_iinc (v := nI (j + 1)) (k := 2) (lv' := [(0, .ref (a 0)), (1, .int (nI u)), (2, .int (nI (j + 1)))]) C dX1_possible_99 rfl (nI_inc j) (by decide) [1, 2, 0] rfl ?_
            refine g_goto (tgt := 81) C dX1_possible_102 (by decide) ?_
            exact ih2 (j + 1) e _ (by omega) h (fun q hq => by
              by_cases hqj : q = j
              · subst hqj; exact va_up_self _ _ _
              · rw [va_up_ne _ _ hqj]; exact hcp q (by omega))
        exact L1 6 0 e bf5 (by omega) h (fun q hq => absurd hq (by omega))
    have L0 : ∀ (k : Nat) (i : Nat) (e : Nat → va_E) (cn5 : Nat → Int64), i + k = 6 → RM cy a e n T 0 S M E r nw od cn5 bf → (∀ q, q < i → q < n → cn5 q = fC n S M E r 0 q) → GW p l en ({ frames := 1, cells := 0, slots := 0, locals := 22 }) s m ([.ref (a 0)] : List Value).toArray below meth c 0 0 (MQ below (va_Ql (fun z e1 => (∃ cn1 bf1, RM cy a e1 n T 0 S M E r nw od cn1 bf1) ∧ z = fPos n S M E r T) (gB D clP 9 a) (wA 9 a)) ([.ref (a 0)] : List Value).toArray s 0 0 (wA 9 a)) D clP 9 4 a (wA 9 a) e 16 [(0, .ref (a 0)), (1, .int (nI i))] [] := by
      intro k
      induction k with
      | zero =>
        intro i e cn5 hk h hp
        obtain ⟨h0, hS, hM, hE, hr0, hnw, hod, hcn, hbf⟩ := id h
        refine g_iload_n C dX1_possible_16 rfl 1 rfl ?_
        refine g_bipush (v := nI 6) C dX1_possible_17 (by decide) ?_
        refine g_icmp_ge (tgt := 69) C dX1_possible_19 (by decide) (fun c1 => ?_) (fun c1 => absurd c1 (fun q => q (nI_le (by omega) (by omega))))
        refine g_iconst (v := nI 1) C dX1_possible_69 (by decide) ?_
        refine g_istore_n (lv' := [(0, .ref (a 0)), (1, .int (nI 1))]) C dX1_possible_70 rfl (by decide) [1, 0] rfl ?_
        exact K1 (T - 1) 1 e cn5 bf (by omega) (by omega) h (fun q hq => hp q (by omega) hq)
      | succ k ih =>
        intro i e cn5 hk h hp
        obtain ⟨h0, hS, hM, hE, hr0, hnw, hod, hcn, hbf⟩ := id h
        refine g_iload_n C dX1_possible_16 rfl 1 rfl ?_
        refine g_bipush (v := nI 6) C dX1_possible_17 (by decide) ?_
        refine g_icmp_ge (tgt := 69) C dX1_possible_19 (by decide) (fun c1 => absurd c1 (nI_ge (by omega) (by decide))) (fun c1 => ?_)
        refine g_aload_n C dX1_possible_22 rfl 0 rfl ?_
        refine g_get C 9 hin inl_pos1 (by decide) h0 (by decide) f_counts rfl dX1_possible_23 ?_
        refine g_iload_n C dX1_possible_26 rfl 1 rfl ?_
        refine g_iload_n C dX1_possible_27 rfl 1 rfl ?_
        refine g_aload_n C dX1_possible_28 rfl 0 rfl ?_
        refine g_get C 0 hin inl_pos1 (by decide) h0 (by decide) f_n rfl dX1_possible_29 ?_
        refine g_icmp_ge (tgt := 61) C dX1_possible_32 (by decide) (fun c2 => ?_) (fun c2 => ?_)
        · refine g_lconst (v := 0) C dX1_possible_61 (by decide) ?_
          refine g_last C (by omega) hcn (by omega) (by decide) dX1_possible_62 (fun y hy => ?_)
          have h := RM_cn h hy
          generalize va_up e 7 y = e at h ⊢
          refine g_iinc (v := nI (i + 1)) (k := 1) (lv' := [(0, .ref (a 0)), (1, .int (nI (i + 1)))]) C dX1_possible_63 rfl (nI_inc i) (by decide) [1, 0] rfl ?_
          refine g_goto (tgt := 16) C dX1_possible_66 (by decide) ?_
          exact ih (i + 1) e _ (by omega) h (fun q hq hqn => by
            by_cases hqi : q = i
            · subst hqi; rw [va_up_self]; exact absurd hqn (by have := nI_le_n c2 (by omega) (by omega); omega)
            · rw [va_up_ne _ _ hqi]; exact hp q (by omega) hqn)
        · have hin1 : i < n := nI_ge_n c2 (by omega) (by omega)
          refine g_aload_n C dX1_possible_35 rfl 0 rfl ?_
          refine g_get C 3 hin inl_pos1 (by decide) h0 (by decide) f_starts rfl dX1_possible_36 ?_
          refine g_iload_n C dX1_possible_39 rfl 1 rfl ?_
          refine g_dald C (by omega) hS (by omega) (by decide) dX1_possible_40 ?_
          refine g_dconst0 C dX1_possible_41 ?_
          refine g_dcmp C dX1_possible_42 ?_
          refine g_if_le (tgt := 61) C dX1_possible_43 (by decide) (fun c3 => ?_) (fun c3 => ?_)
          · refine g_lconst (v := 0) C dX1_possible_61 (by decide) ?_
            refine g_last C (by omega) hcn (by omega) (by decide) dX1_possible_62 (fun y hy => ?_)
            have h := RM_cn h hy
            generalize va_up e 7 y = e at h ⊢
            refine g_iinc (v := nI (i + 1)) (k := 1) (lv' := [(0, .ref (a 0)), (1, .int (nI (i + 1)))]) C dX1_possible_63 rfl (nI_inc i) (by decide) [1, 0] rfl ?_
            refine g_goto (tgt := 16) C dX1_possible_66 (by decide) ?_
            exact ih (i + 1) e _ (by omega) h (fun q hq hqn => by
              by_cases hqi : q = i
              · subst hqi; rw [va_up_self]; show _ = if gtD (E q (r 0)) FP.dconst0 = true then (if gtD (S q) FP.dconst0 = true then 1 else 0) else 0; rw [gtD_f c3]; split <;> rfl
              · rw [va_up_ne _ _ hqi]; exact hp q (by omega) hqn)
          · refine g_aload_n C dX1_possible_46 rfl 0 rfl ?_
            refine g_iload_n C dX1_possible_47 rfl 1 rfl ?_
            refine g_iconst (v := nI 0) C dX1_possible_48 (by decide) ?_
            refine g_calld (As := [.int (nI i), .int (nI 0)]) (rest := [.int (nI i), .ref (a 7)]) C (cwV 2 C.2.2.2.2.1 gX1_possible_X1_shown rfl rfl rfl (by decide +kernel) ⟨Nat.le_of_ble_eq_true rfl, Nat.le_of_ble_eq_true rfl⟩) (c_X1_shown l D cy a hi h i 0 (by omega) (by omega) hr4) (by decide) h0 inl_pos1 rfl rfl (Nat.le_of_ble_eq_true rfl) dX1_possible_49 ⟨Nat.zero_le _, Nat.zero_le _⟩ (fun z e1 hz => ?_)
            rw [hz.1]
            obtain ⟨-, rfl⟩ := hz
            refine g_dconst0 C dX1_possible_52 ?_
            refine g_dcmp C dX1_possible_53 ?_
            refine g_if_le (tgt := 61) C dX1_possible_54 (by decide) (fun c4 => ?_) (fun c4 => ?_)
            · refine g_lconst (v := 0) C dX1_possible_61 (by decide) ?_
              refine g_last C (by omega) hcn (by omega) (by decide) dX1_possible_62 (fun y hy => ?_)
              have h := RM_cn h hy
              generalize va_up e 7 y = e at h ⊢
              refine g_iinc (v := nI (i + 1)) (k := 1) (lv' := [(0, .ref (a 0)), (1, .int (nI (i + 1)))]) C dX1_possible_63 rfl (nI_inc i) (by decide) [1, 0] rfl ?_
              refine g_goto (tgt := 16) C dX1_possible_66 (by decide) ?_
              exact ih (i + 1) e _ (by omega) h (fun q hq hqn => by
                by_cases hqi : q = i
                · subst hqi; rw [va_up_self]; show _ = if gtD (E q (r 0)) FP.dconst0 = true then (if gtD (S q) FP.dconst0 = true then 1 else 0) else 0; rw [gtD_f c4]; rfl
                · rw [va_up_ne _ _ hqi]; exact hp q (by omega) hqn)
            · refine g_lconst (v := 1) C dX1_possible_57 (by decide) ?_
              refine g_goto (tgt := 62) C dX1_possible_58 (by decide) ?_
              refine g_last C (by omega) hcn (by omega) (by decide) dX1_possible_62 (fun y hy => ?_)
              have h := RM_cn h hy
              generalize va_up e 7 y = e at h ⊢
              refine g_iinc (v := nI (i + 1)) (k := 1) (lv' := [(0, .ref (a 0)), (1, .int (nI (i + 1)))]) C dX1_possible_63 rfl (nI_inc i) (by decide) [1, 0] rfl ?_
              refine g_goto (tgt := 16) C dX1_possible_66 (by decide) ?_
              exact ih (i + 1) e _ (by omega) h (fun q hq hqn => by
                by_cases hqi : q = i
                · subst hqi; rw [va_up_self]; show _ = if gtD (E q (r 0)) FP.dconst0 = true then (if gtD (S q) FP.dconst0 = true then 1 else 0) else 0; rw [gtD_t c4, gtD_t c3]; rfl
                · rw [va_up_ne _ _ hqi]; exact hp q (by omega) hqn)
    refine g_iconst (v := nI 0) C dX1_possible_14 (by decide) ?_
    refine g_istore_n (lv' := [(0, .ref (a 0)), (1, .int (nI 0))]) C dX1_possible_15 rfl (by decide) [1, 0] rfl ?_
    exact L0 6 0 e0 cn (by omega) h (fun q hq => absurd hq (by omega))
  · refine g_lconst (v := 1) C dX1_possible_12 (by decide) ?_
    exact g_lret C hr hlocks (⟨⟨cn, bf, h⟩, by rw [fPos, if_pos ((nI_eq (by omega) (by decide)).mp c1)]⟩) dX1_possible_13
end
section
/-! constructors: worlds that grow -/
def extA (a : Nat → Nat) (N q : Nat) : Nat → Nat := fun k => if k < N then a k else q + (k - N)
def ext (e : Nat → va_E) (N : Nat) (f : Nat → va_E) : Nat → va_E := fun k => if k < N then e k else f (k - N)
theorem extA_lt {a : Nat → Nat} {N q k : Nat} (h : k < N) : extA a N q k = a k := if_pos h
theorem extA_ge {a : Nat → Nat} {N q k : Nat} : extA a N q (N + k) = q + k := by
  unfold extA
  rw [if_neg (by omega), Nat.add_sub_cancel_left]
theorem ext_lt {e : Nat → va_E} {N k : Nat} {f : Nat → va_E} (h : k < N) : ext e N f k = e k := if_pos h
theorem ext_ge {e : Nat → va_E} {N k : Nat} {f : Nat → va_E} : ext e N f (N + k) = f k := by
  unfold ext
  rw [if_neg (by omega), Nat.add_sub_cancel_left]
theorem rA_ext {cy : Nat → ClassId} {t n b N q : Nat} {a : Nat → Nat} (h : b + n ≤ N) : rA cy t n (extA a N q) b = rA cy t n a b := by
  unfold rA
  congr 7
  funext i
  by_cases hi : i < n
  · rw [if_pos hi, if_pos hi, extA_lt (by omega)]
  · rw [if_neg hi, if_neg hi]
theorem ext_inj {a : Nat → Nat} {N q m : Nat} (hi : wInj N a) (hq : ∀ k, k < N → a k < q) : wInj (N + m) (extA a N q) := by
  intro i j h1 h2 h
  unfold extA at h
  by_cases c1 : i < N <;> by_cases c2 : j < N
  · rw [if_pos c1, if_pos c2] at h
    exact hi i j c1 c2 h
  · rw [if_pos c1, if_neg c2] at h
    have := hq i c1
    omega
  · rw [if_neg c1, if_pos c2] at h
    have := hq j c2
    omega
  · rw [if_neg c1, if_neg c2] at h
    omega
theorem ext_world {D : va_G} {cl : List vw_C} {N m : Nat} {a : Nat → Nat} {e f : Nat → va_E} {H H1 : Heap} (hP : va_P D cl (wl N a e) H) (ho : ∀ x : Nat, x < H.size → H1[x]? = H[x]?) (hf : ∀ j, j < m → va_at D cl (H.size + j, f j) H1) : va_P D cl (wl (N + m) (extA a N H.size) (ext e N f)) H1 := by
  refine wl_P (fun k hk => ?_)
  by_cases h : k < N
  · rw [extA_lt h, ext_lt h]
    exact (wl_Pat hP h).kept (ho _ ((wl_Pat hP h).lt))
  · obtain ⟨j, rfl⟩ : ∃ j, k = N + j := ⟨k - N, by omega⟩
    rw [extA_ge, ext_ge]
    exact hf j (by omega)
theorem my_outer (c : ClassId) (N h0 : Nat) : Jvm.Free.Multi.outerC c N h0 N = arrV c N (fun j => va_rf (if j < N then some (h0 + 1 + j) else none)) := by
  have key : ∀ i : Nat, Jvm.Free.Multi.outerC c N h0 i = arrV c N (fun j => va_rf (if j < i then some (h0 + 1 + j) else none)) := fun i => by
    induction i with
    | zero =>
      show ({ cls := c, slots := Array.replicate N .null, vm := .none } : Cell) = _
      rw [arrV_new]
      refine congrArg (arrV c N) (funext fun j => ?_)
      simp [va_rf]
    | succ i ih =>
      show (Jvm.Free.Multi.outerC c N h0 i).setSlot i (.ref (h0 + 1 + i)) = _
      rw [ih, arrV_store]
      refine congrArg (arrV c N) (funext fun j => ?_)
      by_cases e : j = i
      · subst e
        simp [updV, va_rf]
      · by_cases h : j < i
        · simp [updV, e, h, Nat.lt_succ_of_lt h]
        · simp [updV, e, h, show ¬ j < i + 1 by omega]
  exact key N
def va_AOA (ty : FieldType) (U : State) : Prop := (Cond.arrayOver (.array ty)).before #[] U = true
section GN
variable {p : Program} {l : Launch} {en : Env} {R : Room} {s : State} {m : MethodId} {args : Array Value} {below : List Frame} {meth : Method} {c : Code} {cells slots : Nat} {Q : State → Prop} {D : va_G} {cl : List vw_C} {cy : Nat → ClassId} {N nL : Nat} {a : Nat → Nat} {A : Nat → Prop} {e : Nat → va_E} {cc : ByteArray} {pc : Nat} {lv : List (Nat × Value)} {st : List Value} {Ts : List Cond} {own : String}
theorem Cx.grow (C : Cx p s m args c cc Ts own D cl cy N nL a A) {q n : Nat} (hq : s.heap.size ≤ q) (hA : ∀ q, s.heap.size ≤ q → A q) (hlt : ∀ k, k < N → a k < q) : Cx p s m args c cc Ts own D cl cy (N + n) nL (extA a N q) A := by
  obtain ⟨h1, h2, h3, h4, h5, h6, h7, h8⟩ := C
  refine ⟨h1, h2, h3, h4, h5, h6, ext_inj h7 hlt, fun k hk => ?_⟩
  by_cases h : k < N
  · rw [extA_lt h]
    exact h8 k h
  · obtain ⟨j, rfl⟩ : ∃ j, k = N + j := ⟨k - N, by omega⟩
    rw [extA_ge]
    exact hA _ (by omega)
theorem g_newarr (C : Cx p s m args c cc Ts own D cl cy N nL a A) {atype : ArrayType} {t n : Nat} {x : vp_A} (harr : (Cond.arrayClass (newarray.typeOf atype)).before args s = true) (ht : (tys0 cy)[t]? = some (cy t, newarray.typeOf atype)) (hx : ∀ cA : ClassId, vp_cell cA x = arrV cA n (fun _ => defaultValue (newarray.typeOf atype))) (hn : n < 2 ^ 31) (hby : n * componentBytes (newarray.typeOf atype) ≤ 536870912) (hA : ∀ q, s.heap.size ≤ q → A q) (hcells : cells + 1 ≤ R.cells) (hslots : slots + n ≤ R.slots) (hdg : decode cc pc = .ok (.newarray atype, 2))
    (kk : ∀ q : Nat, s.heap.size ≤ q → Cx p s m args c cc Ts own D cl cy (N + 1) nL (extA a N q) A → GW p l en R s m args below meth c (cells + 1) (slots + n) Q D cl (N + 1) nL (extA a N q) A (ext e N (fun _ => .inl (cy t, x))) (pc + 2) lv (.ref q :: st)) : GW p l en R s m args below meth c cells slots Q D cl N nL a A e pc lv (.int (nI n) :: st) := by
  intro H locs ls hP hS hl
  refine va_newaK C.1 C.2.1 harr rfl hdg rfl (nI_pos hn) (nI_clamp hn) hby hcells hslots rfl (fun H1 cA e1 z1 o1 hAr hNm => ?_)
  have hra := (C.2.2.2.2.2.1.2 t _ ht).2
  have hcA : cA = cy t := by
    have h2 : s.vm.findClass ("[" ++ (newarray.typeOf atype).toString) = some (cy t) := by cases atype <;> exact hra
    exact Option.some.inj (hNm.symm.trans h2)
  subst hcA
  have hlt : ∀ k, k < N → a k < H.size := fun k hk => (wl_Pat hP hk).lt
  refine kk H.size hS.1 (C.grow hS.1 hA hlt) H1 locs ls (ext_world hP o1 (fun j hj => ?_)) ⟨Nat.le_trans hS.1 (by omega), fun x h1 h2 => (o1 x (Nat.lt_of_lt_of_le h1 hS.1)).trans (hS.2.1 x h1 h2), hS.2.2⟩ hl
  rw [show j = 0 by omega]
  show H1[H.size + 0]? = some (vp_cell _ _)
  rw [hx]
  exact e1
theorem g_mna (C : Cx p s m args c cc Ts own D cl cy N nL a A) {index t t2 n k : Nat} {ty : FieldType} {x : vp_A} (hclink : (Cond.classLink own index ("[" ++ (FieldType.array ty).toString)).before args s = true) (hover : va_AOA ty s) (harr : (Cond.arrayClass ty).before args s = true) (ht : (tys0 cy)[t]? = some (cy t, .array ty)) (hRA : s.vm.findClass (FieldType.array ty).toString = some (cy t2)) (hx : ∀ cA : ClassId, Jvm.Free.Multi.innerC cA k (defaultValue ty) = vp_cell cA x) (hn : n < 1000) (hk : k < 1000) (hb2 : k * componentBytes ty ≤ 536870912) (hdf : fits ty (defaultValue ty) = true) (hdd : (defaultValue ty).isDefault = true) (hA : ∀ q, s.heap.size ≤ q → A q) (hcells : cells + (1 + n) ≤ R.cells) (hslots : slots + (n + n * k) ≤ R.slots) (hdg : decode cc pc = .ok (.multianewarray index 2, 4))
    (kk : ∀ q : Nat, s.heap.size ≤ q → Cx p s m args c cc Ts own D cl cy (N + (1 + n)) nL (extA a N q) A → GW p l en R s m args below meth c (cells + 1 + n) (slots + n + n * k) Q D cl (N + (1 + n)) nL (extA a N q) A (ext e N (fun j => if j = 0 then rA cy t n (extA a N q) (N + 1) else .inl (cy t2, x))) (pc + 4) lv (.ref q :: st)) : GW p l en R s m args below meth c cells slots Q D cl N nL a A e pc lv (.int (nI k) :: .int (nI n) :: st) := by
  intro H locs ls hP hS hl
  intro T hT Xs
  have en1 : (nI n).toNatClampNeg = n := nI_clamp (by omega)
  have ek1 : (nI k).toNatClampNeg = k := nI_clamp (by omega)
  have hov : (Cond.arrayOver (.array ty)).before args s = true := hover
  obtain ⟨vm₁, cA, comp, -, fA1, fC1, hO, -, X', step⟩ := Xs.multianewarray2F C.1 C.2.2.2.1 hclink hov harr (g := F0 m pc ls (.int (nI k) :: .int (nI n) :: st)) rfl (by rw [C.2.1]; exact hdg) rfl (nI_pos (by omega)) (nI_pos (by omega)) (by rw [en1]; omega) (by rw [ek1]; exact hb2) (by rw [ek1]; omega) hdf hdd (by rw [en1]; exact hcells) (by rw [en1, ek1]; exact hslots)
  rw [en1, ek1] at X' step
  have ec : comp = cy t2 := Option.some.inj (fC1.symm.trans hRA)
  have eA : cA = cy t := Option.some.inj (fA1.symm.trans (C.2.2.2.2.2.1.2 t _ ht).2)
  subst ec
  subst eA
  generalize hF : Jvm.Free.Multi.fill (T.setVm vm₁) (cy t) (cy t2) n k (defaultValue ty) n = F at X' step
  have hTh : (T.setVm vm₁).heap = H := hT
  obtain ⟨f1, f2, -, -⟩ := Jvm.Free.Multi.fill_facts (T.setVm vm₁) (cy t) (cy t2) n k (defaultValue ty) n
  rw [hF, hTh] at f1 f2
  have hold : ∀ x : Nat, x < H.size → F.heap[x]? = H[x]? := fun x hx => by
    have := Jvm.Free.Multi.fill_old (T.setVm vm₁) (cy t) (cy t2) n k (defaultValue ty) (a := x) (by rw [hTh]; exact hx) n
    rw [hF, hTh] at this
    exact this
  have hrow : ∀ j : Nat, j < n → F.heap[H.size + 1 + j]? = some (vp_cell (cy t2) x) := fun j hj => by
    have := Jvm.Free.Multi.fill_inner (T.setVm vm₁) (cy t) (cy t2) n k (defaultValue ty) n j hj
    rw [hF, hTh, hx] at this
    exact this
  have hlt : ∀ k, k < N → a k < H.size := fun k hk => (wl_Pat hP hk).lt
  have hnew : ∀ j, j < 1 + n → va_at D cl (H.size + j, (fun j => if j = 0 then rA cy t n (extA a N H.size) (N + 1) else .inl (cy t2, x)) j) F.heap := fun j hj => by
    by_cases h0 : j = 0
    · subst h0
      show F.heap[H.size + 0]? = some (vp_cell (cy t) (n, .inr (.inr (.inr (.inr (fun i => if i < n then some (extA a N H.size (N + 1 + i)) else none))))))
      rw [show H.size + 0 = H.size from rfl, f2, vp_cell_q, my_outer]
      refine congrArg (fun z => some (arrV (cy t) n z)) (funext fun i => ?_)
      by_cases hi : i < n
      · rw [if_pos hi, if_pos hi, Nat.add_assoc N 1 i, extA_ge, Nat.add_assoc]
      · rw [if_neg hi, if_neg hi]
    · obtain ⟨i, rfl⟩ : ∃ i, j = 1 + i := ⟨j - 1, by omega⟩
      have h9 := hrow i (by omega)
      show va_at D cl (H.size + (1 + i), if 1 + i = 0 then _ else _) F.heap
      rw [if_neg (by omega), ← Nat.add_assoc]
      exact h9
  obtain ⟨t9, a1, b1⟩ := kk H.size hS.1 (C.grow hS.1 hA hlt) F.heap locs ls (ext_world hP hold hnew) ⟨by rw [f1]; have := hS.1; omega, fun x h1 h2 => (hold x (Nat.lt_of_lt_of_le h1 hS.1)).trans (hS.2.1 x h1 h2), hS.2.2⟩ hl F rfl X'
  refine ⟨t9, step t9 ?_, b1⟩
  have e9 : T.heap.size = H.size := by rw [hT]
  rw [e9]
  exact a1
theorem g_putF (C : Cx p s m args c cc Ts own D cl cy N nL a A) {Cn : String} {T : u_T} {NF ci index q0 : Nat} {fs fs2 : List Value} {v : Value} (k : Nat) (ty0 : Nat → FieldType) (hty : ∀ k, k < NF → parseFieldDescriptor (T k).2.2.1 = some (ty0 k)) (hnm : ∀ a, a < NF → ∀ b, b < NF → a ≠ b → (T a).2.1 ≠ (T b).2.1) (hin : ∀ w ∈ u_ws Cn T NF, w ∈ Ts) (hc : cl[ci]? = some (Cn, T, NF)) (hq0 : q0 < N) (he : e q0 = .inr (ci, fs)) (hk : k < NF) (hlink : (Cond.fieldLink own index (T k).1 (T k).2.1 (T k).2.2.1).before args s = true) (hfin : (T k).2.2.2 = true) (hin2 : meth.name = "<init>") (hdecl : (T k).1 = own) {ty : FieldType} (hd : parseFieldDescriptor (T k).2.2.1 = some ty) (hn : narrow ty v = v) (hfit : fits ty v = true) (hl : k < fs.length) (hfs : fs.set k v = fs2) {b0 : Nat} (hb0 : b0 = a q0) (hdg : decode cc pc = .ok (.putfield index, 3)) (kk : GW p l en R s m args below meth c cells slots Q D cl N nL a A (va_up e q0 (.inr (ci, fs2))) (pc + 3) lv st) : GW p l en R s m args below meth c cells slots Q D cl N nL a A e pc lv (v :: .ref b0 :: st) := by
  subst hb0
  subst hfs
  exact fun H locs ls hP hS hll => va_putF C.1 C.2.1 C.2.2.2.2.1 hin ty0 hty hnm C.2.2.2.1 C.2.2.2.2.2.1 hP (wl_D C.2.2.2.2.2.2.1 C.2.2.2.2.2.2.2) hS q0 (by rw [wl_at hq0, he]) hc k hk hlink (fun _ h => h) hfin hin2 hdecl hd hn hfit hl hdg (fun H1 locs1 hP1 hD1 hS1 => kk H1 locs1 ls (by rw [wl_set hq0] at hP1; exact hP1) hS1 hll)
theorem g_putI (C : Cx p s m args c cc Ts own D cl cy N nL a A) {Cn : String} {T : u_T} {NF ci index q0 : Nat} {fs fs2 : List Value} {v : Value} (k : Nat) (ty0 : Nat → FieldType) (hty : ∀ k, k < NF → parseFieldDescriptor (T k).2.2.1 = some (ty0 k)) (hnm : ∀ a, a < NF → ∀ b, b < NF → a ≠ b → (T a).2.1 ≠ (T b).2.1) (hin : ∀ w ∈ u_ws Cn T NF, w ∈ Ts) (hc : cl[ci]? = some (Cn, T, NF)) (hq0 : q0 < N) (he : e q0 = .inr (ci, fs)) (hk : k < NF) (hlink : (Cond.fieldLink own index (T k).1 (T k).2.1 (T k).2.2.1).before args s = true) (hfin : (T k).2.2.2 = false) {ty : FieldType} (hd : parseFieldDescriptor (T k).2.2.1 = some ty) (hn : narrow ty v = v) (hfit : fits ty v = true) (hl : k < fs.length) (hfs : fs.set k v = fs2) {b0 : Nat} (hb0 : b0 = a q0) (hdg : decode cc pc = .ok (.putfield index, 3)) (kk : GW p l en R s m args below meth c cells slots Q D cl N nL a A (va_up e q0 (.inr (ci, fs2))) (pc + 3) lv st) : GW p l en R s m args below meth c cells slots Q D cl N nL a A e pc lv (v :: .ref b0 :: st) := by
  subst hb0
  subst hfs
  exact g_put C k ty0 hty hnm hin hc hq0 he hk hlink hfin hd hn hfit hl hdg kk
end GN
end
section
theorem my_inner0 (c : ClassId) (k : Nat) : Jvm.Free.Multi.innerC c k (defaultValue .double) = vp_cell c (k, .inr (.inr (.inr (.inl fun _ => FP.dconst0)))) := by
  show ({ cls := c, slots := Array.replicate k (defaultValue .double), vm := .none } : Cell) = _
  rw [arrV_new]
  rfl
theorem my_inner1 (c : ClassId) (k : Nat) : Jvm.Free.Multi.innerC c k (defaultValue .int) = vp_cell c (k, .inl fun _ => nI 0) := by
  show ({ cls := c, slots := Array.replicate k (defaultValue .int), vm := .none } : Cell) = _
  rw [arrV_new]
  rfl
theorem my_inner2 (c : ClassId) (k : Nat) : Jvm.Free.Multi.innerC c k (defaultValue .long) = vp_cell c (k, .inr (.inl fun _ => 0)) := by
  show ({ cls := c, slots := Array.replicate k (defaultValue .long), vm := .none } : Cell) = _
  rw [arrV_new]
  rfl
section GO
variable {p : Program} {l : Launch} {en : Env} {R : Room} {s : State} {m : MethodId} {args : Array Value} {below : List Frame} {meth : Method} {c : Code} {cells slots : Nat} {Q : State → Prop} {D : va_G} {cl : List vw_C} {cy : Nat → ClassId} {N nL : Nat} {a : Nat → Nat} {A : Nat → Prop} {e : Nat → va_E} {cc : ByteArray} {pc : Nat} {lv : List (Nat × Value)} {st : List Value} {Ts : List Cond} {own : String}
theorem g_objInit (C : Cx p s m args c cc Ts own D cl cy N nL a A) {idx : Nat} {o : Nat} (hlink : (Cond.methodLink own idx objectInit).before args s = true) (hinst : (Cond.instanceMethod objectInit).before args s = true) (hcode : (Cond.code objectInit ⟨#[0xb1]⟩ 1 none).before args s = true) (hd : decode cc pc = .ok (.invokespecial idx, 3)) (hframes : 1 ≤ R.frames) (hlocals : (st.map fun v => v.category).sum + 12 ≤ R.locals) (kk : GW p l en R s m args below meth c cells slots Q D cl N nL a A e (pc + 3) lv st) : GW p l en R s m args below meth c cells slots Q D cl N nL a A e pc lv (.ref o :: st) := fun H locs ls hP hS hl => W.objInit C.1 C.2.1 C.2.2.2.1 hlink hinst hcode rfl (by rw [C.2.2.1]; exact hl.1) rfl hd hframes (by show 2 * 0 + _ + 12 ≤ _; omega) (kk H locs ls hP hS hl)
theorem g_widen {k n : Nat} (h1 : cells ≤ k) (h2 : slots ≤ n) (kk : GW p l en R s m args below meth c k n Q D cl N nL a A e pc lv st) : GW p l en R s m args below meth c cells slots Q D cl N nL a A e pc lv st := fun H locs ls hP hS hl => W.widen h1 h2 (kk H locs ls hP hS hl)
end GO

set_option maxHeartbeats 1000000 in
set_option maxRecDepth 100000 in
theorem c_X0_init (l : Launch) (D : va_G) (cy : Nat → ClassId) (o sz : Nat) : Met l yX0_init wsX0_init ({ frames := 1, cells := 81, slots := 510, locals := 12 }) (va_Pc [.ref o] (fun U => U.heap.size = sz ∧ va_P D clP [(o, .inr (0, [.null, .null, .null, .null, .int 0, .int 0, .null, .null, .null, .null, .null]))] U.heap ∧ va_K D clP (tys0 cy) U ∧ va_AOA .double U ∧ va_AOA .int U ∧ va_AOA .long U)) (va_Qv (fun (u : (Nat → Nat) × (Nat → va_E)) => u.1 0 = o ∧ wInj 82 u.1 ∧ (∀ k, 1 ≤ k → k < 82 → sz ≤ u.1 k) ∧ RP cy u.1 u.2 1 0 z1 z2 z2 (fun _ => 0) z2 z2 z2 (fun _ _ => 0) (fun _ _ => 0)) (fun u t => va_P D clP (wl 82 u.1 u.2) t.heap) (fun q => q = o ∨ sz ≤ q)) 81 510 (fun q => q = o ∨ sz ≤ q) := by
  refine Met.ofW (cc := cX0_init) (maxL := 1) (ret := none) (by decide) rfl ?_
  intro p en s m args below meth c s₁ B hml hv
  obtain ⟨rfl, hsz, hP0, hK, hO1, hO2, hO3⟩ := hv
  subst hsz
  have hx := B.exec
  have hb := B.bytes
  have hr := B.returns
  have hts := atoms_spec (ws := wsX0_init) B.pre
  have hown : s.vm.findClass RX0 = some m.cls := findClass_of_methodNamed B.named
  have hlocks := B.notSynchronized
  have hin2 : meth.name = "<init>" := (name_of_methodNamed B.named B.method).1
  have hin : ∀ w ∈ u_ws RX0 TX0 11, w ∈ wsX0_init := by decide +kernel
  have hl := lv_entry ([.ref o]) (n := 1) (Nat.le_of_ble_eq_true rfl)
  rw [lg_entry_eq]
  have hA : ∀ q : Nat, s.heap.size ≤ q → q = o ∨ s.heap.size ≤ q := fun _ h => Or.inr h
  have ho : o < s.heap.size := (hP0 0 _ rfl).lt
  obtain ⟨a, ha0⟩ : ∃ a : Nat → Nat, a = fun _ => o := ⟨_, rfl⟩
  obtain ⟨e, he0⟩ : ∃ e : Nat → va_E, e = fun _ => .inr (0, [.null, .null, .null, .null, .int 0, .int 0, .null, .null, .null, .null, .null]) := ⟨_, rfl⟩
  have hP : va_P D clP (wl 1 a e) s.heap := wl_P (fun k hk => by rw [ha0, he0]; exact hP0 0 _ rfl)
  have C : Cx p s m ([.ref o] : List Value).toArray c cX0_init wsX0_init RX0 D clP cy 1 1 a (fun q => q = o ∨ s.heap.size ≤ q) := ⟨hx, hb, hml, hown, hts, hK, fun i j h1 h2 _ => by omega, fun k _ => Or.inl (by rw [ha0])⟩
  have hsl : ∀ k, 1 ≤ k → k < 1 → s.heap.size ≤ a k := fun k h1 h2 => absurd h2 (by omega)
  have hz : a 0 = o := by rw [ha0]
  have h0 : e 0 = .inr (0, [.null, .null, .null, .null, .int 0, .int 0, .null, .null, .null, .null, .null]) := by rw [he0]
  suffices G0 : GW p l en ({ frames := 1, cells := 81, slots := 510, locals := 12 }) s m ([.ref o] : List Value).toArray below meth c 0 0 (MQ below (va_Qv (fun (u : (Nat → Nat) × (Nat → va_E)) => u.1 0 = o ∧ wInj 82 u.1 ∧ (∀ k, 1 ≤ k → k < 82 → s.heap.size ≤ u.1 k) ∧ RP cy u.1 u.2 1 0 z1 z2 z2 (fun _ => 0) z2 z2 z2 (fun _ _ => 0) (fun _ _ => 0)) (fun u t => va_P D clP (wl 82 u.1 u.2) t.heap) (fun q => q = o ∨ s.heap.size ≤ q)) ([.ref o] : List Value).toArray s 81 510 (fun q => q = o ∨ s.heap.size ≤ q)) D clP 1 1 a (fun q => q = o ∨ s.heap.size ≤ q) e 0 [(0, .ref o)] [] from G0 s.heap [] _ hP va_S.rf hl
  clear hP0 hP hl ha0 he0
  refine g_aload_n C dX0_init_0 rfl 0 rfl ?_
  refine g_objInit C (hts (.methodLink RX0 1 objectInit) (by decide +kernel)) (hts (.instanceMethod objectInit) (by decide +kernel)) (hts (.code objectInit ⟨#[0xb1]⟩ 1 none) (by decide +kernel)) dX0_init_1 (Nat.le_of_ble_eq_true rfl) (Nat.le_of_ble_eq_true rfl) ?_
  refine g_aload_n C dX0_init_4 rfl 0 rfl ?_
  refine g_bipush (v := nI 6) C dX0_init_5 (by decide) ?_
  refine g_newarr (atype := .double) (t := 0) (n := 6) (x := (6, .inr (.inr (.inr (.inl fun _ => FP.dconst0))))) C (hts (.arrayClass .double) (by decide +kernel)) rfl (fun _ => rfl) (by decide) (by decide +kernel) hA (Nat.le_of_ble_eq_true rfl) (Nat.le_of_ble_eq_true rfl) dX0_init_7 (fun q hq C => ?_)
  obtain ⟨e9, he9⟩ : ∃ e9, e9 = ext e 1 (fun _ => (.inl (cy 0, (6, .inr (.inr (.inr (.inl fun _ => FP.dconst0))))) : va_E)) := ⟨_, rfl⟩
  rw [← he9]
  have h0 := (show e9 0 = e 0 by rw [he9, ext_lt (by omega)]).trans h0
  have hsl : ∀ k, 1 ≤ k → k < 2 → s.heap.size ≤ extA a 1 q k := fun k h1 h2 => by
    by_cases hk : k < 1
    · rw [extA_lt hk]; exact hsl k h1 hk
    · obtain ⟨j, rfl⟩ : ∃ j, k = 1 + j := ⟨k - 1, by omega⟩
      rw [extA_ge]; omega
  have hz : extA a 1 q 0 = o := by rw [extA_lt (by omega)]; exact hz
  have hqa : q = extA a 1 q 1 := (extA_ge (k := 0)).symm
  have k1 : isD cy (e9 1) 6 z1 := by rw [he9]; exact ⟨_, ext_ge (k := 0), fun _ _ => rfl⟩
  clear he9
  have hold : ∀ k, k < 1 → a k = extA a 1 q k := fun k hk => (extA_lt hk).symm
  try simp only [hold 1 (by omega)] at h0
  clear hold
  generalize extA a 1 q = a at h0 hsl hz hqa C k1 ⊢
  generalize e9 = e at h0 k1 ⊢
  rw [hqa]
  refine g_putF (fs2 := [.ref (a 1), .null, .null, .null, .int 0, .int 0, .null, .null, .null, .null, .null]) C 0 tyX0 tyX0_ok nmX0 hin inl_pos0 (by decide) h0 (by decide) (hts (.fieldLink RX0 9 "PathOdds" "startWeights" "[D") (by decide +kernel)) rfl hin2 rfl (ty := .array .double) (by decide +kernel) rfl rfl (Nat.le_of_ble_eq_true rfl) rfl hz.symm dX0_init_9 ?_
  obtain ⟨e9, he9⟩ : ∃ e9, e9 = va_up e 0 (.inr (0, [.ref (a 1), .null, .null, .null, .int 0, .int 0, .null, .null, .null, .null, .null]) : va_E) := ⟨_, rfl⟩
  rw [← he9]
  have k1 : isD cy (e9 1) 6 z1 := by rw [he9, up_ne (by omega)]; exact k1
  have h0 : e9 0 = .inr (0, [.ref (a 1), .null, .null, .null, .int 0, .int 0, .null, .null, .null, .null, .null]) := by rw [he9]; exact up_eq
  clear he9
  generalize e9 = e at h0 k1 ⊢
  refine g_aload_n C dX0_init_12 rfl 0 rfl ?_
  refine g_bipush (v := nI 6) C dX0_init_13 (by decide) ?_
  refine g_bipush (v := nI 6) C dX0_init_15 (by decide) ?_
  refine g_mna (t := 3) (t2 := 0) (n := 6) (k := 6) (ty := .double) (x := (6, .inr (.inr (.inr (.inl fun _ => FP.dconst0))))) C (hts (.classLink RX0 13 "[[D") (by decide +kernel)) hO1 (hts (.arrayClass .double) (by decide +kernel)) rfl (hK.2 0 _ rfl).2 (fun _ => my_inner0 _ 6) (by decide) (by decide) (by decide +kernel) rfl rfl hA (Nat.le_of_ble_eq_true rfl) (Nat.le_of_ble_eq_true rfl) dX0_init_17 (fun q hq C => ?_)
  obtain ⟨e9, he9⟩ : ∃ e9, e9 = ext e 2 (fun j => if j = 0 then rA cy 3 6 (extA a 2 q) (2 + 1) else .inl (cy 0, (6, .inr (.inr (.inr (.inl fun _ => FP.dconst0)))))) := ⟨_, rfl⟩
  rw [← he9]
  have k1 : isD cy (e9 1) 6 z1 := by rw [he9, ext_lt (by omega)]; exact k1
  have h0 := (show e9 0 = e 0 by rw [he9, ext_lt (by omega)]).trans h0
  have hsl : ∀ k, 1 ≤ k → k < 9 → s.heap.size ≤ extA a 2 q k := fun k h1 h2 => by
    by_cases hk : k < 2
    · rw [extA_lt hk]; exact hsl k h1 hk
    · obtain ⟨j, rfl⟩ : ∃ j, k = 2 + j := ⟨k - 2, by omega⟩
      rw [extA_ge]; omega
  have hz : extA a 2 q 0 = o := by rw [extA_lt (by omega)]; exact hz
  have hqa : q = extA a 2 q 2 := (extA_ge (k := 0)).symm
  have k2 : e9 2 = rA cy 3 6 (extA a 2 q) 3 := by rw [he9]; exact ext_ge (k := 0)
  have k2r : ∀ i, i < 6 → isD cy (e9 (3 + i)) 6 (z2 i) := fun i hi => by rw [he9, show 3 + i = 2 + (1 + i) by omega]; exact ⟨_, ext_ge.trans (if_neg (by omega)), fun _ _ => rfl⟩
  clear he9
  have hold : ∀ k, k < 2 → a k = extA a 2 q k := fun k hk => (extA_lt hk).symm
  try simp only [hold 1 (by omega)] at h0
  clear hold
  generalize extA a 2 q = a at h0 hsl hz hqa C k1 k2 k2r ⊢
  generalize e9 = e at h0 k1 k2 k2r ⊢
  rw [hqa]
  refine g_putF (fs2 := [.ref (a 1), .ref (a 2), .null, .null, .int 0, .int 0, .null, .null, .null, .null, .null]) C 1 tyX0 tyX0_ok nmX0 hin inl_pos0 (by decide) h0 (by decide) (hts (.fieldLink RX0 15 "PathOdds" "moveWeights" "[[D") (by decide +kernel)) rfl hin2 rfl (ty := .array (.array .double)) (by decide +kernel) rfl rfl (Nat.le_of_ble_eq_true rfl) rfl hz.symm dX0_init_21 ?_
  obtain ⟨e9, he9⟩ : ∃ e9, e9 = va_up e 0 (.inr (0, [.ref (a 1), .ref (a 2), .null, .null, .int 0, .int 0, .null, .null, .null, .null, .null]) : va_E) := ⟨_, rfl⟩
  rw [← he9]
  have k1 : isD cy (e9 1) 6 z1 := by rw [he9, up_ne (by omega)]; exact k1
  have k2 : e9 2 = rA cy 3 6 a 3 := by rw [he9, up_ne (by omega)]; exact k2
  have k2r : ∀ i, i < 6 → isD cy (e9 (3 + i)) 6 (z2 i) := fun i hi => by rw [he9, up_ne (by omega)]; exact k2r i hi
  have h0 : e9 0 = .inr (0, [.ref (a 1), .ref (a 2), .null, .null, .int 0, .int 0, .null, .null, .null, .null, .null]) := by rw [he9]; exact up_eq
  clear he9
  generalize e9 = e at h0 k1 k2 k2r ⊢
  refine g_aload_n C dX0_init_24 rfl 0 rfl ?_
  refine g_bipush (v := nI 6) C dX0_init_25 (by decide) ?_
  refine g_iconst (v := nI 4) C dX0_init_27 (by decide) ?_
  refine g_mna (t := 3) (t2 := 0) (n := 6) (k := 4) (ty := .double) (x := (4, .inr (.inr (.inr (.inl fun _ => FP.dconst0))))) C (hts (.classLink RX0 13 "[[D") (by decide +kernel)) hO1 (hts (.arrayClass .double) (by decide +kernel)) rfl (hK.2 0 _ rfl).2 (fun _ => my_inner0 _ 4) (by decide) (by decide) (by decide +kernel) rfl rfl hA (Nat.le_of_ble_eq_true rfl) (Nat.le_of_ble_eq_true rfl) dX0_init_28 (fun q hq C => ?_)
  obtain ⟨e9, he9⟩ : ∃ e9, e9 = ext e 9 (fun j => if j = 0 then rA cy 3 6 (extA a 9 q) (9 + 1) else .inl (cy 0, (4, .inr (.inr (.inr (.inl fun _ => FP.dconst0)))))) := ⟨_, rfl⟩
  rw [← he9]
  have k1 : isD cy (e9 1) 6 z1 := by rw [he9, ext_lt (by omega)]; exact k1
  have k2 : e9 2 = rA cy 3 6 (extA a 9 q) 3 := by rw [he9, ext_lt (by omega), rA_ext (by omega)]; exact k2
  have k2r : ∀ i, i < 6 → isD cy (e9 (3 + i)) 6 (z2 i) := fun i hi => by rw [he9, ext_lt (by omega)]; exact k2r i hi
  have h0 := (show e9 0 = e 0 by rw [he9, ext_lt (by omega)]).trans h0
  have hsl : ∀ k, 1 ≤ k → k < 16 → s.heap.size ≤ extA a 9 q k := fun k h1 h2 => by
    by_cases hk : k < 9
    · rw [extA_lt hk]; exact hsl k h1 hk
    · obtain ⟨j, rfl⟩ : ∃ j, k = 9 + j := ⟨k - 9, by omega⟩
      rw [extA_ge]; omega
  have hz : extA a 9 q 0 = o := by rw [extA_lt (by omega)]; exact hz
  have hqa : q = extA a 9 q 9 := (extA_ge (k := 0)).symm
  have k9 : e9 9 = rA cy 3 6 (extA a 9 q) 10 := by rw [he9]; exact ext_ge (k := 0)
  have k9r : ∀ i, i < 6 → isD cy (e9 (10 + i)) 4 (z2 i) := fun i hi => by rw [he9, show 10 + i = 9 + (1 + i) by omega]; exact ⟨_, ext_ge.trans (if_neg (by omega)), fun _ _ => rfl⟩
  clear he9
  have hold : ∀ k, k < 9 → a k = extA a 9 q k := fun k hk => (extA_lt hk).symm
  try simp only [hold 1 (by omega)] at h0
  rw [hold 2 (by omega)] at h0
  clear hold
  generalize extA a 9 q = a at h0 hsl hz hqa C k1 k2 k2r k9 k9r ⊢
  generalize e9 = e at h0 k1 k2 k2r k9 k9r ⊢
  rw [hqa]
  refine g_putF (fs2 := [.ref (a 1), .ref (a 2), .ref (a 9), .null, .int 0, .int 0, .null, .null, .null, .null, .null]) C 2 tyX0 tyX0_ok nmX0 hin inl_pos0 (by decide) h0 (by decide) (hts (.fieldLink RX0 18 "PathOdds" "showWeights" "[[D") (by decide +kernel)) rfl hin2 rfl (ty := .array (.array .double)) (by decide +kernel) rfl rfl (Nat.le_of_ble_eq_true rfl) rfl hz.symm dX0_init_32 ?_
  obtain ⟨e9, he9⟩ : ∃ e9, e9 = va_up e 0 (.inr (0, [.ref (a 1), .ref (a 2), .ref (a 9), .null, .int 0, .int 0, .null, .null, .null, .null, .null]) : va_E) := ⟨_, rfl⟩
  rw [← he9]
  have k1 : isD cy (e9 1) 6 z1 := by rw [he9, up_ne (by omega)]; exact k1
  have k2 : e9 2 = rA cy 3 6 a 3 := by rw [he9, up_ne (by omega)]; exact k2
  have k2r : ∀ i, i < 6 → isD cy (e9 (3 + i)) 6 (z2 i) := fun i hi => by rw [he9, up_ne (by omega)]; exact k2r i hi
  have k9 : e9 9 = rA cy 3 6 a 10 := by rw [he9, up_ne (by omega)]; exact k9
  have k9r : ∀ i, i < 6 → isD cy (e9 (10 + i)) 4 (z2 i) := fun i hi => by rw [he9, up_ne (by omega)]; exact k9r i hi
  have h0 : e9 0 = .inr (0, [.ref (a 1), .ref (a 2), .ref (a 9), .null, .int 0, .int 0, .null, .null, .null, .null, .null]) := by rw [he9]; exact up_eq
  clear he9
  generalize e9 = e at h0 k1 k2 k2r k9 k9r ⊢
  refine g_aload_n C dX0_init_35 rfl 0 rfl ?_
  refine g_bipush (v := nI 12) C dX0_init_36 (by decide) ?_
  refine g_newarr (atype := .int) (t := 1) (n := 12) (x := (12, .inl fun _ => nI 0)) C (hts (.arrayClass .int) (by decide +kernel)) rfl (fun _ => rfl) (by decide) (by decide +kernel) hA (Nat.le_of_ble_eq_true rfl) (Nat.le_of_ble_eq_true rfl) dX0_init_38 (fun q hq C => ?_)
  obtain ⟨e9, he9⟩ : ∃ e9, e9 = ext e 16 (fun _ => (.inl (cy 1, (12, .inl fun _ => nI 0)) : va_E)) := ⟨_, rfl⟩
  rw [← he9]
  have k1 : isD cy (e9 1) 6 z1 := by rw [he9, ext_lt (by omega)]; exact k1
  have k2 : e9 2 = rA cy 3 6 (extA a 16 q) 3 := by rw [he9, ext_lt (by omega), rA_ext (by omega)]; exact k2
  have k2r : ∀ i, i < 6 → isD cy (e9 (3 + i)) 6 (z2 i) := fun i hi => by rw [he9, ext_lt (by omega)]; exact k2r i hi
  have k9 : e9 9 = rA cy 3 6 (extA a 16 q) 10 := by rw [he9, ext_lt (by omega), rA_ext (by omega)]; exact k9
  have k9r : ∀ i, i < 6 → isD cy (e9 (10 + i)) 4 (z2 i) := fun i hi => by rw [he9, ext_lt (by omega)]; exact k9r i hi
  have h0 := (show e9 0 = e 0 by rw [he9, ext_lt (by omega)]).trans h0
  have hsl : ∀ k, 1 ≤ k → k < 17 → s.heap.size ≤ extA a 16 q k := fun k h1 h2 => by
    by_cases hk : k < 16
    · rw [extA_lt hk]; exact hsl k h1 hk
    · obtain ⟨j, rfl⟩ : ∃ j, k = 16 + j := ⟨k - 16, by omega⟩
      rw [extA_ge]; omega
  have hz : extA a 16 q 0 = o := by rw [extA_lt (by omega)]; exact hz
  have hqa : q = extA a 16 q 16 := (extA_ge (k := 0)).symm
  have k16 : isI cy (e9 16) 12 (fun t => nI ((fun _ => 0) t)) := by rw [he9]; exact ⟨_, ext_ge (k := 0), fun _ _ => rfl⟩
  clear he9
  have hold : ∀ k, k < 16 → a k = extA a 16 q k := fun k hk => (extA_lt hk).symm
  try simp only [hold 1 (by omega)] at h0
  rw [hold 2 (by omega)] at h0
  rw [hold 9 (by omega)] at h0
  clear hold
  generalize extA a 16 q = a at h0 hsl hz hqa C k1 k2 k2r k9 k9r k16 ⊢
  generalize e9 = e at h0 k1 k2 k2r k9 k9r k16 ⊢
  rw [hqa]
  refine g_putF (fs2 := [.ref (a 1), .ref (a 2), .ref (a 9), .ref (a 16), .int 0, .int 0, .null, .null, .null, .null, .null]) C 3 tyX0 tyX0_ok nmX0 hin inl_pos0 (by decide) h0 (by decide) (hts (.fieldLink RX0 21 "PathOdds" "row" "[I") (by decide +kernel)) rfl hin2 rfl (ty := .array .int) (by decide +kernel) rfl rfl (Nat.le_of_ble_eq_true rfl) rfl hz.symm dX0_init_40 ?_
  obtain ⟨e9, he9⟩ : ∃ e9, e9 = va_up e 0 (.inr (0, [.ref (a 1), .ref (a 2), .ref (a 9), .ref (a 16), .int 0, .int 0, .null, .null, .null, .null, .null]) : va_E) := ⟨_, rfl⟩
  rw [← he9]
  have k1 : isD cy (e9 1) 6 z1 := by rw [he9, up_ne (by omega)]; exact k1
  have k2 : e9 2 = rA cy 3 6 a 3 := by rw [he9, up_ne (by omega)]; exact k2
  have k2r : ∀ i, i < 6 → isD cy (e9 (3 + i)) 6 (z2 i) := fun i hi => by rw [he9, up_ne (by omega)]; exact k2r i hi
  have k9 : e9 9 = rA cy 3 6 a 10 := by rw [he9, up_ne (by omega)]; exact k9
  have k9r : ∀ i, i < 6 → isD cy (e9 (10 + i)) 4 (z2 i) := fun i hi => by rw [he9, up_ne (by omega)]; exact k9r i hi
  have k16 : isI cy (e9 16) 12 (fun t => nI ((fun _ => 0) t)) := by rw [he9, up_ne (by omega)]; exact k16
  have h0 : e9 0 = .inr (0, [.ref (a 1), .ref (a 2), .ref (a 9), .ref (a 16), .int 0, .int 0, .null, .null, .null, .null, .null]) := by rw [he9]; exact up_eq
  clear he9
  generalize e9 = e at h0 k1 k2 k2r k9 k9r k16 ⊢
  refine g_aload_n C dX0_init_43 rfl 0 rfl ?_
  refine g_iconst (v := nI 1) C dX0_init_44 (by decide) ?_
  refine g_putI (fs2 := [.ref (a 1), .ref (a 2), .ref (a 9), .ref (a 16), .int (nI 1), .int 0, .null, .null, .null, .null, .null]) C 4 tyX0 tyX0_ok nmX0 hin inl_pos0 (by decide) h0 (by decide) (hts (.fieldLink RX0 25 "PathOdds" "stateCount" "I") (by decide +kernel)) rfl (ty := .int) (by decide +kernel) rfl rfl (Nat.le_of_ble_eq_true rfl) rfl hz.symm dX0_init_45 ?_
  obtain ⟨e9, he9⟩ : ∃ e9, e9 = va_up e 0 (.inr (0, [.ref (a 1), .ref (a 2), .ref (a 9), .ref (a 16), .int (nI 1), .int 0, .null, .null, .null, .null, .null]) : va_E) := ⟨_, rfl⟩
  rw [← he9]
  have k1 : isD cy (e9 1) 6 z1 := by rw [he9, up_ne (by omega)]; exact k1
  have k2 : e9 2 = rA cy 3 6 a 3 := by rw [he9, up_ne (by omega)]; exact k2
  have k2r : ∀ i, i < 6 → isD cy (e9 (3 + i)) 6 (z2 i) := fun i hi => by rw [he9, up_ne (by omega)]; exact k2r i hi
  have k9 : e9 9 = rA cy 3 6 a 10 := by rw [he9, up_ne (by omega)]; exact k9
  have k9r : ∀ i, i < 6 → isD cy (e9 (10 + i)) 4 (z2 i) := fun i hi => by rw [he9, up_ne (by omega)]; exact k9r i hi
  have k16 : isI cy (e9 16) 12 (fun t => nI ((fun _ => 0) t)) := by rw [he9, up_ne (by omega)]; exact k16
  have h0 : e9 0 = .inr (0, [.ref (a 1), .ref (a 2), .ref (a 9), .ref (a 16), .int (nI 1), .int 0, .null, .null, .null, .null, .null]) := by rw [he9]; exact up_eq
  clear he9
  generalize e9 = e at h0 k1 k2 k2r k9 k9r k16 ⊢
  refine g_aload_n C dX0_init_48 rfl 0 rfl ?_
  refine g_iconst (v := nI 0) C dX0_init_49 (by decide) ?_
  refine g_putI (fs2 := [.ref (a 1), .ref (a 2), .ref (a 9), .ref (a 16), .int (nI 1), .int (nI 0), .null, .null, .null, .null, .null]) C 5 tyX0 tyX0_ok nmX0 hin inl_pos0 (by decide) h0 (by decide) (hts (.fieldLink RX0 29 "PathOdds" "rowLength" "I") (by decide +kernel)) rfl (ty := .int) (by decide +kernel) rfl rfl (Nat.le_of_ble_eq_true rfl) rfl hz.symm dX0_init_50 ?_
  obtain ⟨e9, he9⟩ : ∃ e9, e9 = va_up e 0 (.inr (0, [.ref (a 1), .ref (a 2), .ref (a 9), .ref (a 16), .int (nI 1), .int (nI 0), .null, .null, .null, .null, .null]) : va_E) := ⟨_, rfl⟩
  rw [← he9]
  have k1 : isD cy (e9 1) 6 z1 := by rw [he9, up_ne (by omega)]; exact k1
  have k2 : e9 2 = rA cy 3 6 a 3 := by rw [he9, up_ne (by omega)]; exact k2
  have k2r : ∀ i, i < 6 → isD cy (e9 (3 + i)) 6 (z2 i) := fun i hi => by rw [he9, up_ne (by omega)]; exact k2r i hi
  have k9 : e9 9 = rA cy 3 6 a 10 := by rw [he9, up_ne (by omega)]; exact k9
  have k9r : ∀ i, i < 6 → isD cy (e9 (10 + i)) 4 (z2 i) := fun i hi => by rw [he9, up_ne (by omega)]; exact k9r i hi
  have k16 : isI cy (e9 16) 12 (fun t => nI ((fun _ => 0) t)) := by rw [he9, up_ne (by omega)]; exact k16
  have h0 : e9 0 = .inr (0, [.ref (a 1), .ref (a 2), .ref (a 9), .ref (a 16), .int (nI 1), .int (nI 0), .null, .null, .null, .null, .null]) := by rw [he9]; exact up_eq
  clear he9
  generalize e9 = e at h0 k1 k2 k2r k9 k9r k16 ⊢
  refine g_aload_n C dX0_init_53 rfl 0 rfl ?_
  refine g_bipush (v := nI 12) C dX0_init_54 (by decide) ?_
  refine g_bipush (v := nI 6) C dX0_init_56 (by decide) ?_
  refine g_mna (t := 3) (t2 := 0) (n := 12) (k := 6) (ty := .double) (x := (6, .inr (.inr (.inr (.inl fun _ => FP.dconst0))))) C (hts (.classLink RX0 13 "[[D") (by decide +kernel)) hO1 (hts (.arrayClass .double) (by decide +kernel)) rfl (hK.2 0 _ rfl).2 (fun _ => my_inner0 _ 6) (by decide) (by decide) (by decide +kernel) rfl rfl hA (Nat.le_of_ble_eq_true rfl) (Nat.le_of_ble_eq_true rfl) dX0_init_58 (fun q hq C => ?_)
  obtain ⟨e9, he9⟩ : ∃ e9, e9 = ext e 17 (fun j => if j = 0 then rA cy 3 12 (extA a 17 q) (17 + 1) else .inl (cy 0, (6, .inr (.inr (.inr (.inl fun _ => FP.dconst0)))))) := ⟨_, rfl⟩
  rw [← he9]
  have k1 : isD cy (e9 1) 6 z1 := by rw [he9, ext_lt (by omega)]; exact k1
  have k2 : e9 2 = rA cy 3 6 (extA a 17 q) 3 := by rw [he9, ext_lt (by omega), rA_ext (by omega)]; exact k2
  have k2r : ∀ i, i < 6 → isD cy (e9 (3 + i)) 6 (z2 i) := fun i hi => by rw [he9, ext_lt (by omega)]; exact k2r i hi
  have k9 : e9 9 = rA cy 3 6 (extA a 17 q) 10 := by rw [he9, ext_lt (by omega), rA_ext (by omega)]; exact k9
  have k9r : ∀ i, i < 6 → isD cy (e9 (10 + i)) 4 (z2 i) := fun i hi => by rw [he9, ext_lt (by omega)]; exact k9r i hi
  have k16 : isI cy (e9 16) 12 (fun t => nI ((fun _ => 0) t)) := by rw [he9, ext_lt (by omega)]; exact k16
  have h0 := (show e9 0 = e 0 by rw [he9, ext_lt (by omega)]).trans h0
  have hsl : ∀ k, 1 ≤ k → k < 30 → s.heap.size ≤ extA a 17 q k := fun k h1 h2 => by
    by_cases hk : k < 17
    · rw [extA_lt hk]; exact hsl k h1 hk
    · obtain ⟨j, rfl⟩ : ∃ j, k = 17 + j := ⟨k - 17, by omega⟩
      rw [extA_ge]; omega
  have hz : extA a 17 q 0 = o := by rw [extA_lt (by omega)]; exact hz
  have hqa : q = extA a 17 q 17 := (extA_ge (k := 0)).symm
  have k17 : e9 17 = rA cy 3 12 (extA a 17 q) 18 := by rw [he9]; exact ext_ge (k := 0)
  have k17r : ∀ i, i < 12 → isD cy (e9 (18 + i)) 6 (z2 i) := fun i hi => by rw [he9, show 18 + i = 17 + (1 + i) by omega]; exact ⟨_, ext_ge.trans (if_neg (by omega)), fun _ _ => rfl⟩
  clear he9
  have hold : ∀ k, k < 17 → a k = extA a 17 q k := fun k hk => (extA_lt hk).symm
  try simp only [hold 1 (by omega)] at h0
  rw [hold 2 (by omega)] at h0
  rw [hold 9 (by omega)] at h0
  rw [hold 16 (by omega)] at h0
  clear hold
  generalize extA a 17 q = a at h0 hsl hz hqa C k1 k2 k2r k9 k9r k16 k17 k17r ⊢
  generalize e9 = e at h0 k1 k2 k2r k9 k9r k16 k17 k17r ⊢
  rw [hqa]
  refine g_putF (fs2 := [.ref (a 1), .ref (a 2), .ref (a 9), .ref (a 16), .int (nI 1), .int (nI 0), .ref (a 17), .null, .null, .null, .null]) C 6 tyX0 tyX0_ok nmX0 hin inl_pos0 (by decide) h0 (by decide) (hts (.fieldLink RX0 32 "PathOdds" "forwardOdds" "[[D") (by decide +kernel)) rfl hin2 rfl (ty := .array (.array .double)) (by decide +kernel) rfl rfl (Nat.le_of_ble_eq_true rfl) rfl hz.symm dX0_init_62 ?_
  obtain ⟨e9, he9⟩ : ∃ e9, e9 = va_up e 0 (.inr (0, [.ref (a 1), .ref (a 2), .ref (a 9), .ref (a 16), .int (nI 1), .int (nI 0), .ref (a 17), .null, .null, .null, .null]) : va_E) := ⟨_, rfl⟩
  rw [← he9]
  have k1 : isD cy (e9 1) 6 z1 := by rw [he9, up_ne (by omega)]; exact k1
  have k2 : e9 2 = rA cy 3 6 a 3 := by rw [he9, up_ne (by omega)]; exact k2
  have k2r : ∀ i, i < 6 → isD cy (e9 (3 + i)) 6 (z2 i) := fun i hi => by rw [he9, up_ne (by omega)]; exact k2r i hi
  have k9 : e9 9 = rA cy 3 6 a 10 := by rw [he9, up_ne (by omega)]; exact k9
  have k9r : ∀ i, i < 6 → isD cy (e9 (10 + i)) 4 (z2 i) := fun i hi => by rw [he9, up_ne (by omega)]; exact k9r i hi
  have k16 : isI cy (e9 16) 12 (fun t => nI ((fun _ => 0) t)) := by rw [he9, up_ne (by omega)]; exact k16
  have k17 : e9 17 = rA cy 3 12 a 18 := by rw [he9, up_ne (by omega)]; exact k17
  have k17r : ∀ i, i < 12 → isD cy (e9 (18 + i)) 6 (z2 i) := fun i hi => by rw [he9, up_ne (by omega)]; exact k17r i hi
  have h0 : e9 0 = .inr (0, [.ref (a 1), .ref (a 2), .ref (a 9), .ref (a 16), .int (nI 1), .int (nI 0), .ref (a 17), .null, .null, .null, .null]) := by rw [he9]; exact up_eq
  clear he9
  generalize e9 = e at h0 k1 k2 k2r k9 k9r k16 k17 k17r ⊢
  refine g_aload_n C dX0_init_65 rfl 0 rfl ?_
  refine g_bipush (v := nI 12) C dX0_init_66 (by decide) ?_
  refine g_bipush (v := nI 6) C dX0_init_68 (by decide) ?_
  refine g_mna (t := 3) (t2 := 0) (n := 12) (k := 6) (ty := .double) (x := (6, .inr (.inr (.inr (.inl fun _ => FP.dconst0))))) C (hts (.classLink RX0 13 "[[D") (by decide +kernel)) hO1 (hts (.arrayClass .double) (by decide +kernel)) rfl (hK.2 0 _ rfl).2 (fun _ => my_inner0 _ 6) (by decide) (by decide) (by decide +kernel) rfl rfl hA (Nat.le_of_ble_eq_true rfl) (Nat.le_of_ble_eq_true rfl) dX0_init_70 (fun q hq C => ?_)
  obtain ⟨e9, he9⟩ : ∃ e9, e9 = ext e 30 (fun j => if j = 0 then rA cy 3 12 (extA a 30 q) (30 + 1) else .inl (cy 0, (6, .inr (.inr (.inr (.inl fun _ => FP.dconst0)))))) := ⟨_, rfl⟩
  rw [← he9]
  have k1 : isD cy (e9 1) 6 z1 := by rw [he9, ext_lt (by omega)]; exact k1
  have k2 : e9 2 = rA cy 3 6 (extA a 30 q) 3 := by rw [he9, ext_lt (by omega), rA_ext (by omega)]; exact k2
  have k2r : ∀ i, i < 6 → isD cy (e9 (3 + i)) 6 (z2 i) := fun i hi => by rw [he9, ext_lt (by omega)]; exact k2r i hi
  have k9 : e9 9 = rA cy 3 6 (extA a 30 q) 10 := by rw [he9, ext_lt (by omega), rA_ext (by omega)]; exact k9
  have k9r : ∀ i, i < 6 → isD cy (e9 (10 + i)) 4 (z2 i) := fun i hi => by rw [he9, ext_lt (by omega)]; exact k9r i hi
  have k16 : isI cy (e9 16) 12 (fun t => nI ((fun _ => 0) t)) := by rw [he9, ext_lt (by omega)]; exact k16
  have k17 : e9 17 = rA cy 3 12 (extA a 30 q) 18 := by rw [he9, ext_lt (by omega), rA_ext (by omega)]; exact k17
  have k17r : ∀ i, i < 12 → isD cy (e9 (18 + i)) 6 (z2 i) := fun i hi => by rw [he9, ext_lt (by omega)]; exact k17r i hi
  have h0 := (show e9 0 = e 0 by rw [he9, ext_lt (by omega)]).trans h0
  have hsl : ∀ k, 1 ≤ k → k < 43 → s.heap.size ≤ extA a 30 q k := fun k h1 h2 => by
    by_cases hk : k < 30
    · rw [extA_lt hk]; exact hsl k h1 hk
    · obtain ⟨j, rfl⟩ : ∃ j, k = 30 + j := ⟨k - 30, by omega⟩
      rw [extA_ge]; omega
  have hz : extA a 30 q 0 = o := by rw [extA_lt (by omega)]; exact hz
  have hqa : q = extA a 30 q 30 := (extA_ge (k := 0)).symm
  have k30 : e9 30 = rA cy 3 12 (extA a 30 q) 31 := by rw [he9]; exact ext_ge (k := 0)
  have k30r : ∀ i, i < 12 → isD cy (e9 (31 + i)) 6 (z2 i) := fun i hi => by rw [he9, show 31 + i = 30 + (1 + i) by omega]; exact ⟨_, ext_ge.trans (if_neg (by omega)), fun _ _ => rfl⟩
  clear he9
  have hold : ∀ k, k < 30 → a k = extA a 30 q k := fun k hk => (extA_lt hk).symm
  try simp only [hold 1 (by omega)] at h0
  rw [hold 2 (by omega)] at h0
  rw [hold 9 (by omega)] at h0
  rw [hold 16 (by omega)] at h0
  rw [hold 17 (by omega)] at h0
  clear hold
  generalize extA a 30 q = a at h0 hsl hz hqa C k1 k2 k2r k9 k9r k16 k17 k17r k30 k30r ⊢
  generalize e9 = e at h0 k1 k2 k2r k9 k9r k16 k17 k17r k30 k30r ⊢
  rw [hqa]
  refine g_putF (fs2 := [.ref (a 1), .ref (a 2), .ref (a 9), .ref (a 16), .int (nI 1), .int (nI 0), .ref (a 17), .ref (a 30), .null, .null, .null]) C 7 tyX0 tyX0_ok nmX0 hin inl_pos0 (by decide) h0 (by decide) (hts (.fieldLink RX0 35 "PathOdds" "backwardOdds" "[[D") (by decide +kernel)) rfl hin2 rfl (ty := .array (.array .double)) (by decide +kernel) rfl rfl (Nat.le_of_ble_eq_true rfl) rfl hz.symm dX0_init_74 ?_
  obtain ⟨e9, he9⟩ : ∃ e9, e9 = va_up e 0 (.inr (0, [.ref (a 1), .ref (a 2), .ref (a 9), .ref (a 16), .int (nI 1), .int (nI 0), .ref (a 17), .ref (a 30), .null, .null, .null]) : va_E) := ⟨_, rfl⟩
  rw [← he9]
  have k1 : isD cy (e9 1) 6 z1 := by rw [he9, up_ne (by omega)]; exact k1
  have k2 : e9 2 = rA cy 3 6 a 3 := by rw [he9, up_ne (by omega)]; exact k2
  have k2r : ∀ i, i < 6 → isD cy (e9 (3 + i)) 6 (z2 i) := fun i hi => by rw [he9, up_ne (by omega)]; exact k2r i hi
  have k9 : e9 9 = rA cy 3 6 a 10 := by rw [he9, up_ne (by omega)]; exact k9
  have k9r : ∀ i, i < 6 → isD cy (e9 (10 + i)) 4 (z2 i) := fun i hi => by rw [he9, up_ne (by omega)]; exact k9r i hi
  have k16 : isI cy (e9 16) 12 (fun t => nI ((fun _ => 0) t)) := by rw [he9, up_ne (by omega)]; exact k16
  have k17 : e9 17 = rA cy 3 12 a 18 := by rw [he9, up_ne (by omega)]; exact k17
  have k17r : ∀ i, i < 12 → isD cy (e9 (18 + i)) 6 (z2 i) := fun i hi => by rw [he9, up_ne (by omega)]; exact k17r i hi
  have k30 : e9 30 = rA cy 3 12 a 31 := by rw [he9, up_ne (by omega)]; exact k30
  have k30r : ∀ i, i < 12 → isD cy (e9 (31 + i)) 6 (z2 i) := fun i hi => by rw [he9, up_ne (by omega)]; exact k30r i hi
  have h0 : e9 0 = .inr (0, [.ref (a 1), .ref (a 2), .ref (a 9), .ref (a 16), .int (nI 1), .int (nI 0), .ref (a 17), .ref (a 30), .null, .null, .null]) := by rw [he9]; exact up_eq
  clear he9
  generalize e9 = e at h0 k1 k2 k2r k9 k9r k16 k17 k17r k30 k30r ⊢
  refine g_aload_n C dX0_init_77 rfl 0 rfl ?_
  refine g_bipush (v := nI 12) C dX0_init_78 (by decide) ?_
  refine g_bipush (v := nI 6) C dX0_init_80 (by decide) ?_
  refine g_mna (t := 3) (t2 := 0) (n := 12) (k := 6) (ty := .double) (x := (6, .inr (.inr (.inr (.inl fun _ => FP.dconst0))))) C (hts (.classLink RX0 13 "[[D") (by decide +kernel)) hO1 (hts (.arrayClass .double) (by decide +kernel)) rfl (hK.2 0 _ rfl).2 (fun _ => my_inner0 _ 6) (by decide) (by decide) (by decide +kernel) rfl rfl hA (Nat.le_of_ble_eq_true rfl) (Nat.le_of_ble_eq_true rfl) dX0_init_82 (fun q hq C => ?_)
  obtain ⟨e9, he9⟩ : ∃ e9, e9 = ext e 43 (fun j => if j = 0 then rA cy 3 12 (extA a 43 q) (43 + 1) else .inl (cy 0, (6, .inr (.inr (.inr (.inl fun _ => FP.dconst0)))))) := ⟨_, rfl⟩
  rw [← he9]
  have k1 : isD cy (e9 1) 6 z1 := by rw [he9, ext_lt (by omega)]; exact k1
  have k2 : e9 2 = rA cy 3 6 (extA a 43 q) 3 := by rw [he9, ext_lt (by omega), rA_ext (by omega)]; exact k2
  have k2r : ∀ i, i < 6 → isD cy (e9 (3 + i)) 6 (z2 i) := fun i hi => by rw [he9, ext_lt (by omega)]; exact k2r i hi
  have k9 : e9 9 = rA cy 3 6 (extA a 43 q) 10 := by rw [he9, ext_lt (by omega), rA_ext (by omega)]; exact k9
  have k9r : ∀ i, i < 6 → isD cy (e9 (10 + i)) 4 (z2 i) := fun i hi => by rw [he9, ext_lt (by omega)]; exact k9r i hi
  have k16 : isI cy (e9 16) 12 (fun t => nI ((fun _ => 0) t)) := by rw [he9, ext_lt (by omega)]; exact k16
  have k17 : e9 17 = rA cy 3 12 (extA a 43 q) 18 := by rw [he9, ext_lt (by omega), rA_ext (by omega)]; exact k17
  have k17r : ∀ i, i < 12 → isD cy (e9 (18 + i)) 6 (z2 i) := fun i hi => by rw [he9, ext_lt (by omega)]; exact k17r i hi
  have k30 : e9 30 = rA cy 3 12 (extA a 43 q) 31 := by rw [he9, ext_lt (by omega), rA_ext (by omega)]; exact k30
  have k30r : ∀ i, i < 12 → isD cy (e9 (31 + i)) 6 (z2 i) := fun i hi => by rw [he9, ext_lt (by omega)]; exact k30r i hi
  have h0 := (show e9 0 = e 0 by rw [he9, ext_lt (by omega)]).trans h0
  have hsl : ∀ k, 1 ≤ k → k < 56 → s.heap.size ≤ extA a 43 q k := fun k h1 h2 => by
    by_cases hk : k < 43
    · rw [extA_lt hk]; exact hsl k h1 hk
    · obtain ⟨j, rfl⟩ : ∃ j, k = 43 + j := ⟨k - 43, by omega⟩
      rw [extA_ge]; omega
  have hz : extA a 43 q 0 = o := by rw [extA_lt (by omega)]; exact hz
  have hqa : q = extA a 43 q 43 := (extA_ge (k := 0)).symm
  have k43 : e9 43 = rA cy 3 12 (extA a 43 q) 44 := by rw [he9]; exact ext_ge (k := 0)
  have k43r : ∀ i, i < 12 → isD cy (e9 (44 + i)) 6 (z2 i) := fun i hi => by rw [he9, show 44 + i = 43 + (1 + i) by omega]; exact ⟨_, ext_ge.trans (if_neg (by omega)), fun _ _ => rfl⟩
  clear he9
  have hold : ∀ k, k < 43 → a k = extA a 43 q k := fun k hk => (extA_lt hk).symm
  try simp only [hold 1 (by omega)] at h0
  rw [hold 2 (by omega)] at h0
  rw [hold 9 (by omega)] at h0
  rw [hold 16 (by omega)] at h0
  rw [hold 17 (by omega)] at h0
  rw [hold 30 (by omega)] at h0
  clear hold
  generalize extA a 43 q = a at h0 hsl hz hqa C k1 k2 k2r k9 k9r k16 k17 k17r k30 k30r k43 k43r ⊢
  generalize e9 = e at h0 k1 k2 k2r k9 k9r k16 k17 k17r k30 k30r k43 k43r ⊢
  rw [hqa]
  refine g_putF (fs2 := [.ref (a 1), .ref (a 2), .ref (a 9), .ref (a 16), .int (nI 1), .int (nI 0), .ref (a 17), .ref (a 30), .ref (a 43), .null, .null]) C 8 tyX0 tyX0_ok nmX0 hin inl_pos0 (by decide) h0 (by decide) (hts (.fieldLink RX0 38 "PathOdds" "bestOdds" "[[D") (by decide +kernel)) rfl hin2 rfl (ty := .array (.array .double)) (by decide +kernel) rfl rfl (Nat.le_of_ble_eq_true rfl) rfl hz.symm dX0_init_86 ?_
  obtain ⟨e9, he9⟩ : ∃ e9, e9 = va_up e 0 (.inr (0, [.ref (a 1), .ref (a 2), .ref (a 9), .ref (a 16), .int (nI 1), .int (nI 0), .ref (a 17), .ref (a 30), .ref (a 43), .null, .null]) : va_E) := ⟨_, rfl⟩
  rw [← he9]
  have k1 : isD cy (e9 1) 6 z1 := by rw [he9, up_ne (by omega)]; exact k1
  have k2 : e9 2 = rA cy 3 6 a 3 := by rw [he9, up_ne (by omega)]; exact k2
  have k2r : ∀ i, i < 6 → isD cy (e9 (3 + i)) 6 (z2 i) := fun i hi => by rw [he9, up_ne (by omega)]; exact k2r i hi
  have k9 : e9 9 = rA cy 3 6 a 10 := by rw [he9, up_ne (by omega)]; exact k9
  have k9r : ∀ i, i < 6 → isD cy (e9 (10 + i)) 4 (z2 i) := fun i hi => by rw [he9, up_ne (by omega)]; exact k9r i hi
  have k16 : isI cy (e9 16) 12 (fun t => nI ((fun _ => 0) t)) := by rw [he9, up_ne (by omega)]; exact k16
  have k17 : e9 17 = rA cy 3 12 a 18 := by rw [he9, up_ne (by omega)]; exact k17
  have k17r : ∀ i, i < 12 → isD cy (e9 (18 + i)) 6 (z2 i) := fun i hi => by rw [he9, up_ne (by omega)]; exact k17r i hi
  have k30 : e9 30 = rA cy 3 12 a 31 := by rw [he9, up_ne (by omega)]; exact k30
  have k30r : ∀ i, i < 12 → isD cy (e9 (31 + i)) 6 (z2 i) := fun i hi => by rw [he9, up_ne (by omega)]; exact k30r i hi
  have k43 : e9 43 = rA cy 3 12 a 44 := by rw [he9, up_ne (by omega)]; exact k43
  have k43r : ∀ i, i < 12 → isD cy (e9 (44 + i)) 6 (z2 i) := fun i hi => by rw [he9, up_ne (by omega)]; exact k43r i hi
  have h0 : e9 0 = .inr (0, [.ref (a 1), .ref (a 2), .ref (a 9), .ref (a 16), .int (nI 1), .int (nI 0), .ref (a 17), .ref (a 30), .ref (a 43), .null, .null]) := by rw [he9]; exact up_eq
  clear he9
  generalize e9 = e at h0 k1 k2 k2r k9 k9r k16 k17 k17r k30 k30r k43 k43r ⊢
  refine g_aload_n C dX0_init_89 rfl 0 rfl ?_
  refine g_bipush (v := nI 12) C dX0_init_90 (by decide) ?_
  refine g_bipush (v := nI 6) C dX0_init_92 (by decide) ?_
  refine g_mna (t := 4) (t2 := 1) (n := 12) (k := 6) (ty := .int) (x := (6, .inl fun _ => nI 0)) C (hts (.classLink RX0 41 "[[I") (by decide +kernel)) hO2 (hts (.arrayClass .int) (by decide +kernel)) rfl (hK.2 1 _ rfl).2 (fun _ => my_inner1 _ 6) (by decide) (by decide) (by decide +kernel) rfl rfl hA (Nat.le_of_ble_eq_true rfl) (Nat.le_of_ble_eq_true rfl) dX0_init_94 (fun q hq C => ?_)
  obtain ⟨e9, he9⟩ : ∃ e9, e9 = ext e 56 (fun j => if j = 0 then rA cy 4 12 (extA a 56 q) (56 + 1) else .inl (cy 1, (6, .inl fun _ => nI 0))) := ⟨_, rfl⟩
  rw [← he9]
  have k1 : isD cy (e9 1) 6 z1 := by rw [he9, ext_lt (by omega)]; exact k1
  have k2 : e9 2 = rA cy 3 6 (extA a 56 q) 3 := by rw [he9, ext_lt (by omega), rA_ext (by omega)]; exact k2
  have k2r : ∀ i, i < 6 → isD cy (e9 (3 + i)) 6 (z2 i) := fun i hi => by rw [he9, ext_lt (by omega)]; exact k2r i hi
  have k9 : e9 9 = rA cy 3 6 (extA a 56 q) 10 := by rw [he9, ext_lt (by omega), rA_ext (by omega)]; exact k9
  have k9r : ∀ i, i < 6 → isD cy (e9 (10 + i)) 4 (z2 i) := fun i hi => by rw [he9, ext_lt (by omega)]; exact k9r i hi
  have k16 : isI cy (e9 16) 12 (fun t => nI ((fun _ => 0) t)) := by rw [he9, ext_lt (by omega)]; exact k16
  have k17 : e9 17 = rA cy 3 12 (extA a 56 q) 18 := by rw [he9, ext_lt (by omega), rA_ext (by omega)]; exact k17
  have k17r : ∀ i, i < 12 → isD cy (e9 (18 + i)) 6 (z2 i) := fun i hi => by rw [he9, ext_lt (by omega)]; exact k17r i hi
  have k30 : e9 30 = rA cy 3 12 (extA a 56 q) 31 := by rw [he9, ext_lt (by omega), rA_ext (by omega)]; exact k30
  have k30r : ∀ i, i < 12 → isD cy (e9 (31 + i)) 6 (z2 i) := fun i hi => by rw [he9, ext_lt (by omega)]; exact k30r i hi
  have k43 : e9 43 = rA cy 3 12 (extA a 56 q) 44 := by rw [he9, ext_lt (by omega), rA_ext (by omega)]; exact k43
  have k43r : ∀ i, i < 12 → isD cy (e9 (44 + i)) 6 (z2 i) := fun i hi => by rw [he9, ext_lt (by omega)]; exact k43r i hi
  have h0 := (show e9 0 = e 0 by rw [he9, ext_lt (by omega)]).trans h0
  have hsl : ∀ k, 1 ≤ k → k < 69 → s.heap.size ≤ extA a 56 q k := fun k h1 h2 => by
    by_cases hk : k < 56
    · rw [extA_lt hk]; exact hsl k h1 hk
    · obtain ⟨j, rfl⟩ : ∃ j, k = 56 + j := ⟨k - 56, by omega⟩
      rw [extA_ge]; omega
  have hz : extA a 56 q 0 = o := by rw [extA_lt (by omega)]; exact hz
  have hqa : q = extA a 56 q 56 := (extA_ge (k := 0)).symm
  have k56 : e9 56 = rA cy 4 12 (extA a 56 q) 57 := by rw [he9]; exact ext_ge (k := 0)
  have k56r : ∀ i, i < 12 → isI cy (e9 (57 + i)) 6 (fun _ => 0) := fun i hi => by rw [he9, show 57 + i = 56 + (1 + i) by omega]; exact ⟨_, ext_ge.trans (if_neg (by omega)), fun _ _ => rfl⟩
  clear he9
  have hold : ∀ k, k < 56 → a k = extA a 56 q k := fun k hk => (extA_lt hk).symm
  try simp only [hold 1 (by omega)] at h0
  rw [hold 2 (by omega)] at h0
  rw [hold 9 (by omega)] at h0
  rw [hold 16 (by omega)] at h0
  rw [hold 17 (by omega)] at h0
  rw [hold 30 (by omega)] at h0
  rw [hold 43 (by omega)] at h0
  clear hold
  generalize extA a 56 q = a at h0 hsl hz hqa C k1 k2 k2r k9 k9r k16 k17 k17r k30 k30r k43 k43r k56 k56r ⊢
  generalize e9 = e at h0 k1 k2 k2r k9 k9r k16 k17 k17r k30 k30r k43 k43r k56 k56r ⊢
  rw [hqa]
  refine g_putF (fs2 := [.ref (a 1), .ref (a 2), .ref (a 9), .ref (a 16), .int (nI 1), .int (nI 0), .ref (a 17), .ref (a 30), .ref (a 43), .ref (a 56), .null]) C 9 tyX0 tyX0_ok nmX0 hin inl_pos0 (by decide) h0 (by decide) (hts (.fieldLink RX0 43 "PathOdds" "bestFrom" "[[I") (by decide +kernel)) rfl hin2 rfl (ty := .array (.array .int)) (by decide +kernel) rfl rfl (Nat.le_of_ble_eq_true rfl) rfl hz.symm dX0_init_98 ?_
  obtain ⟨e9, he9⟩ : ∃ e9, e9 = va_up e 0 (.inr (0, [.ref (a 1), .ref (a 2), .ref (a 9), .ref (a 16), .int (nI 1), .int (nI 0), .ref (a 17), .ref (a 30), .ref (a 43), .ref (a 56), .null]) : va_E) := ⟨_, rfl⟩
  rw [← he9]
  have k1 : isD cy (e9 1) 6 z1 := by rw [he9, up_ne (by omega)]; exact k1
  have k2 : e9 2 = rA cy 3 6 a 3 := by rw [he9, up_ne (by omega)]; exact k2
  have k2r : ∀ i, i < 6 → isD cy (e9 (3 + i)) 6 (z2 i) := fun i hi => by rw [he9, up_ne (by omega)]; exact k2r i hi
  have k9 : e9 9 = rA cy 3 6 a 10 := by rw [he9, up_ne (by omega)]; exact k9
  have k9r : ∀ i, i < 6 → isD cy (e9 (10 + i)) 4 (z2 i) := fun i hi => by rw [he9, up_ne (by omega)]; exact k9r i hi
  have k16 : isI cy (e9 16) 12 (fun t => nI ((fun _ => 0) t)) := by rw [he9, up_ne (by omega)]; exact k16
  have k17 : e9 17 = rA cy 3 12 a 18 := by rw [he9, up_ne (by omega)]; exact k17
  have k17r : ∀ i, i < 12 → isD cy (e9 (18 + i)) 6 (z2 i) := fun i hi => by rw [he9, up_ne (by omega)]; exact k17r i hi
  have k30 : e9 30 = rA cy 3 12 a 31 := by rw [he9, up_ne (by omega)]; exact k30
  have k30r : ∀ i, i < 12 → isD cy (e9 (31 + i)) 6 (z2 i) := fun i hi => by rw [he9, up_ne (by omega)]; exact k30r i hi
  have k43 : e9 43 = rA cy 3 12 a 44 := by rw [he9, up_ne (by omega)]; exact k43
  have k43r : ∀ i, i < 12 → isD cy (e9 (44 + i)) 6 (z2 i) := fun i hi => by rw [he9, up_ne (by omega)]; exact k43r i hi
  have k56 : e9 56 = rA cy 4 12 a 57 := by rw [he9, up_ne (by omega)]; exact k56
  have k56r : ∀ i, i < 12 → isI cy (e9 (57 + i)) 6 (fun _ => 0) := fun i hi => by rw [he9, up_ne (by omega)]; exact k56r i hi
  have h0 : e9 0 = .inr (0, [.ref (a 1), .ref (a 2), .ref (a 9), .ref (a 16), .int (nI 1), .int (nI 0), .ref (a 17), .ref (a 30), .ref (a 43), .ref (a 56), .null]) := by rw [he9]; exact up_eq
  clear he9
  generalize e9 = e at h0 k1 k2 k2r k9 k9r k16 k17 k17r k30 k30r k43 k43r k56 k56r ⊢
  refine g_aload_n C dX0_init_101 rfl 0 rfl ?_
  refine g_bipush (v := nI 12) C dX0_init_102 (by decide) ?_
  refine g_bipush (v := nI 6) C dX0_init_104 (by decide) ?_
  refine g_mna (t := 5) (t2 := 2) (n := 12) (k := 6) (ty := .long) (x := (6, .inr (.inl fun _ => 0))) C (hts (.classLink RX0 46 "[[J") (by decide +kernel)) hO3 (hts (.arrayClass .long) (by decide +kernel)) rfl (hK.2 2 _ rfl).2 (fun _ => my_inner2 _ 6) (by decide) (by decide) (by decide +kernel) rfl rfl hA (Nat.le_of_ble_eq_true rfl) (Nat.le_of_ble_eq_true rfl) dX0_init_106 (fun q hq C => ?_)
  obtain ⟨e9, he9⟩ : ∃ e9, e9 = ext e 69 (fun j => if j = 0 then rA cy 5 12 (extA a 69 q) (69 + 1) else .inl (cy 2, (6, .inr (.inl fun _ => 0)))) := ⟨_, rfl⟩
  rw [← he9]
  have k1 : isD cy (e9 1) 6 z1 := by rw [he9, ext_lt (by omega)]; exact k1
  have k2 : e9 2 = rA cy 3 6 (extA a 69 q) 3 := by rw [he9, ext_lt (by omega), rA_ext (by omega)]; exact k2
  have k2r : ∀ i, i < 6 → isD cy (e9 (3 + i)) 6 (z2 i) := fun i hi => by rw [he9, ext_lt (by omega)]; exact k2r i hi
  have k9 : e9 9 = rA cy 3 6 (extA a 69 q) 10 := by rw [he9, ext_lt (by omega), rA_ext (by omega)]; exact k9
  have k9r : ∀ i, i < 6 → isD cy (e9 (10 + i)) 4 (z2 i) := fun i hi => by rw [he9, ext_lt (by omega)]; exact k9r i hi
  have k16 : isI cy (e9 16) 12 (fun t => nI ((fun _ => 0) t)) := by rw [he9, ext_lt (by omega)]; exact k16
  have k17 : e9 17 = rA cy 3 12 (extA a 69 q) 18 := by rw [he9, ext_lt (by omega), rA_ext (by omega)]; exact k17
  have k17r : ∀ i, i < 12 → isD cy (e9 (18 + i)) 6 (z2 i) := fun i hi => by rw [he9, ext_lt (by omega)]; exact k17r i hi
  have k30 : e9 30 = rA cy 3 12 (extA a 69 q) 31 := by rw [he9, ext_lt (by omega), rA_ext (by omega)]; exact k30
  have k30r : ∀ i, i < 12 → isD cy (e9 (31 + i)) 6 (z2 i) := fun i hi => by rw [he9, ext_lt (by omega)]; exact k30r i hi
  have k43 : e9 43 = rA cy 3 12 (extA a 69 q) 44 := by rw [he9, ext_lt (by omega), rA_ext (by omega)]; exact k43
  have k43r : ∀ i, i < 12 → isD cy (e9 (44 + i)) 6 (z2 i) := fun i hi => by rw [he9, ext_lt (by omega)]; exact k43r i hi
  have k56 : e9 56 = rA cy 4 12 (extA a 69 q) 57 := by rw [he9, ext_lt (by omega), rA_ext (by omega)]; exact k56
  have k56r : ∀ i, i < 12 → isI cy (e9 (57 + i)) 6 (fun _ => 0) := fun i hi => by rw [he9, ext_lt (by omega)]; exact k56r i hi
  have h0 := (show e9 0 = e 0 by rw [he9, ext_lt (by omega)]).trans h0
  have hsl : ∀ k, 1 ≤ k → k < 82 → s.heap.size ≤ extA a 69 q k := fun k h1 h2 => by
    by_cases hk : k < 69
    · rw [extA_lt hk]; exact hsl k h1 hk
    · obtain ⟨j, rfl⟩ : ∃ j, k = 69 + j := ⟨k - 69, by omega⟩
      rw [extA_ge]; omega
  have hz : extA a 69 q 0 = o := by rw [extA_lt (by omega)]; exact hz
  have hqa : q = extA a 69 q 69 := (extA_ge (k := 0)).symm
  have k69 : e9 69 = rA cy 5 12 (extA a 69 q) 70 := by rw [he9]; exact ext_ge (k := 0)
  have k69r : ∀ i, i < 12 → isL cy (e9 (70 + i)) 6 (fun _ => 0) := fun i hi => by rw [he9, show 70 + i = 69 + (1 + i) by omega]; exact ⟨_, ext_ge.trans (if_neg (by omega)), fun _ _ => rfl⟩
  clear he9
  have hold : ∀ k, k < 69 → a k = extA a 69 q k := fun k hk => (extA_lt hk).symm
  try simp only [hold 1 (by omega)] at h0
  rw [hold 2 (by omega)] at h0
  rw [hold 9 (by omega)] at h0
  rw [hold 16 (by omega)] at h0
  rw [hold 17 (by omega)] at h0
  rw [hold 30 (by omega)] at h0
  rw [hold 43 (by omega)] at h0
  rw [hold 56 (by omega)] at h0
  clear hold
  generalize extA a 69 q = a at h0 hsl hz hqa C k1 k2 k2r k9 k9r k16 k17 k17r k30 k30r k43 k43r k56 k56r k69 k69r ⊢
  generalize e9 = e at h0 k1 k2 k2r k9 k9r k16 k17 k17r k30 k30r k43 k43r k56 k56r k69 k69r ⊢
  rw [hqa]
  refine g_putF (fs2 := [.ref (a 1), .ref (a 2), .ref (a 9), .ref (a 16), .int (nI 1), .int (nI 0), .ref (a 17), .ref (a 30), .ref (a 43), .ref (a 56), .ref (a 69)]) C 10 tyX0 tyX0_ok nmX0 hin inl_pos0 (by decide) h0 (by decide) (hts (.fieldLink RX0 48 "PathOdds" "wayCounts" "[[J") (by decide +kernel)) rfl hin2 rfl (ty := .array (.array .long)) (by decide +kernel) rfl rfl (Nat.le_of_ble_eq_true rfl) rfl hz.symm dX0_init_110 ?_
  obtain ⟨e9, he9⟩ : ∃ e9, e9 = va_up e 0 (.inr (0, [.ref (a 1), .ref (a 2), .ref (a 9), .ref (a 16), .int (nI 1), .int (nI 0), .ref (a 17), .ref (a 30), .ref (a 43), .ref (a 56), .ref (a 69)]) : va_E) := ⟨_, rfl⟩
  rw [← he9]
  have k1 : isD cy (e9 1) 6 z1 := by rw [he9, up_ne (by omega)]; exact k1
  have k2 : e9 2 = rA cy 3 6 a 3 := by rw [he9, up_ne (by omega)]; exact k2
  have k2r : ∀ i, i < 6 → isD cy (e9 (3 + i)) 6 (z2 i) := fun i hi => by rw [he9, up_ne (by omega)]; exact k2r i hi
  have k9 : e9 9 = rA cy 3 6 a 10 := by rw [he9, up_ne (by omega)]; exact k9
  have k9r : ∀ i, i < 6 → isD cy (e9 (10 + i)) 4 (z2 i) := fun i hi => by rw [he9, up_ne (by omega)]; exact k9r i hi
  have k16 : isI cy (e9 16) 12 (fun t => nI ((fun _ => 0) t)) := by rw [he9, up_ne (by omega)]; exact k16
  have k17 : e9 17 = rA cy 3 12 a 18 := by rw [he9, up_ne (by omega)]; exact k17
  have k17r : ∀ i, i < 12 → isD cy (e9 (18 + i)) 6 (z2 i) := fun i hi => by rw [he9, up_ne (by omega)]; exact k17r i hi
  have k30 : e9 30 = rA cy 3 12 a 31 := by rw [he9, up_ne (by omega)]; exact k30
  have k30r : ∀ i, i < 12 → isD cy (e9 (31 + i)) 6 (z2 i) := fun i hi => by rw [he9, up_ne (by omega)]; exact k30r i hi
  have k43 : e9 43 = rA cy 3 12 a 44 := by rw [he9, up_ne (by omega)]; exact k43
  have k43r : ∀ i, i < 12 → isD cy (e9 (44 + i)) 6 (z2 i) := fun i hi => by rw [he9, up_ne (by omega)]; exact k43r i hi
  have k56 : e9 56 = rA cy 4 12 a 57 := by rw [he9, up_ne (by omega)]; exact k56
  have k56r : ∀ i, i < 12 → isI cy (e9 (57 + i)) 6 (fun _ => 0) := fun i hi => by rw [he9, up_ne (by omega)]; exact k56r i hi
  have k69 : e9 69 = rA cy 5 12 a 70 := by rw [he9, up_ne (by omega)]; exact k69
  have k69r : ∀ i, i < 12 → isL cy (e9 (70 + i)) 6 (fun _ => 0) := fun i hi => by rw [he9, up_ne (by omega)]; exact k69r i hi
  have h0 : e9 0 = .inr (0, [.ref (a 1), .ref (a 2), .ref (a 9), .ref (a 16), .int (nI 1), .int (nI 0), .ref (a 17), .ref (a 30), .ref (a 43), .ref (a 56), .ref (a 69)]) := by rw [he9]; exact up_eq
  clear he9
  generalize e9 = e at h0 k1 k2 k2r k9 k9r k16 k17 k17r k30 k30r k43 k43r k56 k56r k69 k69r ⊢
  refine g_widen (k := 81) (n := 510) (Nat.le_of_ble_eq_true rfl) (Nat.le_of_ble_eq_true rfl) ?_
  exact fun H locs ls hP hS hl => W.vret hx hb hr (fun t ht hW => ⟨⟨(a, e), rfl, ⟨hz, C.2.2.2.2.2.2.1, hsl, ⟨h0, k1, k2, k9, k16, k17, k30, k43, k56, k69, k2r, k9r, k17r, k30r, k43r, k56r, k69r⟩⟩, by show va_P D clP (wl 82 a e) t.heap; rw [ht]; exact hP⟩, hS.F ht⟩) hS.2.2 dX0_init_113 hlocks

set_option maxHeartbeats 1000000 in
set_option maxRecDepth 100000 in
theorem c_X1_init (l : Launch) (D : va_G) (cy : Nat → ClassId) (o sz : Nat) : Met l yX1_init wsX1_init ({ frames := 1, cells := 8, slots := 102, locals := 12 }) (va_Pc [.ref o] (fun U => U.heap.size = sz ∧ va_P D clP [(o, .inr (1, [.int 0, .int 0, .int 0, .null, .null, .null, .null, .null, .null, .null, .null]))] U.heap ∧ va_K D clP (tys0 cy) U)) (va_Qv (fun (u : (Nat → Nat) × (Nat → va_E)) => u.1 0 = o ∧ wInj 9 u.1 ∧ (∀ k, 1 ≤ k → k < 9 → sz ≤ u.1 k) ∧ RM cy u.1 u.2 1 0 0 z1 z2 z2 (fun _ => 0) z1 z1 (fun _ => 0) (fun _ => 0)) (fun u t => va_P D clP (wl 9 u.1 u.2) t.heap) (fun q => q = o ∨ sz ≤ q)) 8 102 (fun q => q = o ∨ sz ≤ q) := by
  refine Met.ofW (cc := cX1_init) (maxL := 1) (ret := none) (by decide) rfl ?_
  intro p en s m args below meth c s₁ B hml hv
  obtain ⟨rfl, hsz, hP0, hK⟩ := hv
  subst hsz
  have hx := B.exec
  have hb := B.bytes
  have hr := B.returns
  have hts := atoms_spec (ws := wsX1_init) B.pre
  have hown : s.vm.findClass RX1 = some m.cls := findClass_of_methodNamed B.named
  have hlocks := B.notSynchronized
  have hin2 : meth.name = "<init>" := (name_of_methodNamed B.named B.method).1
  have hin : ∀ w ∈ u_ws RX1 TX1 11, w ∈ wsX1_init := by decide +kernel
  have hl := lv_entry ([.ref o]) (n := 1) (Nat.le_of_ble_eq_true rfl)
  rw [lg_entry_eq]
  have hA : ∀ q : Nat, s.heap.size ≤ q → q = o ∨ s.heap.size ≤ q := fun _ h => Or.inr h
  have ho : o < s.heap.size := (hP0 0 _ rfl).lt
  obtain ⟨a, ha0⟩ : ∃ a : Nat → Nat, a = fun _ => o := ⟨_, rfl⟩
  obtain ⟨e, he0⟩ : ∃ e : Nat → va_E, e = fun _ => .inr (1, [.int 0, .int 0, .int 0, .null, .null, .null, .null, .null, .null, .null, .null]) := ⟨_, rfl⟩
  have hP : va_P D clP (wl 1 a e) s.heap := wl_P (fun k hk => by rw [ha0, he0]; exact hP0 0 _ rfl)
  have C : Cx p s m ([.ref o] : List Value).toArray c cX1_init wsX1_init RX1 D clP cy 1 1 a (fun q => q = o ∨ s.heap.size ≤ q) := ⟨hx, hb, hml, hown, hts, hK, fun i j h1 h2 _ => by omega, fun k _ => Or.inl (by rw [ha0])⟩
  have hsl : ∀ k, 1 ≤ k → k < 1 → s.heap.size ≤ a k := fun k h1 h2 => absurd h2 (by omega)
  have hz : a 0 = o := by rw [ha0]
  have h0 : e 0 = .inr (1, [.int 0, .int 0, .int 0, .null, .null, .null, .null, .null, .null, .null, .null]) := by rw [he0]
  suffices G0 : GW p l en ({ frames := 1, cells := 8, slots := 102, locals := 12 }) s m ([.ref o] : List Value).toArray below meth c 0 0 (MQ below (va_Qv (fun (u : (Nat → Nat) × (Nat → va_E)) => u.1 0 = o ∧ wInj 9 u.1 ∧ (∀ k, 1 ≤ k → k < 9 → s.heap.size ≤ u.1 k) ∧ RM cy u.1 u.2 1 0 0 z1 z2 z2 (fun _ => 0) z1 z1 (fun _ => 0) (fun _ => 0)) (fun u t => va_P D clP (wl 9 u.1 u.2) t.heap) (fun q => q = o ∨ s.heap.size ≤ q)) ([.ref o] : List Value).toArray s 8 102 (fun q => q = o ∨ s.heap.size ≤ q)) D clP 1 1 a (fun q => q = o ∨ s.heap.size ≤ q) e 0 [(0, .ref o)] [] from G0 s.heap [] _ hP va_S.rf hl
  clear hP0 hP hl ha0 he0
  refine g_aload_n C dX1_init_0 rfl 0 rfl ?_
  refine g_objInit C (hts (.methodLink RX1 1 objectInit) (by decide +kernel)) (hts (.instanceMethod objectInit) (by decide +kernel)) (hts (.code objectInit ⟨#[0xb1]⟩ 1 none) (by decide +kernel)) dX1_init_1 (Nat.le_of_ble_eq_true rfl) (Nat.le_of_ble_eq_true rfl) ?_
  refine g_aload_n C dX1_init_4 rfl 0 rfl ?_
  refine g_bipush (v := nI 6) C dX1_init_5 (by decide) ?_
  refine g_newarr (atype := .double) (t := 0) (n := 6) (x := (6, .inr (.inr (.inr (.inl fun _ => FP.dconst0))))) C (hts (.arrayClass .double) (by decide +kernel)) rfl (fun _ => rfl) (by decide) (by decide +kernel) hA (Nat.le_of_ble_eq_true rfl) (Nat.le_of_ble_eq_true rfl) dX1_init_7 (fun q hq C => ?_)
  obtain ⟨e9, he9⟩ : ∃ e9, e9 = ext e 1 (fun _ => (.inl (cy 0, (6, .inr (.inr (.inr (.inl fun _ => FP.dconst0))))) : va_E)) := ⟨_, rfl⟩
  rw [← he9]
  have h0 := (show e9 0 = e 0 by rw [he9, ext_lt (by omega)]).trans h0
  have hsl : ∀ k, 1 ≤ k → k < 2 → s.heap.size ≤ extA a 1 q k := fun k h1 h2 => by
    by_cases hk : k < 1
    · rw [extA_lt hk]; exact hsl k h1 hk
    · obtain ⟨j, rfl⟩ : ∃ j, k = 1 + j := ⟨k - 1, by omega⟩
      rw [extA_ge]; omega
  have hz : extA a 1 q 0 = o := by rw [extA_lt (by omega)]; exact hz
  have hqa : q = extA a 1 q 1 := (extA_ge (k := 0)).symm
  have k1 : isD cy (e9 1) 6 z1 := by rw [he9]; exact ⟨_, ext_ge (k := 0), fun _ _ => rfl⟩
  clear he9
  have hold : ∀ k, k < 1 → a k = extA a 1 q k := fun k hk => (extA_lt hk).symm
  try simp only [hold 1 (by omega)] at h0
  clear hold
  generalize extA a 1 q = a at h0 hsl hz hqa C k1 ⊢
  generalize e9 = e at h0 k1 ⊢
  rw [hqa]
  refine g_putF (fs2 := [.int 0, .int 0, .int 0, .ref (a 1), .null, .null, .null, .null, .null, .null, .null]) C 3 tyX1 tyX1_ok nmX1 hin inl_pos1 (by decide) h0 (by decide) (hts (.fieldLink RX1 7 "PathOddsModel" "starts" "[D") (by decide +kernel)) rfl hin2 rfl (ty := .array .double) (by decide +kernel) rfl rfl (Nat.le_of_ble_eq_true rfl) rfl hz.symm dX1_init_9 ?_
  obtain ⟨e9, he9⟩ : ∃ e9, e9 = va_up e 0 (.inr (1, [.int 0, .int 0, .int 0, .ref (a 1), .null, .null, .null, .null, .null, .null, .null]) : va_E) := ⟨_, rfl⟩
  rw [← he9]
  have k1 : isD cy (e9 1) 6 z1 := by rw [he9, up_ne (by omega)]; exact k1
  have h0 : e9 0 = .inr (1, [.int 0, .int 0, .int 0, .ref (a 1), .null, .null, .null, .null, .null, .null, .null]) := by rw [he9]; exact up_eq
  clear he9
  generalize e9 = e at h0 k1 ⊢
  refine g_aload_n C dX1_init_12 rfl 0 rfl ?_
  refine g_bipush (v := nI 36) C dX1_init_13 (by decide) ?_
  refine g_newarr (atype := .double) (t := 0) (n := 36) (x := (36, .inr (.inr (.inr (.inl fun _ => FP.dconst0))))) C (hts (.arrayClass .double) (by decide +kernel)) rfl (fun _ => rfl) (by decide) (by decide +kernel) hA (Nat.le_of_ble_eq_true rfl) (Nat.le_of_ble_eq_true rfl) dX1_init_15 (fun q hq C => ?_)
  obtain ⟨e9, he9⟩ : ∃ e9, e9 = ext e 2 (fun _ => (.inl (cy 0, (36, .inr (.inr (.inr (.inl fun _ => FP.dconst0))))) : va_E)) := ⟨_, rfl⟩
  rw [← he9]
  have k1 : isD cy (e9 1) 6 z1 := by rw [he9, ext_lt (by omega)]; exact k1
  have h0 := (show e9 0 = e 0 by rw [he9, ext_lt (by omega)]).trans h0
  have hsl : ∀ k, 1 ≤ k → k < 3 → s.heap.size ≤ extA a 2 q k := fun k h1 h2 => by
    by_cases hk : k < 2
    · rw [extA_lt hk]; exact hsl k h1 hk
    · obtain ⟨j, rfl⟩ : ∃ j, k = 2 + j := ⟨k - 2, by omega⟩
      rw [extA_ge]; omega
  have hz : extA a 2 q 0 = o := by rw [extA_lt (by omega)]; exact hz
  have hqa : q = extA a 2 q 2 := (extA_ge (k := 0)).symm
  have k2 : isD cy (e9 2) 36 z1 := by rw [he9]; exact ⟨_, ext_ge (k := 0), fun _ _ => rfl⟩
  clear he9
  have hold : ∀ k, k < 2 → a k = extA a 2 q k := fun k hk => (extA_lt hk).symm
  try simp only [hold 1 (by omega)] at h0
  clear hold
  generalize extA a 2 q = a at h0 hsl hz hqa C k1 k2 ⊢
  generalize e9 = e at h0 k1 k2 ⊢
  rw [hqa]
  refine g_putF (fs2 := [.int 0, .int 0, .int 0, .ref (a 1), .ref (a 2), .null, .null, .null, .null, .null, .null]) C 4 tyX1 tyX1_ok nmX1 hin inl_pos1 (by decide) h0 (by decide) (hts (.fieldLink RX1 13 "PathOddsModel" "moves" "[D") (by decide +kernel)) rfl hin2 rfl (ty := .array .double) (by decide +kernel) rfl rfl (Nat.le_of_ble_eq_true rfl) rfl hz.symm dX1_init_17 ?_
  obtain ⟨e9, he9⟩ : ∃ e9, e9 = va_up e 0 (.inr (1, [.int 0, .int 0, .int 0, .ref (a 1), .ref (a 2), .null, .null, .null, .null, .null, .null]) : va_E) := ⟨_, rfl⟩
  rw [← he9]
  have k1 : isD cy (e9 1) 6 z1 := by rw [he9, up_ne (by omega)]; exact k1
  have k2 : isD cy (e9 2) 36 z1 := by rw [he9, up_ne (by omega)]; exact k2
  have h0 : e9 0 = .inr (1, [.int 0, .int 0, .int 0, .ref (a 1), .ref (a 2), .null, .null, .null, .null, .null, .null]) := by rw [he9]; exact up_eq
  clear he9
  generalize e9 = e at h0 k1 k2 ⊢
  refine g_aload_n C dX1_init_20 rfl 0 rfl ?_
  refine g_bipush (v := nI 24) C dX1_init_21 (by decide) ?_
  refine g_newarr (atype := .double) (t := 0) (n := 24) (x := (24, .inr (.inr (.inr (.inl fun _ => FP.dconst0))))) C (hts (.arrayClass .double) (by decide +kernel)) rfl (fun _ => rfl) (by decide) (by decide +kernel) hA (Nat.le_of_ble_eq_true rfl) (Nat.le_of_ble_eq_true rfl) dX1_init_23 (fun q hq C => ?_)
  obtain ⟨e9, he9⟩ : ∃ e9, e9 = ext e 3 (fun _ => (.inl (cy 0, (24, .inr (.inr (.inr (.inl fun _ => FP.dconst0))))) : va_E)) := ⟨_, rfl⟩
  rw [← he9]
  have k1 : isD cy (e9 1) 6 z1 := by rw [he9, ext_lt (by omega)]; exact k1
  have k2 : isD cy (e9 2) 36 z1 := by rw [he9, ext_lt (by omega)]; exact k2
  have h0 := (show e9 0 = e 0 by rw [he9, ext_lt (by omega)]).trans h0
  have hsl : ∀ k, 1 ≤ k → k < 4 → s.heap.size ≤ extA a 3 q k := fun k h1 h2 => by
    by_cases hk : k < 3
    · rw [extA_lt hk]; exact hsl k h1 hk
    · obtain ⟨j, rfl⟩ : ∃ j, k = 3 + j := ⟨k - 3, by omega⟩
      rw [extA_ge]; omega
  have hz : extA a 3 q 0 = o := by rw [extA_lt (by omega)]; exact hz
  have hqa : q = extA a 3 q 3 := (extA_ge (k := 0)).symm
  have k3 : isD cy (e9 3) 24 z1 := by rw [he9]; exact ⟨_, ext_ge (k := 0), fun _ _ => rfl⟩
  clear he9
  have hold : ∀ k, k < 3 → a k = extA a 3 q k := fun k hk => (extA_lt hk).symm
  try simp only [hold 1 (by omega)] at h0
  rw [hold 2 (by omega)] at h0
  clear hold
  generalize extA a 3 q = a at h0 hsl hz hqa C k1 k2 k3 ⊢
  generalize e9 = e at h0 k1 k2 k3 ⊢
  rw [hqa]
  refine g_putF (fs2 := [.int 0, .int 0, .int 0, .ref (a 1), .ref (a 2), .ref (a 3), .null, .null, .null, .null, .null]) C 5 tyX1 tyX1_ok nmX1 hin inl_pos1 (by decide) h0 (by decide) (hts (.fieldLink RX1 16 "PathOddsModel" "shows" "[D") (by decide +kernel)) rfl hin2 rfl (ty := .array .double) (by decide +kernel) rfl rfl (Nat.le_of_ble_eq_true rfl) rfl hz.symm dX1_init_25 ?_
  obtain ⟨e9, he9⟩ : ∃ e9, e9 = va_up e 0 (.inr (1, [.int 0, .int 0, .int 0, .ref (a 1), .ref (a 2), .ref (a 3), .null, .null, .null, .null, .null]) : va_E) := ⟨_, rfl⟩
  rw [← he9]
  have k1 : isD cy (e9 1) 6 z1 := by rw [he9, up_ne (by omega)]; exact k1
  have k2 : isD cy (e9 2) 36 z1 := by rw [he9, up_ne (by omega)]; exact k2
  have k3 : isD cy (e9 3) 24 z1 := by rw [he9, up_ne (by omega)]; exact k3
  have h0 : e9 0 = .inr (1, [.int 0, .int 0, .int 0, .ref (a 1), .ref (a 2), .ref (a 3), .null, .null, .null, .null, .null]) := by rw [he9]; exact up_eq
  clear he9
  generalize e9 = e at h0 k1 k2 k3 ⊢
  refine g_aload_n C dX1_init_28 rfl 0 rfl ?_
  refine g_bipush (v := nI 12) C dX1_init_29 (by decide) ?_
  refine g_newarr (atype := .int) (t := 1) (n := 12) (x := (12, .inl fun _ => nI 0)) C (hts (.arrayClass .int) (by decide +kernel)) rfl (fun _ => rfl) (by decide) (by decide +kernel) hA (Nat.le_of_ble_eq_true rfl) (Nat.le_of_ble_eq_true rfl) dX1_init_31 (fun q hq C => ?_)
  obtain ⟨e9, he9⟩ : ∃ e9, e9 = ext e 4 (fun _ => (.inl (cy 1, (12, .inl fun _ => nI 0)) : va_E)) := ⟨_, rfl⟩
  rw [← he9]
  have k1 : isD cy (e9 1) 6 z1 := by rw [he9, ext_lt (by omega)]; exact k1
  have k2 : isD cy (e9 2) 36 z1 := by rw [he9, ext_lt (by omega)]; exact k2
  have k3 : isD cy (e9 3) 24 z1 := by rw [he9, ext_lt (by omega)]; exact k3
  have h0 := (show e9 0 = e 0 by rw [he9, ext_lt (by omega)]).trans h0
  have hsl : ∀ k, 1 ≤ k → k < 5 → s.heap.size ≤ extA a 4 q k := fun k h1 h2 => by
    by_cases hk : k < 4
    · rw [extA_lt hk]; exact hsl k h1 hk
    · obtain ⟨j, rfl⟩ : ∃ j, k = 4 + j := ⟨k - 4, by omega⟩
      rw [extA_ge]; omega
  have hz : extA a 4 q 0 = o := by rw [extA_lt (by omega)]; exact hz
  have hqa : q = extA a 4 q 4 := (extA_ge (k := 0)).symm
  have k4 : isI cy (e9 4) 12 (fun t => nI ((fun _ => 0) t)) := by rw [he9]; exact ⟨_, ext_ge (k := 0), fun _ _ => rfl⟩
  clear he9
  have hold : ∀ k, k < 4 → a k = extA a 4 q k := fun k hk => (extA_lt hk).symm
  try simp only [hold 1 (by omega)] at h0
  rw [hold 2 (by omega)] at h0
  rw [hold 3 (by omega)] at h0
  clear hold
  generalize extA a 4 q = a at h0 hsl hz hqa C k1 k2 k3 k4 ⊢
  generalize e9 = e at h0 k1 k2 k3 k4 ⊢
  rw [hqa]
  refine g_putF (fs2 := [.int 0, .int 0, .int 0, .ref (a 1), .ref (a 2), .ref (a 3), .ref (a 4), .null, .null, .null, .null]) C 6 tyX1 tyX1_ok nmX1 hin inl_pos1 (by decide) h0 (by decide) (hts (.fieldLink RX1 19 "PathOddsModel" "row" "[I") (by decide +kernel)) rfl hin2 rfl (ty := .array .int) (by decide +kernel) rfl rfl (Nat.le_of_ble_eq_true rfl) rfl hz.symm dX1_init_33 ?_
  obtain ⟨e9, he9⟩ : ∃ e9, e9 = va_up e 0 (.inr (1, [.int 0, .int 0, .int 0, .ref (a 1), .ref (a 2), .ref (a 3), .ref (a 4), .null, .null, .null, .null]) : va_E) := ⟨_, rfl⟩
  rw [← he9]
  have k1 : isD cy (e9 1) 6 z1 := by rw [he9, up_ne (by omega)]; exact k1
  have k2 : isD cy (e9 2) 36 z1 := by rw [he9, up_ne (by omega)]; exact k2
  have k3 : isD cy (e9 3) 24 z1 := by rw [he9, up_ne (by omega)]; exact k3
  have k4 : isI cy (e9 4) 12 (fun t => nI ((fun _ => 0) t)) := by rw [he9, up_ne (by omega)]; exact k4
  have h0 : e9 0 = .inr (1, [.int 0, .int 0, .int 0, .ref (a 1), .ref (a 2), .ref (a 3), .ref (a 4), .null, .null, .null, .null]) := by rw [he9]; exact up_eq
  clear he9
  generalize e9 = e at h0 k1 k2 k3 k4 ⊢
  refine g_aload_n C dX1_init_36 rfl 0 rfl ?_
  refine g_bipush (v := nI 6) C dX1_init_37 (by decide) ?_
  refine g_newarr (atype := .double) (t := 0) (n := 6) (x := (6, .inr (.inr (.inr (.inl fun _ => FP.dconst0))))) C (hts (.arrayClass .double) (by decide +kernel)) rfl (fun _ => rfl) (by decide) (by decide +kernel) hA (Nat.le_of_ble_eq_true rfl) (Nat.le_of_ble_eq_true rfl) dX1_init_39 (fun q hq C => ?_)
  obtain ⟨e9, he9⟩ : ∃ e9, e9 = ext e 5 (fun _ => (.inl (cy 0, (6, .inr (.inr (.inr (.inl fun _ => FP.dconst0))))) : va_E)) := ⟨_, rfl⟩
  rw [← he9]
  have k1 : isD cy (e9 1) 6 z1 := by rw [he9, ext_lt (by omega)]; exact k1
  have k2 : isD cy (e9 2) 36 z1 := by rw [he9, ext_lt (by omega)]; exact k2
  have k3 : isD cy (e9 3) 24 z1 := by rw [he9, ext_lt (by omega)]; exact k3
  have k4 : isI cy (e9 4) 12 (fun t => nI ((fun _ => 0) t)) := by rw [he9, ext_lt (by omega)]; exact k4
  have h0 := (show e9 0 = e 0 by rw [he9, ext_lt (by omega)]).trans h0
  have hsl : ∀ k, 1 ≤ k → k < 6 → s.heap.size ≤ extA a 5 q k := fun k h1 h2 => by
    by_cases hk : k < 5
    · rw [extA_lt hk]; exact hsl k h1 hk
    · obtain ⟨j, rfl⟩ : ∃ j, k = 5 + j := ⟨k - 5, by omega⟩
      rw [extA_ge]; omega
  have hz : extA a 5 q 0 = o := by rw [extA_lt (by omega)]; exact hz
  have hqa : q = extA a 5 q 5 := (extA_ge (k := 0)).symm
  have k5 : isD cy (e9 5) 6 z1 := by rw [he9]; exact ⟨_, ext_ge (k := 0), fun _ _ => rfl⟩
  clear he9
  have hold : ∀ k, k < 5 → a k = extA a 5 q k := fun k hk => (extA_lt hk).symm
  try simp only [hold 1 (by omega)] at h0
  rw [hold 2 (by omega)] at h0
  rw [hold 3 (by omega)] at h0
  rw [hold 4 (by omega)] at h0
  clear hold
  generalize extA a 5 q = a at h0 hsl hz hqa C k1 k2 k3 k4 k5 ⊢
  generalize e9 = e at h0 k1 k2 k3 k4 k5 ⊢
  rw [hqa]
  refine g_putF (fs2 := [.int 0, .int 0, .int 0, .ref (a 1), .ref (a 2), .ref (a 3), .ref (a 4), .ref (a 5), .null, .null, .null]) C 7 tyX1 tyX1_ok nmX1 hin inl_pos1 (by decide) h0 (by decide) (hts (.fieldLink RX1 23 "PathOddsModel" "now" "[D") (by decide +kernel)) rfl hin2 rfl (ty := .array .double) (by decide +kernel) rfl rfl (Nat.le_of_ble_eq_true rfl) rfl hz.symm dX1_init_41 ?_
  obtain ⟨e9, he9⟩ : ∃ e9, e9 = va_up e 0 (.inr (1, [.int 0, .int 0, .int 0, .ref (a 1), .ref (a 2), .ref (a 3), .ref (a 4), .ref (a 5), .null, .null, .null]) : va_E) := ⟨_, rfl⟩
  rw [← he9]
  have k1 : isD cy (e9 1) 6 z1 := by rw [he9, up_ne (by omega)]; exact k1
  have k2 : isD cy (e9 2) 36 z1 := by rw [he9, up_ne (by omega)]; exact k2
  have k3 : isD cy (e9 3) 24 z1 := by rw [he9, up_ne (by omega)]; exact k3
  have k4 : isI cy (e9 4) 12 (fun t => nI ((fun _ => 0) t)) := by rw [he9, up_ne (by omega)]; exact k4
  have k5 : isD cy (e9 5) 6 z1 := by rw [he9, up_ne (by omega)]; exact k5
  have h0 : e9 0 = .inr (1, [.int 0, .int 0, .int 0, .ref (a 1), .ref (a 2), .ref (a 3), .ref (a 4), .ref (a 5), .null, .null, .null]) := by rw [he9]; exact up_eq
  clear he9
  generalize e9 = e at h0 k1 k2 k3 k4 k5 ⊢
  refine g_aload_n C dX1_init_44 rfl 0 rfl ?_
  refine g_bipush (v := nI 6) C dX1_init_45 (by decide) ?_
  refine g_newarr (atype := .double) (t := 0) (n := 6) (x := (6, .inr (.inr (.inr (.inl fun _ => FP.dconst0))))) C (hts (.arrayClass .double) (by decide +kernel)) rfl (fun _ => rfl) (by decide) (by decide +kernel) hA (Nat.le_of_ble_eq_true rfl) (Nat.le_of_ble_eq_true rfl) dX1_init_47 (fun q hq C => ?_)
  obtain ⟨e9, he9⟩ : ∃ e9, e9 = ext e 6 (fun _ => (.inl (cy 0, (6, .inr (.inr (.inr (.inl fun _ => FP.dconst0))))) : va_E)) := ⟨_, rfl⟩
  rw [← he9]
  have k1 : isD cy (e9 1) 6 z1 := by rw [he9, ext_lt (by omega)]; exact k1
  have k2 : isD cy (e9 2) 36 z1 := by rw [he9, ext_lt (by omega)]; exact k2
  have k3 : isD cy (e9 3) 24 z1 := by rw [he9, ext_lt (by omega)]; exact k3
  have k4 : isI cy (e9 4) 12 (fun t => nI ((fun _ => 0) t)) := by rw [he9, ext_lt (by omega)]; exact k4
  have k5 : isD cy (e9 5) 6 z1 := by rw [he9, ext_lt (by omega)]; exact k5
  have h0 := (show e9 0 = e 0 by rw [he9, ext_lt (by omega)]).trans h0
  have hsl : ∀ k, 1 ≤ k → k < 7 → s.heap.size ≤ extA a 6 q k := fun k h1 h2 => by
    by_cases hk : k < 6
    · rw [extA_lt hk]; exact hsl k h1 hk
    · obtain ⟨j, rfl⟩ : ∃ j, k = 6 + j := ⟨k - 6, by omega⟩
      rw [extA_ge]; omega
  have hz : extA a 6 q 0 = o := by rw [extA_lt (by omega)]; exact hz
  have hqa : q = extA a 6 q 6 := (extA_ge (k := 0)).symm
  have k6 : isD cy (e9 6) 6 z1 := by rw [he9]; exact ⟨_, ext_ge (k := 0), fun _ _ => rfl⟩
  clear he9
  have hold : ∀ k, k < 6 → a k = extA a 6 q k := fun k hk => (extA_lt hk).symm
  try simp only [hold 1 (by omega)] at h0
  rw [hold 2 (by omega)] at h0
  rw [hold 3 (by omega)] at h0
  rw [hold 4 (by omega)] at h0
  rw [hold 5 (by omega)] at h0
  clear hold
  generalize extA a 6 q = a at h0 hsl hz hqa C k1 k2 k3 k4 k5 k6 ⊢
  generalize e9 = e at h0 k1 k2 k3 k4 k5 k6 ⊢
  rw [hqa]
  refine g_putF (fs2 := [.int 0, .int 0, .int 0, .ref (a 1), .ref (a 2), .ref (a 3), .ref (a 4), .ref (a 5), .ref (a 6), .null, .null]) C 8 tyX1 tyX1_ok nmX1 hin inl_pos1 (by decide) h0 (by decide) (hts (.fieldLink RX1 26 "PathOddsModel" "old" "[D") (by decide +kernel)) rfl hin2 rfl (ty := .array .double) (by decide +kernel) rfl rfl (Nat.le_of_ble_eq_true rfl) rfl hz.symm dX1_init_49 ?_
  obtain ⟨e9, he9⟩ : ∃ e9, e9 = va_up e 0 (.inr (1, [.int 0, .int 0, .int 0, .ref (a 1), .ref (a 2), .ref (a 3), .ref (a 4), .ref (a 5), .ref (a 6), .null, .null]) : va_E) := ⟨_, rfl⟩
  rw [← he9]
  have k1 : isD cy (e9 1) 6 z1 := by rw [he9, up_ne (by omega)]; exact k1
  have k2 : isD cy (e9 2) 36 z1 := by rw [he9, up_ne (by omega)]; exact k2
  have k3 : isD cy (e9 3) 24 z1 := by rw [he9, up_ne (by omega)]; exact k3
  have k4 : isI cy (e9 4) 12 (fun t => nI ((fun _ => 0) t)) := by rw [he9, up_ne (by omega)]; exact k4
  have k5 : isD cy (e9 5) 6 z1 := by rw [he9, up_ne (by omega)]; exact k5
  have k6 : isD cy (e9 6) 6 z1 := by rw [he9, up_ne (by omega)]; exact k6
  have h0 : e9 0 = .inr (1, [.int 0, .int 0, .int 0, .ref (a 1), .ref (a 2), .ref (a 3), .ref (a 4), .ref (a 5), .ref (a 6), .null, .null]) := by rw [he9]; exact up_eq
  clear he9
  generalize e9 = e at h0 k1 k2 k3 k4 k5 k6 ⊢
  refine g_aload_n C dX1_init_52 rfl 0 rfl ?_
  refine g_bipush (v := nI 6) C dX1_init_53 (by decide) ?_
  refine g_newarr (atype := .long) (t := 2) (n := 6) (x := (6, .inr (.inl fun _ => 0))) C (hts (.arrayClass .long) (by decide +kernel)) rfl (fun _ => rfl) (by decide) (by decide +kernel) hA (Nat.le_of_ble_eq_true rfl) (Nat.le_of_ble_eq_true rfl) dX1_init_55 (fun q hq C => ?_)
  obtain ⟨e9, he9⟩ : ∃ e9, e9 = ext e 7 (fun _ => (.inl (cy 2, (6, .inr (.inl fun _ => 0))) : va_E)) := ⟨_, rfl⟩
  rw [← he9]
  have k1 : isD cy (e9 1) 6 z1 := by rw [he9, ext_lt (by omega)]; exact k1
  have k2 : isD cy (e9 2) 36 z1 := by rw [he9, ext_lt (by omega)]; exact k2
  have k3 : isD cy (e9 3) 24 z1 := by rw [he9, ext_lt (by omega)]; exact k3
  have k4 : isI cy (e9 4) 12 (fun t => nI ((fun _ => 0) t)) := by rw [he9, ext_lt (by omega)]; exact k4
  have k5 : isD cy (e9 5) 6 z1 := by rw [he9, ext_lt (by omega)]; exact k5
  have k6 : isD cy (e9 6) 6 z1 := by rw [he9, ext_lt (by omega)]; exact k6
  have h0 := (show e9 0 = e 0 by rw [he9, ext_lt (by omega)]).trans h0
  have hsl : ∀ k, 1 ≤ k → k < 8 → s.heap.size ≤ extA a 7 q k := fun k h1 h2 => by
    by_cases hk : k < 7
    · rw [extA_lt hk]; exact hsl k h1 hk
    · obtain ⟨j, rfl⟩ : ∃ j, k = 7 + j := ⟨k - 7, by omega⟩
      rw [extA_ge]; omega
  have hz : extA a 7 q 0 = o := by rw [extA_lt (by omega)]; exact hz
  have hqa : q = extA a 7 q 7 := (extA_ge (k := 0)).symm
  have k7 : isL cy (e9 7) 6 (fun _ => 0) := by rw [he9]; exact ⟨_, ext_ge (k := 0), fun _ _ => rfl⟩
  clear he9
  have hold : ∀ k, k < 7 → a k = extA a 7 q k := fun k hk => (extA_lt hk).symm
  try simp only [hold 1 (by omega)] at h0
  rw [hold 2 (by omega)] at h0
  rw [hold 3 (by omega)] at h0
  rw [hold 4 (by omega)] at h0
  rw [hold 5 (by omega)] at h0
  rw [hold 6 (by omega)] at h0
  clear hold
  generalize extA a 7 q = a at h0 hsl hz hqa C k1 k2 k3 k4 k5 k6 k7 ⊢
  generalize e9 = e at h0 k1 k2 k3 k4 k5 k6 k7 ⊢
  rw [hqa]
  refine g_putF (fs2 := [.int 0, .int 0, .int 0, .ref (a 1), .ref (a 2), .ref (a 3), .ref (a 4), .ref (a 5), .ref (a 6), .ref (a 7), .null]) C 9 tyX1 tyX1_ok nmX1 hin inl_pos1 (by decide) h0 (by decide) (hts (.fieldLink RX1 29 "PathOddsModel" "counts" "[J") (by decide +kernel)) rfl hin2 rfl (ty := .array .long) (by decide +kernel) rfl rfl (Nat.le_of_ble_eq_true rfl) rfl hz.symm dX1_init_57 ?_
  obtain ⟨e9, he9⟩ : ∃ e9, e9 = va_up e 0 (.inr (1, [.int 0, .int 0, .int 0, .ref (a 1), .ref (a 2), .ref (a 3), .ref (a 4), .ref (a 5), .ref (a 6), .ref (a 7), .null]) : va_E) := ⟨_, rfl⟩
  rw [← he9]
  have k1 : isD cy (e9 1) 6 z1 := by rw [he9, up_ne (by omega)]; exact k1
  have k2 : isD cy (e9 2) 36 z1 := by rw [he9, up_ne (by omega)]; exact k2
  have k3 : isD cy (e9 3) 24 z1 := by rw [he9, up_ne (by omega)]; exact k3
  have k4 : isI cy (e9 4) 12 (fun t => nI ((fun _ => 0) t)) := by rw [he9, up_ne (by omega)]; exact k4
  have k5 : isD cy (e9 5) 6 z1 := by rw [he9, up_ne (by omega)]; exact k5
  have k6 : isD cy (e9 6) 6 z1 := by rw [he9, up_ne (by omega)]; exact k6
  have k7 : isL cy (e9 7) 6 (fun _ => 0) := by rw [he9, up_ne (by omega)]; exact k7
  have h0 : e9 0 = .inr (1, [.int 0, .int 0, .int 0, .ref (a 1), .ref (a 2), .ref (a 3), .ref (a 4), .ref (a 5), .ref (a 6), .ref (a 7), .null]) := by rw [he9]; exact up_eq
  clear he9
  generalize e9 = e at h0 k1 k2 k3 k4 k5 k6 k7 ⊢
  refine g_aload_n C dX1_init_60 rfl 0 rfl ?_
  refine g_bipush (v := nI 6) C dX1_init_61 (by decide) ?_
  refine g_newarr (atype := .long) (t := 2) (n := 6) (x := (6, .inr (.inl fun _ => 0))) C (hts (.arrayClass .long) (by decide +kernel)) rfl (fun _ => rfl) (by decide) (by decide +kernel) hA (Nat.le_of_ble_eq_true rfl) (Nat.le_of_ble_eq_true rfl) dX1_init_63 (fun q hq C => ?_)
  obtain ⟨e9, he9⟩ : ∃ e9, e9 = ext e 8 (fun _ => (.inl (cy 2, (6, .inr (.inl fun _ => 0))) : va_E)) := ⟨_, rfl⟩
  rw [← he9]
  have k1 : isD cy (e9 1) 6 z1 := by rw [he9, ext_lt (by omega)]; exact k1
  have k2 : isD cy (e9 2) 36 z1 := by rw [he9, ext_lt (by omega)]; exact k2
  have k3 : isD cy (e9 3) 24 z1 := by rw [he9, ext_lt (by omega)]; exact k3
  have k4 : isI cy (e9 4) 12 (fun t => nI ((fun _ => 0) t)) := by rw [he9, ext_lt (by omega)]; exact k4
  have k5 : isD cy (e9 5) 6 z1 := by rw [he9, ext_lt (by omega)]; exact k5
  have k6 : isD cy (e9 6) 6 z1 := by rw [he9, ext_lt (by omega)]; exact k6
  have k7 : isL cy (e9 7) 6 (fun _ => 0) := by rw [he9, ext_lt (by omega)]; exact k7
  have h0 := (show e9 0 = e 0 by rw [he9, ext_lt (by omega)]).trans h0
  have hsl : ∀ k, 1 ≤ k → k < 9 → s.heap.size ≤ extA a 8 q k := fun k h1 h2 => by
    by_cases hk : k < 8
    · rw [extA_lt hk]; exact hsl k h1 hk
    · obtain ⟨j, rfl⟩ : ∃ j, k = 8 + j := ⟨k - 8, by omega⟩
      rw [extA_ge]; omega
  have hz : extA a 8 q 0 = o := by rw [extA_lt (by omega)]; exact hz
  have hqa : q = extA a 8 q 8 := (extA_ge (k := 0)).symm
  have k8 : isL cy (e9 8) 6 (fun _ => 0) := by rw [he9]; exact ⟨_, ext_ge (k := 0), fun _ _ => rfl⟩
  clear he9
  have hold : ∀ k, k < 8 → a k = extA a 8 q k := fun k hk => (extA_lt hk).symm
  try simp only [hold 1 (by omega)] at h0
  rw [hold 2 (by omega)] at h0
  rw [hold 3 (by omega)] at h0
  rw [hold 4 (by omega)] at h0
  rw [hold 5 (by omega)] at h0
  rw [hold 6 (by omega)] at h0
  rw [hold 7 (by omega)] at h0
  clear hold
  generalize extA a 8 q = a at h0 hsl hz hqa C k1 k2 k3 k4 k5 k6 k7 k8 ⊢
  generalize e9 = e at h0 k1 k2 k3 k4 k5 k6 k7 k8 ⊢
  rw [hqa]
  refine g_putF (fs2 := [.int 0, .int 0, .int 0, .ref (a 1), .ref (a 2), .ref (a 3), .ref (a 4), .ref (a 5), .ref (a 6), .ref (a 7), .ref (a 8)]) C 10 tyX1 tyX1_ok nmX1 hin inl_pos1 (by decide) h0 (by decide) (hts (.fieldLink RX1 33 "PathOddsModel" "before" "[J") (by decide +kernel)) rfl hin2 rfl (ty := .array .long) (by decide +kernel) rfl rfl (Nat.le_of_ble_eq_true rfl) rfl hz.symm dX1_init_65 ?_
  obtain ⟨e9, he9⟩ : ∃ e9, e9 = va_up e 0 (.inr (1, [.int 0, .int 0, .int 0, .ref (a 1), .ref (a 2), .ref (a 3), .ref (a 4), .ref (a 5), .ref (a 6), .ref (a 7), .ref (a 8)]) : va_E) := ⟨_, rfl⟩
  rw [← he9]
  have k1 : isD cy (e9 1) 6 z1 := by rw [he9, up_ne (by omega)]; exact k1
  have k2 : isD cy (e9 2) 36 z1 := by rw [he9, up_ne (by omega)]; exact k2
  have k3 : isD cy (e9 3) 24 z1 := by rw [he9, up_ne (by omega)]; exact k3
  have k4 : isI cy (e9 4) 12 (fun t => nI ((fun _ => 0) t)) := by rw [he9, up_ne (by omega)]; exact k4
  have k5 : isD cy (e9 5) 6 z1 := by rw [he9, up_ne (by omega)]; exact k5
  have k6 : isD cy (e9 6) 6 z1 := by rw [he9, up_ne (by omega)]; exact k6
  have k7 : isL cy (e9 7) 6 (fun _ => 0) := by rw [he9, up_ne (by omega)]; exact k7
  have k8 : isL cy (e9 8) 6 (fun _ => 0) := by rw [he9, up_ne (by omega)]; exact k8
  have h0 : e9 0 = .inr (1, [.int 0, .int 0, .int 0, .ref (a 1), .ref (a 2), .ref (a 3), .ref (a 4), .ref (a 5), .ref (a 6), .ref (a 7), .ref (a 8)]) := by rw [he9]; exact up_eq
  clear he9
  generalize e9 = e at h0 k1 k2 k3 k4 k5 k6 k7 k8 ⊢
  refine g_aload_n C dX1_init_68 rfl 0 rfl ?_
  refine g_iconst (v := nI 1) C dX1_init_69 (by decide) ?_
  refine g_putI (fs2 := [.int (nI 1), .int 0, .int 0, .ref (a 1), .ref (a 2), .ref (a 3), .ref (a 4), .ref (a 5), .ref (a 6), .ref (a 7), .ref (a 8)]) C 0 tyX1 tyX1_ok nmX1 hin inl_pos1 (by decide) h0 (by decide) (hts (.fieldLink RX1 36 "PathOddsModel" "n" "I") (by decide +kernel)) rfl (ty := .int) (by decide +kernel) rfl rfl (Nat.le_of_ble_eq_true rfl) rfl hz.symm dX1_init_70 ?_
  obtain ⟨e9, he9⟩ : ∃ e9, e9 = va_up e 0 (.inr (1, [.int (nI 1), .int 0, .int 0, .ref (a 1), .ref (a 2), .ref (a 3), .ref (a 4), .ref (a 5), .ref (a 6), .ref (a 7), .ref (a 8)]) : va_E) := ⟨_, rfl⟩
  rw [← he9]
  have k1 : isD cy (e9 1) 6 z1 := by rw [he9, up_ne (by omega)]; exact k1
  have k2 : isD cy (e9 2) 36 z1 := by rw [he9, up_ne (by omega)]; exact k2
  have k3 : isD cy (e9 3) 24 z1 := by rw [he9, up_ne (by omega)]; exact k3
  have k4 : isI cy (e9 4) 12 (fun t => nI ((fun _ => 0) t)) := by rw [he9, up_ne (by omega)]; exact k4
  have k5 : isD cy (e9 5) 6 z1 := by rw [he9, up_ne (by omega)]; exact k5
  have k6 : isD cy (e9 6) 6 z1 := by rw [he9, up_ne (by omega)]; exact k6
  have k7 : isL cy (e9 7) 6 (fun _ => 0) := by rw [he9, up_ne (by omega)]; exact k7
  have k8 : isL cy (e9 8) 6 (fun _ => 0) := by rw [he9, up_ne (by omega)]; exact k8
  have h0 : e9 0 = .inr (1, [.int (nI 1), .int 0, .int 0, .ref (a 1), .ref (a 2), .ref (a 3), .ref (a 4), .ref (a 5), .ref (a 6), .ref (a 7), .ref (a 8)]) := by rw [he9]; exact up_eq
  clear he9
  generalize e9 = e at h0 k1 k2 k3 k4 k5 k6 k7 k8 ⊢
  refine g_widen (k := 8) (n := 102) (Nat.le_of_ble_eq_true rfl) (Nat.le_of_ble_eq_true rfl) ?_
  exact fun H locs ls hP hS hl => W.vret hx hb hr (fun t ht hW => ⟨⟨(a, e), rfl, ⟨hz, C.2.2.2.2.2.2.1, hsl, ⟨h0, k1, k2, k3, k4, k5, k6, k7, k8⟩⟩, by show va_P D clP (wl 9 a e) t.heap; rw [ht]; exact hP⟩, hS.F ht⟩) hS.2.2 dX1_init_73 hlocks
end
section
/-! what a throw rests on -/
abbrev xI : String := "java/lang/IndexOutOfBoundsException"
abbrev xA : String := "java/lang/IllegalArgumentException"
abbrev xR : String := "java/lang/ArithmeticException"
abbrev xN : List String := ["java/lang/RuntimeException", "java/lang/Exception"]
def ngC : List (String × String) := [(xI, xI), (xA, xA), (xR, xR)]
def ngD : List MethodName := [Bundle.initS "java/lang/RuntimeException", Bundle.initS "java/lang/Exception", Bundle.initS Bundle.tN]
def ngW : List Cond := ngC.map (fun q => Cond.castable q.1 q.2) ++ ngD.map Cond.declares
def XT (A : Nat → Prop) (sg : Nat → Nat) (U : State) (H : Heap) : Prop :=
  vx_Zq Bundle.tN "UNASSIGNED_STACK" Bundle.steD A U H ∧ vx_Zq Bundle.tN "SUPPRESSED_SENTINEL" Bundle.listD A U H ∧ vk_R RX0 101 "no such place in the row" (sg 0) U ∧ vk_R RX0 106 "no such state" (sg 1) U ∧ vk_R RX0 91 "the total is 0" (sg 2) U ∧ (∀ q ∈ ngC, va_Nw (.castable q.1 q.2) U) ∧ (∀ q ∈ ngD, va_Nw (.declares q) U) ∧ va_Nc xA xI U ∧ va_Nc xR xI U ∧ va_Nc xR xA U
theorem XT.to {A : Nat → Prop} {sg : Nat → Nat} {s U : State} {H : Heap} {locs : List Loc} (h : XT A sg s s.heap) (hS : va_S A s.heap H locs) (hU : U.heap = H) (hW : s.WarmedH U.vm) : XT A sg U U.heap := by
  obtain ⟨h1, h2, h3, h4, h5, h6, h7, h8, h9, h10⟩ := h
  rw [hU]
  exact ⟨(h1.kept hS.2.1).moved hW.alike, (h2.kept hS.2.1).moved hW.alike, h3.warm hW, h4.warm hW, h5.warm hW, fun q hq => va_Nw.warmC hW (h6 q hq), fun q hq => va_Nw.warmD hW (h7 q hq), h8.moved hW.alike, h9.moved hW.alike, h10.moved hW.alike⟩
theorem XT.narrow {A A2 : Nat → Prop} {sg : Nat → Nat} {U : State} {H : Heap} (h : XT A sg U H) (hA : ∀ q, A2 q → A q) : XT A2 sg U H := by
  obtain ⟨h1, h2, h3⟩ := h
  exact ⟨h1.narrow hA, h2.narrow hA, h3⟩
theorem XT.calling {A : Nat → Prop} {sg : Nat → Nat} {U : State} {g : JFrame} {mk : MethodId} {v : Array Value} (h : XT A sg U U.heap) : XT A sg (U.calling g mk v) (U.calling g mk v).heap := by
  obtain ⟨h1, h2, h3, h4, h5, h6, h7, h8, h9, h10⟩ := h
  have hv : (U.calling g mk v).vm = U.vm := rfl
  have al : U.vm.Alike (U.calling g mk v).vm := Vm.Alike.refl U.vm
  exact ⟨h1.moved al, h2.moved al, h3.same hv, h4.same hv, h5.same hv, fun q hq => va_Nw.same rfl hv.symm (h6 q hq), fun q hq => va_Nw.same rfl hv.symm (h7 q hq), h8.moved al, h9.moved al, h10.moved al⟩
theorem XT.words {A : Nat → Prop} {sg : Nat → Nat} {U : State} {H : Heap} {args : Array Value} (h : XT A sg U H) : ∀ w ∈ ngW, w.before args U = true := by
  obtain ⟨-, -, -, -, -, h6, h7, -⟩ := h
  intro w hw
  rcases List.mem_append.mp hw with hw | hw
  · obtain ⟨q, hq, rfl⟩ := List.mem_map.mp hw
    exact va_Nw.use rfl (h6 q hq)
  · obtain ⟨q, hq, rfl⟩ := List.mem_map.mp hw
    exact va_Nw.use rfl (h7 q hq)
def gPcX (D : va_G) (cl : List vw_C) (cy : Nat → ClassId) (N : Nat) (a sg : Nat → Nat) (e : Nat → va_E) (av : List Value) : Array Value → State → Prop := va_Pc av (fun U => va_P D cl (wl N a e) U.heap ∧ va_K D cl (tys0 cy) U ∧ XT (wA N a) sg U U.heap)
def gBX (D : va_G) (cl : List vw_C) (N : Nat) (a : Nat → Nat) (px : String → (Nat → va_E) → Prop) : String → (Nat → va_E) → State → Prop := fun E u t => px E u ∧ va_P D cl (wl N a u) t.heap
theorem gPcX_blind {D : va_G} {cl : List vw_C} {cy : Nat → ClassId} {N : Nat} {a sg : Nat → Nat} {e : Nat → va_E} {av : List Value} : FrameBlind (gPcX D cl cy N a sg e av) := fun v U g mk q => by
  obtain ⟨q0, qP, qK, qX⟩ := q
  exact ⟨q0, qP, va_K.moved (u := U) (U := U.calling g mk v) (Vm.Alike.refl U.vm) qK, qX.calling⟩
abbrev gXC (D : va_G) (cl : List vw_C) (N : Nat) (a : Nat → Nat) (px : String → (Nat → va_E) → Prop) : String → State → State → Prop := vx_X (fun _ => True) (gBX D cl N a px) (wA N a)
section GX
variable {p : Program} {l : Launch} {en : Env} {R : Room} {s : State} {m : MethodId} {args : Array Value} {below : List Frame} {meth : Method} {c : Code} {cells slots mc ms : Nat} {D : va_G} {cl : List vw_C} {cy : Nat → ClassId} {N nL : Nat} {a sg : Nat → Nat} {e : Nat → va_E} {cc : ByteArray} {pc : Nat} {lv : List (Nat × Value)} {st : List Value} {Ts : List Cond} {own : String} {Qc : Array Value → State → Outcome → State → Prop} {px : String → (Nat → va_E) → Prop}
theorem g_metX {y : MethodName} {ws ws' : List Cond} {rm : Room} {maxL : Nat} {ret : Option FieldType} {av : List Value} {lv : List (Nat × Value)} (hy : plainName y.cls = true) (hw : ws = Cond.code y cc maxL ret :: ws') (hlen : (lg_sl av).length ≤ maxL) (hlv : lv_args 0 av = lv) (hi : wInj N a)
    (body : ∀ (p : Program) (en : Env) (s : State) (m : MethodId) (below : List Frame) (meth : Method) (c : Code), Cx p s m av.toArray c cc ws y.cls D cl cy N maxL a (wA N a) → (∀ x ∈ c.exceptionTable.toList, False) → XT (wA N a) sg s s.heap → meth.sig.returnType = ret → meth.locks = false → GW p l en rm s m av.toArray below meth c 0 0 (vx_MQ below Qc (gXC D cl N a px) av.toArray s mc ms (wA N a)) D cl N maxL a (wA N a) e 0 lv []) : vx_Met l y ws rm (gPcX D cl cy N a sg e av) Qc (gXC D cl N a px) mc ms (wA N a) := by
  refine vx_ofW (cc := cc) (maxL := maxL) (ret := ret) hy hw ?_
  intro p en s m args below meth c s₁ B hml hnt hv
  obtain ⟨rfl, hP, hK, hX⟩ := hv
  have hts := atoms_spec (ws := ws) B.pre
  have hown : s.vm.findClass y.cls = some m.cls := findClass_of_methodNamed B.named
  have hl := lv_entry av (n := maxL) hlen
  rw [lg_entry_eq]
  rw [hlv] at hl
  exact body p en s m below meth c ⟨B.exec, B.bytes, hml, hown, hts, hK, hi, fun k hk => ⟨k, hk, rfl⟩⟩ hnt hX B.returns B.notSynchronized s.heap [] _ hP va_S.rf hl
theorem g_dretX (C : Cx p s m args c cc Ts own D cl cy N nL a (wA N a)) {post : UInt64 → (Nat → va_E) → Prop} {v : UInt64} (hr : meth.sig.returnType = some .double) (hlocks : meth.locks = false) (hc : cells ≤ mc) (hs : slots ≤ ms) (hp : post v e) (hdg : decode cc pc = .ok (.dreturn, 1)) : GW p l en R s m args below meth c cells slots (vx_MQ below (va_Qd post (gB D cl N a) (wA N a)) (gXC D cl N a px) args s mc ms (wA N a)) D cl N nL a (wA N a) e pc lv [.double v] := fun H locs ls hP hS hl => W.widen hc hs (vx_ret (W.dret C.1 C.2.1 hr (fun t ht hW => ⟨⟨v, e, rfl, hp, by show va_P D cl (wl N a e) t.heap; rw [ht]; exact hP⟩, hS.F ht⟩) hS.2.2 hdg hlocks))
theorem g_vretX (C : Cx p s m args c cc Ts own D cl cy N nL a (wA N a)) {post : (Nat → va_E) → Prop} (hr : meth.sig.returnType = none) (hlocks : meth.locks = false) (hc : cells ≤ mc) (hs : slots ≤ ms) (hp : post e) (hdg : decode cc pc = .ok (.return_, 1)) : GW p l en R s m args below meth c cells slots (vx_MQ below (va_Qv post (gB D cl N a) (wA N a)) (gXC D cl N a px) args s mc ms (wA N a)) D cl N nL a (wA N a) e pc lv [] := fun H locs ls hP hS hl => W.widen hc hs (vx_ret (W.vret C.1 C.2.1 hr (fun t ht hW => ⟨⟨e, rfl, hp, by show va_P D cl (wl N a e) t.heap; rw [ht]; exact hP⟩, hS.F ht⟩) hS.2.2 hdg hlocks))
theorem g_throw (C : Cx p s m args c cc Ts own D cl cy N nL a (wA N a)) (hfl : l.stackTraces = false) (hnt : ∀ x ∈ c.exceptionTable.toList, False) (hX : XT (wA N a) sg s s.heap) (hlocks : meth.locks = false) {cls text : String} {ik is ic sa : Nat} (hcls : Bundle.fit cls = true) (hk : (Cond.classLink own ik cls).before args s = true) (hini : (Cond.initialized cls).before args s = true) (hstr : vk_R own is text sa s) (h1 : ∀ w ∈ (vx_atS own ic cls xN).filter goodWord, w ∈ Ts) (h2 : ∀ w ∈ (vx_atS own ic cls xN).filter (fun w => !goodWord w), w ∈ ngW) (hgood : ∀ w ∈ Cond.classLink own ik cls :: Cond.initialized cls :: vx_atS own ic cls xN, vx_ot w = true)
    (d0 : decode cc pc = .ok (.new ik, 3)) (d3 : decode cc (pc + 3) = .ok (.dup, 1)) (d4 : decode cc (pc + 4) = .ok (.ldc is, 2)) (d6 : decode cc (pc + 6) = .ok (.invokespecial ic, 3)) (d9 : decode cc (pc + 9) = .ok (.athrow, 1)) (hRf : 5 < R.frames) (hRl : (st.map fun v => v.category).sum + 82 ≤ R.locals) (hRc : cells + 1 ≤ R.cells) (hRs : slots + 6 ≤ R.slots) (hp : px cls e) (hc : cells + 1 ≤ mc) (hs : slots + 6 ≤ ms) : GW p l en R s m args below meth c cells slots (vx_MQ below Qc (gXC D cl N a px) args s mc ms (wA N a)) D cl N nL a (wA N a) e pc lv st := fun H locs ls hP hS hl =>
  vx_throwS (names := xN) C.1 C.2.1 hfl C.2.2.2.1 hcls (by decide +kernel) hk hini hstr (vx_hat (fun w hw => C.2.2.2.2.1 w (h1 w hw)) h2 hX.words) hgood hX.1 hX.2.1 hS (by rw [C.2.2.1]; exact hl.1) d0 d3 d4 d6 d9 (fun x hx => (hnt x hx).elim) hRf hRl hRc hRs hlocks
    (fun t hvm hz ho => ⟨e, trivial, ⟨hp, wl_kept hP (fun k hk => ho _ ((wl_Pat hP hk).lt))⟩, ⟨Nat.le_trans hS.1 hz, fun q h1 h2 => (ho q (Nat.lt_of_lt_of_le h1 hS.1)).trans (hS.2.1 q h1 h2)⟩⟩) hS.2.2 hc hs
theorem g_callvX (C : Cx p s m args c cc Ts own D cl cy N nL a (wA N a)) (hnt : ∀ x ∈ c.exceptionTable.toList, False) (hX : XT (wA N a) sg s s.heap) (hlocks : meth.locks = false) {Cn : String} {Tn : u_T} {NF ci index n : Nat} {fs : List Value} {y : MethodName} {bytes : ByteArray} {maxL : Nat} {ret : Option FieldType} {ws : List Cond} {rm : Room} {As rest : List Value} {post : (Nat → va_E) → Prop} {px1 : String → (Nat → va_E) → Prop} {kc ks : Nat} (cw : CallW R s args own Cn index y bytes maxL ret ws rm kc ks n) (hM : vx_Met l y ws rm (gPcX D cl cy N a sg e (.ref (a 0) :: As)) (va_Qv post (gB D cl N a) (wA N a)) (gXC D cl N a px1) kc ks (wA N a)) (h0 : 0 < N) (he : e 0 = .inr (ci, fs)) (hc : cl[ci]? = some (Cn, Tn, NF)) (hn : As.length = n) (hst : st = As.reverse ++ .ref (a 0) :: rest) (hroom : (rest.map fun v => v.category).sum ≤ 8) (hdg : decode cc pc = .ok (.invokevirtual index, 3)) (hcs : cells + kc ≤ R.cells ∧ slots + ks ≤ R.slots) (hmc : cells + kc ≤ mc ∧ slots + ks ≤ ms) (hpx : ∀ E u, px1 E u → px E u)
    (kk : ∀ (e1 : Nat → va_E), post e1 → GW p l en R s m args below meth c (cells + kc) (slots + ks) (vx_MQ below Qc (gXC D cl N a px) args s mc ms (wA N a)) D cl N nL a (wA N a) e1 (pc + 3) lv rest) : GW p l en R s m args below meth c cells slots (vx_MQ below Qc (gXC D cl N a px) args s mc ms (wA N a)) D cl N nL a (wA N a) e pc lv st := by
  intro H locs ls hP hS hl
  subst hst
  refine vx_callv (vx_runV (As := As) (rest := rest) (b := a 0) ⟨C.1, C.2.1, C.2.2.1, C.2.2.2.1, C.2.2.2.2.1⟩ hM cw ⟨gPcX_blind, va_recv C.2.2.2.2.2.1 hP hc (by rw [wl_at h0, he]), fun U hU hW => ⟨rfl, by rw [hU]; exact hP, va_K.moved hW.alike C.2.2.2.2.2.1, hX.to hS hU hW⟩⟩ rfl hn hl.1 rfl (lv_room hroom) hdg hcs) hS (fun q _ h => h) (fun q h => h) (fun q _ h => h) (fun E ce q9 u t H1 locs1 ht hvm _ hB hz1 hk1 hS1 hce hcv hcl => ?_) (fun u t H1 locs1 ht hvm hw hB hz1 hk1 hS1 => ?_)
  · exact vx_out (fun x hx => (hnt x hx).elim) hlocks hce hcv hcl (fun t2 ht2 _ => ⟨u, trivial, ⟨hpx E u hB.1, by rw [ht2, ← ht]; exact hB.2⟩, hS1.F ht2⟩) hS1.2.2 hmc.1 hmc.2
  · exact kk u hw H1 locs1 ls (by rw [← ht]; exact hB) hS1 hl
end GX
end
section
set_option maxHeartbeats 1000000 in
set_option maxRecDepth 100000 in
theorem c_X0_refuseWrongPlaceOrState (l : Launch) (hfl : l.stackTraces = false) (D : va_G) (cy : Nat → ClassId) (a sg : Nat → Nat) (hi : wInj 82 a) {e : Nat → va_E} {n T : Nat} {S : Nat → UInt64} {M E : T2} {r : Nat → Nat} {F B V : T2} {G : Nat → Nat → Int32} {Cn : Nat → Nat → Int64} (h : RP cy a e n T S M E r F B V G Cn) (hn : n ≤ 6) (hT : T ≤ 12) (x x2 : Int32) : vx_Met l yX0_refuseWrongPlaceOrState wsX0_refuseWrongPlaceOrState ({ frames := 6, cells := 1, slots := 6, locals := 82 }) (gPcX D clP cy 82 a sg e [.ref (a 0), .int x, .int x2]) (va_Qv (fun e1 => e1 = e ∧ (∃ t, t < T ∧ x = nI t) ∧ (∃ i, i < n ∧ x2 = nI i)) (gB D clP 82 a) (wA 82 a)) (gXC D clP 82 a (fun X u => u = e ∧ ((X = xI ∧ ¬ (∃ t, t < T ∧ x = nI t)) ∨ (X = xA ∧ (∃ t, t < T ∧ x = nI t) ∧ ¬ (∃ i, i < n ∧ x2 = nI i))))) 1 6 (wA 82 a) := by
  refine g_metX (cc := cX0_refuseWrongPlaceOrState) (maxL := 3) (ret := none) (lv := [(0, .ref (a 0)), (1, .int x), (2, .int x2)]) (by decide) rfl (Nat.le_of_ble_eq_true rfl) rfl hi ?_
  intro p en s m below meth c C hnt hX hr hlocks
  obtain ⟨h0, hS, h2, h9, hr0, h17, h30, h43, h56, h69, hM, hE, hF, hB, hV, hG, hC⟩ := id h
  refine g_aload_n C dX0_refuseWrongPlaceOrState_0 rfl 0 rfl ?_
  refine g_iload_n C dX0_refuseWrongPlaceOrState_1 rfl 1 rfl ?_
  refine g_calli (As := [.int x]) (rest := []) C (cwV 1 C.2.2.2.2.1 gX0_refuseWrongPlaceOrState_X0_isPlace rfl rfl rfl (by decide +kernel) ⟨Nat.le_of_ble_eq_true rfl, Nat.le_of_ble_eq_true rfl⟩) (c_X0_isPlace l D cy a hi h (by omega) x) (by decide) h0 inl_pos0 rfl rfl (Nat.le_of_ble_eq_true rfl) dX0_refuseWrongPlaceOrState_2 ⟨Nat.zero_le _, Nat.zero_le _⟩ (fun z e1 hz => ?_)
  rw [hz.1]
  rcases hz.2 with ⟨rfl, hpl⟩ | ⟨rfl, hno⟩
  · refine g_if_ne (tgt := 18) C dX0_refuseWrongPlaceOrState_5 (by decide) (fun c1 => ?_) (fun c1 => absurd c1 (by decide))
    refine g_aload_n C dX0_refuseWrongPlaceOrState_18 rfl 0 rfl ?_
    refine g_iload_n C dX0_refuseWrongPlaceOrState_19 rfl 2 rfl ?_
    refine g_calli (As := [.int x2]) (rest := []) C (cwV 1 C.2.2.2.2.1 gX0_refuseWrongPlaceOrState_X0_isState rfl rfl rfl (by decide +kernel) ⟨Nat.le_of_ble_eq_true rfl, Nat.le_of_ble_eq_true rfl⟩) (c_X0_isState l D cy a hi h (by omega) x2) (by decide) h0 inl_pos0 rfl rfl (Nat.le_of_ble_eq_true rfl) dX0_refuseWrongPlaceOrState_20 ⟨Nat.zero_le _, Nat.zero_le _⟩ (fun z e1 hz => ?_)
    rw [hz.1]
    rcases hz.2 with ⟨rfl, hst⟩ | ⟨rfl, hno⟩
    · refine g_if_ne (tgt := 36) C dX0_refuseWrongPlaceOrState_23 (by decide) (fun c1 => ?_) (fun c1 => absurd c1 (by decide))
      exact g_vretX C hr hlocks (Nat.zero_le _) (Nat.zero_le _) ⟨rfl, hpl, hst⟩ dX0_refuseWrongPlaceOrState_36
    · refine g_if_ne (tgt := 36) C dX0_refuseWrongPlaceOrState_23 (by decide) (fun c1 => absurd c1 (fun q => q (by decide))) (fun c1 => ?_)
      exact g_throw (cls := xA) (ik := 104) (is := 106) (ic := 108) (sa := sg 1) C hfl hnt hX hlocks (by decide +kernel) (C.2.2.2.2.1 (.classLink RX0 104 xA) (by decide +kernel)) (C.2.2.2.2.1 (.initialized xA) (by decide +kernel)) hX.2.2.2.1 (by decide +kernel) (by decide +kernel) (by decide +kernel) dX0_refuseWrongPlaceOrState_26 dX0_refuseWrongPlaceOrState_29 dX0_refuseWrongPlaceOrState_30 dX0_refuseWrongPlaceOrState_32 dX0_refuseWrongPlaceOrState_35 (Nat.le_of_ble_eq_true rfl) (Nat.le_of_ble_eq_true rfl) (Nat.le_of_ble_eq_true rfl) (Nat.le_of_ble_eq_true rfl) (⟨rfl, Or.inr ⟨rfl, hpl, hno⟩⟩) (Nat.le_of_ble_eq_true rfl) (Nat.le_of_ble_eq_true rfl)
  · refine g_if_ne (tgt := 18) C dX0_refuseWrongPlaceOrState_5 (by decide) (fun c1 => absurd c1 (fun q => q (by decide))) (fun c1 => ?_)
    exact g_throw (cls := xI) (ik := 99) (is := 101) (ic := 103) (sa := sg 0) C hfl hnt hX hlocks (by decide +kernel) (C.2.2.2.2.1 (.classLink RX0 99 xI) (by decide +kernel)) (C.2.2.2.2.1 (.initialized xI) (by decide +kernel)) hX.2.2.1 (by decide +kernel) (by decide +kernel) (by decide +kernel) dX0_refuseWrongPlaceOrState_8 dX0_refuseWrongPlaceOrState_11 dX0_refuseWrongPlaceOrState_12 dX0_refuseWrongPlaceOrState_14 dX0_refuseWrongPlaceOrState_17 (Nat.le_of_ble_eq_true rfl) (Nat.le_of_ble_eq_true rfl) (Nat.le_of_ble_eq_true rfl) (Nat.le_of_ble_eq_true rfl) (⟨rfl, Or.inl ⟨rfl, hno⟩⟩) (Nat.le_of_ble_eq_true rfl) (Nat.le_of_ble_eq_true rfl)

set_option maxHeartbeats 1000000 in
set_option maxRecDepth 100000 in
theorem c_X0_forward (l : Launch) (hfl : l.stackTraces = false) (D : va_G) (cy : Nat → ClassId) (a sg : Nat → Nat) (hi : wInj 82 a) {e : Nat → va_E} {n T : Nat} {S : Nat → UInt64} {M E : T2} {r : Nat → Nat} {F B V : T2} {G : Nat → Nat → Int32} {Cn : Nat → Nat → Int64} (h : RP cy a e n T S M E r F B V G Cn) (hn : 1 ≤ n ∧ n ≤ 6) (hT : T ≤ 12) (hW : WB S M E) (hr4 : RW4 r) (x x2 : Int32) : vx_Met l yX0_forward wsX0_forward ({ frames := 7, cells := 1, slots := 6, locals := 104 }) (gPcX D clP cy 82 a sg e [.ref (a 0), .int x, .int x2]) (va_Qd (fun z e1 => (∃ F1 B1, RP cy a e1 n T S M E r F1 B1 V G Cn) ∧ ∃ t i, t < T ∧ i < n ∧ x = nI t ∧ x2 = nI i ∧ z = fA n S M E r t i) (gB D clP 82 a) (wA 82 a)) (gXC D clP 82 a (fun X u => (∃ F1 B1, RP cy a u n T S M E r F1 B1 V G Cn) ∧ ((X = xI ∧ ¬ (∃ t, t < T ∧ x = nI t)) ∨ (X = xA ∧ (∃ t, t < T ∧ x = nI t) ∧ ¬ (∃ i, i < n ∧ x2 = nI i))))) 1 6 (wA 82 a) := by
  refine g_metX (cc := cX0_forward) (maxL := 3) (ret := (some .double)) (lv := [(0, .ref (a 0)), (1, .int x), (2, .int x2)]) (by decide) rfl (Nat.le_of_ble_eq_true rfl) rfl hi ?_
  intro p en s m below meth c C hnt hX hr hlocks
  have hin : ∀ w ∈ u_ws RX0 TX0 11, w ∈ wsX0_forward := by decide +kernel
  have f_forwardOdds := C.2.2.2.2.1 (.fieldLink RX0 32 "PathOdds" "forwardOdds" "[[D") (by decide +kernel)
  obtain ⟨h0, hS, h2, h9, hr0, h17, h30, h43, h56, h69, hM, hE, hF, hB, hV, hG, hC⟩ := id h
  refine g_aload_n C dX0_forward_0 rfl 0 rfl ?_
  refine g_iload_n C dX0_forward_1 rfl 1 rfl ?_
  refine g_iload_n C dX0_forward_2 rfl 2 rfl ?_
  refine g_callvX (As := [.int x, .int x2]) (rest := []) C hnt hX hlocks (cwV 2 C.2.2.2.2.1 gX0_forward_X0_refuseWrongPlaceOrState rfl rfl rfl (by decide +kernel) ⟨(Nat.le_of_ble_eq_true rfl), (Nat.le_of_ble_eq_true rfl)⟩) (c_X0_refuseWrongPlaceOrState l hfl D cy a sg hi h (by omega) hT x x2) (by decide) h0 inl_pos0 rfl rfl (Nat.le_of_ble_eq_true rfl) dX0_forward_3 ⟨(Nat.le_of_ble_eq_true rfl), (Nat.le_of_ble_eq_true rfl)⟩ ⟨(Nat.le_of_ble_eq_true rfl), (Nat.le_of_ble_eq_true rfl)⟩ (fun X u hu => ⟨⟨F, B, by rw [hu.1]; exact h⟩, hu.2⟩) (fun e1 he1 => ?_)
  rw [he1.1]
  obtain ⟨-, ⟨t0, ht0, rfl⟩, ⟨i0, hi0, rfl⟩⟩ := he1
  refine g_aload_n C dX0_forward_6 rfl 0 rfl ?_
  refine g_callv (As := []) (rest := []) C (cwV 0 C.2.2.2.2.1 gX0_forward_X0_fillForward rfl rfl rfl (by decide +kernel) ⟨Nat.le_of_ble_eq_true rfl, Nat.le_of_ble_eq_true rfl⟩) (c_X0_fillForward l D cy a hi h hn hT hW hr4) (by decide) h0 inl_pos0 rfl rfl (Nat.le_of_ble_eq_true rfl) dX0_forward_7 ⟨(Nat.le_of_ble_eq_true rfl), (Nat.le_of_ble_eq_true rfl)⟩ (fun e2 he => ?_)
  obtain ⟨F1, h, hp⟩ := he
  obtain ⟨h0, hS, h2, h9, hr0, h17, h30, h43, h56, h69, hM, hE, hF, hB, hV, hG, hC⟩ := id h
  refine g_aload_n C dX0_forward_10 rfl 0 rfl ?_
  refine g_get C 6 hin inl_pos0 (by decide) h0 (by decide) f_forwardOdds rfl dX0_forward_11 ?_
  refine g_iload_n C dX0_forward_14 rfl 1 rfl ?_
  refine g_aald C (by omega) (tyD2 cy) h17 (by omega) (by decide) dX0_forward_15 ?_
  refine g_iload_n C dX0_forward_16 rfl 2 rfl ?_
  refine g_dald C (by omega) (hF t0 (by omega)) (by omega) (by decide) dX0_forward_17 ?_
  exact g_dretX C hr hlocks (Nat.le_of_ble_eq_true rfl) (Nat.le_of_ble_eq_true rfl) (⟨⟨F1, B, h⟩, t0, i0, ht0, hi0, rfl, rfl, hp t0 i0 ht0 hi0⟩) dX0_forward_18

set_option maxHeartbeats 1000000 in
set_option maxRecDepth 100000 in
theorem c_X0_backward (l : Launch) (hfl : l.stackTraces = false) (D : va_G) (cy : Nat → ClassId) (a sg : Nat → Nat) (hi : wInj 82 a) {e : Nat → va_E} {n T : Nat} {S : Nat → UInt64} {M E : T2} {r : Nat → Nat} {F B V : T2} {G : Nat → Nat → Int32} {Cn : Nat → Nat → Int64} (h : RP cy a e n T S M E r F B V G Cn) (hn : 1 ≤ n ∧ n ≤ 6) (hT : T ≤ 12) (hW : WB S M E) (hr4 : RW4 r) (x x2 : Int32) : vx_Met l yX0_backward wsX0_backward ({ frames := 7, cells := 1, slots := 6, locals := 104 }) (gPcX D clP cy 82 a sg e [.ref (a 0), .int x, .int x2]) (va_Qd (fun z e1 => (∃ F1 B1, RP cy a e1 n T S M E r F1 B1 V G Cn) ∧ ∃ t i, t < T ∧ i < n ∧ x = nI t ∧ x2 = nI i ∧ z = fB n M E r T (T - 1 - t) i) (gB D clP 82 a) (wA 82 a)) (gXC D clP 82 a (fun X u => (∃ F1 B1, RP cy a u n T S M E r F1 B1 V G Cn) ∧ ((X = xI ∧ ¬ (∃ t, t < T ∧ x = nI t)) ∨ (X = xA ∧ (∃ t, t < T ∧ x = nI t) ∧ ¬ (∃ i, i < n ∧ x2 = nI i))))) 1 6 (wA 82 a) := by
  refine g_metX (cc := cX0_backward) (maxL := 3) (ret := (some .double)) (lv := [(0, .ref (a 0)), (1, .int x), (2, .int x2)]) (by decide) rfl (Nat.le_of_ble_eq_true rfl) rfl hi ?_
  intro p en s m below meth c C hnt hX hr hlocks
  have hin : ∀ w ∈ u_ws RX0 TX0 11, w ∈ wsX0_backward := by decide +kernel
  have f_backwardOdds := C.2.2.2.2.1 (.fieldLink RX0 35 "PathOdds" "backwardOdds" "[[D") (by decide +kernel)
  obtain ⟨h0, hS, h2, h9, hr0, h17, h30, h43, h56, h69, hM, hE, hF, hB, hV, hG, hC⟩ := id h
  refine g_aload_n C dX0_backward_0 rfl 0 rfl ?_
  refine g_iload_n C dX0_backward_1 rfl 1 rfl ?_
  refine g_iload_n C dX0_backward_2 rfl 2 rfl ?_
  refine g_callvX (As := [.int x, .int x2]) (rest := []) C hnt hX hlocks (cwV 2 C.2.2.2.2.1 gX0_backward_X0_refuseWrongPlaceOrState rfl rfl rfl (by decide +kernel) ⟨(Nat.le_of_ble_eq_true rfl), (Nat.le_of_ble_eq_true rfl)⟩) (c_X0_refuseWrongPlaceOrState l hfl D cy a sg hi h (by omega) hT x x2) (by decide) h0 inl_pos0 rfl rfl (Nat.le_of_ble_eq_true rfl) dX0_backward_3 ⟨(Nat.le_of_ble_eq_true rfl), (Nat.le_of_ble_eq_true rfl)⟩ ⟨(Nat.le_of_ble_eq_true rfl), (Nat.le_of_ble_eq_true rfl)⟩ (fun X u hu => ⟨⟨F, B, by rw [hu.1]; exact h⟩, hu.2⟩) (fun e1 he1 => ?_)
  rw [he1.1]
  obtain ⟨-, ⟨t0, ht0, rfl⟩, ⟨i0, hi0, rfl⟩⟩ := he1
  refine g_aload_n C dX0_backward_6 rfl 0 rfl ?_
  refine g_callv (As := []) (rest := []) C (cwV 0 C.2.2.2.2.1 gX0_backward_X0_fillBackward rfl rfl rfl (by decide +kernel) ⟨Nat.le_of_ble_eq_true rfl, Nat.le_of_ble_eq_true rfl⟩) (c_X0_fillBackward l D cy a hi h hn (by omega) hW hr4) (by decide) h0 inl_pos0 rfl rfl (Nat.le_of_ble_eq_true rfl) dX0_backward_7 ⟨(Nat.le_of_ble_eq_true rfl), (Nat.le_of_ble_eq_true rfl)⟩ (fun e2 he => ?_)
  obtain ⟨B1, h, hp⟩ := he
  obtain ⟨h0, hS, h2, h9, hr0, h17, h30, h43, h56, h69, hM, hE, hF, hB, hV, hG, hC⟩ := id h
  refine g_aload_n C dX0_backward_10 rfl 0 rfl ?_
  refine g_get C 7 hin inl_pos0 (by decide) h0 (by decide) f_backwardOdds rfl dX0_backward_11 ?_
  refine g_iload_n C dX0_backward_14 rfl 1 rfl ?_
  refine g_aald C (by omega) (tyD2 cy) h30 (by omega) (by decide) dX0_backward_15 ?_
  refine g_iload_n C dX0_backward_16 rfl 2 rfl ?_
  refine g_dald C (by omega) (hB t0 (by omega)) (by omega) (by decide) dX0_backward_17 ?_
  exact g_dretX C hr hlocks (Nat.le_of_ble_eq_true rfl) (Nat.le_of_ble_eq_true rfl) (⟨⟨F, B1, h⟩, t0, i0, ht0, hi0, rfl, rfl, hp t0 i0 ht0 hi0⟩) dX0_backward_18

set_option maxHeartbeats 1000000 in
set_option maxRecDepth 100000 in
theorem c_X0_share (l : Launch) (hfl : l.stackTraces = false) (D : va_G) (cy : Nat → ClassId) (a sg : Nat → Nat) (hi : wInj 82 a) {e : Nat → va_E} {n T : Nat} {S : Nat → UInt64} {M E : T2} {r : Nat → Nat} {F B V : T2} {G : Nat → Nat → Int32} {Cn : Nat → Nat → Int64} (h : RP cy a e n T S M E r F B V G Cn) (hn : 1 ≤ n ∧ n ≤ 6) (hT : T ≤ 12) (hW : WB S M E) (hr4 : RW4 r) (x x2 : Int32) : vx_Met l yX0_share wsX0_share ({ frames := 7, cells := 2, slots := 12, locals := 104 }) (gPcX D clP cy 82 a sg e [.ref (a 0), .int x, .int x2]) (va_Qd (fun z e1 => (∃ F1 B1, RP cy a e1 n T S M E r F1 B1 V G Cn) ∧ ¬ Op.cmpValue (FP.dcmp (fTot n S M E r T) FP.dconst0) CmpOp.l = 0 ∧ ∃ t i, t < T ∧ i < n ∧ x = nI t ∧ x2 = nI i ∧ z = FP.ddiv (FP.dmul (fA n S M E r t i) (fB n M E r T (T - 1 - t) i)) (fTot n S M E r T)) (gB D clP 82 a) (wA 82 a)) (gXC D clP 82 a (fun X u => (∃ F1 B1, RP cy a u n T S M E r F1 B1 V G Cn) ∧ ((X = xI ∧ ¬ (∃ t, t < T ∧ x = nI t)) ∨ (X = xA ∧ (∃ t, t < T ∧ x = nI t) ∧ ¬ (∃ i, i < n ∧ x2 = nI i)) ∨ (X = xR ∧ (∃ t, t < T ∧ x = nI t) ∧ (∃ i, i < n ∧ x2 = nI i) ∧ Op.cmpValue (FP.dcmp (fTot n S M E r T) FP.dconst0) CmpOp.l = 0)))) 2 12 (wA 82 a) := by
  refine g_metX (cc := cX0_share) (maxL := 5) (ret := (some .double)) (lv := [(0, .ref (a 0)), (1, .int x), (2, .int x2)]) (by decide) rfl (Nat.le_of_ble_eq_true rfl) rfl hi ?_
  intro p en s m below meth c C hnt hX hr hlocks
  have hin : ∀ w ∈ u_ws RX0 TX0 11, w ∈ wsX0_share := by decide +kernel
  have f_forwardOdds := C.2.2.2.2.1 (.fieldLink RX0 32 "PathOdds" "forwardOdds" "[[D") (by decide +kernel)
  have f_backwardOdds := C.2.2.2.2.1 (.fieldLink RX0 35 "PathOdds" "backwardOdds" "[[D") (by decide +kernel)
  obtain ⟨h0, hS, h2, h9, hr0, h17, h30, h43, h56, h69, hM, hE, hF, hB, hV, hG, hC⟩ := id h
  refine g_aload_n C dX0_share_0 rfl 0 rfl ?_
  refine g_iload_n C dX0_share_1 rfl 1 rfl ?_
  refine g_iload_n C dX0_share_2 rfl 2 rfl ?_
  refine g_callvX (As := [.int x, .int x2]) (rest := []) C hnt hX hlocks (cwV 2 C.2.2.2.2.1 gX0_share_X0_refuseWrongPlaceOrState rfl rfl rfl (by decide +kernel) ⟨(Nat.le_of_ble_eq_true rfl), (Nat.le_of_ble_eq_true rfl)⟩) (c_X0_refuseWrongPlaceOrState l hfl D cy a sg hi h (by omega) hT x x2) (by decide) h0 inl_pos0 rfl rfl (Nat.le_of_ble_eq_true rfl) dX0_share_3 ⟨(Nat.le_of_ble_eq_true rfl), (Nat.le_of_ble_eq_true rfl)⟩ ⟨(Nat.le_of_ble_eq_true rfl), (Nat.le_of_ble_eq_true rfl)⟩ (fun X u hu => ⟨⟨F, B, by rw [hu.1]; exact h⟩, hu.2.elim Or.inl (fun q => Or.inr (Or.inl q))⟩) (fun e1 he1 => ?_)
  rw [he1.1]
  obtain ⟨-, ⟨t0, ht0, rfl⟩, ⟨i0, hi0, rfl⟩⟩ := he1
  refine g_aload_n C dX0_share_6 rfl 0 rfl ?_
  refine g_callv (As := []) (rest := []) C (cwV 0 C.2.2.2.2.1 gX0_share_X0_fillForward rfl rfl rfl (by decide +kernel) ⟨Nat.le_of_ble_eq_true rfl, Nat.le_of_ble_eq_true rfl⟩) (c_X0_fillForward l D cy a hi h hn hT hW hr4) (by decide) h0 inl_pos0 rfl rfl (Nat.le_of_ble_eq_true rfl) dX0_share_7 ⟨(Nat.le_of_ble_eq_true rfl), (Nat.le_of_ble_eq_true rfl)⟩ (fun e2 he => ?_)
  obtain ⟨F1, h, hp⟩ := he
  obtain ⟨h0, hS, h2, h9, hr0, h17, h30, h43, h56, h69, hM, hE, hF, hB, hV, hG, hC⟩ := id h
  refine g_aload_n C dX0_share_10 rfl 0 rfl ?_
  refine g_calld (As := []) (rest := []) C (cwV 0 C.2.2.2.2.1 gX0_share_X0_sumOfLastForward rfl rfl rfl (by decide +kernel) ⟨Nat.le_of_ble_eq_true rfl, Nat.le_of_ble_eq_true rfl⟩) (c_X0_sumOfLastForward l D cy a hi h (by omega) (by omega) (K := 1202) (by omega) (fun i hi1 => by rw [hp (T - 1) i (by omega) hi1]; exact mg_mono (fA_mg hn.2 hW hr4 (T - 1) i (by omega) (by omega)) (by omega))) (by decide) h0 inl_pos0 rfl rfl (Nat.le_of_ble_eq_true rfl) dX0_share_11 ⟨(Nat.le_of_ble_eq_true rfl), (Nat.le_of_ble_eq_true rfl)⟩ (fun z e3 hz => ?_)
  rw [hz.1]
  have hzT : z = fTot n S M E r T := by rw [hz.2, fTot, if_neg (by omega)]; exact fsm_congr (fun i hi1 => hp (T - 1) i (by omega) hi1) n (Nat.le_refl n)
  clear hz
  subst hzT
  refine g_dstore_n (lv' := [(0, .ref (a 0)), (1, .int (nI t0)), (2, .int (nI i0)), (3, .double (fTot n S M E r T))]) C dX0_share_14 rfl (by decide) [1, 2, 3, 0] rfl ?_
  refine g_dload_n C dX0_share_15 rfl 3 rfl ?_
  refine g_dconst0 C dX0_share_16 ?_
  refine g_dcmp C dX0_share_17 ?_
  refine g_if_ne (tgt := 31) C dX0_share_18 (by decide) (fun c2 => ?_) (fun c2 => ?_)
  · refine g_aload_n C dX0_share_31 rfl 0 rfl ?_
    refine g_callv (As := []) (rest := []) C (cwV 0 C.2.2.2.2.1 gX0_share_X0_fillBackward rfl rfl rfl (by decide +kernel) ⟨Nat.le_of_ble_eq_true rfl, Nat.le_of_ble_eq_true rfl⟩) (c_X0_fillBackward l D cy a hi h hn (by omega) hW hr4) (by decide) h0 inl_pos0 rfl rfl (Nat.le_of_ble_eq_true rfl) dX0_share_32 ⟨(Nat.le_of_ble_eq_true rfl), (Nat.le_of_ble_eq_true rfl)⟩ (fun e4 he => ?_)
    obtain ⟨B1, h, hp3⟩ := he
    obtain ⟨h0, hS, h2, h9, hr0, h17, h30, h43, h56, h69, hM, hE, hF, hB, hV, hG, hC⟩ := id h
    refine g_aload_n C dX0_share_35 rfl 0 rfl ?_
    refine g_get C 6 hin inl_pos0 (by decide) h0 (by decide) f_forwardOdds rfl dX0_share_36 ?_
    refine g_iload_n C dX0_share_39 rfl 1 rfl ?_
    refine g_aald C (by omega) (tyD2 cy) h17 (by omega) (by decide) dX0_share_40 ?_
    refine g_iload_n C dX0_share_41 rfl 2 rfl ?_
    refine g_dald C (by omega) (hF t0 (by omega)) (by omega) (by decide) dX0_share_42 ?_
    refine g_aload_n C dX0_share_43 rfl 0 rfl ?_
    refine g_get C 7 hin inl_pos0 (by decide) h0 (by decide) f_backwardOdds rfl dX0_share_44 ?_
    refine g_iload_n C dX0_share_47 rfl 1 rfl ?_
    refine g_aald C (by omega) (tyD2 cy) h30 (by omega) (by decide) dX0_share_48 ?_
    refine g_iload_n C dX0_share_49 rfl 2 rfl ?_
    refine g_dald C (by omega) (hB t0 (by omega)) (by omega) (by decide) dX0_share_50 ?_
    rw [hp t0 i0 ht0 hi0, hp3 t0 i0 ht0 hi0]
    have hm := mg_mul (fA_mg hn.2 hW hr4 t0 i0 (by omega) (by omega)) (fB_mg (S := S) hn.2 hT hW hr4 (T - 1 - t0) i0 (by omega) (by omega)) (by omega) (by omega)
    refine g_dmul C dX0_share_51 (mg_n64 hm (by omega)) ?_
    refine g_dload_n C dX0_share_52 rfl 3 rfl ?_
    refine g_ddiv C dX0_share_53 (div_n64 hm (fTot_mg hn.2 hT hW hr4) (by omega) (by decide) (ne0_of (fTot_mg hn.2 hT hW hr4) (by decide) c2)) ?_
    exact g_dretX C hr hlocks (Nat.le_of_ble_eq_true rfl) (Nat.le_of_ble_eq_true rfl) (⟨⟨F1, B1, h⟩, c2, t0, i0, ht0, hi0, rfl, rfl, rfl⟩) dX0_share_54
  · exact g_throw (cls := xR) (ik := 89) (is := 91) (ic := 93) (sa := sg 2) C hfl hnt hX hlocks (by decide +kernel) (C.2.2.2.2.1 (.classLink RX0 89 xR) (by decide +kernel)) (C.2.2.2.2.1 (.initialized xR) (by decide +kernel)) hX.2.2.2.2.1 (by decide +kernel) (by decide +kernel) (by decide +kernel) dX0_share_21 dX0_share_24 dX0_share_25 dX0_share_27 dX0_share_30 (Nat.le_of_ble_eq_true rfl) (Nat.le_of_ble_eq_true rfl) (Nat.le_of_ble_eq_true rfl) (Nat.le_of_ble_eq_true rfl) (⟨⟨F1, B, h⟩, Or.inr (Or.inr ⟨rfl, ⟨t0, ht0, rfl⟩, ⟨i0, hi0, rfl⟩, c2⟩)⟩) (Nat.le_of_ble_eq_true rfl) (Nat.le_of_ble_eq_true rfl)
end
