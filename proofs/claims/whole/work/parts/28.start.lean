/-! THE CLAIM OUT OF ONE WALK OF THE LAW'S BODY. Your part is whole_start (and what it stands on); all else here is the same for every law, but numbers. -/
def R_law : String := "PathOddsLaw"
def lw_P (b : Addr) (xs : List Int32) (args : Array Value) (s : State) : Prop := args = #[.ref b] ∧ s.IntsAt b xs ∧ xs.length ≤ 2048 ∧ (Jvm.Cond.and given_1 narrow_1).before args s = true
/-- what a walk over the start with the record d0 says of its end, said of the start itself -/
theorem lw_closed {s t : State} {o : Outcome} {d0 : Drawn} {L : List Loc} {k n : Nat} (hd0 : s.drawn.sameBut d0 lw_cs) (hv : ∃ v, o = .returned v) (hW : (s.setDrawn d0).WarmedH t.vm) (hs : (s.setDrawn d0).sameButNew ({ t with vm := s.vm } : State) L k n) : State.butDraws s t lw_cs (fun t1 => Framed s o t1 L k n) := by
  have h2 : t.drawn = d0 := congrArg State.drawn hs.1
  refine ⟨⟨hv, hW, State.sameButNew.setDrawn hs s.drawn⟩, ?_, by decide⟩
  rw [h2]
  exact hd0
def lw_Q (_ : Array Value) (s : State) (o : Outcome) (t : State) : Prop := o = .returned (some (.int 1)) ∧ State.butDraws s t lw_cs (fun t1 => Framed s o t1 [] 623084 7175652)
def lw_Z (below : List Frame) (a : Array Value) (s : State) : State → Prop := fun t => ∃ o, t.status = .running ∧ Ended t below o ∧ lw_Q a s o t
/-- the law's own end, with 1 on the stack, nothing written that was there before, its room as the claim has it; d0: the record of draws at this point (at the entry s.drawn: begin with 'refine W.base ?_' and 'have hd0 := Drawn.sameBut.refl s.drawn lw_cs') -/
theorem lw_ret {p : Program} {l : Launch} {e : Env} {s : State} {m : MethodId} {below : List Frame} {meth : Method} {c : Code} {b : Nat} {d0 : Drawn} (hd0 : s.drawn.sameBut d0 lw_cs) (hx : p.tables.exec = Jvm.exec) (hb : c.code = code) (hr : meth.sig.returnType = ret) (hlocks : meth.locks = false) {pc : Nat} {H : Heap} {ls : Array Slot} (hdg : decode code pc = .ok (.ireturn, 1)) : W p l e room_1 (s.setDrawn d0) m #[Value.ref b] below meth c H [] 623084 7175652 (lw_Z below #[Value.ref b] s) (F0 m pc ls [.int 1]) := by
  intro T hT X
  obtain ⟨fs, hret, hrun, hended, hW, hframe⟩ := X.leave (v := some (.int 1)) (hlocks := hlocks) (fun h => by rw [hr] at h; cases h)
  have hmeth' : T.vm.method? m = some meth := X.method'
  refine ⟨T.setFrames fs, ?_, .returned (some (.int 1)), hrun, hended, rfl, lw_closed hd0 ⟨_, rfl⟩ hW hframe⟩
  jvm_step X.here [X.here.top, hx, hb, hdg, hmeth', hr, ret, narrow_b1]
  (try refine ⟨rfl, ?_⟩); (try refine ⟨rfl, ?_⟩)
  first | (intro acts; rw [hret _ acts rfl rfl rfl]) | rw [hret _ _ rfl rfl rfl]
  exact Steps.refl _
/-- what holds at the law's entry: the machine, the code, the tables' words (any of lw_tbl by 'hts w (by decide +kernel)'), the script of L ints xs at the cell b, what the Statement gives of the start (any of its parts by flat_of_before) -/
def lw_At (p : Program) (s : State) (m : MethodId) (meth : Method) (c : Code) (b L : Nat) (xs : Nat → Int32) : Prop :=
  p.tables.exec = Jvm.exec ∧ c.code = code ∧ meth.sig.returnType = ret ∧ c.maxLocals = 9 ∧ s.vm.findClass R_law = some m.cls ∧ (∀ w ∈ lw_tbl, w.before #[Value.ref b] s = true) ∧ va_X b L xs s s.heap ∧ b < s.heap.size ∧ meth.locks = false ∧ (Jvm.Cond.and given_1 narrow_1).before #[Value.ref b] s = true

set_option maxHeartbeats 1000000 in
set_option maxRecDepth 100000 in
/-- THE LAW'S LOOP -/
theorem law_loop {p : Program} {l : Launch} {en : Env} {s : State} {m : MethodId} {below : List Frame} {meth : Method} {c : Code} {D : va_G} {cy : Nat → ClassId} {a sg : Nat → Nat} {A : Nat → Prop} {b L : Nat} {xs : Nat → Int32} (C : Cx p s m #[Value.ref b] c cL_law wsL_law RL D clP cy 92 9 a A) (hfl : l.stackTraces = false) (hX : XT A sg s s.heap) (hs : va_X b L xs s s.heap) (hbl : b < s.heap.size) (hbA : ¬ A b) (hL : L ≤ 2048) (hr : meth.sig.returnType = ret) (hlocks : meth.locks = false) (hAs : ∀ q, A q → s.heap.size ≤ q) :
    ∀ (k i : Nat) (e : Nat → va_E) (cells slots : Nat), L + 4 ≤ i + 4 * k → i ≤ 2048 → cells ≤ 100 + 2 * i → slots ≤ 700 + 12 * i → LI cy a e → GW p l en room_1 s m #[Value.ref b] below meth c cells slots (lw_Z below #[Value.ref b] s) D clP 92 9 a A e 23 [(0, .ref b), (1, .ref (a 0)), (2, .ref (a 83)), (3, .ref (a 82)), (4, .int (nI i))] [] := by
  have lastR : ∀ (i : Nat) (e : Nat → va_E) (cells slots : Nat), cells ≤ 623084 → slots ≤ 7175652 → GW p l en room_1 s m #[Value.ref b] below meth c cells slots (lw_Z below #[Value.ref b] s) D clP 92 9 a A e 748 [(0, .ref b), (1, .ref (a 0)), (2, .ref (a 83)), (3, .ref (a 82)), (4, .int (nI i))] [] := fun i e cells slots h1 h2 => by
    refine g_iconst (v := 1) C dL_law_748 (by decide) ?_
    intro H locs ls hP hS hl
    refine va_forget (fun q hq => hAs _ (hS.2.2 q hq)) ?_
    refine W.widen (k := 623084) (n := 7175652) h1 h2 ?_
    refine W.base ?_
    exact lw_ret (Drawn.sameBut.refl s.drawn lw_cs) C.1 C.2.1 hr hlocks dL_law_749
  intro k
  induction k with
  | zero =>
    intro i e cells slots hk hi hc1 hc2 hI
    refine g_iload C dL_law_23 4 rfl ?_
    refine g_aload_n C dL_law_25 rfl 0 rfl ?_
    refine g_slen C hs hbl hbA dL_law_26 ?_
    refine g_iconst (v := nI 4) C dL_law_27 (by decide) ?_
    refine g_isub (v := nI L - nI 4) C dL_law_28 rfl ?_
    refine g_icmp_gt (tgt := 748) C dL_law_29 (by decide) (fun c1 => ?_) (fun c1 => ?_)
    · exact lastR i e cells slots (by omega) (by omega)
    · rw [Int32.lt_iff_toInt_lt, pk_sub_toInt (by omega) (by decide), nI_toInt (by omega)] at c1
      exact absurd c1 (by omega)
  | succ k ih =>
    intro i e cells slots hk hi hc1 hc2 hI
    refine g_iload C dL_law_23 4 rfl ?_
    refine g_aload_n C dL_law_25 rfl 0 rfl ?_
    refine g_slen C hs hbl hbA dL_law_26 ?_
    refine g_iconst (v := nI 4) C dL_law_27 (by decide) ?_
    refine g_isub (v := nI L - nI 4) C dL_law_28 rfl ?_
    refine g_icmp_gt (tgt := 748) C dL_law_29 (by decide) (fun c1 => ?_) (fun c1 => ?_)
    · exact lastR i e cells slots (by omega) (by omega)
    rw [Int32.lt_iff_toInt_lt, pk_sub_toInt (by omega) (by decide), nI_toInt (by omega)] at c1
    have hi4 : i + 4 ≤ L := by omega
    obtain ⟨n, T, th, S, M, E, r, F, B, V, G, Cn, nw, od, cn, bf, v0, hP, hM, hO, hn, hT, hW, hr4⟩ := hI
    have KK : ∀ (e2 : Nat → va_E) (cells2 slots2 : Nat), cells2 ≤ cells + 2 → slots2 ≤ slots + 12 → LI cy a e2 → GW p l en room_1 s m #[Value.ref b] below meth c cells2 slots2 (lw_Z below #[Value.ref b] s) D clP 92 9 a A e2 742 [(0, .ref b), (1, .ref (a 0)), (2, .ref (a 83)), (3, .ref (a 82)), (4, .int (nI i))] [] := fun e2 cells2 slots2 g1 g2 hI2 => by
      refine g_iinc (v := nI (i + 4)) (k := 4) (lv' := [(0, .ref b), (1, .ref (a 0)), (2, .ref (a 83)), (3, .ref (a 82)), (4, .int (nI (i + 4)))]) C dL_law_742 rfl (nI_add i 4) (by decide) [1, 2, 3, 4, 0] rfl ?_
      refine g_goto (tgt := 23) C dL_law_745 (by decide) ?_
      exact ih (i + 4) e2 cells2 slots2 (by omega) (by omega) (by omega) (by omega) hI2
    refine g_aload_n C dL_law_32 rfl 0 rfl ?_
    refine g_iload C dL_law_33 4 rfl ?_
    refine g_sld C hs hbl hbA (by omega) (by omega) dL_law_35 ?_
    refine g_bipush (v := nI 15) C dL_law_36 (by decide) ?_
    obtain ⟨j, hj, hjx⟩ := pk_andE (xs i) (m := nI 15) 4 (by decide)
    rcases (show j = 0 ∨ j = 1 ∨ j = 2 ∨ j = 3 ∨ j = 4 ∨ j = 5 ∨ j = 6 ∨ j = 7 ∨ j = 8 ∨ j = 9 ∨ j = 10 ∨ j = 11 ∨ j = 12 ∨ j = 13 ∨ j = 14 ∨ j = 15 by omega) with rfl | rfl | rfl | rfl | rfl | rfl | rfl | rfl | rfl | rfl | rfl | rfl | rfl | rfl | rfl | rfl
    · refine g_iand (v := nI 0) C dL_law_38 hjx ?_
      refine g_tableIn (off := 73) (tgt := 112) C dL_law_39 (by decide) (by decide) (by decide) (by decide) ?_
      exact law_c0 C hfl hX hs hbl hbA hi4 hL ⟨by omega, by omega⟩ hP hM hO hn hT hW hr4 KK
    · refine g_iand (v := nI 1) C dL_law_38 hjx ?_
      refine g_tableIn (off := 98) (tgt := 137) C dL_law_39 (by decide) (by decide) (by decide) (by decide) ?_
      exact law_c1 C hfl hX hs hbl hbA hi4 hL ⟨by omega, by omega⟩ hP hM hO hn hT hW hr4 KK
    · refine g_iand (v := nI 2) C dL_law_38 hjx ?_
      refine g_tableIn (off := 111) (tgt := 150) C dL_law_39 (by decide) (by decide) (by decide) (by decide) ?_
      exact law_c2 C hfl hX hs hbl hbA hi4 hL ⟨by omega, by omega⟩ hP hM hO hn hT hW hr4 KK
    · refine g_iand (v := nI 3) C dL_law_38 hjx ?_
      refine g_tableIn (off := 158) (tgt := 197) C dL_law_39 (by decide) (by decide) (by decide) (by decide) ?_
      exact law_c3 C hfl hX hs hbl hbA hi4 hL ⟨by omega, by omega⟩ hP hM hO hn hT hW hr4 KK
    · refine g_iand (v := nI 4) C dL_law_38 hjx ?_
      refine g_tableIn (off := 217) (tgt := 256) C dL_law_39 (by decide) (by decide) (by decide) (by decide) ?_
      exact law_c4 C hfl hX hs hbl hbA hi4 hL ⟨by omega, by omega⟩ hP hM hO hn hT hW hr4 KK
    · refine g_iand (v := nI 5) C dL_law_38 hjx ?_
      refine g_tableIn (off := 276) (tgt := 315) C dL_law_39 (by decide) (by decide) (by decide) (by decide) ?_
      exact law_c5 C hfl hX hs hbl hbA hi4 hL ⟨by omega, by omega⟩ hP hM hO hn hT hW hr4 KK
    · refine g_iand (v := nI 6) C dL_law_38 hjx ?_
      refine g_tableIn (off := 301) (tgt := 340) C dL_law_39 (by decide) (by decide) (by decide) (by decide) ?_
      exact law_c6 C hfl hX hs hbl hbA hi4 hL ⟨by omega, by omega⟩ hP hM hO hn hT hW hr4 KK
    · refine g_iand (v := nI 7) C dL_law_38 hjx ?_
      refine g_tableIn (off := 314) (tgt := 353) C dL_law_39 (by decide) (by decide) (by decide) (by decide) ?_
      exact law_c7 C hfl hX hs hbl hbA hi4 hL ⟨by omega, by omega⟩ hP hM hO hn hT hW hr4 KK
    · refine g_iand (v := nI 8) C dL_law_38 hjx ?_
      refine g_tableIn (off := 327) (tgt := 366) C dL_law_39 (by decide) (by decide) (by decide) (by decide) ?_
      exact law_c8 C hfl hX hs hbl hbA hi4 hL ⟨by omega, by omega⟩ hP hM hO hn hT hW hr4 KK
    · refine g_iand (v := nI 9) C dL_law_38 hjx ?_
      refine g_tableIn (off := 412) (tgt := 451) C dL_law_39 (by decide) (by decide) (by decide) (by decide) ?_
      exact law_c9 C hfl hX hs hbl hbA hi4 hL ⟨by omega, by omega⟩ hP hM hO hn hT hW hr4 KK
    · refine g_iand (v := nI 10) C dL_law_38 hjx ?_
      refine g_tableIn (off := 497) (tgt := 536) C dL_law_39 (by decide) (by decide) (by decide) (by decide) ?_
      exact law_c10 C hfl hX hs hbl hbA hi4 hL ⟨by omega, by omega⟩ hP hM hO hn hT hW hr4 KK
    · refine g_iand (v := nI 11) C dL_law_38 hjx ?_
      refine g_tableIn (off := 538) (tgt := 577) C dL_law_39 (by decide) (by decide) (by decide) (by decide) ?_
      exact law_c11 C hfl hX hs hbl hbA hi4 hL ⟨by omega, by omega⟩ hP hM hO hn hT hW hr4 KK
    · refine g_iand (v := nI 12) C dL_law_38 hjx ?_
      refine g_tableIn (off := 579) (tgt := 618) C dL_law_39 (by decide) (by decide) (by decide) (by decide) ?_
      exact law_c12 C hfl hX hs hbl hbA hi4 hL ⟨by omega, by omega⟩ hP hM hO hn hT hW hr4 KK
    · refine g_iand (v := nI 13) C dL_law_38 hjx ?_
      refine g_tableIn (off := 604) (tgt := 643) C dL_law_39 (by decide) (by decide) (by decide) (by decide) ?_
      exact law_c13 C hfl hX hs hbl hbA hi4 hL ⟨by omega, by omega⟩ hP hM hO hn hT hW hr4 KK
    · refine g_iand (v := nI 14) C dL_law_38 hjx ?_
      refine g_tableIn (off := 689) (tgt := 728) C dL_law_39 (by decide) (by decide) (by decide) (by decide) ?_
      exact law_c14 C hfl hX hs hbl hbA hi4 hL ⟨by omega, by omega⟩ hP hM hO hn hT hW hr4 KK
    · refine g_iand (v := nI 15) C dL_law_38 hjx ?_
      refine g_tableOut (tgt := 742) C dL_law_39 (Or.inr (by decide)) (by decide) ?_
      exact KK e cells slots (by omega) (by omega) ⟨_, _, _, _, _, _, _, _, _, _, _, _, _, _, _, _, _, hP, hM, hO, hn, hT, hW, hr4⟩
theorem lw_nt (l : Launch) (h : l.flags = flags0) : l.stackTraces = false := by
  unfold Launch.stackTraces
  rw [h]
  decide +kernel
theorem ngC_in : ∀ q ∈ ngC, Cond.castable q.1 q.2 ∈ tables_1 := by decide +kernel
theorem ngD_in : ∀ q ∈ ngD, Cond.declares q ∈ tables_1 := by decide +kernel
theorem arrK {args : Array Value} {s : State} {ty : FieldType} (h : (Cond.arrayClass ty).before args s = true) : ∃ c : ClassId, s.vm.findClass ("[" ++ ty.toString) = some c ∧ ArrOfT s c ty := by
  obtain ⟨c, k, comp, h1, h2, h3⟩ := Cond.arrayClass_spec h
  exact ⟨c, h1, fun n z => ⟨fun k h => (by cases h), k, h2, comp, h3⟩⟩
theorem arrK2 {args : Array Value} {s : State} {ty : FieldType} (h : (Cond.arrayOver (.array ty)).before args s = true) : ∃ c : ClassId, s.vm.findClass ("[" ++ (FieldType.array ty).toString) = some c ∧ ArrOfT s c (.array ty) := by
  obtain ⟨comp, c, k, h1, h2, h3, h4⟩ := Cond.arrayOver_specA h
  exact ⟨c, h4, fun n z => ⟨fun k h => (by cases h), k, h2, comp, h3⟩⟩
theorem aoa_moved {ty : FieldType} {s U : State} (hal : s.vm.Alike U.vm) (h : va_AOA ty s) : va_AOA ty U := Jvm.Stand.arrayOver_alikeB hal h
theorem P_left {D : va_G} {cl : List vw_C} {w1 w2 : va_W} {H : Heap} (h : va_P D cl (w1 ++ w2) H) : va_P D cl w1 H := fun k q hk => h k q (by rw [List.getElem?_append_left (List.getElem?_eq_some_iff.mp hk).1]; exact hk)
theorem P_right {D : va_G} {cl : List vw_C} {w1 : va_W} {x : Nat × va_E} {H : Heap} (h : va_P D cl (w1 ++ [x]) H) : va_P D cl [x] H := fun k q hk => by
  have h0 : k < 1 := (List.getElem?_eq_some_iff.mp hk).1
  rw [show k = 0 by omega] at hk
  cases hk
  exact h w1.length x (by rw [List.getElem?_append_right (Nat.le_refl _), Nat.sub_self]; rfl)

set_option maxHeartbeats 1000000 in
set_option maxRecDepth 100000 in
/-- THE LAW, from its entry -/
theorem whole_start {p : Program} {e : Env} {s : State} {m : MethodId} {below : List Frame} {meth : Method} {c : Code} (l : Launch) (hfl : l.stackTraces = false) {b L : Nat} {xs : Nat → Int32} (hL : L ≤ 2048) (C0 : lw_At p s m meth c b L xs) : W p l e room_1 s m #[Value.ref b] below meth c s.heap [] 0 0 (lw_Z below #[Value.ref b] s) (entryFrame m ([Value.ref b] : List Value).toArray 9) := by
  obtain ⟨hx, hb, hr, hml, hown, hts0, hsX, hbl, hlocks, hgv⟩ := id C0
  have hts : ∀ w ∈ wsL_law, w.before #[Value.ref b] s = true := fun w h => hts0 w (wsL_law_in w h)
  have htb : ∀ w ∈ tables_1, w.before #[Value.ref b] s = true := fun w h => hts0 w (List.mem_append_right _ h)
  have hgs := flat_of_before _ hgv
  have hownL : s.vm.findClass RL = some m.cls := hown
  obtain ⟨A, hAe⟩ : ∃ A : Nat → Prop, A = fun q => s.heap.size ≤ q := ⟨_, rfl⟩
  have hA : ∀ q : Nat, s.heap.size ≤ q → A q := fun q h => by rw [hAe]; exact h
  have hAs : ∀ q : Nat, A q → s.heap.size ≤ q := fun q h => by rw [hAe] at h; exact h
  have hbA : ¬ A b := fun h => absurd (hAs b h) (by omega)
  -- classes
  obtain ⟨c0, iS0, hKn0⟩ := u_known (C := RX0) (T := TX0) (N := 11) (n := 11) hts inlX0 (hts (.instantiable RX0 11) (by decide +kernel))
  obtain ⟨c1, iS1, hKn1⟩ := u_known (C := RX1) (T := TX1) (N := 11) (n := 11) hts inlX1 (hts (.instantiable RX1 11) (by decide +kernel))
  obtain ⟨y0, hy0, hz0⟩ := arrK (hts (.arrayClass .double) (by decide +kernel))
  obtain ⟨y1, hy1, hz1⟩ := arrK (hts (.arrayClass .int) (by decide +kernel))
  obtain ⟨y2, hy2, hz2⟩ := arrK (hts (.arrayClass .long) (by decide +kernel))
  have hO1 := htb (.arrayOver (.array .double)) (by decide +kernel)
  have hO2 := htb (.arrayOver (.array .int)) (by decide +kernel)
  have hO3 := htb (.arrayOver (.array .long)) (by decide +kernel)
  obtain ⟨y3, hy3, hz3⟩ := arrK2 hO1
  obtain ⟨y4, hy4, hz4⟩ := arrK2 hO2
  obtain ⟨y5, hy5, hz5⟩ := arrK2 hO3
  obtain ⟨D, hKc⟩ : ∃ D : va_G, ∀ (k : Nat) (q : vw_C), clP[k]? = some q → u_Kn s q.1 q.2.1 q.2.2 (D.1 k) (D.2 k) := by
    refine ⟨(fun k => if k = 0 then c0 else c1, fun k => if k = 0 then iS0 else iS1), ?_⟩
    intro k q hq
    match k, hq with
    | 0, hq => cases hq; exact hKn0
    | 1, hq => cases hq; exact hKn1
    | k + 2, hq => simp [clP] at hq
  obtain ⟨cy, hcy⟩ : ∃ cy : Nat → ClassId, cy = fun k => if k = 0 then y0 else if k = 1 then y1 else if k = 2 then y2 else if k = 3 then y3 else if k = 4 then y4 else y5 := ⟨_, rfl⟩
  have hK : va_K D clP (tys0 cy) s := by
    refine ⟨hKc, ?_⟩
    intro k q hq
    match k, hq with
    | 0, hq => cases hq; rw [hcy]; exact ⟨hz0, hy0⟩
    | 1, hq => cases hq; rw [hcy]; exact ⟨hz1, hy1⟩
    | 2, hq => cases hq; rw [hcy]; exact ⟨hz2, hy2⟩
    | 3, hq => cases hq; rw [hcy]; exact ⟨hz3, hy3⟩
    | 4, hq => cases hq; rw [hcy]; exact ⟨hz4, hy4⟩
    | 5, hq => cases hq; rw [hcy]; exact ⟨hz5, hy5⟩
    | k + 6, hq => simp [tys0] at hq
  clear hcy
  -- what throws rest on
  obtain ⟨sa0, -, -, -, hsa0, -⟩ := Cond.exactly_spec (hgs (.exactly (.string RX0 101) "java/lang/String") (by decide +kernel))
  obtain ⟨sa1, -, -, -, hsa1, -⟩ := Cond.exactly_spec (hgs (.exactly (.string RX0 106) "java/lang/String") (by decide +kernel))
  obtain ⟨sa2, -, -, -, hsa2, -⟩ := Cond.exactly_spec (hgs (.exactly (.string RX0 91) "java/lang/String") (by decide +kernel))
  have hnA : ∀ q : Nat, q < s.heap.size → ¬ A q := fun q h1 h2 => absurd (hAs q h2) (by omega)
  have hX : XT A (fun k => if k = 0 then sa0 else if k = 1 then sa1 else sa2) s s.heap := ⟨vx_Zqof (htb (.laysStatic Bundle.tN "UNASSIGNED_STACK" Bundle.steD) (by decide +kernel)) (htb (.initialized Bundle.tN) (by decide +kernel)) (hgs (.isRef (.static Bundle.tN "UNASSIGNED_STACK" Bundle.steD)) (by decide +kernel)) hnA, vx_Zqof (htb (.laysStatic Bundle.tN "SUPPRESSED_SENTINEL" Bundle.listD) (by decide +kernel)) (htb (.initialized Bundle.tN) (by decide +kernel)) (hgs (.isRef (.static Bundle.tN "SUPPRESSED_SENTINEL" Bundle.listD)) (by decide +kernel)) hnA, vk_R.of (htb (.stringRef RX0 101 "no such place in the row") (by decide +kernel)) hsa0, vk_R.of (htb (.stringRef RX0 106 "no such state") (by decide +kernel)) hsa1, vk_R.of (htb (.stringRef RX0 91 "the total is 0") (by decide +kernel)) hsa2, fun q hq => va_Nw.of rfl (htb _ (ngC_in q hq)), fun q hq => va_Nw.of rfl (htb _ (ngD_in q hq)), va_Nc.of (hgs (.not (.castable xA xI)) (by decide +kernel)), va_Nc.of (hgs (.not (.castable xR xI)) (by decide +kernel)), va_Nc.of (hgs (.not (.castable xR xA)) (by decide +kernel))⟩
  have hS : va_S A s.heap s.heap [] := va_S.rf
  have hP : va_P D clP [] s.heap := fun k q h => by simp at h
  have hD : va_D A [] := ⟨fun i j p q h => by simp at h, fun k q h => by simp at h⟩
  have hl := lv_entry ([.ref b]) (n := 9) (Nat.le_of_ble_eq_true rfl)
  rw [lg_entry_eq]
  generalize (lg_sl ([.ref b]) ++ List.replicate (9 - (lg_sl ([.ref b])).length) Slot.unset).toArray = ls at hl ⊢
  have hl : lv_has ls 9 [(0, .ref b)] := hl
  -- new PathOdds()
  refine va_new (ci := 0) (fs := [.null, .null, .null, .null, .int 0, .int 0, .null, .null, .null, .null, .null]) (C := RX0) (T := TX0) (N := 11) hx hb hts inlX0 tyX0 tyX0_ok hownL (hts (.classLink RL 8 RX0) (by decide +kernel)) (hts (.instantiable RX0 11) (by decide +kernel)) (hts (.initialized RX0) (by decide +kernel)) hK hP hD hS hA rfl (fun j hj => by rcases (show j = 0 ∨ j = 1 ∨ j = 2 ∨ j = 3 ∨ j = 4 ∨ j = 5 ∨ j = 6 ∨ j = 7 ∨ j = 8 ∨ j = 9 ∨ j = 10 by omega) with rfl | rfl | rfl | rfl | rfl | rfl | rfl | rfl | rfl | rfl | rfl <;> rfl) (Nat.le_of_ble_eq_true rfl) (Nat.le_of_ble_eq_true rfl) dL_law_0 (fun q0 H hP hD hS => ?_)
  have hP : va_P D clP [(q0, .inr (0, [.null, .null, .null, .null, .int 0, .int 0, .null, .null, .null, .null, .null]))] H := hP
  have hq0 : A q0 := hD.2 0 _ rfl
  have hq0l : q0 < H.size := (hP 0 _ rfl).lt
  have hsz_le : s.heap.size ≤ H.size := hS.1
  refine W.widen (k := 1) (n := 11) (by omega) (by omega) ?_
  refine lv_dup hx hb dL_law_3 rfl ?_
  have hF0 : ∀ q, (q = q0 ∨ H.size ≤ q) → A q := fun q h => h.elim (fun h => by rw [h]; exact hq0) (fun h => hA q (Nat.le_trans hS.1 h))
  refine va_callv (va_runI (As := []) (rest := [.ref q0]) ⟨hx, hb, hml, hownL, hts⟩ (c_X0_init l D cy q0 H.size) (cwI 0 hts gL_law_X0_init rfl rfl rfl (hts (.initialized RX0) (by decide +kernel)) (hts (.methodLink RL 25 yX0_init) (by decide +kernel)) (hts (.instanceMethod yX0_init) (by decide +kernel)) rfl (by decide +kernel) ⟨Nat.le_of_ble_eq_true rfl, Nat.le_of_ble_eq_true rfl⟩) ⟨fun a U g mk q => by obtain ⟨q0, q1, qP, qK, o1, o2, o3⟩ := q; exact ⟨q0, q1, qP, va_K.moved (u := U) (U := U.calling g mk a) (Vm.Alike.refl U.vm) qK, aoa_moved (s := U) (Vm.Alike.refl U.vm) o1, aoa_moved (s := U) (Vm.Alike.refl U.vm) o2, aoa_moved (s := U) (Vm.Alike.refl U.vm) o3⟩, fun U hU hW => ⟨rfl, by rw [hU], by rw [hU]; exact hP, va_K.moved hW.alike hK, aoa_moved hW.alike hO1, aoa_moved hW.alike hO2, aoa_moved hW.alike hO3⟩⟩ rfl rfl hl.1 rfl (lv_room (Nat.le_of_ble_eq_true rfl)) dL_law_4 ⟨Nat.le_of_ble_eq_true rfl, Nat.le_of_ble_eq_true rfl⟩) hS (fun q _ h => hF0 q h) hF0 (fun u t H1 locs ht hvm hw hB hz1 hk1 hS => ?_)
  obtain ⟨hu0, hui, hug, hRP⟩ := hw
  rw [ht] at hB
  obtain ⟨a0, e0⟩ := u
  have hu0 : a0 0 = q0 := hu0
  have hui : wInj 82 a0 := hui
  have hug : ∀ k, 1 ≤ k → k < 82 → H.size ≤ a0 k := hug
  have hP0 : va_P D clP (wl 82 a0 e0) H1 := hB
  have hA0 : ∀ k, k < 82 → A (a0 k) := fun k hk => by
    by_cases h : k = 0
    · rw [h, hu0]; exact hq0
    · exact hA _ (Nat.le_trans hsz_le (hug k (by omega) hk))
  refine lv_astore_n (lv' := [(1, .ref q0), (0, .ref b)]) hx hb dL_law_7 rfl hl (by decide) rfl (fun ls hl => ?_)
  -- new PathOddsModel()
  refine va_new (ci := 1) (fs := [.int 0, .int 0, .int 0, .null, .null, .null, .null, .null, .null, .null, .null]) (C := RX1) (T := TX1) (N := 11) hx hb hts inlX1 tyX1 tyX1_ok hownL (hts (.classLink RL 26 RX1) (by decide +kernel)) (hts (.instantiable RX1 11) (by decide +kernel)) (hts (.initialized RX1) (by decide +kernel)) hK hP0 (wl_D hui hA0) hS hA rfl (fun j hj => by rcases (show j = 0 ∨ j = 1 ∨ j = 2 ∨ j = 3 ∨ j = 4 ∨ j = 5 ∨ j = 6 ∨ j = 7 ∨ j = 8 ∨ j = 9 ∨ j = 10 by omega) with rfl | rfl | rfl | rfl | rfl | rfl | rfl | rfl | rfl | rfl | rfl <;> rfl) (Nat.le_of_ble_eq_true rfl) (Nat.le_of_ble_eq_true rfl) dL_law_8 (fun q1 H2 hPb hDb hS => ?_)
  have hP0 : va_P D clP (wl 82 a0 e0) H2 := P_left hPb
  have hP1 := P_right hPb
  have hq1l : q1 < H2.size := (hP1 0 _ rfl).lt
  have hsz2 : s.heap.size ≤ H2.size := hS.1
  have hap : ∀ k, k < 82 → a0 k ≠ q1 := fun k hk h => by
    have h1 : (wl 82 a0 e0 ++ [(q1, .inr (1, [.int 0, .int 0, .int 0, .null, .null, .null, .null, .null, .null, .null, .null]))])[k]? = some (a0 k, e0 k) := by rw [List.getElem?_append_left (by rw [wl_len]; exact hk)]; exact wl_at hk
    have h2 : (wl 82 a0 e0 ++ [(q1, .inr (1, [.int 0, .int 0, .int 0, .null, .null, .null, .null, .null, .null, .null, .null]))])[82]? = some (q1, .inr (1, [.int 0, .int 0, .int 0, .null, .null, .null, .null, .null, .null, .null, .null])) := by rw [List.getElem?_append_right (by rw [wl_len]; omega), wl_len]; rfl
    have := hDb.1 k 82 _ _ h1 h2 h
    omega
  have hq1 : A q1 := hDb.2 82 (q1, .inr (1, [.int 0, .int 0, .int 0, .null, .null, .null, .null, .null, .null, .null, .null])) (by rw [List.getElem?_append_right (by rw [wl_len]; omega), wl_len]; rfl)
  refine lv_dup hx hb dL_law_11 rfl ?_
  have hF1 : ∀ q, (q = q1 ∨ H2.size ≤ q) → A q := fun q h => h.elim (fun h => by rw [h]; exact hq1) (fun h => hA q (Nat.le_trans hS.1 h))
  refine va_callv (va_runI (As := []) (rest := [.ref q1]) ⟨hx, hb, hml, hownL, hts⟩ (c_X1_init l D cy q1 H2.size) (cwI 0 hts gL_law_X1_init rfl rfl rfl (hts (.initialized RX1) (by decide +kernel)) (hts (.methodLink RL 28 yX1_init) (by decide +kernel)) (hts (.instanceMethod yX1_init) (by decide +kernel)) rfl (by decide +kernel) ⟨Nat.le_of_ble_eq_true rfl, Nat.le_of_ble_eq_true rfl⟩) ⟨fun a U g mk q => by obtain ⟨q0, q1, qP, qK⟩ := q; exact ⟨q0, q1, qP, va_K.moved (u := U) (U := U.calling g mk a) (Vm.Alike.refl U.vm) qK⟩, fun U hU hW => ⟨rfl, by rw [hU], by rw [hU]; exact hP1, va_K.moved hW.alike hK⟩⟩ rfl rfl hl.1 rfl (lv_room (Nat.le_of_ble_eq_true rfl)) dL_law_12 ⟨Nat.le_of_ble_eq_true rfl, Nat.le_of_ble_eq_true rfl⟩) hS (fun q _ h => hF1 q h) hF1 (fun u t H3 locs3 ht3 hvm3 hw hB hz3 hk3 hS => ?_)
  obtain ⟨hv0, hvi, hvg, hRM⟩ := hw
  rw [ht3] at hB
  obtain ⟨a1, e1⟩ := u
  have hv0 : a1 0 = q1 := hv0
  have hvi : wInj 9 a1 := hvi
  have hvg : ∀ k, 1 ≤ k → k < 9 → H2.size ≤ a1 k := hvg
  have hP1 : va_P D clP (wl 9 a1 e1) H3 := hB
  have hlt0 : ∀ k, k < 82 → a0 k < H2.size := fun k hk => (wl_Pat hP0 hk).lt
  have hP0 : va_P D clP (wl 82 a0 e0) H3 := wl_kept hP0 (fun k hk => hk3 _ (hlt0 k hk) (fun h => h.elim (hap k hk) (fun h => absurd (hlt0 k hk) (by omega))))
  refine lv_astore_n (lv' := [(2, .ref q1), (1, .ref q0), (0, .ref b)]) hx hb dL_law_15 rfl hl (by decide) rfl (fun ls hl => ?_)
  refine lv_iconst (v := nI 1) hx hb dL_law_16 (by decide) ?_
  refine va_newaK (atype := .double) (N := 1) hx hb (hts (.arrayClass .double) (by decide +kernel)) rfl dL_law_17 rfl (nI_pos (by decide)) (nI_clamp (by decide)) (by decide +kernel) (Nat.le_of_ble_eq_true rfl) (Nat.le_of_ble_eq_true rfl) rfl (fun H4 cA hc4 hs4 ho4 hAr hNm => ?_)
  have hcA : cA = cy 0 := Option.some.inj (hNm.symm.trans (hK.2 0 _ rfl).2)
  subst hcA
  have hlt1 : ∀ k, k < 9 → a1 k < H3.size := fun k hk => (wl_Pat hP1 hk).lt
  have hlt0 : ∀ k, k < 82 → a0 k < H2.size ∧ a0 k < H3.size := fun k hk => ⟨hlt0 k hk, (wl_Pat hP0 hk).lt⟩
  refine W.eq (g2 := F0 m 19 ls [.ref H3.size]) rfl ?_
  refine lv_astore_n (lv' := [(3, .ref H3.size), (2, .ref q1), (1, .ref q0), (0, .ref b)]) hx hb dL_law_19 rfl hl (by decide) rfl (fun ls hl => ?_)
  refine lv_iconst (v := nI 0) hx hb dL_law_20 (by decide) ?_
  refine lv_istore (lv' := [(4, .int (nI 0)), (3, .ref H3.size), (2, .ref q1), (1, .ref q0), (0, .ref b)]) hx hb dL_law_21 hl (by decide) rfl (fun ls hl => ?_)
  -- one world
  obtain ⟨a, ha⟩ : ∃ a : Nat → Nat, a = fun k => if k < 82 then a0 k else if k = 82 then H3.size else a1 (k - 83) := ⟨_, rfl⟩
  obtain ⟨ee, hee⟩ : ∃ ee : Nat → va_E, ee = fun k => if k < 82 then e0 k else if k = 82 then .inl (cy 0, 1, .inr (.inr (.inr (.inl fun _ => FP.dconst0)))) else e1 (k - 83) := ⟨_, rfl⟩
  have aP : ∀ k, k < 82 → a k = a0 k ∧ ee k = e0 k := fun k hk => by rw [ha, hee]; exact ⟨if_pos hk, if_pos hk⟩
  have aO : a 82 = H3.size ∧ ee 82 = .inl (cy 0, 1, .inr (.inr (.inr (.inl fun _ => FP.dconst0)))) := by rw [ha, hee]; exact ⟨rfl, rfl⟩
  have aM : ∀ k, k < 9 → a (k + 83) = a1 k ∧ ee (k + 83) = e1 k := fun k hk => by
    rw [ha, hee]
    refine ⟨?_, ?_⟩
    · show (if k + 83 < 82 then _ else if k + 83 = 82 then _ else a1 (k + 83 - 83)) = _
      rw [if_neg (by omega), if_neg (by omega), Nat.add_sub_cancel]
    · show (if k + 83 < 82 then _ else if k + 83 = 82 then _ else e1 (k + 83 - 83)) = _
      rw [if_neg (by omega), if_neg (by omega), Nat.add_sub_cancel]
  clear ha hee
  have three : ∀ k, k < 92 → k < 82 ∨ k = 82 ∨ ∃ j, j < 9 ∧ k = j + 83 := fun k hk => by
    rcases Nat.lt_or_ge k 82 with h | h
    · exact Or.inl h
    · rcases Nat.eq_or_lt_of_le h with h | h
      · exact Or.inr (Or.inl h.symm)
      · exact Or.inr (Or.inr ⟨k - 83, by omega, by omega⟩)
  have hsep : ∀ i j, i < 82 → j < 9 → a0 i ≠ a1 j := fun i j hi hj h => by
    by_cases h0 : j = 0
    · rw [h0, hv0] at h; exact hap i hi h
    · have := hvg j (by omega) hj
      have := (hlt0 i hi).1
      omega
  have hinj : wInj 92 a := fun i j hi hj h => by
    rcases three i hi with h1 | h1 | ⟨u, hu, h1⟩ <;> rcases three j hj with h2 | h2 | ⟨v, hv, h2⟩
    · rw [(aP i h1).1, (aP j h2).1] at h; exact hui i j h1 h2 h
    · subst h2; rw [(aP i h1).1, aO.1] at h; have := (hlt0 i h1).2; omega
    · subst h2; rw [(aP i h1).1, (aM v hv).1] at h; exact absurd h (hsep i v h1 hv)
    · subst h1; rw [(aP j h2).1, aO.1] at h; have := (hlt0 j h2).2; omega
    · omega
    · subst h1; subst h2; rw [aO.1, (aM v hv).1] at h; have := hlt1 v hv; omega
    · subst h1; rw [(aP j h2).1, (aM u hu).1] at h; exact absurd h.symm (hsep j u h2 hu)
    · subst h1; subst h2; rw [aO.1, (aM u hu).1] at h; have := hlt1 u hu; omega
    · subst h1; subst h2; rw [(aM u hu).1, (aM v hv).1] at h; have := hvi u v hu hv h; omega
  have hA1 : ∀ k, k < 9 → A (a1 k) := fun k hk => by
    by_cases h : k = 0
    · rw [h, hv0]; exact hq1
    · exact hA _ (Nat.le_trans hsz2 (hvg k (by omega) hk))
  have hAa : ∀ k, k < 92 → A (a k) := fun k hk => by
    rcases three k hk with h1 | h1 | ⟨u, hu, h1⟩
    · rw [(aP k h1).1]; exact hA0 k h1
    · subst h1; rw [aO.1]; exact hA _ hS.1
    · subst h1; rw [(aM u hu).1]; exact hA1 u hu
  have hPa : va_P D clP (wl 92 a ee) H4 := wl_P (fun k hk => by
    rcases three k hk with h1 | h1 | ⟨u, hu, h1⟩
    · rw [(aP k h1).1, (aP k h1).2]
      exact (wl_Pat hP0 h1).kept (ho4 _ ((wl_Pat hP0 h1).lt))
    · subst h1
      rw [aO.1, aO.2]
      exact hc4
    · subst h1
      rw [(aM u hu).1, (aM u hu).2]
      exact (wl_Pat hP1 hu).kept (ho4 _ ((wl_Pat hP1 hu).lt)))
  have hS4 : va_S A s.heap H4 locs3 := ⟨Nat.le_trans hS.1 (by omega), fun x h1 h2 => (ho4 x (Nat.lt_of_lt_of_le h1 hS.1)).trans (hS.2.1 x h1 h2), hS.2.2⟩
  have hI : LI cy a ee := ⟨1, 0, 0, z1, z2, z2, fun _ => 0, z2, z2, z2, fun _ _ => 0, fun _ _ => 0, z1, z1, fun _ => 0, fun _ => 0, fun _ => FP.dconst0, RP_ext hRP (fun k hk => (aP k hk).2) (fun k hk => (aP k hk).1), RM_ext hRM (fun k hk => (aM k hk).2) (fun k hk => (aM k hk).1), by rw [aO.2]; exact ⟨_, rfl, fun _ _ => rfl⟩, by decide, by decide, WB_0, fun _ _ => (by decide : (0 : Nat) < 4)⟩
  have C : Cx p s m #[Value.ref b] c cL_law wsL_law RL D clP cy 92 9 a A := ⟨hx, hb, hml, hownL, hts, hK, hinj, hAa⟩
  refine W.widen (k := 100) (n := 700) (Nat.le_of_ble_eq_true rfl) (Nat.le_of_ble_eq_true rfl) ?_
  refine law_loop C hfl hX hsX hbl hbA hL hr hlocks hAs (L + 1) 0 ee 100 700 (by omega) (by omega) (by omega) (by omega) hI H4 locs3 ls hPa hS4 ?_
  have e0a : a 0 = q0 := (aP 0 (by omega)).1.trans hu0
  have e83a : a 83 = q1 := (aM 0 (by omega)).1.trans hv0
  rw [e0a, e83a, aO.1]
  exact lv_sub hl [4, 3, 2, 1, 0] rfl
