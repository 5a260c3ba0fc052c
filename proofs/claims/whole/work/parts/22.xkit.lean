/-! what a throw rests on -/
abbrev xI : String := "java/lang/IndexOutOfBoundsException"
abbrev xA : String := "java/lang/IllegalArgumentException"
abbrev xR : String := "java/lang/ArithmeticException"
abbrev xN : List String := ["java/lang/RuntimeException", "java/lang/Exception"]
def ngC : List (String × String) := [(xI, xI), (xA, xA), (xR, xR)]
def ngD : List MethodName := [Bundle.initS "java/lang/RuntimeException", Bundle.initS "java/lang/Exception", Bundle.initS Bundle.tN]
def ngW : List Cond := ngC.map (fun q => Cond.castable q.1 q.2) ++ ngD.map Cond.declares
def XT (A : Nat → Prop) (sg : Nat → Nat) (U : State) (H : Heap) : Prop :=
  vx_Zq Bundle.tN "UNASSIGNED_STACK" Bundle.steD A U H ∧ vx_Zq Bundle.tN "SUPPRESSED_SENTINEL" Bundle.listD A U H ∧ vk_R RX0 101 "no such place in the row" (sg 0) U ∧ vk_R RX0 106 "no such state" (sg 1) U ∧ vk_R RX0 91 "the total is 0" (sg 2) U ∧ (∀ q ∈ ngC, va_Nw (.castable q.1 q.2) U) ∧ (∀ q ∈ ngD, va_Nw (.declares q) U) ∧ va_Nc xA xI U ∧ va_Nc xR xI U ∧ va_Nc xR xA U
theorem XT.to {A : Nat → Prop} {sg : Nat → Nat} {s U : State} {H : Heap} {locs : List Loc} (h : XT A sg s s.heap) (hS : va_S A s.heap H locs) (hU : U.heap = H) (hW : s.WarmedH U.vm) : XT A sg U U.heap := by
  obtain ⟨h1, h2, h3, h4, h5, h6, h7, h8, h9, h10⟩ := h
  rw [hU]
  exact ⟨(h1.kept hS.2.1).moved hW.alike, (h2.kept hS.2.1).moved hW.alike, h3.warm hW, h4.warm hW, h5.warm hW, fun q hq => va_Nw.warmC hW (h6 q hq), fun q hq => va_Nw.warmD hW (h7 q hq), h8.moved hW.alike, h9.moved hW.alike, h10.moved hW.alike⟩
theorem XT.narrow {A A2 : Nat → Prop} {sg : Nat → Nat} {U : State} {H : Heap} (h : XT A sg U H) (hA : ∀ q, A2 q → A q) : XT A2 sg U H := by
  obtain ⟨h1, h2, h3⟩ := h
  exact ⟨h1.narrow hA, h2.narrow hA, h3⟩
theorem XT.calling {A : Nat → Prop} {sg : Nat → Nat} {U : State} {g : JFrame} {mk : MethodId} {v : Array Value} (h : XT A sg U U.heap) : XT A sg (U.calling g mk v) (U.calling g mk v).heap := by
  obtain ⟨h1, h2, h3, h4, h5, h6, h7, h8, h9, h10⟩ := h
  have hv : (U.calling g mk v).vm = U.vm := rfl
  have al : U.vm.Alike (U.calling g mk v).vm := Vm.Alike.refl U.vm
  exact ⟨h1.moved al, h2.moved al, h3.same hv, h4.same hv, h5.same hv, fun q hq => va_Nw.same rfl hv.symm (h6 q hq), fun q hq => va_Nw.same rfl hv.symm (h7 q hq), h8.moved al, h9.moved al, h10.moved al⟩
theorem XT.words {A : Nat → Prop} {sg : Nat → Nat} {U : State} {H : Heap} {args : Array Value} (h : XT A sg U H) : ∀ w ∈ ngW, w.before args U = true := by
  obtain ⟨-, -, -, -, -, h6, h7, -⟩ := h
  intro w hw
  rcases List.mem_append.mp hw with hw | hw
  · obtain ⟨q, hq, rfl⟩ := List.mem_map.mp hw
    exact va_Nw.use rfl (h6 q hq)
  · obtain ⟨q, hq, rfl⟩ := List.mem_map.mp hw
    exact va_Nw.use rfl (h7 q hq)
def gPcX (D : va_G) (cl : List vw_C) (cy : Nat → ClassId) (N : Nat) (a sg : Nat → Nat) (e : Nat → va_E) (av : List Value) : Array Value → State → Prop := va_Pc av (fun U => va_P D cl (wl N a e) U.heap ∧ va_K D cl (tys0 cy) U ∧ XT (wA N a) sg U U.heap)
def gBX (D : va_G) (cl : List vw_C) (N : Nat) (a : Nat → Nat) (px : String → (Nat → va_E) → Prop) : String → (Nat → va_E) → State → Prop := fun E u t => px E u ∧ va_P D cl (wl N a u) t.heap
theorem gPcX_blind {D : va_G} {cl : List vw_C} {cy : Nat → ClassId} {N : Nat} {a sg : Nat → Nat} {e : Nat → va_E} {av : List Value} : FrameBlind (gPcX D cl cy N a sg e av) := fun v U g mk q => by
  obtain ⟨q0, qP, qK, qX⟩ := q
  exact ⟨q0, qP, va_K.moved (u := U) (U := U.calling g mk v) (Vm.Alike.refl U.vm) qK, qX.calling⟩
abbrev gXC (D : va_G) (cl : List vw_C) (N : Nat) (a : Nat → Nat) (px : String → (Nat → va_E) → Prop) : String → State → State → Prop := vx_X (fun _ => True) (gBX D cl N a px) (wA N a)
section GX
variable {p : Program} {l : Launch} {en : Env} {R : Room} {s : State} {m : MethodId} {args : Array Value} {below : List Frame} {meth : Method} {c : Code} {cells slots mc ms : Nat} {D : va_G} {cl : List vw_C} {cy : Nat → ClassId} {N nL : Nat} {a sg : Nat → Nat} {e : Nat → va_E} {cc : ByteArray} {pc : Nat} {lv : List (Nat × Value)} {st : List Value} {Ts : List Cond} {own : String} {Qc : Array Value → State → Outcome → State → Prop} {px : String → (Nat → va_E) → Prop}
theorem g_metX {y : MethodName} {ws ws' : List Cond} {rm : Room} {maxL : Nat} {ret : Option FieldType} {av : List Value} {lv : List (Nat × Value)} (hy : plainName y.cls = true) (hw : ws = Cond.code y cc maxL ret :: ws') (hlen : (lg_sl av).length ≤ maxL) (hlv : lv_args 0 av = lv) (hi : wInj N a)
    (body : ∀ (p : Program) (en : Env) (s : State) (m : MethodId) (below : List Frame) (meth : Method) (c : Code), Cx p s m av.toArray c cc ws y.cls D cl cy N maxL a (wA N a) → (∀ x ∈ c.exceptionTable.toList, False) → XT (wA N a) sg s s.heap → meth.sig.returnType = ret → meth.locks = false → GW p l en rm s m av.toArray below meth c 0 0 (vx_MQ below Qc (gXC D cl N a px) av.toArray s mc ms (wA N a)) D cl N maxL a (wA N a) e 0 lv []) : vx_Met l y ws rm (gPcX D cl cy N a sg e av) Qc (gXC D cl N a px) mc ms (wA N a) := by
  refine vx_ofW (cc := cc) (maxL := maxL) (ret := ret) hy hw ?_
  intro p en s m args below meth c s₁ B hml hnt hv
  obtain ⟨rfl, hP, hK, hX⟩ := hv
  have hts := atoms_spec (ws := ws) B.pre
  have hown : s.vm.findClass y.cls = some m.cls := findClass_of_methodNamed B.named
  have hl := lv_entry av (n := maxL) hlen
  rw [lg_entry_eq]
  rw [hlv] at hl
  exact body p en s m below meth c ⟨B.exec, B.bytes, hml, hown, hts, hK, hi, fun k hk => ⟨k, hk, rfl⟩⟩ hnt hX B.returns B.notSynchronized s.heap [] _ hP va_S.rf hl
theorem g_dretX (C : Cx p s m args c cc Ts own D cl cy N nL a (wA N a)) {post : UInt64 → (Nat → va_E) → Prop} {v : UInt64} (hr : meth.sig.returnType = some .double) (hlocks : meth.locks = false) (hc : cells ≤ mc) (hs : slots ≤ ms) (hp : post v e) (hdg : decode cc pc = .ok (.dreturn, 1)) : GW p l en R s m args below meth c cells slots (vx_MQ below (va_Qd post (gB D cl N a) (wA N a)) (gXC D cl N a px) args s mc ms (wA N a)) D cl N nL a (wA N a) e pc lv [.double v] := fun H locs ls hP hS hl => W.widen hc hs (vx_ret (W.dret C.1 C.2.1 hr (fun t ht hW => ⟨⟨v, e, rfl, hp, by show va_P D cl (wl N a e) t.heap; rw [ht]; exact hP⟩, hS.F ht⟩) hS.2.2 hdg hlocks))
theorem g_vretX (C : Cx p s m args c cc Ts own D cl cy N nL a (wA N a)) {post : (Nat → va_E) → Prop} (hr : meth.sig.returnType = none) (hlocks : meth.locks = false) (hc : cells ≤ mc) (hs : slots ≤ ms) (hp : post e) (hdg : decode cc pc = .ok (.return_, 1)) : GW p l en R s m args below meth c cells slots (vx_MQ below (va_Qv post (gB D cl N a) (wA N a)) (gXC D cl N a px) args s mc ms (wA N a)) D cl N nL a (wA N a) e pc lv [] := fun H locs ls hP hS hl => W.widen hc hs (vx_ret (W.vret C.1 C.2.1 hr (fun t ht hW => ⟨⟨e, rfl, hp, by show va_P D cl (wl N a e) t.heap; rw [ht]; exact hP⟩, hS.F ht⟩) hS.2.2 hdg hlocks))
theorem g_throw (C : Cx p s m args c cc Ts own D cl cy N nL a (wA N a)) (hfl : l.stackTraces = false) (hnt : ∀ x ∈ c.exceptionTable.toList, False) (hX : XT (wA N a) sg s s.heap) (hlocks : meth.locks = false) {cls text : String} {ik is ic sa : Nat} (hcls : Bundle.fit cls = true) (hk : (Cond.classLink own ik cls).before args s = true) (hini : (Cond.initialized cls).before args s = true) (hstr : vk_R own is text sa s) (h1 : ∀ w ∈ (vx_atS own ic cls xN).filter goodWord, w ∈ Ts) (h2 : ∀ w ∈ (vx_atS own ic cls xN).filter (fun w => !goodWord w), w ∈ ngW) (hgood : ∀ w ∈ Cond.classLink own ik cls :: Cond.initialized cls :: vx_atS own ic cls xN, vx_ot w = true)
    (d0 : decode cc pc = .ok (.new ik, 3)) (d3 : decode cc (pc + 3) = .ok (.dup, 1)) (d4 : decode cc (pc + 4) = .ok (.ldc is, 2)) (d6 : decode cc (pc + 6) = .ok (.invokespecial ic, 3)) (d9 : decode cc (pc + 9) = .ok (.athrow, 1)) (hRf : 5 < R.frames) (hRl : (st.map fun v => v.category).sum + 82 ≤ R.locals) (hRc : cells + 1 ≤ R.cells) (hRs : slots + 6 ≤ R.slots) (hp : px cls e) (hc : cells + 1 ≤ mc) (hs : slots + 6 ≤ ms) : GW p l en R s m args below meth c cells slots (vx_MQ below Qc (gXC D cl N a px) args s mc ms (wA N a)) D cl N nL a (wA N a) e pc lv st := fun H locs ls hP hS hl =>
  vx_throwS (names := xN) C.1 C.2.1 hfl C.2.2.2.1 hcls (by decide +kernel) hk hini hstr (vx_hat (fun w hw => C.2.2.2.2.1 w (h1 w hw)) h2 hX.words) hgood hX.1 hX.2.1 hS (by rw [C.2.2.1]; exact hl.1) d0 d3 d4 d6 d9 (fun x hx => (hnt x hx).elim) hRf hRl hRc hRs hlocks
    (fun t hvm hz ho => ⟨e, trivial, ⟨hp, wl_kept hP (fun k hk => ho _ ((wl_Pat hP hk).lt))⟩, ⟨Nat.le_trans hS.1 hz, fun q h1 h2 => (ho q (Nat.lt_of_lt_of_le h1 hS.1)).trans (hS.2.1 q h1 h2)⟩⟩) hS.2.2 hc hs
theorem g_callvX (C : Cx p s m args c cc Ts own D cl cy N nL a (wA N a)) (hnt : ∀ x ∈ c.exceptionTable.toList, False) (hX : XT (wA N a) sg s s.heap) (hlocks : meth.locks = false) {Cn : String} {Tn : u_T} {NF ci index n : Nat} {fs : List Value} {y : MethodName} {bytes : ByteArray} {maxL : Nat} {ret : Option FieldType} {ws : List Cond} {rm : Room} {As rest : List Value} {post : (Nat → va_E) → Prop} {px1 : String → (Nat → va_E) → Prop} {kc ks : Nat} (cw : CallW R s args own Cn index y bytes maxL ret ws rm kc ks n) (hM : vx_Met l y ws rm (gPcX D cl cy N a sg e (.ref (a 0) :: As)) (va_Qv post (gB D cl N a) (wA N a)) (gXC D cl N a px1) kc ks (wA N a)) (h0 : 0 < N) (he : e 0 = .inr (ci, fs)) (hc : cl[ci]? = some (Cn, Tn, NF)) (hn : As.length = n) (hst : st = As.reverse ++ .ref (a 0) :: rest) (hroom : (rest.map fun v => v.category).sum ≤ 8) (hdg : decode cc pc = .ok (.invokevirtual index, 3)) (hcs : cells + kc ≤ R.cells ∧ slots + ks ≤ R.slots) (hmc : cells + kc ≤ mc ∧ slots + ks ≤ ms) (hpx : ∀ E u, px1 E u → px E u)
    (kk : ∀ (e1 : Nat → va_E), post e1 → GW p l en R s m args below meth c (cells + kc) (slots + ks) (vx_MQ below Qc (gXC D cl N a px) args s mc ms (wA N a)) D cl N nL a (wA N a) e1 (pc + 3) lv rest) : GW p l en R s m args below meth c cells slots (vx_MQ below Qc (gXC D cl N a px) args s mc ms (wA N a)) D cl N nL a (wA N a) e pc lv st := by
  intro H locs ls hP hS hl
  subst hst
  refine vx_callv (vx_runV (As := As) (rest := rest) (b := a 0) ⟨C.1, C.2.1, C.2.2.1, C.2.2.2.1, C.2.2.2.2.1⟩ hM cw ⟨gPcX_blind, va_recv C.2.2.2.2.2.1 hP hc (by rw [wl_at h0, he]), fun U hU hW => ⟨rfl, by rw [hU]; exact hP, va_K.moved hW.alike C.2.2.2.2.2.1, hX.to hS hU hW⟩⟩ rfl hn hl.1 rfl (lv_room hroom) hdg hcs) hS (fun q _ h => h) (fun q h => h) (fun q _ h => h) (fun E ce q9 u t H1 locs1 ht hvm _ hB hz1 hk1 hS1 hce hcv hcl => ?_) (fun u t H1 locs1 ht hvm hw hB hz1 hk1 hS1 => ?_)
  · exact vx_out (fun x hx => (hnt x hx).elim) hlocks hce hcv hcl (fun t2 ht2 _ => ⟨u, trivial, ⟨hpx E u hB.1, by rw [ht2, ← ht]; exact hB.2⟩, hS1.F ht2⟩) hS1.2.2 hmc.1 hmc.2
  · exact kk u hw H1 locs1 ls (by rw [← ht]; exact hB) hS1 hl
end GX
