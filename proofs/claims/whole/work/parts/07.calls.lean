section GC
variable {p : Program} {l : Launch} {en : Env} {R : Room} {s : State} {m : MethodId} {args : Array Value} {below : List Frame} {meth : Method} {c : Code} {cells slots : Nat} {Q : State → Prop} {D : va_G} {cl : List vw_C} {cy : Nat → ClassId} {N nL : Nat} {a : Nat → Nat} {A : Nat → Prop} {e : Nat → va_E} {cc : ByteArray} {pc : Nat} {lv : List (Nat × Value)} {st : List Value} {Ts : List Cond} {own : String}
/-- a method's start: its world, the classes -/
def gPc (D : va_G) (cl : List vw_C) (cy : Nat → ClassId) (N : Nat) (a : Nat → Nat) (e : Nat → va_E) (av : List Value) : Array Value → State → Prop := va_Pc av (fun U => va_P D cl (wl N a e) U.heap ∧ va_K D cl (tys0 cy) U)
def gB (D : va_G) (cl : List vw_C) (N : Nat) (a : Nat → Nat) : (Nat → va_E) → State → Prop := fun e t => va_P D cl (wl N a e) t.heap
theorem gPc_blind {av : List Value} : FrameBlind (gPc D cl cy N a e av) := fun v U g mk q => by
  obtain ⟨q0, qP, qK⟩ := q
  exact ⟨q0, qP, va_K.moved (u := U) (U := U.calling g mk v) (Vm.Alike.refl U.vm) qK⟩
theorem wl_kept {e : Nat → va_E} {H H1 : Heap} (hP : va_P D cl (wl N a e) H) (h : ∀ k, k < N → H1[a k]? = H[a k]?) : va_P D cl (wl N a e) H1 := hP.kept (fun k q hk => by
  obtain ⟨h1, rfl⟩ := wl_inv hk
  exact h k h1)
/-- a method out of its body -/
theorem g_met {y : MethodName} {ws ws' : List Cond} {rm : Room} {Qc : Array Value → State → Outcome → State → Prop} {maxL : Nat} {ret : Option FieldType} {av : List Value} {lv : List (Nat × Value)} (hy : plainName y.cls = true) (hw : ws = Cond.code y cc maxL ret :: ws') (hlen : (lg_sl av).length ≤ maxL) (hlv : lv_args 0 av = lv) (hi : wInj N a) (hA : ∀ k, k < N → A (a k))
    (body : ∀ (p : Program) (en : Env) (s : State) (m : MethodId) (below : List Frame) (meth : Method) (c : Code), Cx p s m av.toArray c cc ws y.cls D cl cy N maxL a A → meth.sig.returnType = ret → meth.locks = false → GW p l en rm s m av.toArray below meth c 0 0 (MQ below Qc av.toArray s 0 0 A) D cl N maxL a A e 0 lv []) : Met l y ws rm (gPc D cl cy N a e av) Qc 0 0 A := by
  refine Met.ofW (cc := cc) (maxL := maxL) (ret := ret) hy hw ?_
  intro p en s m args below meth c s₁ B hml hv
  obtain ⟨rfl, hP, hK⟩ := hv
  have hts := atoms_spec (ws := ws) B.pre
  have hown : s.vm.findClass y.cls = some m.cls := findClass_of_methodNamed B.named
  have hl := lv_entry av (n := maxL) hlen
  rw [lg_entry_eq]
  rw [hlv] at hl
  exact body p en s m below meth c ⟨B.exec, B.bytes, hml, hown, hts, hK, hi, hA⟩ B.returns B.notSynchronized s.heap [] _ hP va_S.rf hl

theorem g_iret (C : Cx p s m args c cc Ts own D cl cy N nL a A) {post : Int32 → (Nat → va_E) → Prop} {v : Int32} (hr : meth.sig.returnType = some .int) (hlocks : meth.locks = false) (hp : post v e) (hdg : decode cc pc = .ok (.ireturn, 1)) : GW p l en R s m args below meth c cells slots (MQ below (va_Qi post (gB D cl N a) A) args s cells slots A) D cl N nL a A e pc lv [.int v] := fun H locs ls hP hS hl => W.iret C.1 C.2.1 hr (fun t ht hW => ⟨⟨v, e, rfl, hp, by show va_P D cl (wl N a e) t.heap; rw [ht]; exact hP⟩, hS.F ht⟩) hS.2.2 hdg hlocks
theorem g_lret (C : Cx p s m args c cc Ts own D cl cy N nL a A) {post : Int64 → (Nat → va_E) → Prop} {v : Int64} (hr : meth.sig.returnType = some .long) (hlocks : meth.locks = false) (hp : post v e) (hdg : decode cc pc = .ok (.lreturn, 1)) : GW p l en R s m args below meth c cells slots (MQ below (va_Ql post (gB D cl N a) A) args s cells slots A) D cl N nL a A e pc lv [.long v] := fun H locs ls hP hS hl => W.lret C.1 C.2.1 hr (fun t ht hW => ⟨⟨v, e, rfl, hp, by show va_P D cl (wl N a e) t.heap; rw [ht]; exact hP⟩, hS.F ht⟩) hS.2.2 hdg hlocks
theorem g_dret (C : Cx p s m args c cc Ts own D cl cy N nL a A) {post : UInt64 → (Nat → va_E) → Prop} {v : UInt64} (hr : meth.sig.returnType = some .double) (hlocks : meth.locks = false) (hp : post v e) (hdg : decode cc pc = .ok (.dreturn, 1)) : GW p l en R s m args below meth c cells slots (MQ below (va_Qd post (gB D cl N a) A) args s cells slots A) D cl N nL a A e pc lv [.double v] := fun H locs ls hP hS hl => W.dret C.1 C.2.1 hr (fun t ht hW => ⟨⟨v, e, rfl, hp, by show va_P D cl (wl N a e) t.heap; rw [ht]; exact hP⟩, hS.F ht⟩) hS.2.2 hdg hlocks
theorem g_zret (C : Cx p s m args c cc Ts own D cl cy N nL a A) {post : Int32 → (Nat → va_E) → Prop} {v : Int32} {ty : FieldType} (hr : meth.sig.returnType = some ty) (hlocks : meth.locks = false) (hn : narrow ty (.int v) = .int v) (hp : post v e) (hdg : decode cc pc = .ok (.ireturn, 1)) : GW p l en R s m args below meth c cells slots (MQ below (va_Qi post (gB D cl N a) A) args s cells slots A) D cl N nL a A e pc lv [.int v] := fun H locs ls hP hS hl => W.zret C.1 C.2.1 hr hn (fun t ht hW => ⟨⟨v, e, rfl, hp, by show va_P D cl (wl N a e) t.heap; rw [ht]; exact hP⟩, hS.F ht⟩) hS.2.2 hdg hlocks
theorem g_vret (C : Cx p s m args c cc Ts own D cl cy N nL a A) {post : (Nat → va_E) → Prop} (hr : meth.sig.returnType = none) (hlocks : meth.locks = false) (hp : post e) (hdg : decode cc pc = .ok (.return_, 1)) : GW p l en R s m args below meth c cells slots (MQ below (va_Qv post (gB D cl N a) A) args s cells slots A) D cl N nL a A e pc lv [] := fun H locs ls hP hS hl => W.vret C.1 C.2.1 hr (fun t ht hW => ⟨⟨e, rfl, hp, by show va_P D cl (wl N a e) t.heap; rw [ht]; exact hP⟩, hS.F ht⟩) hS.2.2 hdg hlocks
theorem g_calli (C : Cx p s m args c cc Ts own D cl cy N nL a A) {Cn : String} {Tn : u_T} {NF ci index n : Nat} {fs : List Value} {y : MethodName} {bytes : ByteArray} {maxL : Nat} {ret : Option FieldType} {ws : List Cond} {rm : Room} {As rest : List Value} {post : Int32 → (Nat → va_E) → Prop} (cw : CallW R s args own Cn index y bytes maxL ret ws rm 0 0 n) (hM : Met l y ws rm (gPc D cl cy N a e (.ref (a 0) :: As)) (va_Qi post (gB D cl N a) (wA N a)) 0 0 (wA N a)) (h0 : 0 < N) (he : e 0 = .inr (ci, fs)) (hc : cl[ci]? = some (Cn, Tn, NF)) (hn : As.length = n) (hst : st = As.reverse ++ .ref (a 0) :: rest) (hroom : (rest.map fun v => v.category).sum ≤ 8) (hdg : decode cc pc = .ok (.invokevirtual index, 3)) (hcs : cells ≤ R.cells ∧ slots ≤ R.slots)
    (kk : ∀ (r : Int32) (e1 : Nat → va_E), post r e1 → GW p l en R s m args below meth c (cells) (slots) Q D cl N nL a A e1 (pc + 3) lv (.int r :: rest)) : GW p l en R s m args below meth c (cells) (slots) Q D cl N nL a A e (pc) lv (st) := by
  intro H locs ls hP hS hl
  subst hst
  have hA : ∀ q, wA N a q → A q := fun q h => by
    obtain ⟨k, hk, rfl⟩ := h
    exact C.2.2.2.2.2.2.2 k hk
  refine va_calli (va_runV (As := As) (rest := rest) (b := a 0) ⟨C.1, C.2.1, C.2.2.1, C.2.2.2.1, C.2.2.2.2.1⟩ hM cw ⟨gPc_blind, va_recv C.2.2.2.2.2.1 hP hc (by rw [wl_at h0, he]), fun U hU hW => ⟨rfl, by rw [hU]; exact hP, va_K.moved hW.alike C.2.2.2.2.2.1⟩⟩ rfl hn hl.1 rfl (lv_room hroom) hdg hcs) hS (fun q _ h => hA q h) hA (fun r u t H1 locs1 ht hvm hw hB hz1 hk1 hS1 => ?_)
  exact kk r u hw H1 locs1 ls (by rw [← ht]; exact hB) hS1 hl
theorem g_calll (C : Cx p s m args c cc Ts own D cl cy N nL a A) {Cn : String} {Tn : u_T} {NF ci index n : Nat} {fs : List Value} {y : MethodName} {bytes : ByteArray} {maxL : Nat} {ret : Option FieldType} {ws : List Cond} {rm : Room} {As rest : List Value} {post : Int64 → (Nat → va_E) → Prop} (cw : CallW R s args own Cn index y bytes maxL ret ws rm 0 0 n) (hM : Met l y ws rm (gPc D cl cy N a e (.ref (a 0) :: As)) (va_Ql post (gB D cl N a) (wA N a)) 0 0 (wA N a)) (h0 : 0 < N) (he : e 0 = .inr (ci, fs)) (hc : cl[ci]? = some (Cn, Tn, NF)) (hn : As.length = n) (hst : st = As.reverse ++ .ref (a 0) :: rest) (hroom : (rest.map fun v => v.category).sum ≤ 8) (hdg : decode cc pc = .ok (.invokevirtual index, 3)) (hcs : cells ≤ R.cells ∧ slots ≤ R.slots)
    (kk : ∀ (r : Int64) (e1 : Nat → va_E), post r e1 → GW p l en R s m args below meth c (cells) (slots) Q D cl N nL a A e1 (pc + 3) lv (.long r :: rest)) : GW p l en R s m args below meth c (cells) (slots) Q D cl N nL a A e (pc) lv (st) := by
  intro H locs ls hP hS hl
  subst hst
  have hA : ∀ q, wA N a q → A q := fun q h => by
    obtain ⟨k, hk, rfl⟩ := h
    exact C.2.2.2.2.2.2.2 k hk
  refine va_calll (va_runV (As := As) (rest := rest) (b := a 0) ⟨C.1, C.2.1, C.2.2.1, C.2.2.2.1, C.2.2.2.2.1⟩ hM cw ⟨gPc_blind, va_recv C.2.2.2.2.2.1 hP hc (by rw [wl_at h0, he]), fun U hU hW => ⟨rfl, by rw [hU]; exact hP, va_K.moved hW.alike C.2.2.2.2.2.1⟩⟩ rfl hn hl.1 rfl (lv_room hroom) hdg hcs) hS (fun q _ h => hA q h) hA (fun r u t H1 locs1 ht hvm hw hB hz1 hk1 hS1 => ?_)
  exact kk r u hw H1 locs1 ls (by rw [← ht]; exact hB) hS1 hl
theorem g_calld (C : Cx p s m args c cc Ts own D cl cy N nL a A) {Cn : String} {Tn : u_T} {NF ci index n : Nat} {fs : List Value} {y : MethodName} {bytes : ByteArray} {maxL : Nat} {ret : Option FieldType} {ws : List Cond} {rm : Room} {As rest : List Value} {post : UInt64 → (Nat → va_E) → Prop} (cw : CallW R s args own Cn index y bytes maxL ret ws rm 0 0 n) (hM : Met l y ws rm (gPc D cl cy N a e (.ref (a 0) :: As)) (va_Qd post (gB D cl N a) (wA N a)) 0 0 (wA N a)) (h0 : 0 < N) (he : e 0 = .inr (ci, fs)) (hc : cl[ci]? = some (Cn, Tn, NF)) (hn : As.length = n) (hst : st = As.reverse ++ .ref (a 0) :: rest) (hroom : (rest.map fun v => v.category).sum ≤ 8) (hdg : decode cc pc = .ok (.invokevirtual index, 3)) (hcs : cells ≤ R.cells ∧ slots ≤ R.slots)
    (kk : ∀ (r : UInt64) (e1 : Nat → va_E), post r e1 → GW p l en R s m args below meth c (cells) (slots) Q D cl N nL a A e1 (pc + 3) lv (.double r :: rest)) : GW p l en R s m args below meth c (cells) (slots) Q D cl N nL a A e (pc) lv (st) := by
  intro H locs ls hP hS hl
  subst hst
  have hA : ∀ q, wA N a q → A q := fun q h => by
    obtain ⟨k, hk, rfl⟩ := h
    exact C.2.2.2.2.2.2.2 k hk
  refine va_calld (va_runV (As := As) (rest := rest) (b := a 0) ⟨C.1, C.2.1, C.2.2.1, C.2.2.2.1, C.2.2.2.2.1⟩ hM cw ⟨gPc_blind, va_recv C.2.2.2.2.2.1 hP hc (by rw [wl_at h0, he]), fun U hU hW => ⟨rfl, by rw [hU]; exact hP, va_K.moved hW.alike C.2.2.2.2.2.1⟩⟩ rfl hn hl.1 rfl (lv_room hroom) hdg hcs) hS (fun q _ h => hA q h) hA (fun r u t H1 locs1 ht hvm hw hB hz1 hk1 hS1 => ?_)
  exact kk r u hw H1 locs1 ls (by rw [← ht]; exact hB) hS1 hl
theorem g_callv (C : Cx p s m args c cc Ts own D cl cy N nL a A) {Cn : String} {Tn : u_T} {NF ci index n : Nat} {fs : List Value} {y : MethodName} {bytes : ByteArray} {maxL : Nat} {ret : Option FieldType} {ws : List Cond} {rm : Room} {As rest : List Value} {post : (Nat → va_E) → Prop} (cw : CallW R s args own Cn index y bytes maxL ret ws rm 0 0 n) (hM : Met l y ws rm (gPc D cl cy N a e (.ref (a 0) :: As)) (va_Qv post (gB D cl N a) (wA N a)) 0 0 (wA N a)) (h0 : 0 < N) (he : e 0 = .inr (ci, fs)) (hc : cl[ci]? = some (Cn, Tn, NF)) (hn : As.length = n) (hst : st = As.reverse ++ .ref (a 0) :: rest) (hroom : (rest.map fun v => v.category).sum ≤ 8) (hdg : decode cc pc = .ok (.invokevirtual index, 3)) (hcs : cells ≤ R.cells ∧ slots ≤ R.slots)
    (kk : ∀ (e1 : Nat → va_E), post e1 → GW p l en R s m args below meth c (cells) (slots) Q D cl N nL a A e1 (pc + 3) lv (rest)) : GW p l en R s m args below meth c (cells) (slots) Q D cl N nL a A e (pc) lv (st) := by
  intro H locs ls hP hS hl
  subst hst
  have hA : ∀ q, wA N a q → A q := fun q h => by
    obtain ⟨k, hk, rfl⟩ := h
    exact C.2.2.2.2.2.2.2 k hk
  refine va_callv (va_runV (As := As) (rest := rest) (b := a 0) ⟨C.1, C.2.1, C.2.2.1, C.2.2.2.1, C.2.2.2.2.1⟩ hM cw ⟨gPc_blind, va_recv C.2.2.2.2.2.1 hP hc (by rw [wl_at h0, he]), fun U hU hW => ⟨rfl, by rw [hU]; exact hP, va_K.moved hW.alike C.2.2.2.2.2.1⟩⟩ rfl hn hl.1 rfl (lv_room hroom) hdg hcs) hS (fun q _ h => hA q h) hA (fun u t H1 locs1 ht hvm hw hB hz1 hk1 hS1 => ?_)
  exact kk u hw H1 locs1 ls (by rw [← ht]; exact hB) hS1 hl
theorem g_callSi (C : Cx p s m args c cc Ts own D cl cy N nL a A) {index n : Nat} {y : MethodName} {bytes : ByteArray} {maxL : Nat} {ret : Option FieldType} {ws : List Cond} {rm : Room} {As rest : List Value} {post : Int32 → Unit → Prop} (cw : CallB R s args own index y bytes maxL ret ws rm 0 0 n ∧ (Cond.static y).before args s = true) (hM : Met l y ws rm (va_Pc As (fun _ => True)) (va_Qi post (fun _ _ => True) (fun _ => False)) 0 0 (fun _ => False)) (hn : As.length = n) (hst : st = As.reverse ++ rest) (hroom : (rest.map fun v => v.category).sum ≤ 8) (hdg : decode cc pc = .ok (.invokestatic index, 3)) (hcs : cells ≤ R.cells ∧ slots ≤ R.slots)
    (kk : ∀ (r : Int32), post r () → GW p l en R s m args below meth c (cells) (slots) Q D cl N nL a A e (pc + 3) lv (.int r :: rest)) : GW p l en R s m args below meth c (cells) (slots) Q D cl N nL a A e (pc) lv (st) := by
  intro H locs ls hP hS hl
  subst hst
  refine va_calli (va_runS (As := As) (rest := rest) ⟨C.1, C.2.1, C.2.2.1, C.2.2.2.1, C.2.2.2.2.1⟩ hM cw ⟨fun a U g mk q => q, fun U hU hW => ⟨rfl, trivial⟩⟩ rfl hn hl.1 rfl (lv_room hroom) hdg hcs) hS (fun q _ h => h.elim) (fun q h => h.elim) (fun r u t H1 locs1 ht hvm hw hB hz1 hk1 hS1 => ?_)
  refine kk r hw H1 locs1 ls (wl_kept hP (fun k hk => hk1 _ ((wl_Pat hP hk).lt) (fun h => h))) hS1 hl
end GC
