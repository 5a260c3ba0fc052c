/-! parts of a world -/
def putS (e u : Nat → va_E) (off n : Nat) : Nat → va_E := fun k => if off ≤ k ∧ k < off + n then u (k - off) else e k
theorem putS_in {e u : Nat → va_E} {off n k : Nat} (h : k < n) : putS e u off n (k + off) = u k := by
  unfold putS
  rw [if_pos ⟨by omega, by omega⟩, Nat.add_sub_cancel]
theorem putS_out {e u : Nat → va_E} {off n k : Nat} (h : k < off ∨ off + n ≤ k) : putS e u off n k = e k := by
  unfold putS
  rw [if_neg (by omega)]
section PS
variable {D : va_G} {cl : List vw_C} {N off n : Nat} {a : Nat → Nat} {e u : Nat → va_E} {H H1 : Heap}
theorem sub_P (hP : va_P D cl (wl N a e) H) (h : off + n ≤ N) : va_P D cl (wl n (fun k => a (k + off)) (fun k => e (k + off))) H := wl_P (fun k hk => wl_Pat hP (k := k + off) (by omega))
theorem sub_inj (hi : wInj N a) (h : off + n ≤ N) : wInj n (fun k => a (k + off)) := fun i j h1 h2 h3 => by
  have := hi (i + off) (j + off) (by omega) (by omega) h3
  omega
theorem sub_A (h : off + n ≤ N) {q : Nat} (hq : wA n (fun k => a (k + off)) q) : wA N a q := by
  obtain ⟨k, hk, rfl⟩ := hq
  exact ⟨k + off, by omega, rfl⟩
theorem put_P (hP : va_P D cl (wl N a e) H) (hu : va_P D cl (wl n (fun k => a (k + off)) u) H1) (hi : wInj N a) (h : off + n ≤ N) (hk : ∀ q : Nat, q < H.size → ¬ wA n (fun k => a (k + off)) q → H1[q]? = H[q]?) : va_P D cl (wl N a (putS e u off n)) H1 := by
  refine wl_P (fun k hkN => ?_)
  by_cases hin : off ≤ k ∧ k < off + n
  · obtain ⟨j, rfl⟩ : ∃ j, k = j + off := ⟨k - off, by omega⟩
    rw [putS_in (by omega)]
    exact wl_Pat hu (k := j) (by omega)
  · rw [putS_out (by omega)]
    refine (wl_Pat hP hkN).kept (hk _ ((wl_Pat hP hkN).lt) (fun hq => ?_))
    obtain ⟨j, hj, hqe⟩ := hq
    have := hi k (j + off) hkN (by omega) hqe
    omega
end PS

theorem RP_ext {cy : Nat → ClassId} {a b : Nat → Nat} {e e2 : Nat → va_E} {n T : Nat} {S : Nat → UInt64} {M E : T2} {r : Nat → Nat} {F B V : T2} {G : Nat → Nat → Int32} {Cn : Nat → Nat → Int64} (h : RP cy a e n T S M E r F B V G Cn) (hk : ∀ k, k < 82 → e2 k = e k) (ha : ∀ k, k < 82 → b k = a k) : RP cy b e2 n T S M E r F B V G Cn := by
  obtain ⟨h0, hS, h2, h9, hr, h17, h30, h43, h56, h69, hM, hE, hF, hB, hV, hG, hC⟩ := h
  have hA : ∀ (t n c : Nat), c + n ≤ 82 → rA cy t n a c = rA cy t n b c := fun t n c hc => by
    unfold rA
    congr 7
    funext i
    by_cases hi : i < n
    · rw [if_pos hi, if_pos hi, ha _ (by omega)]
    · rw [if_neg hi, if_neg hi]
  refine ⟨by rw [hk 0 (by omega), h0, ha 1 (by omega), ha 2 (by omega), ha 9 (by omega), ha 16 (by omega), ha 17 (by omega), ha 30 (by omega), ha 43 (by omega), ha 56 (by omega), ha 69 (by omega)], by rw [hk 1 (by omega)]; exact hS, by rw [hk 2 (by omega), h2, hA _ _ _ (by omega)], by rw [hk 9 (by omega), h9, hA _ _ _ (by omega)], by rw [hk 16 (by omega)]; exact hr, by rw [hk 17 (by omega), h17, hA _ _ _ (by omega)], by rw [hk 30 (by omega), h30, hA _ _ _ (by omega)], by rw [hk 43 (by omega), h43, hA _ _ _ (by omega)], by rw [hk 56 (by omega), h56, hA _ _ _ (by omega)], by rw [hk 69 (by omega), h69, hA _ _ _ (by omega)], fun i hi => by rw [hk _ (by omega)]; exact hM i hi, fun i hi => by rw [hk _ (by omega)]; exact hE i hi, fun i hi => by rw [hk _ (by omega)]; exact hF i hi, fun i hi => by rw [hk _ (by omega)]; exact hB i hi, fun i hi => by rw [hk _ (by omega)]; exact hV i hi, fun i hi => by rw [hk _ (by omega)]; exact hG i hi, fun i hi => by rw [hk _ (by omega)]; exact hC i hi⟩
theorem RM_ext {cy : Nat → ClassId} {a b : Nat → Nat} {e e2 : Nat → va_E} {n T th : Nat} {S : Nat → UInt64} {M E : T2} {r : Nat → Nat} {nw od : Nat → UInt64} {cn bf : Nat → Int64} (h : RM cy a e n T th S M E r nw od cn bf) (hk : ∀ k, k < 9 → e2 k = e k) (ha : ∀ k, k < 9 → b k = a k) : RM cy b e2 n T th S M E r nw od cn bf := by
  obtain ⟨k0, kS, kM, kE, kr, k5, k6, k7, k8⟩ := h
  exact ⟨by rw [hk 0 (by omega), k0, ha 1 (by omega), ha 2 (by omega), ha 3 (by omega), ha 4 (by omega), ha 5 (by omega), ha 6 (by omega), ha 7 (by omega), ha 8 (by omega)], by rw [hk 1 (by omega)]; exact kS, by rw [hk 2 (by omega)]; exact kM, by rw [hk 3 (by omega)]; exact kE, by rw [hk 4 (by omega)]; exact kr, by rw [hk 5 (by omega)]; exact k5, by rw [hk 6 (by omega)]; exact k6, by rw [hk 7 (by omega)]; exact k7, by rw [hk 8 (by omega)]; exact k8⟩
section GS
variable {p : Program} {l : Launch} {en : Env} {R : Room} {s : State} {m : MethodId} {args : Array Value} {below : List Frame} {meth : Method} {c : Code} {cells slots : Nat} {Q : State → Prop} {D : va_G} {cl : List vw_C} {cy : Nat → ClassId} {N nL : Nat} {a sg : Nat → Nat} {A : Nat → Prop} {e : Nat → va_E} {cc : ByteArray} {pc : Nat} {lv : List (Nat × Value)} {st : List Value} {Ts : List Cond} {own : String}

theorem g_subdX (C : Cx p s m args c cc Ts own D cl cy N nL a A) (hX : XT A sg s s.heap) {Cn : String} {Tn : u_T} {NF ci index n1 off n : Nat} {fs : List Value} {y : MethodName} {bytes : ByteArray} {maxL : Nat} {ret : Option FieldType} {ws : List Cond} {rm : Room} {As rest : List Value} {post : UInt64 → (Nat → va_E) → Prop} {px1 : String → (Nat → va_E) → Prop} {kc ks : Nat} (cw : CallW R s args own Cn index y bytes maxL ret ws rm kc ks n1) (hM : vx_Met l y ws rm (gPcX D cl cy n (fun k => a (k + off)) sg (fun k => e (k + off)) (.ref (a off) :: As)) (va_Qd post (gB D cl n (fun k => a (k + off))) (wA n (fun k => a (k + off)))) (gXC D cl n (fun k => a (k + off)) px1) kc ks (wA n (fun k => a (k + off)))) (h0 : off + n ≤ N) (hn0 : 0 < n) (he : e off = .inr (ci, fs)) (hc : cl[ci]? = some (Cn, Tn, NF)) (hn : As.length = n1) (hst : st = As.reverse ++ .ref (a off) :: rest) (hroom : (rest.map fun v => v.category).sum ≤ 8) (hdg : decode cc pc = .ok (.invokevirtual index, 3)) (hcs : cells + kc ≤ R.cells ∧ slots + ks ≤ R.slots)
    (kx : ∀ (E : String) (ce : Cell) (q9 : Addr) (u : Nat → va_E) (H1 : Heap) (locs1 : List Loc) (ls : Array Slot), px1 E u → va_P D cl (wl N a (putS e u off n)) H1 → va_S A s.heap H1 locs1 → lv_has ls nL lv → H1[q9]? = some ce → ce.vm = .none → s.vm.findClass E = some ce.cls → vx_W p l en R s m args below meth c H1 locs1 (cells + kc) (slots + ks) Q (F0 m pc ls rest) q9)
    (kk : ∀ (r : UInt64) (u : Nat → va_E), post r u → GW p l en R s m args below meth c (cells + kc) (slots + ks) Q D cl N nL a A (putS e u off n) (pc + 3) lv (.double r :: rest)) : GW p l en R s m args below meth c (cells) (slots) Q D cl N nL a A e (pc) lv (st) := by
  intro H locs ls hP hS hl
  subst hst
  have hA : ∀ q, wA n (fun k => a (k + off)) q → A q := fun q h => by
    obtain ⟨k, hk, rfl⟩ := h
    exact C.2.2.2.2.2.2.2 (k + off) (by omega)
  refine vx_calld (vx_runV (As := As) (rest := rest) (b := a off) ⟨C.1, C.2.1, C.2.2.1, C.2.2.2.1, C.2.2.2.2.1⟩ hM cw ⟨gPcX_blind, va_recv C.2.2.2.2.2.1 hP hc (q0 := off) (by rw [wl_at (by omega), he]), fun U hU hW => ⟨rfl, by rw [hU]; exact sub_P hP h0, va_K.moved hW.alike C.2.2.2.2.2.1, (hX.to hS hU hW).narrow hA⟩⟩ rfl hn hl.1 rfl (lv_room hroom) hdg hcs) hS (fun q _ h => hA q h) hA (fun q _ h => hA q h) (fun E ce q9 u t H1 locs1 ht hvm _ hB hz1 hk1 hS1 hce hcv hcl => ?_) (fun r u t H1 locs1 ht hvm hw hB hz1 hk1 hS1 => ?_)
  · exact kx E ce q9 u H1 locs1 ls hB.1 (put_P hP (by rw [← ht]; exact hB.2) C.2.2.2.2.2.2.1 h0 hk1) hS1 hl hce hcv hcl
  · exact kk r u hw H1 locs1 ls (put_P hP (by rw [← ht]; exact hB) C.2.2.2.2.2.2.1 h0 hk1) hS1 hl
theorem g_subi (C : Cx p s m args c cc Ts own D cl cy N nL a A) {Cn : String} {Tn : u_T} {NF ci index n1 off n : Nat} {fs : List Value} {y : MethodName} {bytes : ByteArray} {maxL : Nat} {ret : Option FieldType} {ws : List Cond} {rm : Room} {As rest : List Value} {post : Int32 → (Nat → va_E) → Prop} (cw : CallW R s args own Cn index y bytes maxL ret ws rm 0 0 n1) (hM : Met l y ws rm (gPc D cl cy n (fun k => a (k + off)) (fun k => e (k + off)) (.ref (a off) :: As)) (va_Qi post (gB D cl n (fun k => a (k + off))) (wA n (fun k => a (k + off)))) 0 0 (wA n (fun k => a (k + off)))) (h0 : off + n ≤ N) (hn0 : 0 < n) (he : e off = .inr (ci, fs)) (hc : cl[ci]? = some (Cn, Tn, NF)) (hn : As.length = n1) (hst : st = As.reverse ++ .ref (a off) :: rest) (hroom : (rest.map fun v => v.category).sum ≤ 8) (hdg : decode cc pc = .ok (.invokevirtual index, 3)) (hcs : cells ≤ R.cells ∧ slots ≤ R.slots)
    (kk : ∀ (r : Int32) (u : Nat → va_E), post r u → GW p l en R s m args below meth c (cells) (slots) Q D cl N nL a A (putS e u off n) (pc + 3) lv (.int r :: rest)) : GW p l en R s m args below meth c (cells) (slots) Q D cl N nL a A e (pc) lv (st) := by
  intro H locs ls hP hS hl
  subst hst
  have hA : ∀ q, wA n (fun k => a (k + off)) q → A q := fun q h => by
    obtain ⟨k, hk, rfl⟩ := h
    exact C.2.2.2.2.2.2.2 (k + off) (by omega)
  refine va_calli (va_runV (As := As) (rest := rest) (b := a off) ⟨C.1, C.2.1, C.2.2.1, C.2.2.2.1, C.2.2.2.2.1⟩ hM cw ⟨gPc_blind, va_recv C.2.2.2.2.2.1 hP hc (q0 := off) (by rw [wl_at (by omega), he]), fun U hU hW => ⟨rfl, by rw [hU]; exact sub_P hP h0, va_K.moved hW.alike C.2.2.2.2.2.1⟩⟩ rfl hn hl.1 rfl (lv_room hroom) hdg hcs) hS (fun q _ h => hA q h) hA (fun r u t H1 locs1 ht hvm hw hB hz1 hk1 hS1 => ?_)
  exact kk r u hw H1 locs1 ls (put_P hP (by rw [← ht]; exact hB) C.2.2.2.2.2.2.1 h0 hk1) hS1 hl
theorem g_subl (C : Cx p s m args c cc Ts own D cl cy N nL a A) {Cn : String} {Tn : u_T} {NF ci index n1 off n : Nat} {fs : List Value} {y : MethodName} {bytes : ByteArray} {maxL : Nat} {ret : Option FieldType} {ws : List Cond} {rm : Room} {As rest : List Value} {post : Int64 → (Nat → va_E) → Prop} (cw : CallW R s args own Cn index y bytes maxL ret ws rm 0 0 n1) (hM : Met l y ws rm (gPc D cl cy n (fun k => a (k + off)) (fun k => e (k + off)) (.ref (a off) :: As)) (va_Ql post (gB D cl n (fun k => a (k + off))) (wA n (fun k => a (k + off)))) 0 0 (wA n (fun k => a (k + off)))) (h0 : off + n ≤ N) (hn0 : 0 < n) (he : e off = .inr (ci, fs)) (hc : cl[ci]? = some (Cn, Tn, NF)) (hn : As.length = n1) (hst : st = As.reverse ++ .ref (a off) :: rest) (hroom : (rest.map fun v => v.category).sum ≤ 8) (hdg : decode cc pc = .ok (.invokevirtual index, 3)) (hcs : cells ≤ R.cells ∧ slots ≤ R.slots)
    (kk : ∀ (r : Int64) (u : Nat → va_E), post r u → GW p l en R s m args below meth c (cells) (slots) Q D cl N nL a A (putS e u off n) (pc + 3) lv (.long r :: rest)) : GW p l en R s m args below meth c (cells) (slots) Q D cl N nL a A e (pc) lv (st) := by
  intro H locs ls hP hS hl
  subst hst
  have hA : ∀ q, wA n (fun k => a (k + off)) q → A q := fun q h => by
    obtain ⟨k, hk, rfl⟩ := h
    exact C.2.2.2.2.2.2.2 (k + off) (by omega)
  refine va_calll (va_runV (As := As) (rest := rest) (b := a off) ⟨C.1, C.2.1, C.2.2.1, C.2.2.2.1, C.2.2.2.2.1⟩ hM cw ⟨gPc_blind, va_recv C.2.2.2.2.2.1 hP hc (q0 := off) (by rw [wl_at (by omega), he]), fun U hU hW => ⟨rfl, by rw [hU]; exact sub_P hP h0, va_K.moved hW.alike C.2.2.2.2.2.1⟩⟩ rfl hn hl.1 rfl (lv_room hroom) hdg hcs) hS (fun q _ h => hA q h) hA (fun r u t H1 locs1 ht hvm hw hB hz1 hk1 hS1 => ?_)
  exact kk r u hw H1 locs1 ls (put_P hP (by rw [← ht]; exact hB) C.2.2.2.2.2.2.1 h0 hk1) hS1 hl
theorem g_subd (C : Cx p s m args c cc Ts own D cl cy N nL a A) {Cn : String} {Tn : u_T} {NF ci index n1 off n : Nat} {fs : List Value} {y : MethodName} {bytes : ByteArray} {maxL : Nat} {ret : Option FieldType} {ws : List Cond} {rm : Room} {As rest : List Value} {post : UInt64 → (Nat → va_E) → Prop} (cw : CallW R s args own Cn index y bytes maxL ret ws rm 0 0 n1) (hM : Met l y ws rm (gPc D cl cy n (fun k => a (k + off)) (fun k => e (k + off)) (.ref (a off) :: As)) (va_Qd post (gB D cl n (fun k => a (k + off))) (wA n (fun k => a (k + off)))) 0 0 (wA n (fun k => a (k + off)))) (h0 : off + n ≤ N) (hn0 : 0 < n) (he : e off = .inr (ci, fs)) (hc : cl[ci]? = some (Cn, Tn, NF)) (hn : As.length = n1) (hst : st = As.reverse ++ .ref (a off) :: rest) (hroom : (rest.map fun v => v.category).sum ≤ 8) (hdg : decode cc pc = .ok (.invokevirtual index, 3)) (hcs : cells ≤ R.cells ∧ slots ≤ R.slots)
    (kk : ∀ (r : UInt64) (u : Nat → va_E), post r u → GW p l en R s m args below meth c (cells) (slots) Q D cl N nL a A (putS e u off n) (pc + 3) lv (.double r :: rest)) : GW p l en R s m args below meth c (cells) (slots) Q D cl N nL a A e (pc) lv (st) := by
  intro H locs ls hP hS hl
  subst hst
  have hA : ∀ q, wA n (fun k => a (k + off)) q → A q := fun q h => by
    obtain ⟨k, hk, rfl⟩ := h
    exact C.2.2.2.2.2.2.2 (k + off) (by omega)
  refine va_calld (va_runV (As := As) (rest := rest) (b := a off) ⟨C.1, C.2.1, C.2.2.1, C.2.2.2.1, C.2.2.2.2.1⟩ hM cw ⟨gPc_blind, va_recv C.2.2.2.2.2.1 hP hc (q0 := off) (by rw [wl_at (by omega), he]), fun U hU hW => ⟨rfl, by rw [hU]; exact sub_P hP h0, va_K.moved hW.alike C.2.2.2.2.2.1⟩⟩ rfl hn hl.1 rfl (lv_room hroom) hdg hcs) hS (fun q _ h => hA q h) hA (fun r u t H1 locs1 ht hvm hw hB hz1 hk1 hS1 => ?_)
  exact kk r u hw H1 locs1 ls (put_P hP (by rw [← ht]; exact hB) C.2.2.2.2.2.2.1 h0 hk1) hS1 hl
theorem g_subSi (C : Cx p s m args c cc Ts own D cl cy N nL a A) (hX : XT A sg s s.heap) {index n1 off n : Nat} {y : MethodName} {bytes : ByteArray} {maxL : Nat} {ret : Option FieldType} {hh : List (Nat × Nat × Nat × Nat)} {ws : List Cond} {rm : Room} {As rest : List Value} {post : Int32 → (Nat → va_E) → Prop} {kc ks : Nat} (cw : vx_CSW R s args own index y bytes maxL ret hh ws rm kc ks n1) (hM : Met l y ws rm (gPcX D cl cy n (fun k => a (k + off)) sg (fun k => e (k + off)) As) (va_Qi post (gB D cl n (fun k => a (k + off))) (wA n (fun k => a (k + off)))) kc ks (wA n (fun k => a (k + off)))) (h0 : off + n ≤ N) (hn : As.length = n1) (hst : st = As.reverse ++ rest) (hroom : (rest.map fun v => v.category).sum ≤ 8) (hdg : decode cc pc = .ok (.invokestatic index, 3)) (hcs : cells + kc ≤ R.cells ∧ slots + ks ≤ R.slots)
    (kk : ∀ (r : Int32) (u : Nat → va_E), post r u → GW p l en R s m args below meth c (cells + kc) (slots + ks) Q D cl N nL a A (putS e u off n) (pc + 3) lv (.int r :: rest)) : GW p l en R s m args below meth c (cells) (slots) Q D cl N nL a A e (pc) lv (st) := by
  intro H locs ls hP hS hl
  subst hst
  have hA : ∀ q, wA n (fun k => a (k + off)) q → A q := fun q h => by
    obtain ⟨k, hk, rfl⟩ := h
    exact C.2.2.2.2.2.2.2 (k + off) (by omega)
  refine va_calli (vx_runSW (As := As) (rest := rest) ⟨C.1, C.2.1, C.2.2.1, C.2.2.2.1, C.2.2.2.2.1⟩ hM cw ⟨gPcX_blind, fun U hU hW => ⟨rfl, by rw [hU]; exact sub_P hP h0, va_K.moved hW.alike C.2.2.2.2.2.1, (hX.to hS hU hW).narrow hA⟩⟩ rfl hn hl.1 rfl (lv_room hroom) hdg hcs) hS (fun q _ h => hA q h) hA (fun r u t H1 locs1 ht hvm hw hB hz1 hk1 hS1 => ?_)
  exact kk r u hw H1 locs1 ls (put_P hP (by rw [← ht]; exact hB) C.2.2.2.2.2.2.1 h0 hk1) hS1 hl
theorem g_metW {y : MethodName} {ws ws' : List Cond} {rm : Room} {Qc : Array Value → State → Outcome → State → Prop} {maxL : Nat} {ret : Option FieldType} {av : List Value} {lv : List (Nat × Value)} {hh : List (Nat × Nat × Nat × Nat)} {mc ms : Nat} (hy : plainName y.cls = true) (hw : ws = Cond.codeWith y cc maxL ret hh :: ws') (hlen : (lg_sl av).length ≤ maxL) (hlv : lv_args 0 av = lv) (hi : wInj N a)
    (body : ∀ (p : Program) (en : Env) (s : State) (m : MethodId) (below : List Frame) (meth : Method) (c : Code), Cx p s m av.toArray c cc ws y.cls D cl cy N maxL a (wA N a) → c.exceptionTable.toList = tableOf hh → XT (wA N a) sg s s.heap → meth.sig.returnType = ret → meth.locks = false → GW p l en rm s m av.toArray below meth c 0 0 (MQ below Qc av.toArray s mc ms (wA N a)) D cl N maxL a (wA N a) e 0 lv []) : Met l y ws rm (gPcX D cl cy N a sg e av) Qc mc ms (wA N a) := by
  refine va_MetW (cc := cc) (maxL := maxL) (ret := ret) (hh := hh) hy hw ?_
  intro p en s m args below meth c s₁ B hml hv
  obtain ⟨rfl, hP, hK, hX⟩ := hv
  have hts := atoms_spec (ws := ws) B.pre
  have hown : s.vm.findClass y.cls = some m.cls := findClass_of_methodNamed B.named
  have htb : c.exceptionTable.toList = tableOf hh := vx_table (x := y) B (hts _ (by rw [hw]; exact List.mem_cons_self))
  have hl := lv_entry av (n := maxL) hlen
  rw [lg_entry_eq]
  rw [hlv] at hl
  exact body p en s m below meth c ⟨B.exec, B.bytes, hml, hown, hts, hK, hi, fun k hk => ⟨k, hk, rfl⟩⟩ htb hX B.returns B.notSynchronized s.heap [] _ hP va_S.rf hl
end GS

