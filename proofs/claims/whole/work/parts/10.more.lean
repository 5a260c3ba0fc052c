section GC2
variable {p : Program} {l : Launch} {en : Env} {R : Room} {s : State} {m : MethodId} {args : Array Value} {below : List Frame} {meth : Method} {c : Code} {cells slots : Nat} {Q : State → Prop} {D : va_G} {cl : List vw_C} {cy : Nat → ClassId} {N nL : Nat} {a : Nat → Nat} {A : Nat → Prop} {e : Nat → va_E} {cc : ByteArray} {pc : Nat} {lv : List (Nat × Value)} {st : List Value} {Ts : List Cond} {own : String}

theorem g_callSz (C : Cx p s m args c cc Ts own D cl cy N nL a A) {index n : Nat} {y : MethodName} {bytes : ByteArray} {maxL : Nat} {ret : Option FieldType} {ws : List Cond} {rm : Room} {As rest : List Value} {post : Int32 → (Nat → va_E) → Prop} (cw : CallB R s args own index y bytes maxL ret ws rm 0 0 n ∧ (Cond.static y).before args s = true) (hM : Met l y ws rm (gPc D cl cy N a e As) (va_Qi post (gB D cl N a) (wA N a)) 0 0 (wA N a)) (hn : As.length = n) (hst : st = As.reverse ++ rest) (hroom : (rest.map fun v => v.category).sum ≤ 8) (hdg : decode cc pc = .ok (.invokestatic index, 3)) (hcs : cells ≤ R.cells ∧ slots ≤ R.slots)
    (kk : ∀ (r : Int32) (e1 : Nat → va_E), post r e1 → GW p l en R s m args below meth c cells slots Q D cl N nL a A e1 (pc + 3) lv (.int r :: rest)) : GW p l en R s m args below meth c cells slots Q D cl N nL a A e (pc) lv (st) := by
  intro H locs ls hP hS hl
  subst hst
  have hA : ∀ q, wA N a q → A q := fun q h => by
    obtain ⟨k, hk, rfl⟩ := h
    exact C.2.2.2.2.2.2.2 k hk
  refine va_calli (va_runS (As := As) (rest := rest) ⟨C.1, C.2.1, C.2.2.1, C.2.2.2.1, C.2.2.2.2.1⟩ hM cw ⟨gPc_blind, fun U hU hW => ⟨rfl, by rw [hU]; exact hP, va_K.moved hW.alike C.2.2.2.2.2.1⟩⟩ rfl hn hl.1 rfl (lv_room hroom) hdg hcs) hS (fun q _ h => hA q h) hA (fun r u t H1 locs1 ht hvm hw hB hz1 hk1 hS1 => ?_)
  exact kk r u hw H1 locs1 ls (by rw [← ht]; exact hB) hS1 hl
theorem g_putE (C : Cx p s m args c cc Ts own D cl cy N nL a A) {Cn : String} {T : u_T} {NF ci index q0 : Nat} {fs : List Value} {v : Value} (k : Nat) (ty0 : Nat → FieldType) (hty : ∀ k, k < NF → parseFieldDescriptor (T k).2.2.1 = some (ty0 k)) (hnm : ∀ a, a < NF → ∀ b, b < NF → a ≠ b → (T a).2.1 ≠ (T b).2.1) (hin : ∀ w ∈ u_ws Cn T NF, w ∈ Ts) (hc : cl[ci]? = some (Cn, T, NF)) (hq0 : q0 < N) (he : e q0 = .inr (ci, fs)) (hk : k < NF) (hlink : (Cond.fieldLink own index (T k).1 (T k).2.1 (T k).2.2.1).before args s = true) (hfin : (T k).2.2.2 = false) {ty : FieldType} (hd : parseFieldDescriptor (T k).2.2.1 = some ty) (hn : narrow ty v = v) (hfit : fits ty v = true) (hl : k < fs.length) (hdg : decode cc pc = .ok (.putfield index, 3)) (kk : ∀ e1 : Nat → va_E, e1 = va_up e q0 (.inr (ci, fs.set k v)) → GW p l en R s m args below meth c cells slots Q D cl N nL a A e1 (pc + 3) lv (st)) : GW p l en R s m args below meth c cells slots Q D cl N nL a A e (pc) lv (v :: .ref (a q0) :: st) := g_put C k ty0 hty hnm hin hc hq0 he hk hlink hfin hd hn hfit hl hdg (kk _ rfl)
end GC2
/-- z says whether x is one of 0 .. n - 1 -/
def inB (n : Nat) (x z : Int32) : Prop := (z = nI 1 ∧ ∃ j, j < n ∧ x = nI j) ∨ (z = nI 0 ∧ ¬ ∃ j, j < n ∧ x = nI j)
theorem inB_neg {n : Nat} {x : Int32} (hn : n ≤ 2 ^ 31) (h : x < 0) : ¬ ∃ j, j < n ∧ x = nI j := fun ⟨j, h1, h2⟩ => by
  subst h2
  exact nI_pos (by omega) h
theorem inB_big {n : Nat} {x : Int32} (hn : n < 2 ^ 31) (h : nI n ≤ x) : ¬ ∃ j, j < n ∧ x = nI j := fun ⟨j, h1, h2⟩ => by
  subst h2
  exact nI_ge h1 hn h
theorem inB_in {n : Nat} {x : Int32} (hn : n < 2 ^ 31) (h0 : ¬ x < 0) (h : ¬ nI n ≤ x) : ∃ j, j < n ∧ x = nI j := by
  rcases pk_ix x hn with q | q | q
  · exact absurd q h0
  · exact absurd q h
  · exact q
/-- z says whether w is a weight -/
def okB (w : UInt64) (z : Int32) : Prop := (z = nI 1 ∧ okW w) ∨ (z = nI 0 ∧ ¬ okW w)
theorem RP_to {cy : Nat → ClassId} {a : Nat → Nat} {e : Nat → va_E} {n T : Nat} {S S' : Nat → UInt64} {M E M' E' : T2} {r : Nat → Nat} {F B V : T2} {G : Nat → Nat → Int32} {Cn : Nat → Nat → Int64} (h : RP cy a e n T S M E r F B V G Cn) (h1 : ∀ i, i < 6 → S i = S' i) (h2 : ∀ i j, i < 6 → j < 6 → M i j = M' i j) (h3 : ∀ i j, i < 6 → j < 4 → E i j = E' i j) : RP cy a e n T S' M' E' r F B V G Cn := by
  obtain ⟨k0, kS, k2, k9, kr, k17, k30, k43, k56, k69, kM, kE, kF, kB, kV, kG, kC⟩ := h
  exact ⟨k0, kS.to h1, k2, k9, kr, k17, k30, k43, k56, k69, fun i hi => (kM i hi).to (fun j hj => h2 i j hi hj), fun i hi => (kE i hi).to (fun j hj => h3 i j hi hj), kF, kB, kV, kG, kC⟩
theorem RM_to {cy : Nat → ClassId} {a : Nat → Nat} {e : Nat → va_E} {n T th : Nat} {S S' : Nat → UInt64} {M E M' E' : T2} {r : Nat → Nat} {nw od : Nat → UInt64} {cn bf : Nat → Int64} (h : RM cy a e n T th S M E r nw od cn bf) (h1 : ∀ i, i < 6 → S i = S' i) (h2 : ∀ i j, i < 6 → j < 6 → M i j = M' i j) (h3 : ∀ i j, i < 6 → j < 4 → E i j = E' i j) : RM cy a e n T th S' M' E' r nw od cn bf := by
  obtain ⟨k0, kS, kM, kE, kr, k5, k6, k7, k8⟩ := h
  exact ⟨k0, kS.to h1, kM.to (fun j hj => h2 _ _ (by omega) (by omega)), kE.to (fun j hj => h3 _ _ (by omega) (by omega)), kr, k5, k6, k7, k8⟩
def z1 : Nat → UInt64 := fun _ => FP.dconst0
def z2 : T2 := fun _ _ => FP.dconst0

