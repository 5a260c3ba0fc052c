/-! constructors: worlds that grow -/
def extA (a : Nat → Nat) (N q : Nat) : Nat → Nat := fun k => if k < N then a k else q + (k - N)
def ext (e : Nat → va_E) (N : Nat) (f : Nat → va_E) : Nat → va_E := fun k => if k < N then e k else f (k - N)
theorem extA_lt {a : Nat → Nat} {N q k : Nat} (h : k < N) : extA a N q k = a k := if_pos h
theorem extA_ge {a : Nat → Nat} {N q k : Nat} : extA a N q (N + k) = q + k := by
  unfold extA
  rw [if_neg (by omega), Nat.add_sub_cancel_left]
theorem ext_lt {e : Nat → va_E} {N k : Nat} {f : Nat → va_E} (h : k < N) : ext e N f k = e k := if_pos h
theorem ext_ge {e : Nat → va_E} {N k : Nat} {f : Nat → va_E} : ext e N f (N + k) = f k := by
  unfold ext
  rw [if_neg (by omega), Nat.add_sub_cancel_left]
theorem rA_ext {cy : Nat → ClassId} {t n b N q : Nat} {a : Nat → Nat} (h : b + n ≤ N) : rA cy t n (extA a N q) b = rA cy t n a b := by
  unfold rA
  congr 7
  funext i
  by_cases hi : i < n
  · rw [if_pos hi, if_pos hi, extA_lt (by omega)]
  · rw [if_neg hi, if_neg hi]
theorem ext_inj {a : Nat → Nat} {N q m : Nat} (hi : wInj N a) (hq : ∀ k, k < N → a k < q) : wInj (N + m) (extA a N q) := by
  intro i j h1 h2 h
  unfold extA at h
  by_cases c1 : i < N <;> by_cases c2 : j < N
  · rw [if_pos c1, if_pos c2] at h
    exact hi i j c1 c2 h
  · rw [if_pos c1, if_neg c2] at h
    have := hq i c1
    omega
  · rw [if_neg c1, if_pos c2] at h
    have := hq j c2
    omega
  · rw [if_neg c1, if_neg c2] at h
    omega
theorem ext_world {D : va_G} {cl : List vw_C} {N m : Nat} {a : Nat → Nat} {e f : Nat → va_E} {H H1 : Heap} (hP : va_P D cl (wl N a e) H) (ho : ∀ x : Nat, x < H.size → H1[x]? = H[x]?) (hf : ∀ j, j < m → va_at D cl (H.size + j, f j) H1) : va_P D cl (wl (N + m) (extA a N H.size) (ext e N f)) H1 := by
  refine wl_P (fun k hk => ?_)
  by_cases h : k < N
  · rw [extA_lt h, ext_lt h]
    exact (wl_Pat hP h).kept (ho _ ((wl_Pat hP h).lt))
  · obtain ⟨j, rfl⟩ : ∃ j, k = N + j := ⟨k - N, by omega⟩
    rw [extA_ge, ext_ge]
    exact hf j (by omega)
theorem my_outer (c : ClassId) (N h0 : Nat) : Jvm.Free.Multi.outerC c N h0 N = arrV c N (fun j => va_rf (if j < N then some (h0 + 1 + j) else none)) := by
  have key : ∀ i : Nat, Jvm.Free.Multi.outerC c N h0 i = arrV c N (fun j => va_rf (if j < i then some (h0 + 1 + j) else none)) := fun i => by
    induction i with
    | zero =>
      show ({ cls := c, slots := Array.replicate N .null, vm := .none } : Cell) = _
      rw [arrV_new]
      refine congrArg (arrV c N) (funext fun j => ?_)
      simp [va_rf]
    | succ i ih =>
      show (Jvm.Free.Multi.outerC c N h0 i).setSlot i (.ref (h0 + 1 + i)) = _
      rw [ih, arrV_store]
      refine congrArg (arrV c N) (funext fun j => ?_)
      by_cases e : j = i
      · subst e
        simp [updV, va_rf]
      · by_cases h : j < i
        · simp [updV, e, h, Nat.lt_succ_of_lt h]
        · simp [updV, e, h, show ¬ j < i + 1 by omega]
  exact key N
def va_AOA (ty : FieldType) (U : State) : Prop := (Cond.arrayOver (.array ty)).before #[] U = true
section GN
variable {p : Program} {l : Launch} {en : Env} {R : Room} {s : State} {m : MethodId} {args : Array Value} {below : List Frame} {meth : Method} {c : Code} {cells slots : Nat} {Q : State → Prop} {D : va_G} {cl : List vw_C} {cy : Nat → ClassId} {N nL : Nat} {a : Nat → Nat} {A : Nat → Prop} {e : Nat → va_E} {cc : ByteArray} {pc : Nat} {lv : List (Nat × Value)} {st : List Value} {Ts : List Cond} {own : String}
theorem Cx.grow (C : Cx p s m args c cc Ts own D cl cy N nL a A) {q n : Nat} (hq : s.heap.size ≤ q) (hA : ∀ q, s.heap.size ≤ q → A q) (hlt : ∀ k, k < N → a k < q) : Cx p s m args c cc Ts own D cl cy (N + n) nL (extA a N q) A := by
  obtain ⟨h1, h2, h3, h4, h5, h6, h7, h8⟩ := C
  refine ⟨h1, h2, h3, h4, h5, h6, ext_inj h7 hlt, fun k hk => ?_⟩
  by_cases h : k < N
  · rw [extA_lt h]
    exact h8 k h
  · obtain ⟨j, rfl⟩ : ∃ j, k = N + j := ⟨k - N, by omega⟩
    rw [extA_ge]
    exact hA _ (by omega)
theorem g_newarr (C : Cx p s m args c cc Ts own D cl cy N nL a A) {atype : ArrayType} {t n : Nat} {x : vp_A} (harr : (Cond.arrayClass (newarray.typeOf atype)).before args s = true) (ht : (tys0 cy)[t]? = some (cy t, newarray.typeOf atype)) (hx : ∀ cA : ClassId, vp_cell cA x = arrV cA n (fun _ => defaultValue (newarray.typeOf atype))) (hn : n < 2 ^ 31) (hby : n * componentBytes (newarray.typeOf atype) ≤ 536870912) (hA : ∀ q, s.heap.size ≤ q → A q) (hcells : cells + 1 ≤ R.cells) (hslots : slots + n ≤ R.slots) (hdg : decode cc pc = .ok (.newarray atype, 2))
    (kk : ∀ q : Nat, s.heap.size ≤ q → Cx p s m args c cc Ts own D cl cy (N + 1) nL (extA a N q) A → GW p l en R s m args below meth c (cells + 1) (slots + n) Q D cl (N + 1) nL (extA a N q) A (ext e N (fun _ => .inl (cy t, x))) (pc + 2) lv (.ref q :: st)) : GW p l en R s m args below meth c cells slots Q D cl N nL a A e pc lv (.int (nI n) :: st) := by
  intro H locs ls hP hS hl
  refine va_newaK C.1 C.2.1 harr rfl hdg rfl (nI_pos hn) (nI_clamp hn) hby hcells hslots rfl (fun H1 cA e1 z1 o1 hAr hNm => ?_)
  have hra := (C.2.2.2.2.2.1.2 t _ ht).2
  have hcA : cA = cy t := by
    have h2 : s.vm.findClass ("[" ++ (newarray.typeOf atype).toString) = some (cy t) := by cases atype <;> exact hra
    exact Option.some.inj (hNm.symm.trans h2)
  subst hcA
  have hlt : ∀ k, k < N → a k < H.size := fun k hk => (wl_Pat hP hk).lt
  refine kk H.size hS.1 (C.grow hS.1 hA hlt) H1 locs ls (ext_world hP o1 (fun j hj => ?_)) ⟨Nat.le_trans hS.1 (by omega), fun x h1 h2 => (o1 x (Nat.lt_of_lt_of_le h1 hS.1)).trans (hS.2.1 x h1 h2), hS.2.2⟩ hl
  rw [show j = 0 by omega]
  show H1[H.size + 0]? = some (vp_cell _ _)
  rw [hx]
  exact e1
theorem g_mna (C : Cx p s m args c cc Ts own D cl cy N nL a A) {index t t2 n k : Nat} {ty : FieldType} {x : vp_A} (hclink : (Cond.classLink own index ("[" ++ (FieldType.array ty).toString)).before args s = true) (hover : va_AOA ty s) (harr : (Cond.arrayClass ty).before args s = true) (ht : (tys0 cy)[t]? = some (cy t, .array ty)) (hRA : s.vm.findClass (FieldType.array ty).toString = some (cy t2)) (hx : ∀ cA : ClassId, Jvm.Free.Multi.innerC cA k (defaultValue ty) = vp_cell cA x) (hn : n < 1000) (hk : k < 1000) (hb2 : k * componentBytes ty ≤ 536870912) (hdf : fits ty (defaultValue ty) = true) (hdd : (defaultValue ty).isDefault = true) (hA : ∀ q, s.heap.size ≤ q → A q) (hcells : cells + (1 + n) ≤ R.cells) (hslots : slots + (n + n * k) ≤ R.slots) (hdg : decode cc pc = .ok (.multianewarray index 2, 4))
    (kk : ∀ q : Nat, s.heap.size ≤ q → Cx p s m args c cc Ts own D cl cy (N + (1 + n)) nL (extA a N q) A → GW p l en R s m args below meth c (cells + 1 + n) (slots + n + n * k) Q D cl (N + (1 + n)) nL (extA a N q) A (ext e N (fun j => if j = 0 then rA cy t n (extA a N q) (N + 1) else .inl (cy t2, x))) (pc + 4) lv (.ref q :: st)) : GW p l en R s m args below meth c cells slots Q D cl N nL a A e pc lv (.int (nI k) :: .int (nI n) :: st) := by
  intro H locs ls hP hS hl
  intro T hT Xs
  have en1 : (nI n).toNatClampNeg = n := nI_clamp (by omega)
  have ek1 : (nI k).toNatClampNeg = k := nI_clamp (by omega)
  have hov : (Cond.arrayOver (.array ty)).before args s = true := hover
  obtain ⟨vm₁, cA, comp, -, fA1, fC1, hO, -, X', step⟩ := Xs.multianewarray2F C.1 C.2.2.2.1 hclink hov harr (g := F0 m pc ls (.int (nI k) :: .int (nI n) :: st)) rfl (by rw [C.2.1]; exact hdg) rfl (nI_pos (by omega)) (nI_pos (by omega)) (by rw [en1]; omega) (by rw [ek1]; exact hb2) (by rw [ek1]; omega) hdf hdd (by rw [en1]; exact hcells) (by rw [en1, ek1]; exact hslots)
  rw [en1, ek1] at X' step
  have ec : comp = cy t2 := Option.some.inj (fC1.symm.trans hRA)
  have eA : cA = cy t := Option.some.inj (fA1.symm.trans (C.2.2.2.2.2.1.2 t _ ht).2)
  subst ec
  subst eA
  generalize hF : Jvm.Free.Multi.fill (T.setVm vm₁) (cy t) (cy t2) n k (defaultValue ty) n = F at X' step
  have hTh : (T.setVm vm₁).heap = H := hT
  obtain ⟨f1, f2, -, -⟩ := Jvm.Free.Multi.fill_facts (T.setVm vm₁) (cy t) (cy t2) n k (defaultValue ty) n
  rw [hF, hTh] at f1 f2
  have hold : ∀ x : Nat, x < H.size → F.heap[x]? = H[x]? := fun x hx => by
    have := Jvm.Free.Multi.fill_old (T.setVm vm₁) (cy t) (cy t2) n k (defaultValue ty) (a := x) (by rw [hTh]; exact hx) n
    rw [hF, hTh] at this
    exact this
  have hrow : ∀ j : Nat, j < n → F.heap[H.size + 1 + j]? = some (vp_cell (cy t2) x) := fun j hj => by
    have := Jvm.Free.Multi.fill_inner (T.setVm vm₁) (cy t) (cy t2) n k (defaultValue ty) n j hj
    rw [hF, hTh, hx] at this
    exact this
  have hlt : ∀ k, k < N → a k < H.size := fun k hk => (wl_Pat hP hk).lt
  have hnew : ∀ j, j < 1 + n → va_at D cl (H.size + j, (fun j => if j = 0 then rA cy t n (extA a N H.size) (N + 1) else .inl (cy t2, x)) j) F.heap := fun j hj => by
    by_cases h0 : j = 0
    · subst h0
      show F.heap[H.size + 0]? = some (vp_cell (cy t) (n, .inr (.inr (.inr (.inr (fun i => if i < n then some (extA a N H.size (N + 1 + i)) else none))))))
      rw [show H.size + 0 = H.size from rfl, f2, vp_cell_q, my_outer]
      refine congrArg (fun z => some (arrV (cy t) n z)) (funext fun i => ?_)
      by_cases hi : i < n
      · rw [if_pos hi, if_pos hi, Nat.add_assoc N 1 i, extA_ge, Nat.add_assoc]
      · rw [if_neg hi, if_neg hi]
    · obtain ⟨i, rfl⟩ : ∃ i, j = 1 + i := ⟨j - 1, by omega⟩
      have h9 := hrow i (by omega)
      show va_at D cl (H.size + (1 + i), if 1 + i = 0 then _ else _) F.heap
      rw [if_neg (by omega), ← Nat.add_assoc]
      exact h9
  obtain ⟨t9, a1, b1⟩ := kk H.size hS.1 (C.grow hS.1 hA hlt) F.heap locs ls (ext_world hP hold hnew) ⟨by rw [f1]; have := hS.1; omega, fun x h1 h2 => (hold x (Nat.lt_of_lt_of_le h1 hS.1)).trans (hS.2.1 x h1 h2), hS.2.2⟩ hl F rfl X'
  refine ⟨t9, step t9 ?_, b1⟩
  have e9 : T.heap.size = H.size := by rw [hT]
  rw [e9]
  exact a1
theorem g_putF (C : Cx p s m args c cc Ts own D cl cy N nL a A) {Cn : String} {T : u_T} {NF ci index q0 : Nat} {fs fs2 : List Value} {v : Value} (k : Nat) (ty0 : Nat → FieldType) (hty : ∀ k, k < NF → parseFieldDescriptor (T k).2.2.1 = some (ty0 k)) (hnm : ∀ a, a < NF → ∀ b, b < NF → a ≠ b → (T a).2.1 ≠ (T b).2.1) (hin : ∀ w ∈ u_ws Cn T NF, w ∈ Ts) (hc : cl[ci]? = some (Cn, T, NF)) (hq0 : q0 < N) (he : e q0 = .inr (ci, fs)) (hk : k < NF) (hlink : (Cond.fieldLink own index (T k).1 (T k).2.1 (T k).2.2.1).before args s = true) (hfin : (T k).2.2.2 = true) (hin2 : meth.name = "<init>") (hdecl : (T k).1 = own) {ty : FieldType} (hd : parseFieldDescriptor (T k).2.2.1 = some ty) (hn : narrow ty v = v) (hfit : fits ty v = true) (hl : k < fs.length) (hfs : fs.set k v = fs2) {b0 : Nat} (hb0 : b0 = a q0) (hdg : decode cc pc = .ok (.putfield index, 3)) (kk : GW p l en R s m args below meth c cells slots Q D cl N nL a A (va_up e q0 (.inr (ci, fs2))) (pc + 3) lv st) : GW p l en R s m args below meth c cells slots Q D cl N nL a A e pc lv (v :: .ref b0 :: st) := by
  subst hb0
  subst hfs
  exact fun H locs ls hP hS hll => va_putF C.1 C.2.1 C.2.2.2.2.1 hin ty0 hty hnm C.2.2.2.1 C.2.2.2.2.2.1 hP (wl_D C.2.2.2.2.2.2.1 C.2.2.2.2.2.2.2) hS q0 (by rw [wl_at hq0, he]) hc k hk hlink (fun _ h => h) hfin hin2 hdecl hd hn hfit hl hdg (fun H1 locs1 hP1 hD1 hS1 => kk H1 locs1 ls (by rw [wl_set hq0] at hP1; exact hP1) hS1 hll)
theorem g_putI (C : Cx p s m args c cc Ts own D cl cy N nL a A) {Cn : String} {T : u_T} {NF ci index q0 : Nat} {fs fs2 : List Value} {v : Value} (k : Nat) (ty0 : Nat → FieldType) (hty : ∀ k, k < NF → parseFieldDescriptor (T k).2.2.1 = some (ty0 k)) (hnm : ∀ a, a < NF → ∀ b, b < NF → a ≠ b → (T a).2.1 ≠ (T b).2.1) (hin : ∀ w ∈ u_ws Cn T NF, w ∈ Ts) (hc : cl[ci]? = some (Cn, T, NF)) (hq0 : q0 < N) (he : e q0 = .inr (ci, fs)) (hk : k < NF) (hlink : (Cond.fieldLink own index (T k).1 (T k).2.1 (T k).2.2.1).before args s = true) (hfin : (T k).2.2.2 = false) {ty : FieldType} (hd : parseFieldDescriptor (T k).2.2.1 = some ty) (hn : narrow ty v = v) (hfit : fits ty v = true) (hl : k < fs.length) (hfs : fs.set k v = fs2) {b0 : Nat} (hb0 : b0 = a q0) (hdg : decode cc pc = .ok (.putfield index, 3)) (kk : GW p l en R s m args below meth c cells slots Q D cl N nL a A (va_up e q0 (.inr (ci, fs2))) (pc + 3) lv st) : GW p l en R s m args below meth c cells slots Q D cl N nL a A e pc lv (v :: .ref b0 :: st) := by
  subst hb0
  subst hfs
  exact g_put C k ty0 hty hnm hin hc hq0 he hk hlink hfin hd hn hfit hl hdg kk
end GN
