theorem my_inner0 (c : ClassId) (k : Nat) : Jvm.Free.Multi.innerC c k (defaultValue .double) = vp_cell c (k, .inr (.inr (.inr (.inl fun _ => FP.dconst0)))) := by
  show ({ cls := c, slots := Array.replicate k (defaultValue .double), vm := .none } : Cell) = _
  rw [arrV_new]
  rfl
theorem my_inner1 (c : ClassId) (k : Nat) : Jvm.Free.Multi.innerC c k (defaultValue .int) = vp_cell c (k, .inl fun _ => nI 0) := by
  show ({ cls := c, slots := Array.replicate k (defaultValue .int), vm := .none } : Cell) = _
  rw [arrV_new]
  rfl
theorem my_inner2 (c : ClassId) (k : Nat) : Jvm.Free.Multi.innerC c k (defaultValue .long) = vp_cell c (k, .inr (.inl fun _ => 0)) := by
  show ({ cls := c, slots := Array.replicate k (defaultValue .long), vm := .none } : Cell) = _
  rw [arrV_new]
  rfl
section GO
variable {p : Program} {l : Launch} {en : Env} {R : Room} {s : State} {m : MethodId} {args : Array Value} {below : List Frame} {meth : Method} {c : Code} {cells slots : Nat} {Q : State → Prop} {D : va_G} {cl : List vw_C} {cy : Nat → ClassId} {N nL : Nat} {a : Nat → Nat} {A : Nat → Prop} {e : Nat → va_E} {cc : ByteArray} {pc : Nat} {lv : List (Nat × Value)} {st : List Value} {Ts : List Cond} {own : String}
theorem g_objInit (C : Cx p s m args c cc Ts own D cl cy N nL a A) {idx : Nat} {o : Nat} (hlink : (Cond.methodLink own idx objectInit).before args s = true) (hinst : (Cond.instanceMethod objectInit).before args s = true) (hcode : (Cond.code objectInit ⟨#[0xb1]⟩ 1 none).before args s = true) (hd : decode cc pc = .ok (.invokespecial idx, 3)) (hframes : 1 ≤ R.frames) (hlocals : (st.map fun v => v.category).sum + 12 ≤ R.locals) (kk : GW p l en R s m args below meth c cells slots Q D cl N nL a A e (pc + 3) lv st) : GW p l en R s m args below meth c cells slots Q D cl N nL a A e pc lv (.ref o :: st) := fun H locs ls hP hS hl => W.objInit C.1 C.2.1 C.2.2.2.1 hlink hinst hcode rfl (by rw [C.2.2.1]; exact hl.1) rfl hd hframes (by show 2 * 0 + _ + 12 ≤ _; omega) (kk H locs ls hP hS hl)
theorem g_widen {k n : Nat} (h1 : cells ≤ k) (h2 : slots ≤ n) (kk : GW p l en R s m args below meth c k n Q D cl N nL a A e pc lv st) : GW p l en R s m args below meth c cells slots Q D cl N nL a A e pc lv st := fun H locs ls hP hS hl => W.widen h1 h2 (kk H locs ls hP hS hl)
end GO

set_option maxHeartbeats 1000000 in
set_option maxRecDepth 100000 in
theorem c_X0_init (l : Launch) (D : va_G) (cy : Nat → ClassId) (o sz : Nat) : Met l yX0_init wsX0_init ({ frames := 1, cells := 81, slots := 510, locals := 12 }) (va_Pc [.ref o] (fun U => U.heap.size = sz ∧ va_P D clP [(o, .inr (0, [.null, .null, .null, .null, .int 0, .int 0, .null, .null, .null, .null, .null]))] U.heap ∧ va_K D clP (tys0 cy) U ∧ va_AOA .double U ∧ va_AOA .int U ∧ va_AOA .long U)) (va_Qv (fun (u : (Nat → Nat) × (Nat → va_E)) => u.1 0 = o ∧ wInj 82 u.1 ∧ (∀ k, 1 ≤ k → k < 82 → sz ≤ u.1 k) ∧ RP cy u.1 u.2 1 0 z1 z2 z2 (fun _ => 0) z2 z2 z2 (fun _ _ => 0) (fun _ _ => 0)) (fun u t => va_P D clP (wl 82 u.1 u.2) t.heap) (fun q => q = o ∨ sz ≤ q)) 81 510 (fun q => q = o ∨ sz ≤ q) := by
  refine Met.ofW (cc := cX0_init) (maxL := 1) (ret := none) (by decide) rfl ?_
  intro p en s m args below meth c s₁ B hml hv
  obtain ⟨rfl, hsz, hP0, hK, hO1, hO2, hO3⟩ := hv
  subst hsz
  have hx := B.exec
  have hb := B.bytes
  have hr := B.returns
  have hts := atoms_spec (ws := wsX0_init) B.pre
  have hown : s.vm.findClass RX0 = some m.cls := findClass_of_methodNamed B.named
  have hlocks := B.notSynchronized
  have hin2 : meth.name = "<init>" := (name_of_methodNamed B.named B.method).1
  have hin : ∀ w ∈ u_ws RX0 TX0 11, w ∈ wsX0_init := by decide +kernel
  have hl := lv_entry ([.ref o]) (n := 1) (Nat.le_of_ble_eq_true rfl)
  rw [lg_entry_eq]
  have hA : ∀ q : Nat, s.heap.size ≤ q → q = o ∨ s.heap.size ≤ q := fun _ h => Or.inr h
  have ho : o < s.heap.size := (hP0 0 _ rfl).lt
  obtain ⟨a, ha0⟩ : ∃ a : Nat → Nat, a = fun _ => o := ⟨_, rfl⟩
  obtain ⟨e, he0⟩ : ∃ e : Nat → va_E, e = fun _ => .inr (0, [.null, .null, .null, .null, .int 0, .int 0, .null, .null, .null, .null, .null]) := ⟨_, rfl⟩
  have hP : va_P D clP (wl 1 a e) s.heap := wl_P (fun k hk => by rw [ha0, he0]; exact hP0 0 _ rfl)
  have C : Cx p s m ([.ref o] : List Value).toArray c cX0_init wsX0_init RX0 D clP cy 1 1 a (fun q => q = o ∨ s.heap.size ≤ q) := ⟨hx, hb, hml, hown, hts, hK, fun i j h1 h2 _ => by omega, fun k _ => Or.inl (by rw [ha0])⟩
  have hsl : ∀ k, 1 ≤ k → k < 1 → s.heap.size ≤ a k := fun k h1 h2 => absurd h2 (by omega)
  have hz : a 0 = o := by rw [ha0]
  have h0 : e 0 = .inr (0, [.null, .null, .null, .null, .int 0, .int 0, .null, .null, .null, .null, .null]) := by rw [he0]
  suffices G0 : GW p l en ({ frames := 1, cells := 81, slots := 510, locals := 12 }) s m ([.ref o] : List Value).toArray below meth c 0 0 (MQ below (va_Qv (fun (u : (Nat → Nat) × (Nat → va_E)) => u.1 0 = o ∧ wInj 82 u.1 ∧ (∀ k, 1 ≤ k → k < 82 → s.heap.size ≤ u.1 k) ∧ RP cy u.1 u.2 1 0 z1 z2 z2 (fun _ => 0) z2 z2 z2 (fun _ _ => 0) (fun _ _ => 0)) (fun u t => va_P D clP (wl 82 u.1 u.2) t.heap) (fun q => q = o ∨ s.heap.size ≤ q)) ([.ref o] : List Value).toArray s 81 510 (fun q => q = o ∨ s.heap.size ≤ q)) D clP 1 1 a (fun q => q = o ∨ s.heap.size ≤ q) e 0 [(0, .ref o)] [] from G0 s.heap [] _ hP va_S.rf hl
  clear hP0 hP hl ha0 he0
  refine g_aload_n C dX0_init_0 rfl 0 rfl ?_
  refine g_objInit C (hts (.methodLink RX0 1 objectInit) (by decide +kernel)) (hts (.instanceMethod objectInit) (by decide +kernel)) (hts (.code objectInit ⟨#[0xb1]⟩ 1 none) (by decide +kernel)) dX0_init_1 (Nat.le_of_ble_eq_true rfl) (Nat.le_of_ble_eq_true rfl) ?_
  refine g_aload_n C dX0_init_4 rfl 0 rfl ?_
  refine g_bipush (v := nI 6) C dX0_init_5 (by decide) ?_
  refine g_newarr (atype := .double) (t := 0) (n := 6) (x := (6, .inr (.inr (.inr (.inl fun _ => FP.dconst0))))) C (hts (.arrayClass .double) (by decide +kernel)) rfl (fun _ => rfl) (by decide) (by decide +kernel) hA (Nat.le_of_ble_eq_true rfl) (Nat.le_of_ble_eq_true rfl) dX0_init_7 (fun q hq C => ?_)
  obtain ⟨e9, he9⟩ : ∃ e9, e9 = ext e 1 (fun _ => (.inl (cy 0, (6, .inr (.inr (.inr (.inl fun _ => FP.dconst0))))) : va_E)) := ⟨_, rfl⟩
  rw [← he9]
  have h0 := (show e9 0 = e 0 by rw [he9, ext_lt (by omega)]).trans h0
  have hsl : ∀ k, 1 ≤ k → k < 2 → s.heap.size ≤ extA a 1 q k := fun k h1 h2 => by
    by_cases hk : k < 1
    · rw [extA_lt hk]; exact hsl k h1 hk
    · obtain ⟨j, rfl⟩ : ∃ j, k = 1 + j := ⟨k - 1, by omega⟩
      rw [extA_ge]; omega
  have hz : extA a 1 q 0 = o := by rw [extA_lt (by omega)]; exact hz
  have hqa : q = extA a 1 q 1 := (extA_ge (k := 0)).symm
  have k1 : isD cy (e9 1) 6 z1 := by rw [he9]; exact ⟨_, ext_ge (k := 0), fun _ _ => rfl⟩
  clear he9
  have hold : ∀ k, k < 1 → a k = extA a 1 q k := fun k hk => (extA_lt hk).symm
  try simp only [hold 1 (by omega)] at h0
  clear hold
  generalize extA a 1 q = a at h0 hsl hz hqa C k1 ⊢
  generalize e9 = e at h0 k1 ⊢
  rw [hqa]
  refine g_putF (fs2 := [.ref (a 1), .null, .null, .null, .int 0, .int 0, .null, .null, .null, .null, .null]) C 0 tyX0 tyX0_ok nmX0 hin inl_pos0 (by decide) h0 (by decide) (hts (.fieldLink RX0 9 "PathOdds" "startWeights" "[D") (by decide +kernel)) rfl hin2 rfl (ty := .array .double) (by decide +kernel) rfl rfl (Nat.le_of_ble_eq_true rfl) rfl hz.symm dX0_init_9 ?_
  obtain ⟨e9, he9⟩ : ∃ e9, e9 = va_up e 0 (.inr (0, [.ref (a 1), .null, .null, .null, .int 0, .int 0, .null, .null, .null, .null, .null]) : va_E) := ⟨_, rfl⟩
  rw [← he9]
  have k1 : isD cy (e9 1) 6 z1 := by rw [he9, up_ne (by omega)]; exact k1
  have h0 : e9 0 = .inr (0, [.ref (a 1), .null, .null, .null, .int 0, .int 0, .null, .null, .null, .null, .null]) := by rw [he9]; exact up_eq
  clear he9
  generalize e9 = e at h0 k1 ⊢
  refine g_aload_n C dX0_init_12 rfl 0 rfl ?_
  refine g_bipush (v := nI 6) C dX0_init_13 (by decide) ?_
  refine g_bipush (v := nI 6) C dX0_init_15 (by decide) ?_
  refine g_mna (t := 3) (t2 := 0) (n := 6) (k := 6) (ty := .double) (x := (6, .inr (.inr (.inr (.inl fun _ => FP.dconst0))))) C (hts (.classLink RX0 13 "[[D") (by decide +kernel)) hO1 (hts (.arrayClass .double) (by decide +kernel)) rfl (hK.2 0 _ rfl).2 (fun _ => my_inner0 _ 6) (by decide) (by decide) (by decide +kernel) rfl rfl hA (Nat.le_of_ble_eq_true rfl) (Nat.le_of_ble_eq_true rfl) dX0_init_17 (fun q hq C => ?_)
  obtain ⟨e9, he9⟩ : ∃ e9, e9 = ext e 2 (fun j => if j = 0 then rA cy 3 6 (extA a 2 q) (2 + 1) else .inl (cy 0, (6, .inr (.inr (.inr (.inl fun _ => FP.dconst0)))))) := ⟨_, rfl⟩
  rw [← he9]
  have k1 : isD cy (e9 1) 6 z1 := by rw [he9, ext_lt (by omega)]; exact k1
  have h0 := (show e9 0 = e 0 by rw [he9, ext_lt (by omega)]).trans h0
  have hsl : ∀ k, 1 ≤ k → k < 9 → s.heap.size ≤ extA a 2 q k := fun k h1 h2 => by
    by_cases hk : k < 2
    · rw [extA_lt hk]; exact hsl k h1 hk
    · obtain ⟨j, rfl⟩ : ∃ j, k = 2 + j := ⟨k - 2, by omega⟩
      rw [extA_ge]; omega
  have hz : extA a 2 q 0 = o := by rw [extA_lt (by omega)]; exact hz
  have hqa : q = extA a 2 q 2 := (extA_ge (k := 0)).symm
  have k2 : e9 2 = rA cy 3 6 (extA a 2 q) 3 := by rw [he9]; exact ext_ge (k := 0)
  have k2r : ∀ i, i < 6 → isD cy (e9 (3 + i)) 6 (z2 i) := fun i hi => by rw [he9, show 3 + i = 2 + (1 + i) by omega]; exact ⟨_, ext_ge.trans (if_neg (by omega)), fun _ _ => rfl⟩
  clear he9
  have hold : ∀ k, k < 2 → a k = extA a 2 q k := fun k hk => (extA_lt hk).symm
  try simp only [hold 1 (by omega)] at h0
  clear hold
  generalize extA a 2 q = a at h0 hsl hz hqa C k1 k2 k2r ⊢
  generalize e9 = e at h0 k1 k2 k2r ⊢
  rw [hqa]
  refine g_putF (fs2 := [.ref (a 1), .ref (a 2), .null, .null, .int 0, .int 0, .null, .null, .null, .null, .null]) C 1 tyX0 tyX0_ok nmX0 hin inl_pos0 (by decide) h0 (by decide) (hts (.fieldLink RX0 15 "PathOdds" "moveWeights" "[[D") (by decide +kernel)) rfl hin2 rfl (ty := .array (.array .double)) (by decide +kernel) rfl rfl (Nat.le_of_ble_eq_true rfl) rfl hz.symm dX0_init_21 ?_
  obtain ⟨e9, he9⟩ : ∃ e9, e9 = va_up e 0 (.inr (0, [.ref (a 1), .ref (a 2), .null, .null, .int 0, .int 0, .null, .null, .null, .null, .null]) : va_E) := ⟨_, rfl⟩
  rw [← he9]
  have k1 : isD cy (e9 1) 6 z1 := by rw [he9, up_ne (by omega)]; exact k1
  have k2 : e9 2 = rA cy 3 6 a 3 := by rw [he9, up_ne (by omega)]; exact k2
  have k2r : ∀ i, i < 6 → isD cy (e9 (3 + i)) 6 (z2 i) := fun i hi => by rw [he9, up_ne (by omega)]; exact k2r i hi
  have h0 : e9 0 = .inr (0, [.ref (a 1), .ref (a 2), .null, .null, .int 0, .int 0, .null, .null, .null, .null, .null]) := by rw [he9]; exact up_eq
  clear he9
  generalize e9 = e at h0 k1 k2 k2r ⊢
  refine g_aload_n C dX0_init_24 rfl 0 rfl ?_
  refine g_bipush (v := nI 6) C dX0_init_25 (by decide) ?_
  refine g_iconst (v := nI 4) C dX0_init_27 (by decide) ?_
  refine g_mna (t := 3) (t2 := 0) (n := 6) (k := 4) (ty := .double) (x := (4, .inr (.inr (.inr (.inl fun _ => FP.dconst0))))) C (hts (.classLink RX0 13 "[[D") (by decide +kernel)) hO1 (hts (.arrayClass .double) (by decide +kernel)) rfl (hK.2 0 _ rfl).2 (fun _ => my_inner0 _ 4) (by decide) (by decide) (by decide +kernel) rfl rfl hA (Nat.le_of_ble_eq_true rfl) (Nat.le_of_ble_eq_true rfl) dX0_init_28 (fun q hq C => ?_)
  obtain ⟨e9, he9⟩ : ∃ e9, e9 = ext e 9 (fun j => if j = 0 then rA cy 3 6 (extA a 9 q) (9 + 1) else .inl (cy 0, (4, .inr (.inr (.inr (.inl fun _ => FP.dconst0)))))) := ⟨_, rfl⟩
  rw [← he9]
  have k1 : isD cy (e9 1) 6 z1 := by rw [he9, ext_lt (by omega)]; exact k1
  have k2 : e9 2 = rA cy 3 6 (extA a 9 q) 3 := by rw [he9, ext_lt (by omega), rA_ext (by omega)]; exact k2
  have k2r : ∀ i, i < 6 → isD cy (e9 (3 + i)) 6 (z2 i) := fun i hi => by rw [he9, ext_lt (by omega)]; exact k2r i hi
  have h0 := (show e9 0 = e 0 by rw [he9, ext_lt (by omega)]).trans h0
  have hsl : ∀ k, 1 ≤ k → k < 16 → s.heap.size ≤ extA a 9 q k := fun k h1 h2 => by
    by_cases hk : k < 9
    · rw [extA_lt hk]; exact hsl k h1 hk
    · obtain ⟨j, rfl⟩ : ∃ j, k = 9 + j := ⟨k - 9, by omega⟩
      rw [extA_ge]; omega
  have hz : extA a 9 q 0 = o := by rw [extA_lt (by omega)]; exact hz
  have hqa : q = extA a 9 q 9 := (extA_ge (k := 0)).symm
  have k9 : e9 9 = rA cy 3 6 (extA a 9 q) 10 := by rw [he9]; exact ext_ge (k := 0)
  have k9r : ∀ i, i < 6 → isD cy (e9 (10 + i)) 4 (z2 i) := fun i hi => by rw [he9, show 10 + i = 9 + (1 + i) by omega]; exact ⟨_, ext_ge.trans (if_neg (by omega)), fun _ _ => rfl⟩
  clear he9
  have hold : ∀ k, k < 9 → a k = extA a 9 q k := fun k hk => (extA_lt hk).symm
  try simp only [hold 1 (by omega)] at h0
  rw [hold 2 (by omega)] at h0
  clear hold
  generalize extA a 9 q = a at h0 hsl hz hqa C k1 k2 k2r k9 k9r ⊢
  generalize e9 = e at h0 k1 k2 k2r k9 k9r ⊢
  rw [hqa]
  refine g_putF (fs2 := [.ref (a 1), .ref (a 2), .ref (a 9), .null, .int 0, .int 0, .null, .null, .null, .null, .null]) C 2 tyX0 tyX0_ok nmX0 hin inl_pos0 (by decide) h0 (by decide) (hts (.fieldLink RX0 18 "PathOdds" "showWeights" "[[D") (by decide +kernel)) rfl hin2 rfl (ty := .array (.array .double)) (by decide +kernel) rfl rfl (Nat.le_of_ble_eq_true rfl) rfl hz.symm dX0_init_32 ?_
  obtain ⟨e9, he9⟩ : ∃ e9, e9 = va_up e 0 (.inr (0, [.ref (a 1), .ref (a 2), .ref (a 9), .null, .int 0, .int 0, .null, .null, .null, .null, .null]) : va_E) := ⟨_, rfl⟩
  rw [← he9]
  have k1 : isD cy (e9 1) 6 z1 := by rw [he9, up_ne (by omega)]; exact k1
  have k2 : e9 2 = rA cy 3 6 a 3 := by rw [he9, up_ne (by omega)]; exact k2
  have k2r : ∀ i, i < 6 → isD cy (e9 (3 + i)) 6 (z2 i) := fun i hi => by rw [he9, up_ne (by omega)]; exact k2r i hi
  have k9 : e9 9 = rA cy 3 6 a 10 := by rw [he9, up_ne (by omega)]; exact k9
  have k9r : ∀ i, i < 6 → isD cy (e9 (10 + i)) 4 (z2 i) := fun i hi => by rw [he9, up_ne (by omega)]; exact k9r i hi
  have h0 : e9 0 = .inr (0, [.ref (a 1), .ref (a 2), .ref (a 9), .null, .int 0, .int 0, .null, .null, .null, .null, .null]) := by rw [he9]; exact up_eq
  clear he9
  generalize e9 = e at h0 k1 k2 k2r k9 k9r ⊢
  refine g_aload_n C dX0_init_35 rfl 0 rfl ?_
  refine g_bipush (v := nI 12) C dX0_init_36 (by decide) ?_
  refine g_newarr (atype := .int) (t := 1) (n := 12) (x := (12, .inl fun _ => nI 0)) C (hts (.arrayClass .int) (by decide +kernel)) rfl (fun _ => rfl) (by decide) (by decide +kernel) hA (Nat.le_of_ble_eq_true rfl) (Nat.le_of_ble_eq_true rfl) dX0_init_38 (fun q hq C => ?_)
  obtain ⟨e9, he9⟩ : ∃ e9, e9 = ext e 16 (fun _ => (.inl (cy 1, (12, .inl fun _ => nI 0)) : va_E)) := ⟨_, rfl⟩
  rw [← he9]
  have k1 : isD cy (e9 1) 6 z1 := by rw [he9, ext_lt (by omega)]; exact k1
  have k2 : e9 2 = rA cy 3 6 (extA a 16 q) 3 := by rw [he9, ext_lt (by omega), rA_ext (by omega)]; exact k2
  have k2r : ∀ i, i < 6 → isD cy (e9 (3 + i)) 6 (z2 i) := fun i hi => by rw [he9, ext_lt (by omega)]; exact k2r i hi
  have k9 : e9 9 = rA cy 3 6 (extA a 16 q) 10 := by rw [he9, ext_lt (by omega), rA_ext (by omega)]; exact k9
  have k9r : ∀ i, i < 6 → isD cy (e9 (10 + i)) 4 (z2 i) := fun i hi => by rw [he9, ext_lt (by omega)]; exact k9r i hi
  have h0 := (show e9 0 = e 0 by rw [he9, ext_lt (by omega)]).trans h0
  have hsl : ∀ k, 1 ≤ k → k < 17 → s.heap.size ≤ extA a 16 q k := fun k h1 h2 => by
    by_cases hk : k < 16
    · rw [extA_lt hk]; exact hsl k h1 hk
    · obtain ⟨j, rfl⟩ : ∃ j, k = 16 + j := ⟨k - 16, by omega⟩
      rw [extA_ge]; omega
  have hz : extA a 16 q 0 = o := by rw [extA_lt (by omega)]; exact hz
  have hqa : q = extA a 16 q 16 := (extA_ge (k := 0)).symm
  have k16 : isI cy (e9 16) 12 (fun t => nI ((fun _ => 0) t)) := by rw [he9]; exact ⟨_, ext_ge (k := 0), fun _ _ => rfl⟩
  clear he9
  have hold : ∀ k, k < 16 → a k = extA a 16 q k := fun k hk => (extA_lt hk).symm
  try simp only [hold 1 (by omega)] at h0
  rw [hold 2 (by omega)] at h0
  rw [hold 9 (by omega)] at h0
  clear hold
  generalize extA a 16 q = a at h0 hsl hz hqa C k1 k2 k2r k9 k9r k16 ⊢
  generalize e9 = e at h0 k1 k2 k2r k9 k9r k16 ⊢
  rw [hqa]
  refine g_putF (fs2 := [.ref (a 1), .ref (a 2), .ref (a 9), .ref (a 16), .int 0, .int 0, .null, .null, .null, .null, .null]) C 3 tyX0 tyX0_ok nmX0 hin inl_pos0 (by decide) h0 (by decide) (hts (.fieldLink RX0 21 "PathOdds" "row" "[I") (by decide +kernel)) rfl hin2 rfl (ty := .array .int) (by decide +kernel) rfl rfl (Nat.le_of_ble_eq_true rfl) rfl hz.symm dX0_init_40 ?_
  obtain ⟨e9, he9⟩ : ∃ e9, e9 = va_up e 0 (.inr (0, [.ref (a 1), .ref (a 2), .ref (a 9), .ref (a 16), .int 0, .int 0, .null, .null, .null, .null, .null]) : va_E) := ⟨_, rfl⟩
  rw [← he9]
  have k1 : isD cy (e9 1) 6 z1 := by rw [he9, up_ne (by omega)]; exact k1
  have k2 : e9 2 = rA cy 3 6 a 3 := by rw [he9, up_ne (by omega)]; exact k2
  have k2r : ∀ i, i < 6 → isD cy (e9 (3 + i)) 6 (z2 i) := fun i hi => by rw [he9, up_ne (by omega)]; exact k2r i hi
  have k9 : e9 9 = rA cy 3 6 a 10 := by rw [he9, up_ne (by omega)]; exact k9
  have k9r : ∀ i, i < 6 → isD cy (e9 (10 + i)) 4 (z2 i) := fun i hi => by rw [he9, up_ne (by omega)]; exact k9r i hi
  have k16 : isI cy (e9 16) 12 (fun t => nI ((fun _ => 0) t)) := by rw [he9, up_ne (by omega)]; exact k16
  have h0 : e9 0 = .inr (0, [.ref (a 1), .ref (a 2), .ref (a 9), .ref (a 16), .int 0, .int 0, .null, .null, .null, .null, .null]) := by rw [he9]; exact up_eq
  clear he9
  generalize e9 = e at h0 k1 k2 k2r k9 k9r k16 ⊢
  refine g_aload_n C dX0_init_43 rfl 0 rfl ?_
  refine g_iconst (v := nI 1) C dX0_init_44 (by decide) ?_
  refine g_putI (fs2 := [.ref (a 1), .ref (a 2), .ref (a 9), .ref (a 16), .int (nI 1), .int 0, .null, .null, .null, .null, .null]) C 4 tyX0 tyX0_ok nmX0 hin inl_pos0 (by decide) h0 (by decide) (hts (.fieldLink RX0 25 "PathOdds" "stateCount" "I") (by decide +kernel)) rfl (ty := .int) (by decide +kernel) rfl rfl (Nat.le_of_ble_eq_true rfl) rfl hz.symm dX0_init_45 ?_
  obtain ⟨e9, he9⟩ : ∃ e9, e9 = va_up e 0 (.inr (0, [.ref (a 1), .ref (a 2), .ref (a 9), .ref (a 16), .int (nI 1), .int 0, .null, .null, .null, .null, .null]) : va_E) := ⟨_, rfl⟩
  rw [← he9]
  have k1 : isD cy (e9 1) 6 z1 := by rw [he9, up_ne (by omega)]; exact k1
  have k2 : e9 2 = rA cy 3 6 a 3 := by rw [he9, up_ne (by omega)]; exact k2
  have k2r : ∀ i, i < 6 → isD cy (e9 (3 + i)) 6 (z2 i) := fun i hi => by rw [he9, up_ne (by omega)]; exact k2r i hi
  have k9 : e9 9 = rA cy 3 6 a 10 := by rw [he9, up_ne (by omega)]; exact k9
  have k9r : ∀ i, i < 6 → isD cy (e9 (10 + i)) 4 (z2 i) := fun i hi => by rw [he9, up_ne (by omega)]; exact k9r i hi
  have k16 : isI cy (e9 16) 12 (fun t => nI ((fun _ => 0) t)) := by rw [he9, up_ne (by omega)]; exact k16
  have h0 : e9 0 = .inr (0, [.ref (a 1), .ref (a 2), .ref (a 9), .ref (a 16), .int (nI 1), .int 0, .null, .null, .null, .null, .null]) := by rw [he9]; exact up_eq
  clear he9
  generalize e9 = e at h0 k1 k2 k2r k9 k9r k16 ⊢
  refine g_aload_n C dX0_init_48 rfl 0 rfl ?_
  refine g_iconst (v := nI 0) C dX0_init_49 (by decide) ?_
  refine g_putI (fs2 := [.ref (a 1), .ref (a 2), .ref (a 9), .ref (a 16), .int (nI 1), .int (nI 0), .null, .null, .null, .null, .null]) C 5 tyX0 tyX0_ok nmX0 hin inl_pos0 (by decide) h0 (by decide) (hts (.fieldLink RX0 29 "PathOdds" "rowLength" "I") (by decide +kernel)) rfl (ty := .int) (by decide +kernel) rfl rfl (Nat.le_of_ble_eq_true rfl) rfl hz.symm dX0_init_50 ?_
  obtain ⟨e9, he9⟩ : ∃ e9, e9 = va_up e 0 (.inr (0, [.ref (a 1), .ref (a 2), .ref (a 9), .ref (a 16), .int (nI 1), .int (nI 0), .null, .null, .null, .null, .null]) : va_E) := ⟨_, rfl⟩
  rw [← he9]
  have k1 : isD cy (e9 1) 6 z1 := by rw [he9, up_ne (by omega)]; exact k1
  have k2 : e9 2 = rA cy 3 6 a 3 := by rw [he9, up_ne (by omega)]; exact k2
  have k2r : ∀ i, i < 6 → isD cy (e9 (3 + i)) 6 (z2 i) := fun i hi => by rw [he9, up_ne (by omega)]; exact k2r i hi
  have k9 : e9 9 = rA cy 3 6 a 10 := by rw [he9, up_ne (by omega)]; exact k9
  have k9r : ∀ i, i < 6 → isD cy (e9 (10 + i)) 4 (z2 i) := fun i hi => by rw [he9, up_ne (by omega)]; exact k9r i hi
  have k16 : isI cy (e9 16) 12 (fun t => nI ((fun _ => 0) t)) := by rw [he9, up_ne (by omega)]; exact k16
  have h0 : e9 0 = .inr (0, [.ref (a 1), .ref (a 2), .ref (a 9), .ref (a 16), .int (nI 1), .int (nI 0), .null, .null, .null, .null, .null]) := by rw [he9]; exact up_eq
  clear he9
  generalize e9 = e at h0 k1 k2 k2r k9 k9r k16 ⊢
  refine g_aload_n C dX0_init_53 rfl 0 rfl ?_
  refine g_bipush (v := nI 12) C dX0_init_54 (by decide) ?_
  refine g_bipush (v := nI 6) C dX0_init_56 (by decide) ?_
  refine g_mna (t := 3) (t2 := 0) (n := 12) (k := 6) (ty := .double) (x := (6, .inr (.inr (.inr (.inl fun _ => FP.dconst0))))) C (hts (.classLink RX0 13 "[[D") (by decide +kernel)) hO1 (hts (.arrayClass .double) (by decide +kernel)) rfl (hK.2 0 _ rfl).2 (fun _ => my_inner0 _ 6) (by decide) (by decide) (by decide +kernel) rfl rfl hA (Nat.le_of_ble_eq_true rfl) (Nat.le_of_ble_eq_true rfl) dX0_init_58 (fun q hq C => ?_)
  obtain ⟨e9, he9⟩ : ∃ e9, e9 = ext e 17 (fun j => if j = 0 then rA cy 3 12 (extA a 17 q) (17 + 1) else .inl (cy 0, (6, .inr (.inr (.inr (.inl fun _ => FP.dconst0)))))) := ⟨_, rfl⟩
  rw [← he9]
  have k1 : isD cy (e9 1) 6 z1 := by rw [he9, ext_lt (by omega)]; exact k1
  have k2 : e9 2 = rA cy 3 6 (extA a 17 q) 3 := by rw [he9, ext_lt (by omega), rA_ext (by omega)]; exact k2
  have k2r : ∀ i, i < 6 → isD cy (e9 (3 + i)) 6 (z2 i) := fun i hi => by rw [he9, ext_lt (by omega)]; exact k2r i hi
  have k9 : e9 9 = rA cy 3 6 (extA a 17 q) 10 := by rw [he9, ext_lt (by omega), rA_ext (by omega)]; exact k9
  have k9r : ∀ i, i < 6 → isD cy (e9 (10 + i)) 4 (z2 i) := fun i hi => by rw [he9, ext_lt (by omega)]; exact k9r i hi
  have k16 : isI cy (e9 16) 12 (fun t => nI ((fun _ => 0) t)) := by rw [he9, ext_lt (by omega)]; exact k16
  have h0 := (show e9 0 = e 0 by rw [he9, ext_lt (by omega)]).trans h0
  have hsl : ∀ k, 1 ≤ k → k < 30 → s.heap.size ≤ extA a 17 q k := fun k h1 h2 => by
    by_cases hk : k < 17
    · rw [extA_lt hk]; exact hsl k h1 hk
    · obtain ⟨j, rfl⟩ : ∃ j, k = 17 + j := ⟨k - 17, by omega⟩
      rw [extA_ge]; omega
  have hz : extA a 17 q 0 = o := by rw [extA_lt (by omega)]; exact hz
  have hqa : q = extA a 17 q 17 := (extA_ge (k := 0)).symm
  have k17 : e9 17 = rA cy 3 12 (extA a 17 q) 18 := by rw [he9]; exact ext_ge (k := 0)
  have k17r : ∀ i, i < 12 → isD cy (e9 (18 + i)) 6 (z2 i) := fun i hi => by rw [he9, show 18 + i = 17 + (1 + i) by omega]; exact ⟨_, ext_ge.trans (if_neg (by omega)), fun _ _ => rfl⟩
  clear he9
  have hold : ∀ k, k < 17 → a k = extA a 17 q k := fun k hk => (extA_lt hk).symm
  try simp only [hold 1 (by omega)] at h0
  rw [hold 2 (by omega)] at h0
  rw [hold 9 (by omega)] at h0
  rw [hold 16 (by omega)] at h0
  clear hold
  generalize extA a 17 q = a at h0 hsl hz hqa C k1 k2 k2r k9 k9r k16 k17 k17r ⊢
  generalize e9 = e at h0 k1 k2 k2r k9 k9r k16 k17 k17r ⊢
  rw [hqa]
  refine g_putF (fs2 := [.ref (a 1), .ref (a 2), .ref (a 9), .ref (a 16), .int (nI 1), .int (nI 0), .ref (a 17), .null, .null, .null, .null]) C 6 tyX0 tyX0_ok nmX0 hin inl_pos0 (by decide) h0 (by decide) (hts (.fieldLink RX0 32 "PathOdds" "forwardOdds" "[[D") (by decide +kernel)) rfl hin2 rfl (ty := .array (.array .double)) (by decide +kernel) rfl rfl (Nat.le_of_ble_eq_true rfl) rfl hz.symm dX0_init_62 ?_
  obtain ⟨e9, he9⟩ : ∃ e9, e9 = va_up e 0 (.inr (0, [.ref (a 1), .ref (a 2), .ref (a 9), .ref (a 16), .int (nI 1), .int (nI 0), .ref (a 17), .null, .null, .null, .null]) : va_E) := ⟨_, rfl⟩
  rw [← he9]
  have k1 : isD cy (e9 1) 6 z1 := by rw [he9, up_ne (by omega)]; exact k1
  have k2 : e9 2 = rA cy 3 6 a 3 := by rw [he9, up_ne (by omega)]; exact k2
  have k2r : ∀ i, i < 6 → isD cy (e9 (3 + i)) 6 (z2 i) := fun i hi => by rw [he9, up_ne (by omega)]; exact k2r i hi
  have k9 : e9 9 = rA cy 3 6 a 10 := by rw [he9, up_ne (by omega)]; exact k9
  have k9r : ∀ i, i < 6 → isD cy (e9 (10 + i)) 4 (z2 i) := fun i hi => by rw [he9, up_ne (by omega)]; exact k9r i hi
  have k16 : isI cy (e9 16) 12 (fun t => nI ((fun _ => 0) t)) := by rw [he9, up_ne (by omega)]; exact k16
  have k17 : e9 17 = rA cy 3 12 a 18 := by rw [he9, up_ne (by omega)]; exact k17
  have k17r : ∀ i, i < 12 → isD cy (e9 (18 + i)) 6 (z2 i) := fun i hi => by rw [he9, up_ne (by omega)]; exact k17r i hi
  have h0 : e9 0 = .inr (0, [.ref (a 1), .ref (a 2), .ref (a 9), .ref (a 16), .int (nI 1), .int (nI 0), .ref (a 17), .null, .null, .null, .null]) := by rw [he9]; exact up_eq
  clear he9
  generalize e9 = e at h0 k1 k2 k2r k9 k9r k16 k17 k17r ⊢
  refine g_aload_n C dX0_init_65 rfl 0 rfl ?_
  refine g_bipush (v := nI 12) C dX0_init_66 (by decide) ?_
  refine g_bipush (v := nI 6) C dX0_init_68 (by decide) ?_
  refine g_mna (t := 3) (t2 := 0) (n := 12) (k := 6) (ty := .double) (x := (6, .inr (.inr (.inr (.inl fun _ => FP.dconst0))))) C (hts (.classLink RX0 13 "[[D") (by decide +kernel)) hO1 (hts (.arrayClass .double) (by decide +kernel)) rfl (hK.2 0 _ rfl).2 (fun _ => my_inner0 _ 6) (by decide) (by decide) (by decide +kernel) rfl rfl hA (Nat.le_of_ble_eq_true rfl) (Nat.le_of_ble_eq_true rfl) dX0_init_70 (fun q hq C => ?_)
  obtain ⟨e9, he9⟩ : ∃ e9, e9 = ext e 30 (fun j => if j = 0 then rA cy 3 12 (extA a 30 q) (30 + 1) else .inl (cy 0, (6, .inr (.inr (.inr (.inl fun _ => FP.dconst0)))))) := ⟨_, rfl⟩
  rw [← he9]
  have k1 : isD cy (e9 1) 6 z1 := by rw [he9, ext_lt (by omega)]; exact k1
  have k2 : e9 2 = rA cy 3 6 (extA a 30 q) 3 := by rw [he9, ext_lt (by omega), rA_ext (by omega)]; exact k2
  have k2r : ∀ i, i < 6 → isD cy (e9 (3 + i)) 6 (z2 i) := fun i hi => by rw [he9, ext_lt (by omega)]; exact k2r i hi
  have k9 : e9 9 = rA cy 3 6 (extA a 30 q) 10 := by rw [he9, ext_lt (by omega), rA_ext (by omega)]; exact k9
  have k9r : ∀ i, i < 6 → isD cy (e9 (10 + i)) 4 (z2 i) := fun i hi => by rw [he9, ext_lt (by omega)]; exact k9r i hi
  have k16 : isI cy (e9 16) 12 (fun t => nI ((fun _ => 0) t)) := by rw [he9, ext_lt (by omega)]; exact k16
  have k17 : e9 17 = rA cy 3 12 (extA a 30 q) 18 := by rw [he9, ext_lt (by omega), rA_ext (by omega)]; exact k17
  have k17r : ∀ i, i < 12 → isD cy (e9 (18 + i)) 6 (z2 i) := fun i hi => by rw [he9, ext_lt (by omega)]; exact k17r i hi
  have h0 := (show e9 0 = e 0 by rw [he9, ext_lt (by omega)]).trans h0
  have hsl : ∀ k, 1 ≤ k → k < 43 → s.heap.size ≤ extA a 30 q k := fun k h1 h2 => by
    by_cases hk : k < 30
    · rw [extA_lt hk]; exact hsl k h1 hk
    · obtain ⟨j, rfl⟩ : ∃ j, k = 30 + j := ⟨k - 30, by omega⟩
      rw [extA_ge]; omega
  have hz : extA a 30 q 0 = o := by rw [extA_lt (by omega)]; exact hz
  have hqa : q = extA a 30 q 30 := (extA_ge (k := 0)).symm
  have k30 : e9 30 = rA cy 3 12 (extA a 30 q) 31 := by rw [he9]; exact ext_ge (k := 0)
  have k30r : ∀ i, i < 12 → isD cy (e9 (31 + i)) 6 (z2 i) := fun i hi => by rw [he9, show 31 + i = 30 + (1 + i) by omega]; exact ⟨_, ext_ge.trans (if_neg (by omega)), fun _ _ => rfl⟩
  clear he9
  have hold : ∀ k, k < 30 → a k = extA a 30 q k := fun k hk => (extA_lt hk).symm
  try simp only [hold 1 (by omega)] at h0
  rw [hold 2 (by omega)] at h0
  rw [hold 9 (by omega)] at h0
  rw [hold 16 (by omega)] at h0
  rw [hold 17 (by omega)] at h0
  clear hold
  generalize extA a 30 q = a at h0 hsl hz hqa C k1 k2 k2r k9 k9r k16 k17 k17r k30 k30r ⊢
  generalize e9 = e at h0 k1 k2 k2r k9 k9r k16 k17 k17r k30 k30r ⊢
  rw [hqa]
  refine g_putF (fs2 := [.ref (a 1), .ref (a 2), .ref (a 9), .ref (a 16), .int (nI 1), .int (nI 0), .ref (a 17), .ref (a 30), .null, .null, .null]) C 7 tyX0 tyX0_ok nmX0 hin inl_pos0 (by decide) h0 (by decide) (hts (.fieldLink RX0 35 "PathOdds" "backwardOdds" "[[D") (by decide +kernel)) rfl hin2 rfl (ty := .array (.array .double)) (by decide +kernel) rfl rfl (Nat.le_of_ble_eq_true rfl) rfl hz.symm dX0_init_74 ?_
  obtain ⟨e9, he9⟩ : ∃ e9, e9 = va_up e 0 (.inr (0, [.ref (a 1), .ref (a 2), .ref (a 9), .ref (a 16), .int (nI 1), .int (nI 0), .ref (a 17), .ref (a 30), .null, .null, .null]) : va_E) := ⟨_, rfl⟩
  rw [← he9]
  have k1 : isD cy (e9 1) 6 z1 := by rw [he9, up_ne (by omega)]; exact k1
  have k2 : e9 2 = rA cy 3 6 a 3 := by rw [he9, up_ne (by omega)]; exact k2
  have k2r : ∀ i, i < 6 → isD cy (e9 (3 + i)) 6 (z2 i) := fun i hi => by rw [he9, up_ne (by omega)]; exact k2r i hi
  have k9 : e9 9 = rA cy 3 6 a 10 := by rw [he9, up_ne (by omega)]; exact k9
  have k9r : ∀ i, i < 6 → isD cy (e9 (10 + i)) 4 (z2 i) := fun i hi => by rw [he9, up_ne (by omega)]; exact k9r i hi
  have k16 : isI cy (e9 16) 12 (fun t => nI ((fun _ => 0) t)) := by rw [he9, up_ne (by omega)]; exact k16
  have k17 : e9 17 = rA cy 3 12 a 18 := by rw [he9, up_ne (by omega)]; exact k17
  have k17r : ∀ i, i < 12 → isD cy (e9 (18 + i)) 6 (z2 i) := fun i hi => by rw [he9, up_ne (by omega)]; exact k17r i hi
  have k30 : e9 30 = rA cy 3 12 a 31 := by rw [he9, up_ne (by omega)]; exact k30
  have k30r : ∀ i, i < 12 → isD cy (e9 (31 + i)) 6 (z2 i) := fun i hi => by rw [he9, up_ne (by omega)]; exact k30r i hi
  have h0 : e9 0 = .inr (0, [.ref (a 1), .ref (a 2), .ref (a 9), .ref (a 16), .int (nI 1), .int (nI 0), .ref (a 17), .ref (a 30), .null, .null, .null]) := by rw [he9]; exact up_eq
  clear he9
  generalize e9 = e at h0 k1 k2 k2r k9 k9r k16 k17 k17r k30 k30r ⊢
  refine g_aload_n C dX0_init_77 rfl 0 rfl ?_
  refine g_bipush (v := nI 12) C dX0_init_78 (by decide) ?_
  refine g_bipush (v := nI 6) C dX0_init_80 (by decide) ?_
  refine g_mna (t := 3) (t2 := 0) (n := 12) (k := 6) (ty := .double) (x := (6, .inr (.inr (.inr (.inl fun _ => FP.dconst0))))) C (hts (.classLink RX0 13 "[[D") (by decide +kernel)) hO1 (hts (.arrayClass .double) (by decide +kernel)) rfl (hK.2 0 _ rfl).2 (fun _ => my_inner0 _ 6) (by decide) (by decide) (by decide +kernel) rfl rfl hA (Nat.le_of_ble_eq_true rfl) (Nat.le_of_ble_eq_true rfl) dX0_init_82 (fun q hq C => ?_)
  obtain ⟨e9, he9⟩ : ∃ e9, e9 = ext e 43 (fun j => if j = 0 then rA cy 3 12 (extA a 43 q) (43 + 1) else .inl (cy 0, (6, .inr (.inr (.inr (.inl fun _ => FP.dconst0)))))) := ⟨_, rfl⟩
  rw [← he9]
  have k1 : isD cy (e9 1) 6 z1 := by rw [he9, ext_lt (by omega)]; exact k1
  have k2 : e9 2 = rA cy 3 6 (extA a 43 q) 3 := by rw [he9, ext_lt (by omega), rA_ext (by omega)]; exact k2
  have k2r : ∀ i, i < 6 → isD cy (e9 (3 + i)) 6 (z2 i) := fun i hi => by rw [he9, ext_lt (by omega)]; exact k2r i hi
  have k9 : e9 9 = rA cy 3 6 (extA a 43 q) 10 := by rw [he9, ext_lt (by omega), rA_ext (by omega)]; exact k9
  have k9r : ∀ i, i < 6 → isD cy (e9 (10 + i)) 4 (z2 i) := fun i hi => by rw [he9, ext_lt (by omega)]; exact k9r i hi
  have k16 : isI cy (e9 16) 12 (fun t => nI ((fun _ => 0) t)) := by rw [he9, ext_lt (by omega)]; exact k16
  have k17 : e9 17 = rA cy 3 12 (extA a 43 q) 18 := by rw [he9, ext_lt (by omega), rA_ext (by omega)]; exact k17
  have k17r : ∀ i, i < 12 → isD cy (e9 (18 + i)) 6 (z2 i) := fun i hi => by rw [he9, ext_lt (by omega)]; exact k17r i hi
  have k30 : e9 30 = rA cy 3 12 (extA a 43 q) 31 := by rw [he9, ext_lt (by omega), rA_ext (by omega)]; exact k30
  have k30r : ∀ i, i < 12 → isD cy (e9 (31 + i)) 6 (z2 i) := fun i hi => by rw [he9, ext_lt (by omega)]; exact k30r i hi
  have h0 := (show e9 0 = e 0 by rw [he9, ext_lt (by omega)]).trans h0
  have hsl : ∀ k, 1 ≤ k → k < 56 → s.heap.size ≤ extA a 43 q k := fun k h1 h2 => by
    by_cases hk : k < 43
    · rw [extA_lt hk]; exact hsl k h1 hk
    · obtain ⟨j, rfl⟩ : ∃ j, k = 43 + j := ⟨k - 43, by omega⟩
      rw [extA_ge]; omega
  have hz : extA a 43 q 0 = o := by rw [extA_lt (by omega)]; exact hz
  have hqa : q = extA a 43 q 43 := (extA_ge (k := 0)).symm
  have k43 : e9 43 = rA cy 3 12 (extA a 43 q) 44 := by rw [he9]; exact ext_ge (k := 0)
  have k43r : ∀ i, i < 12 → isD cy (e9 (44 + i)) 6 (z2 i) := fun i hi => by rw [he9, show 44 + i = 43 + (1 + i) by omega]; exact ⟨_, ext_ge.trans (if_neg (by omega)), fun _ _ => rfl⟩
  clear he9
  have hold : ∀ k, k < 43 → a k = extA a 43 q k := fun k hk => (extA_lt hk).symm
  try simp only [hold 1 (by omega)] at h0
  rw [hold 2 (by omega)] at h0
  rw [hold 9 (by omega)] at h0
  rw [hold 16 (by omega)] at h0
  rw [hold 17 (by omega)] at h0
  rw [hold 30 (by omega)] at h0
  clear hold
  generalize extA a 43 q = a at h0 hsl hz hqa C k1 k2 k2r k9 k9r k16 k17 k17r k30 k30r k43 k43r ⊢
  generalize e9 = e at h0 k1 k2 k2r k9 k9r k16 k17 k17r k30 k30r k43 k43r ⊢
  rw [hqa]
  refine g_putF (fs2 := [.ref (a 1), .ref (a 2), .ref (a 9), .ref (a 16), .int (nI 1), .int (nI 0), .ref (a 17), .ref (a 30), .ref (a 43), .null, .null]) C 8 tyX0 tyX0_ok nmX0 hin inl_pos0 (by decide) h0 (by decide) (hts (.fieldLink RX0 38 "PathOdds" "bestOdds" "[[D") (by decide +kernel)) rfl hin2 rfl (ty := .array (.array .double)) (by decide +kernel) rfl rfl (Nat.le_of_ble_eq_true rfl) rfl hz.symm dX0_init_86 ?_
  obtain ⟨e9, he9⟩ : ∃ e9, e9 = va_up e 0 (.inr (0, [.ref (a 1), .ref (a 2), .ref (a 9), .ref (a 16), .int (nI 1), .int (nI 0), .ref (a 17), .ref (a 30), .ref (a 43), .null, .null]) : va_E) := ⟨_, rfl⟩
  rw [← he9]
  have k1 : isD cy (e9 1) 6 z1 := by rw [he9, up_ne (by omega)]; exact k1
  have k2 : e9 2 = rA cy 3 6 a 3 := by rw [he9, up_ne (by omega)]; exact k2
  have k2r : ∀ i, i < 6 → isD cy (e9 (3 + i)) 6 (z2 i) := fun i hi => by rw [he9, up_ne (by omega)]; exact k2r i hi
  have k9 : e9 9 = rA cy 3 6 a 10 := by rw [he9, up_ne (by omega)]; exact k9
  have k9r : ∀ i, i < 6 → isD cy (e9 (10 + i)) 4 (z2 i) := fun i hi => by rw [he9, up_ne (by omega)]; exact k9r i hi
  have k16 : isI cy (e9 16) 12 (fun t => nI ((fun _ => 0) t)) := by rw [he9, up_ne (by omega)]; exact k16
  have k17 : e9 17 = rA cy 3 12 a 18 := by rw [he9, up_ne (by omega)]; exact k17
  have k17r : ∀ i, i < 12 → isD cy (e9 (18 + i)) 6 (z2 i) := fun i hi => by rw [he9, up_ne (by omega)]; exact k17r i hi
  have k30 : e9 30 = rA cy 3 12 a 31 := by rw [he9, up_ne (by omega)]; exact k30
  have k30r : ∀ i, i < 12 → isD cy (e9 (31 + i)) 6 (z2 i) := fun i hi => by rw [he9, up_ne (by omega)]; exact k30r i hi
  have k43 : e9 43 = rA cy 3 12 a 44 := by rw [he9, up_ne (by omega)]; exact k43
  have k43r : ∀ i, i < 12 → isD cy (e9 (44 + i)) 6 (z2 i) := fun i hi => by rw [he9, up_ne (by omega)]; exact k43r i hi
  have h0 : e9 0 = .inr (0, [.ref (a 1), .ref (a 2), .ref (a 9), .ref (a 16), .int (nI 1), .int (nI 0), .ref (a 17), .ref (a 30), .ref (a 43), .null, .null]) := by rw [he9]; exact up_eq
  clear he9
  generalize e9 = e at h0 k1 k2 k2r k9 k9r k16 k17 k17r k30 k30r k43 k43r ⊢
  refine g_aload_n C dX0_init_89 rfl 0 rfl ?_
  refine g_bipush (v := nI 12) C dX0_init_90 (by decide) ?_
  refine g_bipush (v := nI 6) C dX0_init_92 (by decide) ?_
  refine g_mna (t := 4) (t2 := 1) (n := 12) (k := 6) (ty := .int) (x := (6, .inl fun _ => nI 0)) C (hts (.classLink RX0 41 "[[I") (by decide +kernel)) hO2 (hts (.arrayClass .int) (by decide +kernel)) rfl (hK.2 1 _ rfl).2 (fun _ => my_inner1 _ 6) (by decide) (by decide) (by decide +kernel) rfl rfl hA (Nat.le_of_ble_eq_true rfl) (Nat.le_of_ble_eq_true rfl) dX0_init_94 (fun q hq C => ?_)
  obtain ⟨e9, he9⟩ : ∃ e9, e9 = ext e 56 (fun j => if j = 0 then rA cy 4 12 (extA a 56 q) (56 + 1) else .inl (cy 1, (6, .inl fun _ => nI 0))) := ⟨_, rfl⟩
  rw [← he9]
  have k1 : isD cy (e9 1) 6 z1 := by rw [he9, ext_lt (by omega)]; exact k1
  have k2 : e9 2 = rA cy 3 6 (extA a 56 q) 3 := by rw [he9, ext_lt (by omega), rA_ext (by omega)]; exact k2
  have k2r : ∀ i, i < 6 → isD cy (e9 (3 + i)) 6 (z2 i) := fun i hi => by rw [he9, ext_lt (by omega)]; exact k2r i hi
  have k9 : e9 9 = rA cy 3 6 (extA a 56 q) 10 := by rw [he9, ext_lt (by omega), rA_ext (by omega)]; exact k9
  have k9r : ∀ i, i < 6 → isD cy (e9 (10 + i)) 4 (z2 i) := fun i hi => by rw [he9, ext_lt (by omega)]; exact k9r i hi
  have k16 : isI cy (e9 16) 12 (fun t => nI ((fun _ => 0) t)) := by rw [he9, ext_lt (by omega)]; exact k16
  have k17 : e9 17 = rA cy 3 12 (extA a 56 q) 18 := by rw [he9, ext_lt (by omega), rA_ext (by omega)]; exact k17
  have k17r : ∀ i, i < 12 → isD cy (e9 (18 + i)) 6 (z2 i) := fun i hi => by rw [he9, ext_lt (by omega)]; exact k17r i hi
  have k30 : e9 30 = rA cy 3 12 (extA a 56 q) 31 := by rw [he9, ext_lt (by omega), rA_ext (by omega)]; exact k30
  have k30r : ∀ i, i < 12 → isD cy (e9 (31 + i)) 6 (z2 i) := fun i hi => by rw [he9, ext_lt (by omega)]; exact k30r i hi
  have k43 : e9 43 = rA cy 3 12 (extA a 56 q) 44 := by rw [he9, ext_lt (by omega), rA_ext (by omega)]; exact k43
  have k43r : ∀ i, i < 12 → isD cy (e9 (44 + i)) 6 (z2 i) := fun i hi => by rw [he9, ext_lt (by omega)]; exact k43r i hi
  have h0 := (show e9 0 = e 0 by rw [he9, ext_lt (by omega)]).trans h0
  have hsl : ∀ k, 1 ≤ k → k < 69 → s.heap.size ≤ extA a 56 q k := fun k h1 h2 => by
    by_cases hk : k < 56
    · rw [extA_lt hk]; exact hsl k h1 hk
    · obtain ⟨j, rfl⟩ : ∃ j, k = 56 + j := ⟨k - 56, by omega⟩
      rw [extA_ge]; omega
  have hz : extA a 56 q 0 = o := by rw [extA_lt (by omega)]; exact hz
  have hqa : q = extA a 56 q 56 := (extA_ge (k := 0)).symm
  have k56 : e9 56 = rA cy 4 12 (extA a 56 q) 57 := by rw [he9]; exact ext_ge (k := 0)
  have k56r : ∀ i, i < 12 → isI cy (e9 (57 + i)) 6 (fun _ => 0) := fun i hi => by rw [he9, show 57 + i = 56 + (1 + i) by omega]; exact ⟨_, ext_ge.trans (if_neg (by omega)), fun _ _ => rfl⟩
  clear he9
  have hold : ∀ k, k < 56 → a k = extA a 56 q k := fun k hk => (extA_lt hk).symm
  try simp only [hold 1 (by omega)] at h0
  rw [hold 2 (by omega)] at h0
  rw [hold 9 (by omega)] at h0
  rw [hold 16 (by omega)] at h0
  rw [hold 17 (by omega)] at h0
  rw [hold 30 (by omega)] at h0
  rw [hold 43 (by omega)] at h0
  clear hold
  generalize extA a 56 q = a at h0 hsl hz hqa C k1 k2 k2r k9 k9r k16 k17 k17r k30 k30r k43 k43r k56 k56r ⊢
  generalize e9 = e at h0 k1 k2 k2r k9 k9r k16 k17 k17r k30 k30r k43 k43r k56 k56r ⊢
  rw [hqa]
  refine g_putF (fs2 := [.ref (a 1), .ref (a 2), .ref (a 9), .ref (a 16), .int (nI 1), .int (nI 0), .ref (a 17), .ref (a 30), .ref (a 43), .ref (a 56), .null]) C 9 tyX0 tyX0_ok nmX0 hin inl_pos0 (by decide) h0 (by decide) (hts (.fieldLink RX0 43 "PathOdds" "bestFrom" "[[I") (by decide +kernel)) rfl hin2 rfl (ty := .array (.array .int)) (by decide +kernel) rfl rfl (Nat.le_of_ble_eq_true rfl) rfl hz.symm dX0_init_98 ?_
  obtain ⟨e9, he9⟩ : ∃ e9, e9 = va_up e 0 (.inr (0, [.ref (a 1), .ref (a 2), .ref (a 9), .ref (a 16), .int (nI 1), .int (nI 0), .ref (a 17), .ref (a 30), .ref (a 43), .ref (a 56), .null]) : va_E) := ⟨_, rfl⟩
  rw [← he9]
  have k1 : isD cy (e9 1) 6 z1 := by rw [he9, up_ne (by omega)]; exact k1
  have k2 : e9 2 = rA cy 3 6 a 3 := by rw [he9, up_ne (by omega)]; exact k2
  have k2r : ∀ i, i < 6 → isD cy (e9 (3 + i)) 6 (z2 i) := fun i hi => by rw [he9, up_ne (by omega)]; exact k2r i hi
  have k9 : e9 9 = rA cy 3 6 a 10 := by rw [he9, up_ne (by omega)]; exact k9
  have k9r : ∀ i, i < 6 → isD cy (e9 (10 + i)) 4 (z2 i) := fun i hi => by rw [he9, up_ne (by omega)]; exact k9r i hi
  have k16 : isI cy (e9 16) 12 (fun t => nI ((fun _ => 0) t)) := by rw [he9, up_ne (by omega)]; exact k16
  have k17 : e9 17 = rA cy 3 12 a 18 := by rw [he9, up_ne (by omega)]; exact k17
  have k17r : ∀ i, i < 12 → isD cy (e9 (18 + i)) 6 (z2 i) := fun i hi => by rw [he9, up_ne (by omega)]; exact k17r i hi
  have k30 : e9 30 = rA cy 3 12 a 31 := by rw [he9, up_ne (by omega)]; exact k30
  have k30r : ∀ i, i < 12 → isD cy (e9 (31 + i)) 6 (z2 i) := fun i hi => by rw [he9, up_ne (by omega)]; exact k30r i hi
  have k43 : e9 43 = rA cy 3 12 a 44 := by rw [he9, up_ne (by omega)]; exact k43
  have k43r : ∀ i, i < 12 → isD cy (e9 (44 + i)) 6 (z2 i) := fun i hi => by rw [he9, up_ne (by omega)]; exact k43r i hi
  have k56 : e9 56 = rA cy 4 12 a 57 := by rw [he9, up_ne (by omega)]; exact k56
  have k56r : ∀ i, i < 12 → isI cy (e9 (57 + i)) 6 (fun _ => 0) := fun i hi => by rw [he9, up_ne (by omega)]; exact k56r i hi
  have h0 : e9 0 = .inr (0, [.ref (a 1), .ref (a 2), .ref (a 9), .ref (a 16), .int (nI 1), .int (nI 0), .ref (a 17), .ref (a 30), .ref (a 43), .ref (a 56), .null]) := by rw [he9]; exact up_eq
  clear he9
  generalize e9 = e at h0 k1 k2 k2r k9 k9r k16 k17 k17r k30 k30r k43 k43r k56 k56r ⊢
  refine g_aload_n C dX0_init_101 rfl 0 rfl ?_
  refine g_bipush (v := nI 12) C dX0_init_102 (by decide) ?_
  refine g_bipush (v := nI 6) C dX0_init_104 (by decide) ?_
  refine g_mna (t := 5) (t2 := 2) (n := 12) (k := 6) (ty := .long) (x := (6, .inr (.inl fun _ => 0))) C (hts (.classLink RX0 46 "[[J") (by decide +kernel)) hO3 (hts (.arrayClass .long) (by decide +kernel)) rfl (hK.2 2 _ rfl).2 (fun _ => my_inner2 _ 6) (by decide) (by decide) (by decide +kernel) rfl rfl hA (Nat.le_of_ble_eq_true rfl) (Nat.le_of_ble_eq_true rfl) dX0_init_106 (fun q hq C => ?_)
  obtain ⟨e9, he9⟩ : ∃ e9, e9 = ext e 69 (fun j => if j = 0 then rA cy 5 12 (extA a 69 q) (69 + 1) else .inl (cy 2, (6, .inr (.inl fun _ => 0)))) := ⟨_, rfl⟩
  rw [← he9]
  have k1 : isD cy (e9 1) 6 z1 := by rw [he9, ext_lt (by omega)]; exact k1
  have k2 : e9 2 = rA cy 3 6 (extA a 69 q) 3 := by rw [he9, ext_lt (by omega), rA_ext (by omega)]; exact k2
  have k2r : ∀ i, i < 6 → isD cy (e9 (3 + i)) 6 (z2 i) := fun i hi => by rw [he9, ext_lt (by omega)]; exact k2r i hi
  have k9 : e9 9 = rA cy 3 6 (extA a 69 q) 10 := by rw [he9, ext_lt (by omega), rA_ext (by omega)]; exact k9
  have k9r : ∀ i, i < 6 → isD cy (e9 (10 + i)) 4 (z2 i) := fun i hi => by rw [he9, ext_lt (by omega)]; exact k9r i hi
  have k16 : isI cy (e9 16) 12 (fun t => nI ((fun _ => 0) t)) := by rw [he9, ext_lt (by omega)]; exact k16
  have k17 : e9 17 = rA cy 3 12 (extA a 69 q) 18 := by rw [he9, ext_lt (by omega), rA_ext (by omega)]; exact k17
  have k17r : ∀ i, i < 12 → isD cy (e9 (18 + i)) 6 (z2 i) := fun i hi => by rw [he9, ext_lt (by omega)]; exact k17r i hi
  have k30 : e9 30 = rA cy 3 12 (extA a 69 q) 31 := by rw [he9, ext_lt (by omega), rA_ext (by omega)]; exact k30
  have k30r : ∀ i, i < 12 → isD cy (e9 (31 + i)) 6 (z2 i) := fun i hi => by rw [he9, ext_lt (by omega)]; exact k30r i hi
  have k43 : e9 43 = rA cy 3 12 (extA a 69 q) 44 := by rw [he9, ext_lt (by omega), rA_ext (by omega)]; exact k43
  have k43r : ∀ i, i < 12 → isD cy (e9 (44 + i)) 6 (z2 i) := fun i hi => by rw [he9, ext_lt (by omega)]; exact k43r i hi
  have k56 : e9 56 = rA cy 4 12 (extA a 69 q) 57 := by rw [he9, ext_lt (by omega), rA_ext (by omega)]; exact k56
  have k56r : ∀ i, i < 12 → isI cy (e9 (57 + i)) 6 (fun _ => 0) := fun i hi => by rw [he9, ext_lt (by omega)]; exact k56r i hi
  have h0 := (show e9 0 = e 0 by rw [he9, ext_lt (by omega)]).trans h0
  have hsl : ∀ k, 1 ≤ k → k < 82 → s.heap.size ≤ extA a 69 q k := fun k h1 h2 => by
    by_cases hk : k < 69
    · rw [extA_lt hk]; exact hsl k h1 hk
    · obtain ⟨j, rfl⟩ : ∃ j, k = 69 + j := ⟨k - 69, by omega⟩
      rw [extA_ge]; omega
  have hz : extA a 69 q 0 = o := by rw [extA_lt (by omega)]; exact hz
  have hqa : q = extA a 69 q 69 := (extA_ge (k := 0)).symm
  have k69 : e9 69 = rA cy 5 12 (extA a 69 q) 70 := by rw [he9]; exact ext_ge (k := 0)
  have k69r : ∀ i, i < 12 → isL cy (e9 (70 + i)) 6 (fun _ => 0) := fun i hi => by rw [he9, show 70 + i = 69 + (1 + i) by omega]; exact ⟨_, ext_ge.trans (if_neg (by omega)), fun _ _ => rfl⟩
  clear he9
  have hold : ∀ k, k < 69 → a k = extA a 69 q k := fun k hk => (extA_lt hk).symm
  try simp only [hold 1 (by omega)] at h0
  rw [hold 2 (by omega)] at h0
  rw [hold 9 (by omega)] at h0
  rw [hold 16 (by omega)] at h0
  rw [hold 17 (by omega)] at h0
  rw [hold 30 (by omega)] at h0
  rw [hold 43 (by omega)] at h0
  rw [hold 56 (by omega)] at h0
  clear hold
  generalize extA a 69 q = a at h0 hsl hz hqa C k1 k2 k2r k9 k9r k16 k17 k17r k30 k30r k43 k43r k56 k56r k69 k69r ⊢
  generalize e9 = e at h0 k1 k2 k2r k9 k9r k16 k17 k17r k30 k30r k43 k43r k56 k56r k69 k69r ⊢
  rw [hqa]
  refine g_putF (fs2 := [.ref (a 1), .ref (a 2), .ref (a 9), .ref (a 16), .int (nI 1), .int (nI 0), .ref (a 17), .ref (a 30), .ref (a 43), .ref (a 56), .ref (a 69)]) C 10 tyX0 tyX0_ok nmX0 hin inl_pos0 (by decide) h0 (by decide) (hts (.fieldLink RX0 48 "PathOdds" "wayCounts" "[[J") (by decide +kernel)) rfl hin2 rfl (ty := .array (.array .long)) (by decide +kernel) rfl rfl (Nat.le_of_ble_eq_true rfl) rfl hz.symm dX0_init_110 ?_
  obtain ⟨e9, he9⟩ : ∃ e9, e9 = va_up e 0 (.inr (0, [.ref (a 1), .ref (a 2), .ref (a 9), .ref (a 16), .int (nI 1), .int (nI 0), .ref (a 17), .ref (a 30), .ref (a 43), .ref (a 56), .ref (a 69)]) : va_E) := ⟨_, rfl⟩
  rw [← he9]
  have k1 : isD cy (e9 1) 6 z1 := by rw [he9, up_ne (by omega)]; exact k1
  have k2 : e9 2 = rA cy 3 6 a 3 := by rw [he9, up_ne (by omega)]; exact k2
  have k2r : ∀ i, i < 6 → isD cy (e9 (3 + i)) 6 (z2 i) := fun i hi => by rw [he9, up_ne (by omega)]; exact k2r i hi
  have k9 : e9 9 = rA cy 3 6 a 10 := by rw [he9, up_ne (by omega)]; exact k9
  have k9r : ∀ i, i < 6 → isD cy (e9 (10 + i)) 4 (z2 i) := fun i hi => by rw [he9, up_ne (by omega)]; exact k9r i hi
  have k16 : isI cy (e9 16) 12 (fun t => nI ((fun _ => 0) t)) := by rw [he9, up_ne (by omega)]; exact k16
  have k17 : e9 17 = rA cy 3 12 a 18 := by rw [he9, up_ne (by omega)]; exact k17
  have k17r : ∀ i, i < 12 → isD cy (e9 (18 + i)) 6 (z2 i) := fun i hi => by rw [he9, up_ne (by omega)]; exact k17r i hi
  have k30 : e9 30 = rA cy 3 12 a 31 := by rw [he9, up_ne (by omega)]; exact k30
  have k30r : ∀ i, i < 12 → isD cy (e9 (31 + i)) 6 (z2 i) := fun i hi => by rw [he9, up_ne (by omega)]; exact k30r i hi
  have k43 : e9 43 = rA cy 3 12 a 44 := by rw [he9, up_ne (by omega)]; exact k43
  have k43r : ∀ i, i < 12 → isD cy (e9 (44 + i)) 6 (z2 i) := fun i hi => by rw [he9, up_ne (by omega)]; exact k43r i hi
  have k56 : e9 56 = rA cy 4 12 a 57 := by rw [he9, up_ne (by omega)]; exact k56
  have k56r : ∀ i, i < 12 → isI cy (e9 (57 + i)) 6 (fun _ => 0) := fun i hi => by rw [he9, up_ne (by omega)]; exact k56r i hi
  have k69 : e9 69 = rA cy 5 12 a 70 := by rw [he9, up_ne (by omega)]; exact k69
  have k69r : ∀ i, i < 12 → isL cy (e9 (70 + i)) 6 (fun _ => 0) := fun i hi => by rw [he9, up_ne (by omega)]; exact k69r i hi
  have h0 : e9 0 = .inr (0, [.ref (a 1), .ref (a 2), .ref (a 9), .ref (a 16), .int (nI 1), .int (nI 0), .ref (a 17), .ref (a 30), .ref (a 43), .ref (a 56), .ref (a 69)]) := by rw [he9]; exact up_eq
  clear he9
  generalize e9 = e at h0 k1 k2 k2r k9 k9r k16 k17 k17r k30 k30r k43 k43r k56 k56r k69 k69r ⊢
  refine g_widen (k := 81) (n := 510) (Nat.le_of_ble_eq_true rfl) (Nat.le_of_ble_eq_true rfl) ?_
  exact fun H locs ls hP hS hl => W.vret hx hb hr (fun t ht hW => ⟨⟨(a, e), rfl, ⟨hz, C.2.2.2.2.2.2.1, hsl, ⟨h0, k1, k2, k9, k16, k17, k30, k43, k56, k69, k2r, k9r, k17r, k30r, k43r, k56r, k69r⟩⟩, by show va_P D clP (wl 82 a e) t.heap; rw [ht]; exact hP⟩, hS.F ht⟩) hS.2.2 dX0_init_113 hlocks

set_option maxHeartbeats 1000000 in
set_option maxRecDepth 100000 in
theorem c_X1_init (l : Launch) (D : va_G) (cy : Nat → ClassId) (o sz : Nat) : Met l yX1_init wsX1_init ({ frames := 1, cells := 8, slots := 102, locals := 12 }) (va_Pc [.ref o] (fun U => U.heap.size = sz ∧ va_P D clP [(o, .inr (1, [.int 0, .int 0, .int 0, .null, .null, .null, .null, .null, .null, .null, .null]))] U.heap ∧ va_K D clP (tys0 cy) U)) (va_Qv (fun (u : (Nat → Nat) × (Nat → va_E)) => u.1 0 = o ∧ wInj 9 u.1 ∧ (∀ k, 1 ≤ k → k < 9 → sz ≤ u.1 k) ∧ RM cy u.1 u.2 1 0 0 z1 z2 z2 (fun _ => 0) z1 z1 (fun _ => 0) (fun _ => 0)) (fun u t => va_P D clP (wl 9 u.1 u.2) t.heap) (fun q => q = o ∨ sz ≤ q)) 8 102 (fun q => q = o ∨ sz ≤ q) := by
  refine Met.ofW (cc := cX1_init) (maxL := 1) (ret := none) (by decide) rfl ?_
  intro p en s m args below meth c s₁ B hml hv
  obtain ⟨rfl, hsz, hP0, hK⟩ := hv
  subst hsz
  have hx := B.exec
  have hb := B.bytes
  have hr := B.returns
  have hts := atoms_spec (ws := wsX1_init) B.pre
  have hown : s.vm.findClass RX1 = some m.cls := findClass_of_methodNamed B.named
  have hlocks := B.notSynchronized
  have hin2 : meth.name = "<init>" := (name_of_methodNamed B.named B.method).1
  have hin : ∀ w ∈ u_ws RX1 TX1 11, w ∈ wsX1_init := by decide +kernel
  have hl := lv_entry ([.ref o]) (n := 1) (Nat.le_of_ble_eq_true rfl)
  rw [lg_entry_eq]
  have hA : ∀ q : Nat, s.heap.size ≤ q → q = o ∨ s.heap.size ≤ q := fun _ h => Or.inr h
  have ho : o < s.heap.size := (hP0 0 _ rfl).lt
  obtain ⟨a, ha0⟩ : ∃ a : Nat → Nat, a = fun _ => o := ⟨_, rfl⟩
  obtain ⟨e, he0⟩ : ∃ e : Nat → va_E, e = fun _ => .inr (1, [.int 0, .int 0, .int 0, .null, .null, .null, .null, .null, .null, .null, .null]) := ⟨_, rfl⟩
  have hP : va_P D clP (wl 1 a e) s.heap := wl_P (fun k hk => by rw [ha0, he0]; exact hP0 0 _ rfl)
  have C : Cx p s m ([.ref o] : List Value).toArray c cX1_init wsX1_init RX1 D clP cy 1 1 a (fun q => q = o ∨ s.heap.size ≤ q) := ⟨hx, hb, hml, hown, hts, hK, fun i j h1 h2 _ => by omega, fun k _ => Or.inl (by rw [ha0])⟩
  have hsl : ∀ k, 1 ≤ k → k < 1 → s.heap.size ≤ a k := fun k h1 h2 => absurd h2 (by omega)
  have hz : a 0 = o := by rw [ha0]
  have h0 : e 0 = .inr (1, [.int 0, .int 0, .int 0, .null, .null, .null, .null, .null, .null, .null, .null]) := by rw [he0]
  suffices G0 : GW p l en ({ frames := 1, cells := 8, slots := 102, locals := 12 }) s m ([.ref o] : List Value).toArray below meth c 0 0 (MQ below (va_Qv (fun (u : (Nat → Nat) × (Nat → va_E)) => u.1 0 = o ∧ wInj 9 u.1 ∧ (∀ k, 1 ≤ k → k < 9 → s.heap.size ≤ u.1 k) ∧ RM cy u.1 u.2 1 0 0 z1 z2 z2 (fun _ => 0) z1 z1 (fun _ => 0) (fun _ => 0)) (fun u t => va_P D clP (wl 9 u.1 u.2) t.heap) (fun q => q = o ∨ s.heap.size ≤ q)) ([.ref o] : List Value).toArray s 8 102 (fun q => q = o ∨ s.heap.size ≤ q)) D clP 1 1 a (fun q => q = o ∨ s.heap.size ≤ q) e 0 [(0, .ref o)] [] from G0 s.heap [] _ hP va_S.rf hl
  clear hP0 hP hl ha0 he0
  refine g_aload_n C dX1_init_0 rfl 0 rfl ?_
  refine g_objInit C (hts (.methodLink RX1 1 objectInit) (by decide +kernel)) (hts (.instanceMethod objectInit) (by decide +kernel)) (hts (.code objectInit ⟨#[0xb1]⟩ 1 none) (by decide +kernel)) dX1_init_1 (Nat.le_of_ble_eq_true rfl) (Nat.le_of_ble_eq_true rfl) ?_
  refine g_aload_n C dX1_init_4 rfl 0 rfl ?_
  refine g_bipush (v := nI 6) C dX1_init_5 (by decide) ?_
  refine g_newarr (atype := .double) (t := 0) (n := 6) (x := (6, .inr (.inr (.inr (.inl fun _ => FP.dconst0))))) C (hts (.arrayClass .double) (by decide +kernel)) rfl (fun _ => rfl) (by decide) (by decide +kernel) hA (Nat.le_of_ble_eq_true rfl) (Nat.le_of_ble_eq_true rfl) dX1_init_7 (fun q hq C => ?_)
  obtain ⟨e9, he9⟩ : ∃ e9, e9 = ext e 1 (fun _ => (.inl (cy 0, (6, .inr (.inr (.inr (.inl fun _ => FP.dconst0))))) : va_E)) := ⟨_, rfl⟩
  rw [← he9]
  have h0 := (show e9 0 = e 0 by rw [he9, ext_lt (by omega)]).trans h0
  have hsl : ∀ k, 1 ≤ k → k < 2 → s.heap.size ≤ extA a 1 q k := fun k h1 h2 => by
    by_cases hk : k < 1
    · rw [extA_lt hk]; exact hsl k h1 hk
    · obtain ⟨j, rfl⟩ : ∃ j, k = 1 + j := ⟨k - 1, by omega⟩
      rw [extA_ge]; omega
  have hz : extA a 1 q 0 = o := by rw [extA_lt (by omega)]; exact hz
  have hqa : q = extA a 1 q 1 := (extA_ge (k := 0)).symm
  have k1 : isD cy (e9 1) 6 z1 := by rw [he9]; exact ⟨_, ext_ge (k := 0), fun _ _ => rfl⟩
  clear he9
  have hold : ∀ k, k < 1 → a k = extA a 1 q k := fun k hk => (extA_lt hk).symm
  try simp only [hold 1 (by omega)] at h0
  clear hold
  generalize extA a 1 q = a at h0 hsl hz hqa C k1 ⊢
  generalize e9 = e at h0 k1 ⊢
  rw [hqa]
  refine g_putF (fs2 := [.int 0, .int 0, .int 0, .ref (a 1), .null, .null, .null, .null, .null, .null, .null]) C 3 tyX1 tyX1_ok nmX1 hin inl_pos1 (by decide) h0 (by decide) (hts (.fieldLink RX1 7 "PathOddsModel" "starts" "[D") (by decide +kernel)) rfl hin2 rfl (ty := .array .double) (by decide +kernel) rfl rfl (Nat.le_of_ble_eq_true rfl) rfl hz.symm dX1_init_9 ?_
  obtain ⟨e9, he9⟩ : ∃ e9, e9 = va_up e 0 (.inr (1, [.int 0, .int 0, .int 0, .ref (a 1), .null, .null, .null, .null, .null, .null, .null]) : va_E) := ⟨_, rfl⟩
  rw [← he9]
  have k1 : isD cy (e9 1) 6 z1 := by rw [he9, up_ne (by omega)]; exact k1
  have h0 : e9 0 = .inr (1, [.int 0, .int 0, .int 0, .ref (a 1), .null, .null, .null, .null, .null, .null, .null]) := by rw [he9]; exact up_eq
  clear he9
  generalize e9 = e at h0 k1 ⊢
  refine g_aload_n C dX1_init_12 rfl 0 rfl ?_
  refine g_bipush (v := nI 36) C dX1_init_13 (by decide) ?_
  refine g_newarr (atype := .double) (t := 0) (n := 36) (x := (36, .inr (.inr (.inr (.inl fun _ => FP.dconst0))))) C (hts (.arrayClass .double) (by decide +kernel)) rfl (fun _ => rfl) (by decide) (by decide +kernel) hA (Nat.le_of_ble_eq_true rfl) (Nat.le_of_ble_eq_true rfl) dX1_init_15 (fun q hq C => ?_)
  obtain ⟨e9, he9⟩ : ∃ e9, e9 = ext e 2 (fun _ => (.inl (cy 0, (36, .inr (.inr (.inr (.inl fun _ => FP.dconst0))))) : va_E)) := ⟨_, rfl⟩
  rw [← he9]
  have k1 : isD cy (e9 1) 6 z1 := by rw [he9, ext_lt (by omega)]; exact k1
  have h0 := (show e9 0 = e 0 by rw [he9, ext_lt (by omega)]).trans h0
  have hsl : ∀ k, 1 ≤ k → k < 3 → s.heap.size ≤ extA a 2 q k := fun k h1 h2 => by
    by_cases hk : k < 2
    · rw [extA_lt hk]; exact hsl k h1 hk
    · obtain ⟨j, rfl⟩ : ∃ j, k = 2 + j := ⟨k - 2, by omega⟩
      rw [extA_ge]; omega
  have hz : extA a 2 q 0 = o := by rw [extA_lt (by omega)]; exact hz
  have hqa : q = extA a 2 q 2 := (extA_ge (k := 0)).symm
  have k2 : isD cy (e9 2) 36 z1 := by rw [he9]; exact ⟨_, ext_ge (k := 0), fun _ _ => rfl⟩
  clear he9
  have hold : ∀ k, k < 2 → a k = extA a 2 q k := fun k hk => (extA_lt hk).symm
  try simp only [hold 1 (by omega)] at h0
  clear hold
  generalize extA a 2 q = a at h0 hsl hz hqa C k1 k2 ⊢
  generalize e9 = e at h0 k1 k2 ⊢
  rw [hqa]
  refine g_putF (fs2 := [.int 0, .int 0, .int 0, .ref (a 1), .ref (a 2), .null, .null, .null, .null, .null, .null]) C 4 tyX1 tyX1_ok nmX1 hin inl_pos1 (by decide) h0 (by decide) (hts (.fieldLink RX1 13 "PathOddsModel" "moves" "[D") (by decide +kernel)) rfl hin2 rfl (ty := .array .double) (by decide +kernel) rfl rfl (Nat.le_of_ble_eq_true rfl) rfl hz.symm dX1_init_17 ?_
  obtain ⟨e9, he9⟩ : ∃ e9, e9 = va_up e 0 (.inr (1, [.int 0, .int 0, .int 0, .ref (a 1), .ref (a 2), .null, .null, .null, .null, .null, .null]) : va_E) := ⟨_, rfl⟩
  rw [← he9]
  have k1 : isD cy (e9 1) 6 z1 := by rw [he9, up_ne (by omega)]; exact k1
  have k2 : isD cy (e9 2) 36 z1 := by rw [he9, up_ne (by omega)]; exact k2
  have h0 : e9 0 = .inr (1, [.int 0, .int 0, .int 0, .ref (a 1), .ref (a 2), .null, .null, .null, .null, .null, .null]) := by rw [he9]; exact up_eq
  clear he9
  generalize e9 = e at h0 k1 k2 ⊢
  refine g_aload_n C dX1_init_20 rfl 0 rfl ?_
  refine g_bipush (v := nI 24) C dX1_init_21 (by decide) ?_
  refine g_newarr (atype := .double) (t := 0) (n := 24) (x := (24, .inr (.inr (.inr (.inl fun _ => FP.dconst0))))) C (hts (.arrayClass .double) (by decide +kernel)) rfl (fun _ => rfl) (by decide) (by decide +kernel) hA (Nat.le_of_ble_eq_true rfl) (Nat.le_of_ble_eq_true rfl) dX1_init_23 (fun q hq C => ?_)
  obtain ⟨e9, he9⟩ : ∃ e9, e9 = ext e 3 (fun _ => (.inl (cy 0, (24, .inr (.inr (.inr (.inl fun _ => FP.dconst0))))) : va_E)) := ⟨_, rfl⟩
  rw [← he9]
  have k1 : isD cy (e9 1) 6 z1 := by rw [he9, ext_lt (by omega)]; exact k1
  have k2 : isD cy (e9 2) 36 z1 := by rw [he9, ext_lt (by omega)]; exact k2
  have h0 := (show e9 0 = e 0 by rw [he9, ext_lt (by omega)]).trans h0
  have hsl : ∀ k, 1 ≤ k → k < 4 → s.heap.size ≤ extA a 3 q k := fun k h1 h2 => by
    by_cases hk : k < 3
    · rw [extA_lt hk]; exact hsl k h1 hk
    · obtain ⟨j, rfl⟩ : ∃ j, k = 3 + j := ⟨k - 3, by omega⟩
      rw [extA_ge]; omega
  have hz : extA a 3 q 0 = o := by rw [extA_lt (by omega)]; exact hz
  have hqa : q = extA a 3 q 3 := (extA_ge (k := 0)).symm
  have k3 : isD cy (e9 3) 24 z1 := by rw [he9]; exact ⟨_, ext_ge (k := 0), fun _ _ => rfl⟩
  clear he9
  have hold : ∀ k, k < 3 → a k = extA a 3 q k := fun k hk => (extA_lt hk).symm
  try simp only [hold 1 (by omega)] at h0
  rw [hold 2 (by omega)] at h0
  clear hold
  generalize extA a 3 q = a at h0 hsl hz hqa C k1 k2 k3 ⊢
  generalize e9 = e at h0 k1 k2 k3 ⊢
  rw [hqa]
  refine g_putF (fs2 := [.int 0, .int 0, .int 0, .ref (a 1), .ref (a 2), .ref (a 3), .null, .null, .null, .null, .null]) C 5 tyX1 tyX1_ok nmX1 hin inl_pos1 (by decide) h0 (by decide) (hts (.fieldLink RX1 16 "PathOddsModel" "shows" "[D") (by decide +kernel)) rfl hin2 rfl (ty := .array .double) (by decide +kernel) rfl rfl (Nat.le_of_ble_eq_true rfl) rfl hz.symm dX1_init_25 ?_
  obtain ⟨e9, he9⟩ : ∃ e9, e9 = va_up e 0 (.inr (1, [.int 0, .int 0, .int 0, .ref (a 1), .ref (a 2), .ref (a 3), .null, .null, .null, .null, .null]) : va_E) := ⟨_, rfl⟩
  rw [← he9]
  have k1 : isD cy (e9 1) 6 z1 := by rw [he9, up_ne (by omega)]; exact k1
  have k2 : isD cy (e9 2) 36 z1 := by rw [he9, up_ne (by omega)]; exact k2
  have k3 : isD cy (e9 3) 24 z1 := by rw [he9, up_ne (by omega)]; exact k3
  have h0 : e9 0 = .inr (1, [.int 0, .int 0, .int 0, .ref (a 1), .ref (a 2), .ref (a 3), .null, .null, .null, .null, .null]) := by rw [he9]; exact up_eq
  clear he9
  generalize e9 = e at h0 k1 k2 k3 ⊢
  refine g_aload_n C dX1_init_28 rfl 0 rfl ?_
  refine g_bipush (v := nI 12) C dX1_init_29 (by decide) ?_
  refine g_newarr (atype := .int) (t := 1) (n := 12) (x := (12, .inl fun _ => nI 0)) C (hts (.arrayClass .int) (by decide +kernel)) rfl (fun _ => rfl) (by decide) (by decide +kernel) hA (Nat.le_of_ble_eq_true rfl) (Nat.le_of_ble_eq_true rfl) dX1_init_31 (fun q hq C => ?_)
  obtain ⟨e9, he9⟩ : ∃ e9, e9 = ext e 4 (fun _ => (.inl (cy 1, (12, .inl fun _ => nI 0)) : va_E)) := ⟨_, rfl⟩
  rw [← he9]
  have k1 : isD cy (e9 1) 6 z1 := by rw [he9, ext_lt (by omega)]; exact k1
  have k2 : isD cy (e9 2) 36 z1 := by rw [he9, ext_lt (by omega)]; exact k2
  have k3 : isD cy (e9 3) 24 z1 := by rw [he9, ext_lt (by omega)]; exact k3
  have h0 := (show e9 0 = e 0 by rw [he9, ext_lt (by omega)]).trans h0
  have hsl : ∀ k, 1 ≤ k → k < 5 → s.heap.size ≤ extA a 4 q k := fun k h1 h2 => by
    by_cases hk : k < 4
    · rw [extA_lt hk]; exact hsl k h1 hk
    · obtain ⟨j, rfl⟩ : ∃ j, k = 4 + j := ⟨k - 4, by omega⟩
      rw [extA_ge]; omega
  have hz : extA a 4 q 0 = o := by rw [extA_lt (by omega)]; exact hz
  have hqa : q = extA a 4 q 4 := (extA_ge (k := 0)).symm
  have k4 : isI cy (e9 4) 12 (fun t => nI ((fun _ => 0) t)) := by rw [he9]; exact ⟨_, ext_ge (k := 0), fun _ _ => rfl⟩
  clear he9
  have hold : ∀ k, k < 4 → a k = extA a 4 q k := fun k hk => (extA_lt hk).symm
  try simp only [hold 1 (by omega)] at h0
  rw [hold 2 (by omega)] at h0
  rw [hold 3 (by omega)] at h0
  clear hold
  generalize extA a 4 q = a at h0 hsl hz hqa C k1 k2 k3 k4 ⊢
  generalize e9 = e at h0 k1 k2 k3 k4 ⊢
  rw [hqa]
  refine g_putF (fs2 := [.int 0, .int 0, .int 0, .ref (a 1), .ref (a 2), .ref (a 3), .ref (a 4), .null, .null, .null, .null]) C 6 tyX1 tyX1_ok nmX1 hin inl_pos1 (by decide) h0 (by decide) (hts (.fieldLink RX1 19 "PathOddsModel" "row" "[I") (by decide +kernel)) rfl hin2 rfl (ty := .array .int) (by decide +kernel) rfl rfl (Nat.le_of_ble_eq_true rfl) rfl hz.symm dX1_init_33 ?_
  obtain ⟨e9, he9⟩ : ∃ e9, e9 = va_up e 0 (.inr (1, [.int 0, .int 0, .int 0, .ref (a 1), .ref (a 2), .ref (a 3), .ref (a 4), .null, .null, .null, .null]) : va_E) := ⟨_, rfl⟩
  rw [← he9]
  have k1 : isD cy (e9 1) 6 z1 := by rw [he9, up_ne (by omega)]; exact k1
  have k2 : isD cy (e9 2) 36 z1 := by rw [he9, up_ne (by omega)]; exact k2
  have k3 : isD cy (e9 3) 24 z1 := by rw [he9, up_ne (by omega)]; exact k3
  have k4 : isI cy (e9 4) 12 (fun t => nI ((fun _ => 0) t)) := by rw [he9, up_ne (by omega)]; exact k4
  have h0 : e9 0 = .inr (1, [.int 0, .int 0, .int 0, .ref (a 1), .ref (a 2), .ref (a 3), .ref (a 4), .null, .null, .null, .null]) := by rw [he9]; exact up_eq
  clear he9
  generalize e9 = e at h0 k1 k2 k3 k4 ⊢
  refine g_aload_n C dX1_init_36 rfl 0 rfl ?_
  refine g_bipush (v := nI 6) C dX1_init_37 (by decide) ?_
  refine g_newarr (atype := .double) (t := 0) (n := 6) (x := (6, .inr (.inr (.inr (.inl fun _ => FP.dconst0))))) C (hts (.arrayClass .double) (by decide +kernel)) rfl (fun _ => rfl) (by decide) (by decide +kernel) hA (Nat.le_of_ble_eq_true rfl) (Nat.le_of_ble_eq_true rfl) dX1_init_39 (fun q hq C => ?_)
  obtain ⟨e9, he9⟩ : ∃ e9, e9 = ext e 5 (fun _ => (.inl (cy 0, (6, .inr (.inr (.inr (.inl fun _ => FP.dconst0))))) : va_E)) := ⟨_, rfl⟩
  rw [← he9]
  have k1 : isD cy (e9 1) 6 z1 := by rw [he9, ext_lt (by omega)]; exact k1
  have k2 : isD cy (e9 2) 36 z1 := by rw [he9, ext_lt (by omega)]; exact k2
  have k3 : isD cy (e9 3) 24 z1 := by rw [he9, ext_lt (by omega)]; exact k3
  have k4 : isI cy (e9 4) 12 (fun t => nI ((fun _ => 0) t)) := by rw [he9, ext_lt (by omega)]; exact k4
  have h0 := (show e9 0 = e 0 by rw [he9, ext_lt (by omega)]).trans h0
  have hsl : ∀ k, 1 ≤ k → k < 6 → s.heap.size ≤ extA a 5 q k := fun k h1 h2 => by
    by_cases hk : k < 5
    · rw [extA_lt hk]; exact hsl k h1 hk
    · obtain ⟨j, rfl⟩ : ∃ j, k = 5 + j := ⟨k - 5, by omega⟩
      rw [extA_ge]; omega
  have hz : extA a 5 q 0 = o := by rw [extA_lt (by omega)]; exact hz
  have hqa : q = extA a 5 q 5 := (extA_ge (k := 0)).symm
  have k5 : isD cy (e9 5) 6 z1 := by rw [he9]; exact ⟨_, ext_ge (k := 0), fun _ _ => rfl⟩
  clear he9
  have hold : ∀ k, k < 5 → a k = extA a 5 q k := fun k hk => (extA_lt hk).symm
  try simp only [hold 1 (by omega)] at h0
  rw [hold 2 (by omega)] at h0
  rw [hold 3 (by omega)] at h0
  rw [hold 4 (by omega)] at h0
  clear hold
  generalize extA a 5 q = a at h0 hsl hz hqa C k1 k2 k3 k4 k5 ⊢
  generalize e9 = e at h0 k1 k2 k3 k4 k5 ⊢
  rw [hqa]
  refine g_putF (fs2 := [.int 0, .int 0, .int 0, .ref (a 1), .ref (a 2), .ref (a 3), .ref (a 4), .ref (a 5), .null, .null, .null]) C 7 tyX1 tyX1_ok nmX1 hin inl_pos1 (by decide) h0 (by decide) (hts (.fieldLink RX1 23 "PathOddsModel" "now" "[D") (by decide +kernel)) rfl hin2 rfl (ty := .array .double) (by decide +kernel) rfl rfl (Nat.le_of_ble_eq_true rfl) rfl hz.symm dX1_init_41 ?_
  obtain ⟨e9, he9⟩ : ∃ e9, e9 = va_up e 0 (.inr (1, [.int 0, .int 0, .int 0, .ref (a 1), .ref (a 2), .ref (a 3), .ref (a 4), .ref (a 5), .null, .null, .null]) : va_E) := ⟨_, rfl⟩
  rw [← he9]
  have k1 : isD cy (e9 1) 6 z1 := by rw [he9, up_ne (by omega)]; exact k1
  have k2 : isD cy (e9 2) 36 z1 := by rw [he9, up_ne (by omega)]; exact k2
  have k3 : isD cy (e9 3) 24 z1 := by rw [he9, up_ne (by omega)]; exact k3
  have k4 : isI cy (e9 4) 12 (fun t => nI ((fun _ => 0) t)) := by rw [he9, up_ne (by omega)]; exact k4
  have k5 : isD cy (e9 5) 6 z1 := by rw [he9, up_ne (by omega)]; exact k5
  have h0 : e9 0 = .inr (1, [.int 0, .int 0, .int 0, .ref (a 1), .ref (a 2), .ref (a 3), .ref (a 4), .ref (a 5), .null, .null, .null]) := by rw [he9]; exact up_eq
  clear he9
  generalize e9 = e at h0 k1 k2 k3 k4 k5 ⊢
  refine g_aload_n C dX1_init_44 rfl 0 rfl ?_
  refine g_bipush (v := nI 6) C dX1_init_45 (by decide) ?_
  refine g_newarr (atype := .double) (t := 0) (n := 6) (x := (6, .inr (.inr (.inr (.inl fun _ => FP.dconst0))))) C (hts (.arrayClass .double) (by decide +kernel)) rfl (fun _ => rfl) (by decide) (by decide +kernel) hA (Nat.le_of_ble_eq_true rfl) (Nat.le_of_ble_eq_true rfl) dX1_init_47 (fun q hq C => ?_)
  obtain ⟨e9, he9⟩ : ∃ e9, e9 = ext e 6 (fun _ => (.inl (cy 0, (6, .inr (.inr (.inr (.inl fun _ => FP.dconst0))))) : va_E)) := ⟨_, rfl⟩
  rw [← he9]
  have k1 : isD cy (e9 1) 6 z1 := by rw [he9, ext_lt (by omega)]; exact k1
  have k2 : isD cy (e9 2) 36 z1 := by rw [he9, ext_lt (by omega)]; exact k2
  have k3 : isD cy (e9 3) 24 z1 := by rw [he9, ext_lt (by omega)]; exact k3
  have k4 : isI cy (e9 4) 12 (fun t => nI ((fun _ => 0) t)) := by rw [he9, ext_lt (by omega)]; exact k4
  have k5 : isD cy (e9 5) 6 z1 := by rw [he9, ext_lt (by omega)]; exact k5
  have h0 := (show e9 0 = e 0 by rw [he9, ext_lt (by omega)]).trans h0
  have hsl : ∀ k, 1 ≤ k → k < 7 → s.heap.size ≤ extA a 6 q k := fun k h1 h2 => by
    by_cases hk : k < 6
    · rw [extA_lt hk]; exact hsl k h1 hk
    · obtain ⟨j, rfl⟩ : ∃ j, k = 6 + j := ⟨k - 6, by omega⟩
      rw [extA_ge]; omega
  have hz : extA a 6 q 0 = o := by rw [extA_lt (by omega)]; exact hz
  have hqa : q = extA a 6 q 6 := (extA_ge (k := 0)).symm
  have k6 : isD cy (e9 6) 6 z1 := by rw [he9]; exact ⟨_, ext_ge (k := 0), fun _ _ => rfl⟩
  clear he9
  have hold : ∀ k, k < 6 → a k = extA a 6 q k := fun k hk => (extA_lt hk).symm
  try simp only [hold 1 (by omega)] at h0
  rw [hold 2 (by omega)] at h0
  rw [hold 3 (by omega)] at h0
  rw [hold 4 (by omega)] at h0
  rw [hold 5 (by omega)] at h0
  clear hold
  generalize extA a 6 q = a at h0 hsl hz hqa C k1 k2 k3 k4 k5 k6 ⊢
  generalize e9 = e at h0 k1 k2 k3 k4 k5 k6 ⊢
  rw [hqa]
  refine g_putF (fs2 := [.int 0, .int 0, .int 0, .ref (a 1), .ref (a 2), .ref (a 3), .ref (a 4), .ref (a 5), .ref (a 6), .null, .null]) C 8 tyX1 tyX1_ok nmX1 hin inl_pos1 (by decide) h0 (by decide) (hts (.fieldLink RX1 26 "PathOddsModel" "old" "[D") (by decide +kernel)) rfl hin2 rfl (ty := .array .double) (by decide +kernel) rfl rfl (Nat.le_of_ble_eq_true rfl) rfl hz.symm dX1_init_49 ?_
  obtain ⟨e9, he9⟩ : ∃ e9, e9 = va_up e 0 (.inr (1, [.int 0, .int 0, .int 0, .ref (a 1), .ref (a 2), .ref (a 3), .ref (a 4), .ref (a 5), .ref (a 6), .null, .null]) : va_E) := ⟨_, rfl⟩
  rw [← he9]
  have k1 : isD cy (e9 1) 6 z1 := by rw [he9, up_ne (by omega)]; exact k1
  have k2 : isD cy (e9 2) 36 z1 := by rw [he9, up_ne (by omega)]; exact k2
  have k3 : isD cy (e9 3) 24 z1 := by rw [he9, up_ne (by omega)]; exact k3
  have k4 : isI cy (e9 4) 12 (fun t => nI ((fun _ => 0) t)) := by rw [he9, up_ne (by omega)]; exact k4
  have k5 : isD cy (e9 5) 6 z1 := by rw [he9, up_ne (by omega)]; exact k5
  have k6 : isD cy (e9 6) 6 z1 := by rw [he9, up_ne (by omega)]; exact k6
  have h0 : e9 0 = .inr (1, [.int 0, .int 0, .int 0, .ref (a 1), .ref (a 2), .ref (a 3), .ref (a 4), .ref (a 5), .ref (a 6), .null, .null]) := by rw [he9]; exact up_eq
  clear he9
  generalize e9 = e at h0 k1 k2 k3 k4 k5 k6 ⊢
  refine g_aload_n C dX1_init_52 rfl 0 rfl ?_
  refine g_bipush (v := nI 6) C dX1_init_53 (by decide) ?_
  refine g_newarr (atype := .long) (t := 2) (n := 6) (x := (6, .inr (.inl fun _ => 0))) C (hts (.arrayClass .long) (by decide +kernel)) rfl (fun _ => rfl) (by decide) (by decide +kernel) hA (Nat.le_of_ble_eq_true rfl) (Nat.le_of_ble_eq_true rfl) dX1_init_55 (fun q hq C => ?_)
  obtain ⟨e9, he9⟩ : ∃ e9, e9 = ext e 7 (fun _ => (.inl (cy 2, (6, .inr (.inl fun _ => 0))) : va_E)) := ⟨_, rfl⟩
  rw [← he9]
  have k1 : isD cy (e9 1) 6 z1 := by rw [he9, ext_lt (by omega)]; exact k1
  have k2 : isD cy (e9 2) 36 z1 := by rw [he9, ext_lt (by omega)]; exact k2
  have k3 : isD cy (e9 3) 24 z1 := by rw [he9, ext_lt (by omega)]; exact k3
  have k4 : isI cy (e9 4) 12 (fun t => nI ((fun _ => 0) t)) := by rw [he9, ext_lt (by omega)]; exact k4
  have k5 : isD cy (e9 5) 6 z1 := by rw [he9, ext_lt (by omega)]; exact k5
  have k6 : isD cy (e9 6) 6 z1 := by rw [he9, ext_lt (by omega)]; exact k6
  have h0 := (show e9 0 = e 0 by rw [he9, ext_lt (by omega)]).trans h0
  have hsl : ∀ k, 1 ≤ k → k < 8 → s.heap.size ≤ extA a 7 q k := fun k h1 h2 => by
    by_cases hk : k < 7
    · rw [extA_lt hk]; exact hsl k h1 hk
    · obtain ⟨j, rfl⟩ : ∃ j, k = 7 + j := ⟨k - 7, by omega⟩
      rw [extA_ge]; omega
  have hz : extA a 7 q 0 = o := by rw [extA_lt (by omega)]; exact hz
  have hqa : q = extA a 7 q 7 := (extA_ge (k := 0)).symm
  have k7 : isL cy (e9 7) 6 (fun _ => 0) := by rw [he9]; exact ⟨_, ext_ge (k := 0), fun _ _ => rfl⟩
  clear he9
  have hold : ∀ k, k < 7 → a k = extA a 7 q k := fun k hk => (extA_lt hk).symm
  try simp only [hold 1 (by omega)] at h0
  rw [hold 2 (by omega)] at h0
  rw [hold 3 (by omega)] at h0
  rw [hold 4 (by omega)] at h0
  rw [hold 5 (by omega)] at h0
  rw [hold 6 (by omega)] at h0
  clear hold
  generalize extA a 7 q = a at h0 hsl hz hqa C k1 k2 k3 k4 k5 k6 k7 ⊢
  generalize e9 = e at h0 k1 k2 k3 k4 k5 k6 k7 ⊢
  rw [hqa]
  refine g_putF (fs2 := [.int 0, .int 0, .int 0, .ref (a 1), .ref (a 2), .ref (a 3), .ref (a 4), .ref (a 5), .ref (a 6), .ref (a 7), .null]) C 9 tyX1 tyX1_ok nmX1 hin inl_pos1 (by decide) h0 (by decide) (hts (.fieldLink RX1 29 "PathOddsModel" "counts" "[J") (by decide +kernel)) rfl hin2 rfl (ty := .array .long) (by decide +kernel) rfl rfl (Nat.le_of_ble_eq_true rfl) rfl hz.symm dX1_init_57 ?_
  obtain ⟨e9, he9⟩ : ∃ e9, e9 = va_up e 0 (.inr (1, [.int 0, .int 0, .int 0, .ref (a 1), .ref (a 2), .ref (a 3), .ref (a 4), .ref (a 5), .ref (a 6), .ref (a 7), .null]) : va_E) := ⟨_, rfl⟩
  rw [← he9]
  have k1 : isD cy (e9 1) 6 z1 := by rw [he9, up_ne (by omega)]; exact k1
  have k2 : isD cy (e9 2) 36 z1 := by rw [he9, up_ne (by omega)]; exact k2
  have k3 : isD cy (e9 3) 24 z1 := by rw [he9, up_ne (by omega)]; exact k3
  have k4 : isI cy (e9 4) 12 (fun t => nI ((fun _ => 0) t)) := by rw [he9, up_ne (by omega)]; exact k4
  have k5 : isD cy (e9 5) 6 z1 := by rw [he9, up_ne (by omega)]; exact k5
  have k6 : isD cy (e9 6) 6 z1 := by rw [he9, up_ne (by omega)]; exact k6
  have k7 : isL cy (e9 7) 6 (fun _ => 0) := by rw [he9, up_ne (by omega)]; exact k7
  have h0 : e9 0 = .inr (1, [.int 0, .int 0, .int 0, .ref (a 1), .ref (a 2), .ref (a 3), .ref (a 4), .ref (a 5), .ref (a 6), .ref (a 7), .null]) := by rw [he9]; exact up_eq
  clear he9
  generalize e9 = e at h0 k1 k2 k3 k4 k5 k6 k7 ⊢
  refine g_aload_n C dX1_init_60 rfl 0 rfl ?_
  refine g_bipush (v := nI 6) C dX1_init_61 (by decide) ?_
  refine g_newarr (atype := .long) (t := 2) (n := 6) (x := (6, .inr (.inl fun _ => 0))) C (hts (.arrayClass .long) (by decide +kernel)) rfl (fun _ => rfl) (by decide) (by decide +kernel) hA (Nat.le_of_ble_eq_true rfl) (Nat.le_of_ble_eq_true rfl) dX1_init_63 (fun q hq C => ?_)
  obtain ⟨e9, he9⟩ : ∃ e9, e9 = ext e 8 (fun _ => (.inl (cy 2, (6, .inr (.inl fun _ => 0))) : va_E)) := ⟨_, rfl⟩
  rw [← he9]
  have k1 : isD cy (e9 1) 6 z1 := by rw [he9, ext_lt (by omega)]; exact k1
  have k2 : isD cy (e9 2) 36 z1 := by rw [he9, ext_lt (by omega)]; exact k2
  have k3 : isD cy (e9 3) 24 z1 := by rw [he9, ext_lt (by omega)]; exact k3
  have k4 : isI cy (e9 4) 12 (fun t => nI ((fun _ => 0) t)) := by rw [he9, ext_lt (by omega)]; exact k4
  have k5 : isD cy (e9 5) 6 z1 := by rw [he9, ext_lt (by omega)]; exact k5
  have k6 : isD cy (e9 6) 6 z1 := by rw [he9, ext_lt (by omega)]; exact k6
  have k7 : isL cy (e9 7) 6 (fun _ => 0) := by rw [he9, ext_lt (by omega)]; exact k7
  have h0 := (show e9 0 = e 0 by rw [he9, ext_lt (by omega)]).trans h0
  have hsl : ∀ k, 1 ≤ k → k < 9 → s.heap.size ≤ extA a 8 q k := fun k h1 h2 => by
    by_cases hk : k < 8
    · rw [extA_lt hk]; exact hsl k h1 hk
    · obtain ⟨j, rfl⟩ : ∃ j, k = 8 + j := ⟨k - 8, by omega⟩
      rw [extA_ge]; omega
  have hz : extA a 8 q 0 = o := by rw [extA_lt (by omega)]; exact hz
  have hqa : q = extA a 8 q 8 := (extA_ge (k := 0)).symm
  have k8 : isL cy (e9 8) 6 (fun _ => 0) := by rw [he9]; exact ⟨_, ext_ge (k := 0), fun _ _ => rfl⟩
  clear he9
  have hold : ∀ k, k < 8 → a k = extA a 8 q k := fun k hk => (extA_lt hk).symm
  try simp only [hold 1 (by omega)] at h0
  rw [hold 2 (by omega)] at h0
  rw [hold 3 (by omega)] at h0
  rw [hold 4 (by omega)] at h0
  rw [hold 5 (by omega)] at h0
  rw [hold 6 (by omega)] at h0
  rw [hold 7 (by omega)] at h0
  clear hold
  generalize extA a 8 q = a at h0 hsl hz hqa C k1 k2 k3 k4 k5 k6 k7 k8 ⊢
  generalize e9 = e at h0 k1 k2 k3 k4 k5 k6 k7 k8 ⊢
  rw [hqa]
  refine g_putF (fs2 := [.int 0, .int 0, .int 0, .ref (a 1), .ref (a 2), .ref (a 3), .ref (a 4), .ref (a 5), .ref (a 6), .ref (a 7), .ref (a 8)]) C 10 tyX1 tyX1_ok nmX1 hin inl_pos1 (by decide) h0 (by decide) (hts (.fieldLink RX1 33 "PathOddsModel" "before" "[J") (by decide +kernel)) rfl hin2 rfl (ty := .array .long) (by decide +kernel) rfl rfl (Nat.le_of_ble_eq_true rfl) rfl hz.symm dX1_init_65 ?_
  obtain ⟨e9, he9⟩ : ∃ e9, e9 = va_up e 0 (.inr (1, [.int 0, .int 0, .int 0, .ref (a 1), .ref (a 2), .ref (a 3), .ref (a 4), .ref (a 5), .ref (a 6), .ref (a 7), .ref (a 8)]) : va_E) := ⟨_, rfl⟩
  rw [← he9]
  have k1 : isD cy (e9 1) 6 z1 := by rw [he9, up_ne (by omega)]; exact k1
  have k2 : isD cy (e9 2) 36 z1 := by rw [he9, up_ne (by omega)]; exact k2
  have k3 : isD cy (e9 3) 24 z1 := by rw [he9, up_ne (by omega)]; exact k3
  have k4 : isI cy (e9 4) 12 (fun t => nI ((fun _ => 0) t)) := by rw [he9, up_ne (by omega)]; exact k4
  have k5 : isD cy (e9 5) 6 z1 := by rw [he9, up_ne (by omega)]; exact k5
  have k6 : isD cy (e9 6) 6 z1 := by rw [he9, up_ne (by omega)]; exact k6
  have k7 : isL cy (e9 7) 6 (fun _ => 0) := by rw [he9, up_ne (by omega)]; exact k7
  have k8 : isL cy (e9 8) 6 (fun _ => 0) := by rw [he9, up_ne (by omega)]; exact k8
  have h0 : e9 0 = .inr (1, [.int 0, .int 0, .int 0, .ref (a 1), .ref (a 2), .ref (a 3), .ref (a 4), .ref (a 5), .ref (a 6), .ref (a 7), .ref (a 8)]) := by rw [he9]; exact up_eq
  clear he9
  generalize e9 = e at h0 k1 k2 k3 k4 k5 k6 k7 k8 ⊢
  refine g_aload_n C dX1_init_68 rfl 0 rfl ?_
  refine g_iconst (v := nI 1) C dX1_init_69 (by decide) ?_
  refine g_putI (fs2 := [.int (nI 1), .int 0, .int 0, .ref (a 1), .ref (a 2), .ref (a 3), .ref (a 4), .ref (a 5), .ref (a 6), .ref (a 7), .ref (a 8)]) C 0 tyX1 tyX1_ok nmX1 hin inl_pos1 (by decide) h0 (by decide) (hts (.fieldLink RX1 36 "PathOddsModel" "n" "I") (by decide +kernel)) rfl (ty := .int) (by decide +kernel) rfl rfl (Nat.le_of_ble_eq_true rfl) rfl hz.symm dX1_init_70 ?_
  obtain ⟨e9, he9⟩ : ∃ e9, e9 = va_up e 0 (.inr (1, [.int (nI 1), .int 0, .int 0, .ref (a 1), .ref (a 2), .ref (a 3), .ref (a 4), .ref (a 5), .ref (a 6), .ref (a 7), .ref (a 8)]) : va_E) := ⟨_, rfl⟩
  rw [← he9]
  have k1 : isD cy (e9 1) 6 z1 := by rw [he9, up_ne (by omega)]; exact k1
  have k2 : isD cy (e9 2) 36 z1 := by rw [he9, up_ne (by omega)]; exact k2
  have k3 : isD cy (e9 3) 24 z1 := by rw [he9, up_ne (by omega)]; exact k3
  have k4 : isI cy (e9 4) 12 (fun t => nI ((fun _ => 0) t)) := by rw [he9, up_ne (by omega)]; exact k4
  have k5 : isD cy (e9 5) 6 z1 := by rw [he9, up_ne (by omega)]; exact k5
  have k6 : isD cy (e9 6) 6 z1 := by rw [he9, up_ne (by omega)]; exact k6
  have k7 : isL cy (e9 7) 6 (fun _ => 0) := by rw [he9, up_ne (by omega)]; exact k7
  have k8 : isL cy (e9 8) 6 (fun _ => 0) := by rw [he9, up_ne (by omega)]; exact k8
  have h0 : e9 0 = .inr (1, [.int (nI 1), .int 0, .int 0, .ref (a 1), .ref (a 2), .ref (a 3), .ref (a 4), .ref (a 5), .ref (a 6), .ref (a 7), .ref (a 8)]) := by rw [he9]; exact up_eq
  clear he9
  generalize e9 = e at h0 k1 k2 k3 k4 k5 k6 k7 k8 ⊢
  refine g_widen (k := 8) (n := 102) (Nat.le_of_ble_eq_true rfl) (Nat.le_of_ble_eq_true rfl) ?_
  exact fun H locs ls hP hS hl => W.vret hx hb hr (fun t ht hW => ⟨⟨(a, e), rfl, ⟨hz, C.2.2.2.2.2.2.1, hsl, ⟨h0, k1, k2, k3, k4, k5, k6, k7, k8⟩⟩, by show va_P D clP (wl 9 a e) t.heap; rw [ht]; exact hP⟩, hS.F ht⟩) hS.2.2 dX1_init_73 hlocks
