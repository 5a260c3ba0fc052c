set_option maxHeartbeats 1000000 in
set_option maxRecDepth 100000 in
theorem law_c0 {p : Program} {l : Launch} {en : Env} {s : State} {m : MethodId} {args : Array Value} {below : List Frame} {meth : Method} {c : Code} {cells slots : Nat} {Q : State → Prop} {D : va_G} {cy : Nat → ClassId} {a sg : Nat → Nat} {A : Nat → Prop} {b L : Nat} {xs : Nat → Int32} (C : Cx p s m args c cL_law wsL_law RL D clP cy 92 9 a A) (hfl : l.stackTraces = false) (hX : XT A sg s s.heap) (hs : va_X b L xs s s.heap) (hbl : b < s.heap.size) (hbA : ¬ A b) {i : Nat} (hi4 : i + 4 ≤ L) (hL : L ≤ 2048) (hcc : cells ≤ 4300 ∧ slots ≤ 26000) {e : Nat → va_E} {n T th : Nat} {S : Nat → UInt64} {M E : T2} {r : Nat → Nat} {F B V : T2} {G : Nat → Nat → Int32} {Cn : Nat → Nat → Int64} {nw od : Nat → UInt64} {cn bf : Nat → Int64} {v0 : Nat → UInt64} (hP : RP cy a e n T S M E r F B V G Cn) (hM : RM cy (fun k => a (k + 83)) (fun k => e (k + 83)) n T th S M E r nw od cn bf) (hO : isD cy (e 82) 1 v0) (hn : 1 ≤ n ∧ n ≤ 6) (hT : T ≤ 12) (hW : WB S M E) (hr4 : RW4 r) (K : ∀ (e2 : Nat → va_E) (cells2 slots2 : Nat), cells2 ≤ cells + 2 → slots2 ≤ slots + 12 → LI cy a e2 → GW p l en room_1 s m args below meth c cells2 slots2 Q D clP 92 9 a A e2 742 [(0, .ref b), (1, .ref (a 0)), (2, .ref (a 83)), (3, .ref (a 82)), (4, .int (nI i))] []) : GW p l en room_1 s m args below meth c cells slots Q D clP 92 9 a A e 112 [(0, .ref b), (1, .ref (a 0)), (2, .ref (a 83)), (3, .ref (a 82)), (4, .int (nI i))] [] := by
  have hi0 : wInj 82 a := fun i j h1 h2 h3 => C.2.2.2.2.2.2.1 i j (by omega) (by omega) h3
  have hi9 : wInj 9 (fun k => a (k + 83)) := sub_inj (off := 83) C.2.2.2.2.2.2.1 (by decide)
  refine g_aload_n C dL_law_112 rfl 1 rfl ?_
  refine g_aload_n C dL_law_113 rfl 0 rfl ?_
  refine g_iload C dL_law_114 4 rfl ?_
  refine g_iconst (v := nI 1) C dL_law_116 (by decide) ?_
  refine g_iadd (v := nI (i + 1)) C dL_law_117 (nI_add i 1) ?_
  refine g_sld C hs hbl hbA (by omega) (by omega) dL_law_118 ?_
  refine g_subi (off := 0) (n := 82) (As := [.int (xs (i + 1))]) (rest := []) C (cwV 1 C.2.2.2.2.1 gL_law_X0_states rfl rfl rfl (by decide +kernel) ⟨(Nat.le_of_ble_eq_true rfl), (Nat.le_of_ble_eq_true rfl)⟩) (c_X0_states l D cy a hi0 hP _) (by decide) (by decide) hP.1 inl_pos0 rfl rfl (Nat.le_of_ble_eq_true rfl) dL_law_119 ⟨by show cells ≤ 623084; omega, by show slots ≤ 7175652; omega⟩ (fun z u hz => ?_)
  rcases hz with ⟨rfl, k, hk1, hk6, hxk, hu⟩ | ⟨rfl, hno, hu⟩
  · have hP : RP cy a (putS e u 0 82) k 0 z1 z2 z2 r F B V G Cn := RP_ext (show RP cy a u k 0 z1 z2 z2 r F B V G Cn from hu) (fun k hk => putS_in (off := 0) hk) (fun _ _ => rfl)
    have hM : RM cy (fun k => a (k + 83)) (fun k => putS e u 0 82 (k + 83)) n T th S M E r nw od cn bf := RM_ext hM (fun k hk => putS_out (by omega)) (fun _ _ => rfl)
    have hO : isD cy (putS e u 0 82 82) 1 v0 := by rw [putS_out (by omega)]; exact hO
    generalize putS e u 0 82 = e at hP hM hO ⊢
    refine g_aload_n C dL_law_122 rfl 2 rfl ?_
    refine g_aload_n C dL_law_123 rfl 0 rfl ?_
    refine g_iload C dL_law_124 4 rfl ?_
    refine g_iconst (v := nI 1) C dL_law_126 (by decide) ?_
    refine g_iadd (v := nI (i + 1)) C dL_law_127 (nI_add i 1) ?_
    refine g_sld C hs hbl hbA (by omega) (by omega) dL_law_128 ?_
    refine g_subi (off := 83) (n := 9) (As := [.int (xs (i + 1))]) (rest := [.int (nI 1)]) C (cwV 1 C.2.2.2.2.1 gL_law_X1_states rfl rfl rfl (by decide +kernel) ⟨(Nat.le_of_ble_eq_true rfl), (Nat.le_of_ble_eq_true rfl)⟩) (c_X1_states l D cy (fun k => a (k + 83)) hi9 hM _) (by decide) (by decide) (show e 83 = _ from hM.1) inl_pos1 rfl rfl (Nat.le_of_ble_eq_true rfl) dL_law_129 ⟨by show cells ≤ 623084; omega, by show slots ≤ 7175652; omega⟩ (fun z u hz => ?_)
    rcases hz with ⟨rfl, k2, hk12, hk62, hxk2, hu2⟩ | ⟨rfl, hno, -⟩
    · have hkk : k2 = k := (nI_eq (by omega) (by omega)).mp (hxk2.symm.trans hxk)
      subst hkk
      have hP : RP cy a (putS e u 83 9) k2 0 z1 z2 z2 r F B V G Cn := RP_ext hP (fun k hk => putS_out (by omega)) (fun _ _ => rfl)
      have hM : RM cy (fun k => a (k + 83)) (fun k => putS e u 83 9 (k + 83)) k2 0 0 z1 z2 z2 r nw od cn bf := RM_ext (show RM cy (fun k => a (k + 83)) u k2 0 0 z1 z2 z2 r nw od cn bf from hu2) (fun k hk => putS_in (off := 83) hk) (fun _ _ => rfl)
      have hO : isD cy (putS e u 83 9 82) 1 v0 := by rw [putS_out (by omega)]; exact hO
      generalize putS e u 83 9 = e at hP hM hO ⊢
      refine g_icmp_eq (tgt := 742) C dL_law_132 (by decide) (fun _ => ?_) (fun c1 => absurd rfl c1)
      exact K e _ _ (by omega) (by omega) ⟨_, _, _, _, _, _, _, _, _, _, _, _, _, _, _, _, _, hP, hM, hO, ⟨hk1, hk6⟩, (by decide), WB_0, hr4⟩
    · exact absurd ⟨k, hk1, hk6, hxk⟩ hno
  · have hP : RP cy a (putS e u 0 82) n T S M E r F B V G Cn := RP_ext (show RP cy a u n T S M E r F B V G Cn from by rw [hu]; exact hP) (fun k hk => putS_in (off := 0) hk) (fun _ _ => rfl)
    have hM : RM cy (fun k => a (k + 83)) (fun k => putS e u 0 82 (k + 83)) n T th S M E r nw od cn bf := RM_ext hM (fun k hk => putS_out (by omega)) (fun _ _ => rfl)
    have hO : isD cy (putS e u 0 82 82) 1 v0 := by rw [putS_out (by omega)]; exact hO
    generalize putS e u 0 82 = e at hP hM hO ⊢
    refine g_aload_n C dL_law_122 rfl 2 rfl ?_
    refine g_aload_n C dL_law_123 rfl 0 rfl ?_
    refine g_iload C dL_law_124 4 rfl ?_
    refine g_iconst (v := nI 1) C dL_law_126 (by decide) ?_
    refine g_iadd (v := nI (i + 1)) C dL_law_127 (nI_add i 1) ?_
    refine g_sld C hs hbl hbA (by omega) (by omega) dL_law_128 ?_
    refine g_subi (off := 83) (n := 9) (As := [.int (xs (i + 1))]) (rest := [.int (nI 0)]) C (cwV 1 C.2.2.2.2.1 gL_law_X1_states rfl rfl rfl (by decide +kernel) ⟨(Nat.le_of_ble_eq_true rfl), (Nat.le_of_ble_eq_true rfl)⟩) (c_X1_states l D cy (fun k => a (k + 83)) hi9 hM _) (by decide) (by decide) (show e 83 = _ from hM.1) inl_pos1 rfl rfl (Nat.le_of_ble_eq_true rfl) dL_law_129 ⟨by show cells ≤ 623084; omega, by show slots ≤ 7175652; omega⟩ (fun z u hz => ?_)
    rcases hz with ⟨rfl, k2, hk12, hk62, hxk2, -⟩ | ⟨rfl, -, hu2⟩
    · exact absurd ⟨k2, hk12, hk62, hxk2⟩ hno
    · have hP : RP cy a (putS e u 83 9) n T S M E r F B V G Cn := RP_ext hP (fun k hk => putS_out (by omega)) (fun _ _ => rfl)
      have hM : RM cy (fun k => a (k + 83)) (fun k => putS e u 83 9 (k + 83)) n T 0 S M E r nw od cn bf := RM_ext (show RM cy (fun k => a (k + 83)) u n T 0 S M E r nw od cn bf from hu2) (fun k hk => putS_in (off := 83) hk) (fun _ _ => rfl)
      have hO : isD cy (putS e u 83 9 82) 1 v0 := by rw [putS_out (by omega)]; exact hO
      generalize putS e u 83 9 = e at hP hM hO ⊢
      refine g_icmp_eq (tgt := 742) C dL_law_132 (by decide) (fun _ => ?_) (fun c1 => absurd rfl c1)
      exact K e _ _ (by omega) (by omega) ⟨_, _, _, _, _, _, _, _, _, _, _, _, _, _, _, _, _, hP, hM, hO, hn, hT, hW, hr4⟩

set_option maxHeartbeats 1000000 in
set_option maxRecDepth 100000 in
theorem law_c1 {p : Program} {l : Launch} {en : Env} {s : State} {m : MethodId} {args : Array Value} {below : List Frame} {meth : Method} {c : Code} {cells slots : Nat} {Q : State → Prop} {D : va_G} {cy : Nat → ClassId} {a sg : Nat → Nat} {A : Nat → Prop} {b L : Nat} {xs : Nat → Int32} (C : Cx p s m args c cL_law wsL_law RL D clP cy 92 9 a A) (hfl : l.stackTraces = false) (hX : XT A sg s s.heap) (hs : va_X b L xs s s.heap) (hbl : b < s.heap.size) (hbA : ¬ A b) {i : Nat} (hi4 : i + 4 ≤ L) (hL : L ≤ 2048) (hcc : cells ≤ 4300 ∧ slots ≤ 26000) {e : Nat → va_E} {n T th : Nat} {S : Nat → UInt64} {M E : T2} {r : Nat → Nat} {F B V : T2} {G : Nat → Nat → Int32} {Cn : Nat → Nat → Int64} {nw od : Nat → UInt64} {cn bf : Nat → Int64} {v0 : Nat → UInt64} (hP : RP cy a e n T S M E r F B V G Cn) (hM : RM cy (fun k => a (k + 83)) (fun k => e (k + 83)) n T th S M E r nw od cn bf) (hO : isD cy (e 82) 1 v0) (hn : 1 ≤ n ∧ n ≤ 6) (hT : T ≤ 12) (hW : WB S M E) (hr4 : RW4 r) (K : ∀ (e2 : Nat → va_E) (cells2 slots2 : Nat), cells2 ≤ cells + 2 → slots2 ≤ slots + 12 → LI cy a e2 → GW p l en room_1 s m args below meth c cells2 slots2 Q D clP 92 9 a A e2 742 [(0, .ref b), (1, .ref (a 0)), (2, .ref (a 83)), (3, .ref (a 82)), (4, .int (nI i))] []) : GW p l en room_1 s m args below meth c cells slots Q D clP 92 9 a A e 137 [(0, .ref b), (1, .ref (a 0)), (2, .ref (a 83)), (3, .ref (a 82)), (4, .int (nI i))] [] := by
  have hi0 : wInj 82 a := fun i j h1 h2 h3 => C.2.2.2.2.2.2.1 i j (by omega) (by omega) h3
  have hi9 : wInj 9 (fun k => a (k + 83)) := sub_inj (off := 83) C.2.2.2.2.2.2.1 (by decide)
  refine g_aload_n C dL_law_137 rfl 1 rfl ?_
  refine g_subi (off := 0) (n := 82) (As := []) (rest := []) C (cwV 0 C.2.2.2.2.1 gL_law_X0_size rfl rfl rfl (by decide +kernel) ⟨(Nat.le_of_ble_eq_true rfl), (Nat.le_of_ble_eq_true rfl)⟩) (c_X0_size l D cy a hi0 hP ) (by decide) (by decide) hP.1 inl_pos0 rfl rfl (Nat.le_of_ble_eq_true rfl) dL_law_138 ⟨by show cells ≤ 623084; omega, by show slots ≤ 7175652; omega⟩ (fun z u hz => ?_)
  obtain ⟨hu, rfl⟩ := hz
  have hP : RP cy a (putS e u 0 82) n T S M E r F B V G Cn := RP_ext (show RP cy a u n T S M E r F B V G Cn from by rw [hu]; exact hP) (fun k hk => putS_in (off := 0) hk) (fun _ _ => rfl)
  have hM : RM cy (fun k => a (k + 83)) (fun k => putS e u 0 82 (k + 83)) n T th S M E r nw od cn bf := RM_ext hM (fun k hk => putS_out (by omega)) (fun _ _ => rfl)
  have hO : isD cy (putS e u 0 82 82) 1 v0 := by rw [putS_out (by omega)]; exact hO
  generalize putS e u 0 82 = e at hP hM hO ⊢
  refine g_aload_n C dL_law_141 rfl 2 rfl ?_
  refine g_subi (off := 83) (n := 9) (As := []) (rest := [.int (nI n)]) C (cwV 0 C.2.2.2.2.1 gL_law_X1_size rfl rfl rfl (by decide +kernel) ⟨(Nat.le_of_ble_eq_true rfl), (Nat.le_of_ble_eq_true rfl)⟩) (c_X1_size l D cy (fun k => a (k + 83)) hi9 hM ) (by decide) (by decide) (show e 83 = _ from hM.1) inl_pos1 rfl rfl (Nat.le_of_ble_eq_true rfl) dL_law_142 ⟨by show cells ≤ 623084; omega, by show slots ≤ 7175652; omega⟩ (fun z u hz => ?_)
  obtain ⟨hu, rfl⟩ := hz
  have hP : RP cy a (putS e u 83 9) n T S M E r F B V G Cn := RP_ext hP (fun k hk => putS_out (by omega)) (fun _ _ => rfl)
  have hM : RM cy (fun k => a (k + 83)) (fun k => putS e u 83 9 (k + 83)) n T 0 S M E r nw od cn bf := RM_ext (show RM cy (fun k => a (k + 83)) u n T 0 S M E r nw od cn bf from hu) (fun k hk => putS_in (off := 83) hk) (fun _ _ => rfl)
  have hO : isD cy (putS e u 83 9 82) 1 v0 := by rw [putS_out (by omega)]; exact hO
  generalize putS e u 83 9 = e at hP hM hO ⊢
  refine g_icmp_eq (tgt := 742) C dL_law_145 (by decide) (fun _ => ?_) (fun c1 => absurd rfl c1)
  exact K e _ _ (by omega) (by omega) ⟨_, _, _, _, _, _, _, _, _, _, _, _, _, _, _, _, _, hP, hM, hO, hn, hT, hW, hr4⟩

set_option maxHeartbeats 1000000 in
set_option maxRecDepth 100000 in
theorem law_c2 {p : Program} {l : Launch} {en : Env} {s : State} {m : MethodId} {args : Array Value} {below : List Frame} {meth : Method} {c : Code} {cells slots : Nat} {Q : State → Prop} {D : va_G} {cy : Nat → ClassId} {a sg : Nat → Nat} {A : Nat → Prop} {b L : Nat} {xs : Nat → Int32} (C : Cx p s m args c cL_law wsL_law RL D clP cy 92 9 a A) (hfl : l.stackTraces = false) (hX : XT A sg s s.heap) (hs : va_X b L xs s s.heap) (hbl : b < s.heap.size) (hbA : ¬ A b) {i : Nat} (hi4 : i + 4 ≤ L) (hL : L ≤ 2048) (hcc : cells ≤ 4300 ∧ slots ≤ 26000) {e : Nat → va_E} {n T th : Nat} {S : Nat → UInt64} {M E : T2} {r : Nat → Nat} {F B V : T2} {G : Nat → Nat → Int32} {Cn : Nat → Nat → Int64} {nw od : Nat → UInt64} {cn bf : Nat → Int64} {v0 : Nat → UInt64} (hP : RP cy a e n T S M E r F B V G Cn) (hM : RM cy (fun k => a (k + 83)) (fun k => e (k + 83)) n T th S M E r nw od cn bf) (hO : isD cy (e 82) 1 v0) (hn : 1 ≤ n ∧ n ≤ 6) (hT : T ≤ 12) (hW : WB S M E) (hr4 : RW4 r) (K : ∀ (e2 : Nat → va_E) (cells2 slots2 : Nat), cells2 ≤ cells + 2 → slots2 ≤ slots + 12 → LI cy a e2 → GW p l en room_1 s m args below meth c cells2 slots2 Q D clP 92 9 a A e2 742 [(0, .ref b), (1, .ref (a 0)), (2, .ref (a 83)), (3, .ref (a 82)), (4, .int (nI i))] []) : GW p l en room_1 s m args below meth c cells slots Q D clP 92 9 a A e 150 [(0, .ref b), (1, .ref (a 0)), (2, .ref (a 83)), (3, .ref (a 82)), (4, .int (nI i))] [] := by
  have hi0 : wInj 82 a := fun i j h1 h2 h3 => C.2.2.2.2.2.2.1 i j (by omega) (by omega) h3
  have hi9 : wInj 9 (fun k => a (k + 83)) := sub_inj (off := 83) C.2.2.2.2.2.2.1 (by decide)
  refine g_aload_n C dL_law_150 rfl 1 rfl ?_
  refine g_aload_n C dL_law_151 rfl 0 rfl ?_
  refine g_iload C dL_law_152 4 rfl ?_
  refine g_iconst (v := nI 1) C dL_law_154 (by decide) ?_
  refine g_iadd (v := nI (i + 1)) C dL_law_155 (nI_add i 1) ?_
  refine g_sld C hs hbl hbA (by omega) (by omega) dL_law_156 ?_
  refine g_aload_n C dL_law_157 rfl 0 rfl ?_
  refine g_iload C dL_law_158 4 rfl ?_
  refine g_iconst (v := nI 2) C dL_law_160 (by decide) ?_
  refine g_iadd (v := nI (i + 2)) C dL_law_161 (nI_add i 2) ?_
  refine g_sld C hs hbl hbA (by omega) (by omega) dL_law_162 ?_
  refine g_i2d C dL_law_163 ?_
  refine g_ldc2d C (C.2.2.2.2.1 (.constantDouble RL 39 4593671619917905920) (by decide +kernel)) dL_law_164 ?_
  refine g_dmul C dL_law_167 (eighth_n64 _) ?_
  refine g_subi (off := 0) (n := 82) (As := [.int (xs (i + 1)), .double (FP.dmul (FP.i2d (xs (i + 2))) 4593671619917905920)]) (rest := []) C (cwV 2 C.2.2.2.2.1 gL_law_X0_start rfl rfl rfl (by decide +kernel) ⟨(Nat.le_of_ble_eq_true rfl), (Nat.le_of_ble_eq_true rfl)⟩) (c_X0_start l D cy a hi0 hP hn.2 _ _) (by decide) (by decide) hP.1 inl_pos0 rfl rfl (Nat.le_of_ble_eq_true rfl) dL_law_168 ⟨by show cells ≤ 623084; omega, by show slots ≤ 7175652; omega⟩ (fun z u hz => ?_)
  rcases hz with ⟨rfl, i0, hin, hxi, hok, hu⟩ | ⟨rfl, hno, hu⟩
  · have hP : RP cy a (putS e u 0 82) n T (va_up S i0 (FP.dmul (FP.i2d (xs (i + 2))) 4593671619917905920)) M E r F B V G Cn := RP_ext (show RP cy a u n T (va_up S i0 (FP.dmul (FP.i2d (xs (i + 2))) 4593671619917905920)) M E r F B V G Cn from hu) (fun k hk => putS_in (off := 0) hk) (fun _ _ => rfl)
    have hM : RM cy (fun k => a (k + 83)) (fun k => putS e u 0 82 (k + 83)) n T th S M E r nw od cn bf := RM_ext hM (fun k hk => putS_out (by omega)) (fun _ _ => rfl)
    have hO : isD cy (putS e u 0 82 82) 1 v0 := by rw [putS_out (by omega)]; exact hO
    generalize putS e u 0 82 = e at hP hM hO ⊢
    refine g_aload_n C dL_law_171 rfl 2 rfl ?_
    refine g_aload_n C dL_law_172 rfl 0 rfl ?_
    refine g_iload C dL_law_173 4 rfl ?_
    refine g_iconst (v := nI 1) C dL_law_175 (by decide) ?_
    refine g_iadd (v := nI (i + 1)) C dL_law_176 (nI_add i 1) ?_
    refine g_sld C hs hbl hbA (by omega) (by omega) dL_law_177 ?_
    refine g_aload_n C dL_law_178 rfl 0 rfl ?_
    refine g_iload C dL_law_179 4 rfl ?_
    refine g_iconst (v := nI 2) C dL_law_181 (by decide) ?_
    refine g_iadd (v := nI (i + 2)) C dL_law_182 (nI_add i 2) ?_
    refine g_sld C hs hbl hbA (by omega) (by omega) dL_law_183 ?_
    refine g_i2d C dL_law_184 ?_
    refine g_ldc2d C (C.2.2.2.2.1 (.constantDouble RL 39 4593671619917905920) (by decide +kernel)) dL_law_185 ?_
    refine g_dmul C dL_law_188 (eighth_n64 _) ?_
    refine g_subi (off := 83) (n := 9) (As := [.int (xs (i + 1)), .double (FP.dmul (FP.i2d (xs (i + 2))) 4593671619917905920)]) (rest := [.int (nI 1)]) C (cwV 2 C.2.2.2.2.1 gL_law_X1_start rfl rfl rfl (by decide +kernel) ⟨(Nat.le_of_ble_eq_true rfl), (Nat.le_of_ble_eq_true rfl)⟩) (c_X1_start l D cy (fun k => a (k + 83)) hi9 hM hn.2 _ _) (by decide) (by decide) (show e 83 = _ from hM.1) inl_pos1 rfl rfl (Nat.le_of_ble_eq_true rfl) dL_law_189 ⟨by show cells ≤ 623084; omega, by show slots ≤ 7175652; omega⟩ (fun z u hz => ?_)
    rcases hz with ⟨rfl, i2, hin2, hxi2, hok2, hu2⟩ | ⟨rfl, hno, -⟩
    · have hii : i2 = i0 := (nI_eq (by omega) (by omega)).mp (hxi2.symm.trans hxi)
      subst hii
      have hP : RP cy a (putS e u 83 9) n T (va_up S i2 (FP.dmul (FP.i2d (xs (i + 2))) 4593671619917905920)) M E r F B V G Cn := RP_ext hP (fun k hk => putS_out (by omega)) (fun _ _ => rfl)
      have hM : RM cy (fun k => a (k + 83)) (fun k => putS e u 83 9 (k + 83)) n T 0 (va_up S i2 (FP.dmul (FP.i2d (xs (i + 2))) 4593671619917905920)) M E r nw od cn bf := RM_ext (show RM cy (fun k => a (k + 83)) u n T 0 (va_up S i2 (FP.dmul (FP.i2d (xs (i + 2))) 4593671619917905920)) M E r nw od cn bf from hu2) (fun k hk => putS_in (off := 83) hk) (fun _ _ => rfl)
      have hO : isD cy (putS e u 83 9 82) 1 v0 := by rw [putS_out (by omega)]; exact hO
      generalize putS e u 83 9 = e at hP hM hO ⊢
      refine g_icmp_eq (tgt := 742) C dL_law_192 (by decide) (fun _ => ?_) (fun c1 => absurd rfl c1)
      exact K e _ _ (by omega) (by omega) ⟨_, _, _, _, _, _, _, _, _, _, _, _, _, _, _, _, _, hP, hM, hO, hn, hT, (WB_S hW hok2), hr4⟩
    · exact absurd ⟨⟨i0, hin, hxi⟩, hok⟩ hno
  · have hP : RP cy a (putS e u 0 82) n T S M E r F B V G Cn := RP_ext (show RP cy a u n T S M E r F B V G Cn from by rw [hu]; exact hP) (fun k hk => putS_in (off := 0) hk) (fun _ _ => rfl)
    have hM : RM cy (fun k => a (k + 83)) (fun k => putS e u 0 82 (k + 83)) n T th S M E r nw od cn bf := RM_ext hM (fun k hk => putS_out (by omega)) (fun _ _ => rfl)
    have hO : isD cy (putS e u 0 82 82) 1 v0 := by rw [putS_out (by omega)]; exact hO
    generalize putS e u 0 82 = e at hP hM hO ⊢
    refine g_aload_n C dL_law_171 rfl 2 rfl ?_
    refine g_aload_n C dL_law_172 rfl 0 rfl ?_
    refine g_iload C dL_law_173 4 rfl ?_
    refine g_iconst (v := nI 1) C dL_law_175 (by decide) ?_
    refine g_iadd (v := nI (i + 1)) C dL_law_176 (nI_add i 1) ?_
    refine g_sld C hs hbl hbA (by omega) (by omega) dL_law_177 ?_
    refine g_aload_n C dL_law_178 rfl 0 rfl ?_
    refine g_iload C dL_law_179 4 rfl ?_
    refine g_iconst (v := nI 2) C dL_law_181 (by decide) ?_
    refine g_iadd (v := nI (i + 2)) C dL_law_182 (nI_add i 2) ?_
    refine g_sld C hs hbl hbA (by omega) (by omega) dL_law_183 ?_
    refine g_i2d C dL_law_184 ?_
    refine g_ldc2d C (C.2.2.2.2.1 (.constantDouble RL 39 4593671619917905920) (by decide +kernel)) dL_law_185 ?_
    refine g_dmul C dL_law_188 (eighth_n64 _) ?_
    refine g_subi (off := 83) (n := 9) (As := [.int (xs (i + 1)), .double (FP.dmul (FP.i2d (xs (i + 2))) 4593671619917905920)]) (rest := [.int (nI 0)]) C (cwV 2 C.2.2.2.2.1 gL_law_X1_start rfl rfl rfl (by decide +kernel) ⟨(Nat.le_of_ble_eq_true rfl), (Nat.le_of_ble_eq_true rfl)⟩) (c_X1_start l D cy (fun k => a (k + 83)) hi9 hM hn.2 _ _) (by decide) (by decide) (show e 83 = _ from hM.1) inl_pos1 rfl rfl (Nat.le_of_ble_eq_true rfl) dL_law_189 ⟨by show cells ≤ 623084; omega, by show slots ≤ 7175652; omega⟩ (fun z u hz => ?_)
    rcases hz with ⟨rfl, i2, hin2, hxi2, hok2, hu2⟩ | ⟨rfl, -, hu2⟩
    · exact absurd ⟨⟨i2, hin2, hxi2⟩, hok2⟩ hno
    · have hP : RP cy a (putS e u 83 9) n T S M E r F B V G Cn := RP_ext hP (fun k hk => putS_out (by omega)) (fun _ _ => rfl)
      have hM : RM cy (fun k => a (k + 83)) (fun k => putS e u 83 9 (k + 83)) n T 0 S M E r nw od cn bf := RM_ext (show RM cy (fun k => a (k + 83)) u n T 0 S M E r nw od cn bf from hu2) (fun k hk => putS_in (off := 83) hk) (fun _ _ => rfl)
      have hO : isD cy (putS e u 83 9 82) 1 v0 := by rw [putS_out (by omega)]; exact hO
      generalize putS e u 83 9 = e at hP hM hO ⊢
      refine g_icmp_eq (tgt := 742) C dL_law_192 (by decide) (fun _ => ?_) (fun c1 => absurd rfl c1)
      exact K e _ _ (by omega) (by omega) ⟨_, _, _, _, _, _, _, _, _, _, _, _, _, _, _, _, _, hP, hM, hO, hn, hT, hW, hr4⟩

set_option maxHeartbeats 1000000 in
set_option maxRecDepth 100000 in
theorem law_c3 {p : Program} {l : Launch} {en : Env} {s : State} {m : MethodId} {args : Array Value} {below : List Frame} {meth : Method} {c : Code} {cells slots : Nat} {Q : State → Prop} {D : va_G} {cy : Nat → ClassId} {a sg : Nat → Nat} {A : Nat → Prop} {b L : Nat} {xs : Nat → Int32} (C : Cx p s m args c cL_law wsL_law RL D clP cy 92 9 a A) (hfl : l.stackTraces = false) (hX : XT A sg s s.heap) (hs : va_X b L xs s s.heap) (hbl : b < s.heap.size) (hbA : ¬ A b) {i : Nat} (hi4 : i + 4 ≤ L) (hL : L ≤ 2048) (hcc : cells ≤ 4300 ∧ slots ≤ 26000) {e : Nat → va_E} {n T th : Nat} {S : Nat → UInt64} {M E : T2} {r : Nat → Nat} {F B V : T2} {G : Nat → Nat → Int32} {Cn : Nat → Nat → Int64} {nw od : Nat → UInt64} {cn bf : Nat → Int64} {v0 : Nat → UInt64} (hP : RP cy a e n T S M E r F B V G Cn) (hM : RM cy (fun k => a (k + 83)) (fun k => e (k + 83)) n T th S M E r nw od cn bf) (hO : isD cy (e 82) 1 v0) (hn : 1 ≤ n ∧ n ≤ 6) (hT : T ≤ 12) (hW : WB S M E) (hr4 : RW4 r) (K : ∀ (e2 : Nat → va_E) (cells2 slots2 : Nat), cells2 ≤ cells + 2 → slots2 ≤ slots + 12 → LI cy a e2 → GW p l en room_1 s m args below meth c cells2 slots2 Q D clP 92 9 a A e2 742 [(0, .ref b), (1, .ref (a 0)), (2, .ref (a 83)), (3, .ref (a 82)), (4, .int (nI i))] []) : GW p l en room_1 s m args below meth c cells slots Q D clP 92 9 a A e 197 [(0, .ref b), (1, .ref (a 0)), (2, .ref (a 83)), (3, .ref (a 82)), (4, .int (nI i))] [] := by
  have hi0 : wInj 82 a := fun i j h1 h2 h3 => C.2.2.2.2.2.2.1 i j (by omega) (by omega) h3
  have hi9 : wInj 9 (fun k => a (k + 83)) := sub_inj (off := 83) C.2.2.2.2.2.2.1 (by decide)
  refine g_aload_n C dL_law_197 rfl 1 rfl ?_
  refine g_aload_n C dL_law_198 rfl 0 rfl ?_
  refine g_iload C dL_law_199 4 rfl ?_
  refine g_iconst (v := nI 1) C dL_law_201 (by decide) ?_
  refine g_iadd (v := nI (i + 1)) C dL_law_202 (nI_add i 1) ?_
  refine g_sld C hs hbl hbA (by omega) (by omega) dL_law_203 ?_
  refine g_aload_n C dL_law_204 rfl 0 rfl ?_
  refine g_iload C dL_law_205 4 rfl ?_
  refine g_iconst (v := nI 2) C dL_law_207 (by decide) ?_
  refine g_iadd (v := nI (i + 2)) C dL_law_208 (nI_add i 2) ?_
  refine g_sld C hs hbl hbA (by omega) (by omega) dL_law_209 ?_
  refine g_aload_n C dL_law_210 rfl 0 rfl ?_
  refine g_iload C dL_law_211 4 rfl ?_
  refine g_iconst (v := nI 3) C dL_law_213 (by decide) ?_
  refine g_iadd (v := nI (i + 3)) C dL_law_214 (nI_add i 3) ?_
  refine g_sld C hs hbl hbA (by omega) (by omega) dL_law_215 ?_
  refine g_i2d C dL_law_216 ?_
  refine g_ldc2d C (C.2.2.2.2.1 (.constantDouble RL 39 4593671619917905920) (by decide +kernel)) dL_law_217 ?_
  refine g_dmul C dL_law_220 (eighth_n64 _) ?_
  refine g_subi (off := 0) (n := 82) (As := [.int (xs (i + 1)), .int (xs (i + 2)), .double (FP.dmul (FP.i2d (xs (i + 3))) 4593671619917905920)]) (rest := []) C (cwV 3 C.2.2.2.2.1 gL_law_X0_move rfl rfl rfl (by decide +kernel) ⟨(Nat.le_of_ble_eq_true rfl), (Nat.le_of_ble_eq_true rfl)⟩) (c_X0_move l D cy a hi0 hP hn.2 _ _ _) (by decide) (by decide) hP.1 inl_pos0 rfl rfl (Nat.le_of_ble_eq_true rfl) dL_law_221 ⟨by show cells ≤ 623084; omega, by show slots ≤ 7175652; omega⟩ (fun z u hz => ?_)
  rcases hz with ⟨rfl, i0, j0, hin, hjn, hxi, hxj, hok, hu⟩ | ⟨rfl, hno, hu⟩
  · have hP : RP cy a (putS e u 0 82) n T S (va_up M i0 (va_up (M i0) j0 (FP.dmul (FP.i2d (xs (i + 3))) 4593671619917905920))) E r F B V G Cn := RP_ext (show RP cy a u n T S (va_up M i0 (va_up (M i0) j0 (FP.dmul (FP.i2d (xs (i + 3))) 4593671619917905920))) E r F B V G Cn from hu) (fun k hk => putS_in (off := 0) hk) (fun _ _ => rfl)
    have hM : RM cy (fun k => a (k + 83)) (fun k => putS e u 0 82 (k + 83)) n T th S M E r nw od cn bf := RM_ext hM (fun k hk => putS_out (by omega)) (fun _ _ => rfl)
    have hO : isD cy (putS e u 0 82 82) 1 v0 := by rw [putS_out (by omega)]; exact hO
    generalize putS e u 0 82 = e at hP hM hO ⊢
    refine g_aload_n C dL_law_224 rfl 2 rfl ?_
    refine g_aload_n C dL_law_225 rfl 0 rfl ?_
    refine g_iload C dL_law_226 4 rfl ?_
    refine g_iconst (v := nI 1) C dL_law_228 (by decide) ?_
    refine g_iadd (v := nI (i + 1)) C dL_law_229 (nI_add i 1) ?_
    refine g_sld C hs hbl hbA (by omega) (by omega) dL_law_230 ?_
    refine g_aload_n C dL_law_231 rfl 0 rfl ?_
    refine g_iload C dL_law_232 4 rfl ?_
    refine g_iconst (v := nI 2) C dL_law_234 (by decide) ?_
    refine g_iadd (v := nI (i + 2)) C dL_law_235 (nI_add i 2) ?_
    refine g_sld C hs hbl hbA (by omega) (by omega) dL_law_236 ?_
    refine g_aload_n C dL_law_237 rfl 0 rfl ?_
    refine g_iload C dL_law_238 4 rfl ?_
    refine g_iconst (v := nI 3) C dL_law_240 (by decide) ?_
    refine g_iadd (v := nI (i + 3)) C dL_law_241 (nI_add i 3) ?_
    refine g_sld C hs hbl hbA (by omega) (by omega) dL_law_242 ?_
    refine g_i2d C dL_law_243 ?_
    refine g_ldc2d C (C.2.2.2.2.1 (.constantDouble RL 39 4593671619917905920) (by decide +kernel)) dL_law_244 ?_
    refine g_dmul C dL_law_247 (eighth_n64 _) ?_
    refine g_subi (off := 83) (n := 9) (As := [.int (xs (i + 1)), .int (xs (i + 2)), .double (FP.dmul (FP.i2d (xs (i + 3))) 4593671619917905920)]) (rest := [.int (nI 1)]) C (cwV 3 C.2.2.2.2.1 gL_law_X1_move rfl rfl rfl (by decide +kernel) ⟨(Nat.le_of_ble_eq_true rfl), (Nat.le_of_ble_eq_true rfl)⟩) (c_X1_move l D cy (fun k => a (k + 83)) hi9 hM hn.2 _ _ _) (by decide) (by decide) (show e 83 = _ from hM.1) inl_pos1 rfl rfl (Nat.le_of_ble_eq_true rfl) dL_law_248 ⟨by show cells ≤ 623084; omega, by show slots ≤ 7175652; omega⟩ (fun z u hz => ?_)
    rcases hz with ⟨rfl, i2, j2, hin2, hjn2, hxi2, hxj2, hok2, hu2⟩ | ⟨rfl, hno, -⟩
    · have hii : i2 = i0 := (nI_eq (by omega) (by omega)).mp (hxi2.symm.trans hxi)
      have hjj : j2 = j0 := (nI_eq (by omega) (by omega)).mp (hxj2.symm.trans hxj)
      subst hii
      subst hjj
      have hP : RP cy a (putS e u 83 9) n T S (va_up M i2 (va_up (M i2) j2 (FP.dmul (FP.i2d (xs (i + 3))) 4593671619917905920))) E r F B V G Cn := RP_ext hP (fun k hk => putS_out (by omega)) (fun _ _ => rfl)
      have hM : RM cy (fun k => a (k + 83)) (fun k => putS e u 83 9 (k + 83)) n T 0 S (va_up M i2 (va_up (M i2) j2 (FP.dmul (FP.i2d (xs (i + 3))) 4593671619917905920))) E r nw od cn bf := RM_ext (show RM cy (fun k => a (k + 83)) u n T 0 S (va_up M i2 (va_up (M i2) j2 (FP.dmul (FP.i2d (xs (i + 3))) 4593671619917905920))) E r nw od cn bf from hu2) (fun k hk => putS_in (off := 83) hk) (fun _ _ => rfl)
      have hO : isD cy (putS e u 83 9 82) 1 v0 := by rw [putS_out (by omega)]; exact hO
      generalize putS e u 83 9 = e at hP hM hO ⊢
      refine g_icmp_eq (tgt := 742) C dL_law_251 (by decide) (fun _ => ?_) (fun c1 => absurd rfl c1)
      exact K e _ _ (by omega) (by omega) ⟨_, _, _, _, _, _, _, _, _, _, _, _, _, _, _, _, _, hP, hM, hO, hn, hT, (WB_M hW hok2), hr4⟩
    · exact absurd ⟨⟨i0, hin, hxi⟩, ⟨j0, hjn, hxj⟩, hok⟩ hno
  · have hP : RP cy a (putS e u 0 82) n T S M E r F B V G Cn := RP_ext (show RP cy a u n T S M E r F B V G Cn from by rw [hu]; exact hP) (fun k hk => putS_in (off := 0) hk) (fun _ _ => rfl)
    have hM : RM cy (fun k => a (k + 83)) (fun k => putS e u 0 82 (k + 83)) n T th S M E r nw od cn bf := RM_ext hM (fun k hk => putS_out (by omega)) (fun _ _ => rfl)
    have hO : isD cy (putS e u 0 82 82) 1 v0 := by rw [putS_out (by omega)]; exact hO
    generalize putS e u 0 82 = e at hP hM hO ⊢
    refine g_aload_n C dL_law_224 rfl 2 rfl ?_
    refine g_aload_n C dL_law_225 rfl 0 rfl ?_
    refine g_iload C dL_law_226 4 rfl ?_
    refine g_iconst (v := nI 1) C dL_law_228 (by decide) ?_
    refine g_iadd (v := nI (i + 1)) C dL_law_229 (nI_add i 1) ?_
    refine g_sld C hs hbl hbA (by omega) (by omega) dL_law_230 ?_
    refine g_aload_n C dL_law_231 rfl 0 rfl ?_
    refine g_iload C dL_law_232 4 rfl ?_
    refine g_iconst (v := nI 2) C dL_law_234 (by decide) ?_
    refine g_iadd (v := nI (i + 2)) C dL_law_235 (nI_add i 2) ?_
    refine g_sld C hs hbl hbA (by omega) (by omega) dL_law_236 ?_
    refine g_aload_n C dL_law_237 rfl 0 rfl ?_
    refine g_iload C dL_law_238 4 rfl ?_
    refine g_iconst (v := nI 3) C dL_law_240 (by decide) ?_
    refine g_iadd (v := nI (i + 3)) C dL_law_241 (nI_add i 3) ?_
    refine g_sld C hs hbl hbA (by omega) (by omega) dL_law_242 ?_
    refine g_i2d C dL_law_243 ?_
    refine g_ldc2d C (C.2.2.2.2.1 (.constantDouble RL 39 4593671619917905920) (by decide +kernel)) dL_law_244 ?_
    refine g_dmul C dL_law_247 (eighth_n64 _) ?_
    refine g_subi (off := 83) (n := 9) (As := [.int (xs (i + 1)), .int (xs (i + 2)), .double (FP.dmul (FP.i2d (xs (i + 3))) 4593671619917905920)]) (rest := [.int (nI 0)]) C (cwV 3 C.2.2.2.2.1 gL_law_X1_move rfl rfl rfl (by decide +kernel) ⟨(Nat.le_of_ble_eq_true rfl), (Nat.le_of_ble_eq_true rfl)⟩) (c_X1_move l D cy (fun k => a (k + 83)) hi9 hM hn.2 _ _ _) (by decide) (by decide) (show e 83 = _ from hM.1) inl_pos1 rfl rfl (Nat.le_of_ble_eq_true rfl) dL_law_248 ⟨by show cells ≤ 623084; omega, by show slots ≤ 7175652; omega⟩ (fun z u hz => ?_)
    rcases hz with ⟨rfl, i2, j2, hin2, hjn2, hxi2, hxj2, hok2, hu2⟩ | ⟨rfl, -, hu2⟩
    · exact absurd ⟨⟨i2, hin2, hxi2⟩, ⟨j2, hjn2, hxj2⟩, hok2⟩ hno
    · have hP : RP cy a (putS e u 83 9) n T S M E r F B V G Cn := RP_ext hP (fun k hk => putS_out (by omega)) (fun _ _ => rfl)
      have hM : RM cy (fun k => a (k + 83)) (fun k => putS e u 83 9 (k + 83)) n T 0 S M E r nw od cn bf := RM_ext (show RM cy (fun k => a (k + 83)) u n T 0 S M E r nw od cn bf from hu2) (fun k hk => putS_in (off := 83) hk) (fun _ _ => rfl)
      have hO : isD cy (putS e u 83 9 82) 1 v0 := by rw [putS_out (by omega)]; exact hO
      generalize putS e u 83 9 = e at hP hM hO ⊢
      refine g_icmp_eq (tgt := 742) C dL_law_251 (by decide) (fun _ => ?_) (fun c1 => absurd rfl c1)
      exact K e _ _ (by omega) (by omega) ⟨_, _, _, _, _, _, _, _, _, _, _, _, _, _, _, _, _, hP, hM, hO, hn, hT, hW, hr4⟩

set_option maxHeartbeats 1000000 in
set_option maxRecDepth 100000 in
theorem law_c4 {p : Program} {l : Launch} {en : Env} {s : State} {m : MethodId} {args : Array Value} {below : List Frame} {meth : Method} {c : Code} {cells slots : Nat} {Q : State → Prop} {D : va_G} {cy : Nat → ClassId} {a sg : Nat → Nat} {A : Nat → Prop} {b L : Nat} {xs : Nat → Int32} (C : Cx p s m args c cL_law wsL_law RL D clP cy 92 9 a A) (hfl : l.stackTraces = false) (hX : XT A sg s s.heap) (hs : va_X b L xs s s.heap) (hbl : b < s.heap.size) (hbA : ¬ A b) {i : Nat} (hi4 : i + 4 ≤ L) (hL : L ≤ 2048) (hcc : cells ≤ 4300 ∧ slots ≤ 26000) {e : Nat → va_E} {n T th : Nat} {S : Nat → UInt64} {M E : T2} {r : Nat → Nat} {F B V : T2} {G : Nat → Nat → Int32} {Cn : Nat → Nat → Int64} {nw od : Nat → UInt64} {cn bf : Nat → Int64} {v0 : Nat → UInt64} (hP : RP cy a e n T S M E r F B V G Cn) (hM : RM cy (fun k => a (k + 83)) (fun k => e (k + 83)) n T th S M E r nw od cn bf) (hO : isD cy (e 82) 1 v0) (hn : 1 ≤ n ∧ n ≤ 6) (hT : T ≤ 12) (hW : WB S M E) (hr4 : RW4 r) (K : ∀ (e2 : Nat → va_E) (cells2 slots2 : Nat), cells2 ≤ cells + 2 → slots2 ≤ slots + 12 → LI cy a e2 → GW p l en room_1 s m args below meth c cells2 slots2 Q D clP 92 9 a A e2 742 [(0, .ref b), (1, .ref (a 0)), (2, .ref (a 83)), (3, .ref (a 82)), (4, .int (nI i))] []) : GW p l en room_1 s m args below meth c cells slots Q D clP 92 9 a A e 256 [(0, .ref b), (1, .ref (a 0)), (2, .ref (a 83)), (3, .ref (a 82)), (4, .int (nI i))] [] := by
  have hi0 : wInj 82 a := fun i j h1 h2 h3 => C.2.2.2.2.2.2.1 i j (by omega) (by omega) h3
  have hi9 : wInj 9 (fun k => a (k + 83)) := sub_inj (off := 83) C.2.2.2.2.2.2.1 (by decide)
  refine g_aload_n C dL_law_256 rfl 1 rfl ?_
  refine g_aload_n C dL_law_257 rfl 0 rfl ?_
  refine g_iload C dL_law_258 4 rfl ?_
  refine g_iconst (v := nI 1) C dL_law_260 (by decide) ?_
  refine g_iadd (v := nI (i + 1)) C dL_law_261 (nI_add i 1) ?_
  refine g_sld C hs hbl hbA (by omega) (by omega) dL_law_262 ?_
  refine g_aload_n C dL_law_263 rfl 0 rfl ?_
  refine g_iload C dL_law_264 4 rfl ?_
  refine g_iconst (v := nI 2) C dL_law_266 (by decide) ?_
  refine g_iadd (v := nI (i + 2)) C dL_law_267 (nI_add i 2) ?_
  refine g_sld C hs hbl hbA (by omega) (by omega) dL_law_268 ?_
  refine g_aload_n C dL_law_269 rfl 0 rfl ?_
  refine g_iload C dL_law_270 4 rfl ?_
  refine g_iconst (v := nI 3) C dL_law_272 (by decide) ?_
  refine g_iadd (v := nI (i + 3)) C dL_law_273 (nI_add i 3) ?_
  refine g_sld C hs hbl hbA (by omega) (by omega) dL_law_274 ?_
  refine g_i2d C dL_law_275 ?_
  refine g_ldc2d C (C.2.2.2.2.1 (.constantDouble RL 39 4593671619917905920) (by decide +kernel)) dL_law_276 ?_
  refine g_dmul C dL_law_279 (eighth_n64 _) ?_
  refine g_subi (off := 0) (n := 82) (As := [.int (xs (i + 1)), .int (xs (i + 2)), .double (FP.dmul (FP.i2d (xs (i + 3))) 4593671619917905920)]) (rest := []) C (cwV 3 C.2.2.2.2.1 gL_law_X0_show rfl rfl rfl (by decide +kernel) ⟨(Nat.le_of_ble_eq_true rfl), (Nat.le_of_ble_eq_true rfl)⟩) (c_X0_show l D cy a hi0 hP hn.2 _ _ _) (by decide) (by decide) hP.1 inl_pos0 rfl rfl (Nat.le_of_ble_eq_true rfl) dL_law_280 ⟨by show cells ≤ 623084; omega, by show slots ≤ 7175652; omega⟩ (fun z u hz => ?_)
  rcases hz with ⟨rfl, i0, j0, hin, hjn, hxi, hxj, hok, hu⟩ | ⟨rfl, hno, hu⟩
  · have hP : RP cy a (putS e u 0 82) n T S M (va_up E i0 (va_up (E i0) j0 (FP.dmul (FP.i2d (xs (i + 3))) 4593671619917905920))) r F B V G Cn := RP_ext (show RP cy a u n T S M (va_up E i0 (va_up (E i0) j0 (FP.dmul (FP.i2d (xs (i + 3))) 4593671619917905920))) r F B V G Cn from hu) (fun k hk => putS_in (off := 0) hk) (fun _ _ => rfl)
    have hM : RM cy (fun k => a (k + 83)) (fun k => putS e u 0 82 (k + 83)) n T th S M E r nw od cn bf := RM_ext hM (fun k hk => putS_out (by omega)) (fun _ _ => rfl)
    have hO : isD cy (putS e u 0 82 82) 1 v0 := by rw [putS_out (by omega)]; exact hO
    generalize putS e u 0 82 = e at hP hM hO ⊢
    refine g_aload_n C dL_law_283 rfl 2 rfl ?_
    refine g_aload_n C dL_law_284 rfl 0 rfl ?_
    refine g_iload C dL_law_285 4 rfl ?_
    refine g_iconst (v := nI 1) C dL_law_287 (by decide) ?_
    refine g_iadd (v := nI (i + 1)) C dL_law_288 (nI_add i 1) ?_
    refine g_sld C hs hbl hbA (by omega) (by omega) dL_law_289 ?_
    refine g_aload_n C dL_law_290 rfl 0 rfl ?_
    refine g_iload C dL_law_291 4 rfl ?_
    refine g_iconst (v := nI 2) C dL_law_293 (by decide) ?_
    refine g_iadd (v := nI (i + 2)) C dL_law_294 (nI_add i 2) ?_
    refine g_sld C hs hbl hbA (by omega) (by omega) dL_law_295 ?_
    refine g_aload_n C dL_law_296 rfl 0 rfl ?_
    refine g_iload C dL_law_297 4 rfl ?_
    refine g_iconst (v := nI 3) C dL_law_299 (by decide) ?_
    refine g_iadd (v := nI (i + 3)) C dL_law_300 (nI_add i 3) ?_
    refine g_sld C hs hbl hbA (by omega) (by omega) dL_law_301 ?_
    refine g_i2d C dL_law_302 ?_
    refine g_ldc2d C (C.2.2.2.2.1 (.constantDouble RL 39 4593671619917905920) (by decide +kernel)) dL_law_303 ?_
    refine g_dmul C dL_law_306 (eighth_n64 _) ?_
    refine g_subi (off := 83) (n := 9) (As := [.int (xs (i + 1)), .int (xs (i + 2)), .double (FP.dmul (FP.i2d (xs (i + 3))) 4593671619917905920)]) (rest := [.int (nI 1)]) C (cwV 3 C.2.2.2.2.1 gL_law_X1_show rfl rfl rfl (by decide +kernel) ⟨(Nat.le_of_ble_eq_true rfl), (Nat.le_of_ble_eq_true rfl)⟩) (c_X1_show l D cy (fun k => a (k + 83)) hi9 hM hn.2 _ _ _) (by decide) (by decide) (show e 83 = _ from hM.1) inl_pos1 rfl rfl (Nat.le_of_ble_eq_true rfl) dL_law_307 ⟨by show cells ≤ 623084; omega, by show slots ≤ 7175652; omega⟩ (fun z u hz => ?_)
    rcases hz with ⟨rfl, i2, j2, hin2, hjn2, hxi2, hxj2, hok2, hu2⟩ | ⟨rfl, hno, -⟩
    · have hii : i2 = i0 := (nI_eq (by omega) (by omega)).mp (hxi2.symm.trans hxi)
      have hjj : j2 = j0 := (nI_eq (by omega) (by omega)).mp (hxj2.symm.trans hxj)
      subst hii
      subst hjj
      have hP : RP cy a (putS e u 83 9) n T S M (va_up E i2 (va_up (E i2) j2 (FP.dmul (FP.i2d (xs (i + 3))) 4593671619917905920))) r F B V G Cn := RP_ext hP (fun k hk => putS_out (by omega)) (fun _ _ => rfl)
      have hM : RM cy (fun k => a (k + 83)) (fun k => putS e u 83 9 (k + 83)) n T 0 S M (va_up E i2 (va_up (E i2) j2 (FP.dmul (FP.i2d (xs (i + 3))) 4593671619917905920))) r nw od cn bf := RM_ext (show RM cy (fun k => a (k + 83)) u n T 0 S M (va_up E i2 (va_up (E i2) j2 (FP.dmul (FP.i2d (xs (i + 3))) 4593671619917905920))) r nw od cn bf from hu2) (fun k hk => putS_in (off := 83) hk) (fun _ _ => rfl)
      have hO : isD cy (putS e u 83 9 82) 1 v0 := by rw [putS_out (by omega)]; exact hO
      generalize putS e u 83 9 = e at hP hM hO ⊢
      refine g_icmp_eq (tgt := 742) C dL_law_310 (by decide) (fun _ => ?_) (fun c1 => absurd rfl c1)
      exact K e _ _ (by omega) (by omega) ⟨_, _, _, _, _, _, _, _, _, _, _, _, _, _, _, _, _, hP, hM, hO, hn, hT, (WB_E hW hok2), hr4⟩
    · exact absurd ⟨⟨i0, hin, hxi⟩, ⟨j0, hjn, hxj⟩, hok⟩ hno
  · have hP : RP cy a (putS e u 0 82) n T S M E r F B V G Cn := RP_ext (show RP cy a u n T S M E r F B V G Cn from by rw [hu]; exact hP) (fun k hk => putS_in (off := 0) hk) (fun _ _ => rfl)
    have hM : RM cy (fun k => a (k + 83)) (fun k => putS e u 0 82 (k + 83)) n T th S M E r nw od cn bf := RM_ext hM (fun k hk => putS_out (by omega)) (fun _ _ => rfl)
    have hO : isD cy (putS e u 0 82 82) 1 v0 := by rw [putS_out (by omega)]; exact hO
    generalize putS e u 0 82 = e at hP hM hO ⊢
    refine g_aload_n C dL_law_283 rfl 2 rfl ?_
    refine g_aload_n C dL_law_284 rfl 0 rfl ?_
    refine g_iload C dL_law_285 4 rfl ?_
    refine g_iconst (v := nI 1) C dL_law_287 (by decide) ?_
    refine g_iadd (v := nI (i + 1)) C dL_law_288 (nI_add i 1) ?_
    refine g_sld C hs hbl hbA (by omega) (by omega) dL_law_289 ?_
    refine g_aload_n C dL_law_290 rfl 0 rfl ?_
    refine g_iload C dL_law_291 4 rfl ?_
    refine g_iconst (v := nI 2) C dL_law_293 (by decide) ?_
    refine g_iadd (v := nI (i + 2)) C dL_law_294 (nI_add i 2) ?_
    refine g_sld C hs hbl hbA (by omega) (by omega) dL_law_295 ?_
    refine g_aload_n C dL_law_296 rfl 0 rfl ?_
    refine g_iload C dL_law_297 4 rfl ?_
    refine g_iconst (v := nI 3) C dL_law_299 (by decide) ?_
    refine g_iadd (v := nI (i + 3)) C dL_law_300 (nI_add i 3) ?_
    refine g_sld C hs hbl hbA (by omega) (by omega) dL_law_301 ?_
    refine g_i2d C dL_law_302 ?_
    refine g_ldc2d C (C.2.2.2.2.1 (.constantDouble RL 39 4593671619917905920) (by decide +kernel)) dL_law_303 ?_
    refine g_dmul C dL_law_306 (eighth_n64 _) ?_
    refine g_subi (off := 83) (n := 9) (As := [.int (xs (i + 1)), .int (xs (i + 2)), .double (FP.dmul (FP.i2d (xs (i + 3))) 4593671619917905920)]) (rest := [.int (nI 0)]) C (cwV 3 C.2.2.2.2.1 gL_law_X1_show rfl rfl rfl (by decide +kernel) ⟨(Nat.le_of_ble_eq_true rfl), (Nat.le_of_ble_eq_true rfl)⟩) (c_X1_show l D cy (fun k => a (k + 83)) hi9 hM hn.2 _ _ _) (by decide) (by decide) (show e 83 = _ from hM.1) inl_pos1 rfl rfl (Nat.le_of_ble_eq_true rfl) dL_law_307 ⟨by show cells ≤ 623084; omega, by show slots ≤ 7175652; omega⟩ (fun z u hz => ?_)
    rcases hz with ⟨rfl, i2, j2, hin2, hjn2, hxi2, hxj2, hok2, hu2⟩ | ⟨rfl, -, hu2⟩
    · exact absurd ⟨⟨i2, hin2, hxi2⟩, ⟨j2, hjn2, hxj2⟩, hok2⟩ hno
    · have hP : RP cy a (putS e u 83 9) n T S M E r F B V G Cn := RP_ext hP (fun k hk => putS_out (by omega)) (fun _ _ => rfl)
      have hM : RM cy (fun k => a (k + 83)) (fun k => putS e u 83 9 (k + 83)) n T 0 S M E r nw od cn bf := RM_ext (show RM cy (fun k => a (k + 83)) u n T 0 S M E r nw od cn bf from hu2) (fun k hk => putS_in (off := 83) hk) (fun _ _ => rfl)
      have hO : isD cy (putS e u 83 9 82) 1 v0 := by rw [putS_out (by omega)]; exact hO
      generalize putS e u 83 9 = e at hP hM hO ⊢
      refine g_icmp_eq (tgt := 742) C dL_law_310 (by decide) (fun _ => ?_) (fun c1 => absurd rfl c1)
      exact K e _ _ (by omega) (by omega) ⟨_, _, _, _, _, _, _, _, _, _, _, _, _, _, _, _, _, hP, hM, hO, hn, hT, hW, hr4⟩

set_option maxHeartbeats 1000000 in
set_option maxRecDepth 100000 in
theorem law_c5 {p : Program} {l : Launch} {en : Env} {s : State} {m : MethodId} {args : Array Value} {below : List Frame} {meth : Method} {c : Code} {cells slots : Nat} {Q : State → Prop} {D : va_G} {cy : Nat → ClassId} {a sg : Nat → Nat} {A : Nat → Prop} {b L : Nat} {xs : Nat → Int32} (C : Cx p s m args c cL_law wsL_law RL D clP cy 92 9 a A) (hfl : l.stackTraces = false) (hX : XT A sg s s.heap) (hs : va_X b L xs s s.heap) (hbl : b < s.heap.size) (hbA : ¬ A b) {i : Nat} (hi4 : i + 4 ≤ L) (hL : L ≤ 2048) (hcc : cells ≤ 4300 ∧ slots ≤ 26000) {e : Nat → va_E} {n T th : Nat} {S : Nat → UInt64} {M E : T2} {r : Nat → Nat} {F B V : T2} {G : Nat → Nat → Int32} {Cn : Nat → Nat → Int64} {nw od : Nat → UInt64} {cn bf : Nat → Int64} {v0 : Nat → UInt64} (hP : RP cy a e n T S M E r F B V G Cn) (hM : RM cy (fun k => a (k + 83)) (fun k => e (k + 83)) n T th S M E r nw od cn bf) (hO : isD cy (e 82) 1 v0) (hn : 1 ≤ n ∧ n ≤ 6) (hT : T ≤ 12) (hW : WB S M E) (hr4 : RW4 r) (K : ∀ (e2 : Nat → va_E) (cells2 slots2 : Nat), cells2 ≤ cells + 2 → slots2 ≤ slots + 12 → LI cy a e2 → GW p l en room_1 s m args below meth c cells2 slots2 Q D clP 92 9 a A e2 742 [(0, .ref b), (1, .ref (a 0)), (2, .ref (a 83)), (3, .ref (a 82)), (4, .int (nI i))] []) : GW p l en room_1 s m args below meth c cells slots Q D clP 92 9 a A e 315 [(0, .ref b), (1, .ref (a 0)), (2, .ref (a 83)), (3, .ref (a 82)), (4, .int (nI i))] [] := by
  have hi0 : wInj 82 a := fun i j h1 h2 h3 => C.2.2.2.2.2.2.1 i j (by omega) (by omega) h3
  have hi9 : wInj 9 (fun k => a (k + 83)) := sub_inj (off := 83) C.2.2.2.2.2.2.1 (by decide)
  refine g_aload_n C dL_law_315 rfl 1 rfl ?_
  refine g_aload_n C dL_law_316 rfl 0 rfl ?_
  refine g_iload C dL_law_317 4 rfl ?_
  refine g_iconst (v := nI 1) C dL_law_319 (by decide) ?_
  refine g_iadd (v := nI (i + 1)) C dL_law_320 (nI_add i 1) ?_
  refine g_sld C hs hbl hbA (by omega) (by omega) dL_law_321 ?_
  refine g_subi (off := 0) (n := 82) (As := [.int (xs (i + 1))]) (rest := []) C (cwV 1 C.2.2.2.2.1 gL_law_X0_read rfl rfl rfl (by decide +kernel) ⟨(Nat.le_of_ble_eq_true rfl), (Nat.le_of_ble_eq_true rfl)⟩) (c_X0_read l D cy a hi0 hP hT _) (by decide) (by decide) hP.1 inl_pos0 rfl rfl (Nat.le_of_ble_eq_true rfl) dL_law_322 ⟨by show cells ≤ 623084; omega, by show slots ≤ 7175652; omega⟩ (fun z u hz => ?_)
  rcases hz with ⟨rfl, k0, hk4, hxk, hT12, hu⟩ | ⟨rfl, hno, hu⟩
  · have hP : RP cy a (putS e u 0 82) n (T + 1) S M E (va_up r T k0) F B V G Cn := RP_ext (show RP cy a u n (T + 1) S M E (va_up r T k0) F B V G Cn from hu) (fun k hk => putS_in (off := 0) hk) (fun _ _ => rfl)
    have hM : RM cy (fun k => a (k + 83)) (fun k => putS e u 0 82 (k + 83)) n T th S M E r nw od cn bf := RM_ext hM (fun k hk => putS_out (by omega)) (fun _ _ => rfl)
    have hO : isD cy (putS e u 0 82 82) 1 v0 := by rw [putS_out (by omega)]; exact hO
    generalize putS e u 0 82 = e at hP hM hO ⊢
    refine g_aload_n C dL_law_325 rfl 2 rfl ?_
    refine g_aload_n C dL_law_326 rfl 0 rfl ?_
    refine g_iload C dL_law_327 4 rfl ?_
    refine g_iconst (v := nI 1) C dL_law_329 (by decide) ?_
    refine g_iadd (v := nI (i + 1)) C dL_law_330 (nI_add i 1) ?_
    refine g_sld C hs hbl hbA (by omega) (by omega) dL_law_331 ?_
    refine g_subi (off := 83) (n := 9) (As := [.int (xs (i + 1))]) (rest := [.int (nI 1)]) C (cwV 1 C.2.2.2.2.1 gL_law_X1_read rfl rfl rfl (by decide +kernel) ⟨(Nat.le_of_ble_eq_true rfl), (Nat.le_of_ble_eq_true rfl)⟩) (c_X1_read l D cy (fun k => a (k + 83)) hi9 hM hT _) (by decide) (by decide) (show e 83 = _ from hM.1) inl_pos1 rfl rfl (Nat.le_of_ble_eq_true rfl) dL_law_332 ⟨by show cells ≤ 623084; omega, by show slots ≤ 7175652; omega⟩ (fun z u hz => ?_)
    rcases hz with ⟨rfl, k2, hk42, hxk2, hT122, hu2⟩ | ⟨rfl, hno, -⟩
    · have hkk : k2 = k0 := (nI_eq (by omega) (by omega)).mp (hxk2.symm.trans hxk)
      subst hkk
      have hP : RP cy a (putS e u 83 9) n (T + 1) S M E (va_up r T k2) F B V G Cn := RP_ext hP (fun k hk => putS_out (by omega)) (fun _ _ => rfl)
      have hM : RM cy (fun k => a (k + 83)) (fun k => putS e u 83 9 (k + 83)) n (T + 1) 0 S M E (va_up r T k2) nw od cn bf := RM_ext (show RM cy (fun k => a (k + 83)) u n (T + 1) 0 S M E (va_up r T k2) nw od cn bf from hu2) (fun k hk => putS_in (off := 83) hk) (fun _ _ => rfl)
      have hO : isD cy (putS e u 83 9 82) 1 v0 := by rw [putS_out (by omega)]; exact hO
      generalize putS e u 83 9 = e at hP hM hO ⊢
      refine g_icmp_eq (tgt := 742) C dL_law_335 (by decide) (fun _ => ?_) (fun c1 => absurd rfl c1)
      exact K e _ _ (by omega) (by omega) ⟨_, _, _, _, _, _, _, _, _, _, _, _, _, _, _, _, _, hP, hM, hO, hn, (by omega), hW, (RW4_up hr4 hk42)⟩
    · exact absurd ⟨⟨k0, hk4, hxk⟩, hT12⟩ hno
  · have hP : RP cy a (putS e u 0 82) n T S M E r F B V G Cn := RP_ext (show RP cy a u n T S M E r F B V G Cn from by rw [hu]; exact hP) (fun k hk => putS_in (off := 0) hk) (fun _ _ => rfl)
    have hM : RM cy (fun k => a (k + 83)) (fun k => putS e u 0 82 (k + 83)) n T th S M E r nw od cn bf := RM_ext hM (fun k hk => putS_out (by omega)) (fun _ _ => rfl)
    have hO : isD cy (putS e u 0 82 82) 1 v0 := by rw [putS_out (by omega)]; exact hO
    generalize putS e u 0 82 = e at hP hM hO ⊢
    refine g_aload_n C dL_law_325 rfl 2 rfl ?_
    refine g_aload_n C dL_law_326 rfl 0 rfl ?_
    refine g_iload C dL_law_327 4 rfl ?_
    refine g_iconst (v := nI 1) C dL_law_329 (by decide) ?_
    refine g_iadd (v := nI (i + 1)) C dL_law_330 (nI_add i 1) ?_
    refine g_sld C hs hbl hbA (by omega) (by omega) dL_law_331 ?_
    refine g_subi (off := 83) (n := 9) (As := [.int (xs (i + 1))]) (rest := [.int (nI 0)]) C (cwV 1 C.2.2.2.2.1 gL_law_X1_read rfl rfl rfl (by decide +kernel) ⟨(Nat.le_of_ble_eq_true rfl), (Nat.le_of_ble_eq_true rfl)⟩) (c_X1_read l D cy (fun k => a (k + 83)) hi9 hM hT _) (by decide) (by decide) (show e 83 = _ from hM.1) inl_pos1 rfl rfl (Nat.le_of_ble_eq_true rfl) dL_law_332 ⟨by show cells ≤ 623084; omega, by show slots ≤ 7175652; omega⟩ (fun z u hz => ?_)
    rcases hz with ⟨rfl, k2, hk42, hxk2, hT122, -⟩ | ⟨rfl, -, hu2⟩
    · exact absurd ⟨⟨k2, hk42, hxk2⟩, hT122⟩ hno
    · have hP : RP cy a (putS e u 83 9) n T S M E r F B V G Cn := RP_ext hP (fun k hk => putS_out (by omega)) (fun _ _ => rfl)
      have hM : RM cy (fun k => a (k + 83)) (fun k => putS e u 83 9 (k + 83)) n T 0 S M E r nw od cn bf := RM_ext (show RM cy (fun k => a (k + 83)) u n T 0 S M E r nw od cn bf from hu2) (fun k hk => putS_in (off := 83) hk) (fun _ _ => rfl)
      have hO : isD cy (putS e u 83 9 82) 1 v0 := by rw [putS_out (by omega)]; exact hO
      generalize putS e u 83 9 = e at hP hM hO ⊢
      refine g_icmp_eq (tgt := 742) C dL_law_335 (by decide) (fun _ => ?_) (fun c1 => absurd rfl c1)
      exact K e _ _ (by omega) (by omega) ⟨_, _, _, _, _, _, _, _, _, _, _, _, _, _, _, _, _, hP, hM, hO, hn, hT, hW, hr4⟩

set_option maxHeartbeats 1000000 in
set_option maxRecDepth 100000 in
theorem law_c6 {p : Program} {l : Launch} {en : Env} {s : State} {m : MethodId} {args : Array Value} {below : List Frame} {meth : Method} {c : Code} {cells slots : Nat} {Q : State → Prop} {D : va_G} {cy : Nat → ClassId} {a sg : Nat → Nat} {A : Nat → Prop} {b L : Nat} {xs : Nat → Int32} (C : Cx p s m args c cL_law wsL_law RL D clP cy 92 9 a A) (hfl : l.stackTraces = false) (hX : XT A sg s s.heap) (hs : va_X b L xs s s.heap) (hbl : b < s.heap.size) (hbA : ¬ A b) {i : Nat} (hi4 : i + 4 ≤ L) (hL : L ≤ 2048) (hcc : cells ≤ 4300 ∧ slots ≤ 26000) {e : Nat → va_E} {n T th : Nat} {S : Nat → UInt64} {M E : T2} {r : Nat → Nat} {F B V : T2} {G : Nat → Nat → Int32} {Cn : Nat → Nat → Int64} {nw od : Nat → UInt64} {cn bf : Nat → Int64} {v0 : Nat → UInt64} (hP : RP cy a e n T S M E r F B V G Cn) (hM : RM cy (fun k => a (k + 83)) (fun k => e (k + 83)) n T th S M E r nw od cn bf) (hO : isD cy (e 82) 1 v0) (hn : 1 ≤ n ∧ n ≤ 6) (hT : T ≤ 12) (hW : WB S M E) (hr4 : RW4 r) (K : ∀ (e2 : Nat → va_E) (cells2 slots2 : Nat), cells2 ≤ cells + 2 → slots2 ≤ slots + 12 → LI cy a e2 → GW p l en room_1 s m args below meth c cells2 slots2 Q D clP 92 9 a A e2 742 [(0, .ref b), (1, .ref (a 0)), (2, .ref (a 83)), (3, .ref (a 82)), (4, .int (nI i))] []) : GW p l en room_1 s m args below meth c cells slots Q D clP 92 9 a A e 340 [(0, .ref b), (1, .ref (a 0)), (2, .ref (a 83)), (3, .ref (a 82)), (4, .int (nI i))] [] := by
  have hi0 : wInj 82 a := fun i j h1 h2 h3 => C.2.2.2.2.2.2.1 i j (by omega) (by omega) h3
  have hi9 : wInj 9 (fun k => a (k + 83)) := sub_inj (off := 83) C.2.2.2.2.2.2.1 (by decide)
  refine g_aload_n C dL_law_340 rfl 1 rfl ?_
  refine g_subi (off := 0) (n := 82) (As := []) (rest := []) C (cwV 0 C.2.2.2.2.1 gL_law_X0_unread rfl rfl rfl (by decide +kernel) ⟨(Nat.le_of_ble_eq_true rfl), (Nat.le_of_ble_eq_true rfl)⟩) (c_X0_unread l D cy a hi0 hP hT) (by decide) (by decide) hP.1 inl_pos0 rfl rfl (Nat.le_of_ble_eq_true rfl) dL_law_341 ⟨by show cells ≤ 623084; omega, by show slots ≤ 7175652; omega⟩ (fun z u hz => ?_)
  rcases hz with ⟨rfl, hT0, hu⟩ | ⟨rfl, hT0, hu⟩
  · have hP : RP cy a (putS e u 0 82) n (T - 1) S M E r F B V G Cn := RP_ext (show RP cy a u n (T - 1) S M E r F B V G Cn from hu) (fun k hk => putS_in (off := 0) hk) (fun _ _ => rfl)
    have hM : RM cy (fun k => a (k + 83)) (fun k => putS e u 0 82 (k + 83)) n T th S M E r nw od cn bf := RM_ext hM (fun k hk => putS_out (by omega)) (fun _ _ => rfl)
    have hO : isD cy (putS e u 0 82 82) 1 v0 := by rw [putS_out (by omega)]; exact hO
    generalize putS e u 0 82 = e at hP hM hO ⊢
    refine g_aload_n C dL_law_344 rfl 2 rfl ?_
    refine g_subi (off := 83) (n := 9) (As := []) (rest := [.int (nI 1)]) C (cwV 0 C.2.2.2.2.1 gL_law_X1_unread rfl rfl rfl (by decide +kernel) ⟨(Nat.le_of_ble_eq_true rfl), (Nat.le_of_ble_eq_true rfl)⟩) (c_X1_unread l D cy (fun k => a (k + 83)) hi9 hM hT) (by decide) (by decide) (show e 83 = _ from hM.1) inl_pos1 rfl rfl (Nat.le_of_ble_eq_true rfl) dL_law_345 ⟨by show cells ≤ 623084; omega, by show slots ≤ 7175652; omega⟩ (fun z u hz => ?_)
    rcases hz with ⟨rfl, -, hu2⟩ | ⟨rfl, hz2, -⟩
    · have hP : RP cy a (putS e u 83 9) n (T - 1) S M E r F B V G Cn := RP_ext hP (fun k hk => putS_out (by omega)) (fun _ _ => rfl)
      have hM : RM cy (fun k => a (k + 83)) (fun k => putS e u 83 9 (k + 83)) n (T - 1) 0 S M E r nw od cn bf := RM_ext (show RM cy (fun k => a (k + 83)) u n (T - 1) 0 S M E r nw od cn bf from hu2) (fun k hk => putS_in (off := 83) hk) (fun _ _ => rfl)
      have hO : isD cy (putS e u 83 9 82) 1 v0 := by rw [putS_out (by omega)]; exact hO
      generalize putS e u 83 9 = e at hP hM hO ⊢
      refine g_icmp_eq (tgt := 742) C dL_law_348 (by decide) (fun _ => ?_) (fun c1 => absurd rfl c1)
      exact K e _ _ (by omega) (by omega) ⟨_, _, _, _, _, _, _, _, _, _, _, _, _, _, _, _, _, hP, hM, hO, hn, (by omega), hW, hr4⟩
    · exact absurd hz2 (by omega)
  · have hP : RP cy a (putS e u 0 82) n T S M E r F B V G Cn := RP_ext (show RP cy a u n T S M E r F B V G Cn from by rw [hu]; exact hP) (fun k hk => putS_in (off := 0) hk) (fun _ _ => rfl)
    have hM : RM cy (fun k => a (k + 83)) (fun k => putS e u 0 82 (k + 83)) n T th S M E r nw od cn bf := RM_ext hM (fun k hk => putS_out (by omega)) (fun _ _ => rfl)
    have hO : isD cy (putS e u 0 82 82) 1 v0 := by rw [putS_out (by omega)]; exact hO
    generalize putS e u 0 82 = e at hP hM hO ⊢
    refine g_aload_n C dL_law_344 rfl 2 rfl ?_
    refine g_subi (off := 83) (n := 9) (As := []) (rest := [.int (nI 0)]) C (cwV 0 C.2.2.2.2.1 gL_law_X1_unread rfl rfl rfl (by decide +kernel) ⟨(Nat.le_of_ble_eq_true rfl), (Nat.le_of_ble_eq_true rfl)⟩) (c_X1_unread l D cy (fun k => a (k + 83)) hi9 hM hT) (by decide) (by decide) (show e 83 = _ from hM.1) inl_pos1 rfl rfl (Nat.le_of_ble_eq_true rfl) dL_law_345 ⟨by show cells ≤ 623084; omega, by show slots ≤ 7175652; omega⟩ (fun z u hz => ?_)
    rcases hz with ⟨rfl, hz2, -⟩ | ⟨rfl, -, hu2⟩
    · exact absurd hz2 (by omega)
    · have hP : RP cy a (putS e u 83 9) n T S M E r F B V G Cn := RP_ext hP (fun k hk => putS_out (by omega)) (fun _ _ => rfl)
      have hM : RM cy (fun k => a (k + 83)) (fun k => putS e u 83 9 (k + 83)) n T 0 S M E r nw od cn bf := RM_ext (show RM cy (fun k => a (k + 83)) u n T 0 S M E r nw od cn bf from hu2) (fun k hk => putS_in (off := 83) hk) (fun _ _ => rfl)
      have hO : isD cy (putS e u 83 9 82) 1 v0 := by rw [putS_out (by omega)]; exact hO
      generalize putS e u 83 9 = e at hP hM hO ⊢
      refine g_icmp_eq (tgt := 742) C dL_law_348 (by decide) (fun _ => ?_) (fun c1 => absurd rfl c1)
      exact K e _ _ (by omega) (by omega) ⟨_, _, _, _, _, _, _, _, _, _, _, _, _, _, _, _, _, hP, hM, hO, hn, hT, hW, hr4⟩

set_option maxHeartbeats 1000000 in
set_option maxRecDepth 100000 in
theorem law_c7 {p : Program} {l : Launch} {en : Env} {s : State} {m : MethodId} {args : Array Value} {below : List Frame} {meth : Method} {c : Code} {cells slots : Nat} {Q : State → Prop} {D : va_G} {cy : Nat → ClassId} {a sg : Nat → Nat} {A : Nat → Prop} {b L : Nat} {xs : Nat → Int32} (C : Cx p s m args c cL_law wsL_law RL D clP cy 92 9 a A) (hfl : l.stackTraces = false) (hX : XT A sg s s.heap) (hs : va_X b L xs s s.heap) (hbl : b < s.heap.size) (hbA : ¬ A b) {i : Nat} (hi4 : i + 4 ≤ L) (hL : L ≤ 2048) (hcc : cells ≤ 4300 ∧ slots ≤ 26000) {e : Nat → va_E} {n T th : Nat} {S : Nat → UInt64} {M E : T2} {r : Nat → Nat} {F B V : T2} {G : Nat → Nat → Int32} {Cn : Nat → Nat → Int64} {nw od : Nat → UInt64} {cn bf : Nat → Int64} {v0 : Nat → UInt64} (hP : RP cy a e n T S M E r F B V G Cn) (hM : RM cy (fun k => a (k + 83)) (fun k => e (k + 83)) n T th S M E r nw od cn bf) (hO : isD cy (e 82) 1 v0) (hn : 1 ≤ n ∧ n ≤ 6) (hT : T ≤ 12) (hW : WB S M E) (hr4 : RW4 r) (K : ∀ (e2 : Nat → va_E) (cells2 slots2 : Nat), cells2 ≤ cells + 2 → slots2 ≤ slots + 12 → LI cy a e2 → GW p l en room_1 s m args below meth c cells2 slots2 Q D clP 92 9 a A e2 742 [(0, .ref b), (1, .ref (a 0)), (2, .ref (a 83)), (3, .ref (a 82)), (4, .int (nI i))] []) : GW p l en room_1 s m args below meth c cells slots Q D clP 92 9 a A e 353 [(0, .ref b), (1, .ref (a 0)), (2, .ref (a 83)), (3, .ref (a 82)), (4, .int (nI i))] [] := by
  have hi0 : wInj 82 a := fun i j h1 h2 h3 => C.2.2.2.2.2.2.1 i j (by omega) (by omega) h3
  have hi9 : wInj 9 (fun k => a (k + 83)) := sub_inj (off := 83) C.2.2.2.2.2.2.1 (by decide)
  refine g_aload_n C dL_law_353 rfl 1 rfl ?_
  refine g_subi (off := 0) (n := 82) (As := []) (rest := []) C (cwV 0 C.2.2.2.2.1 gL_law_X0_length rfl rfl rfl (by decide +kernel) ⟨(Nat.le_of_ble_eq_true rfl), (Nat.le_of_ble_eq_true rfl)⟩) (c_X0_length l D cy a hi0 hP ) (by decide) (by decide) hP.1 inl_pos0 rfl rfl (Nat.le_of_ble_eq_true rfl) dL_law_354 ⟨by show cells ≤ 623084; omega, by show slots ≤ 7175652; omega⟩ (fun z u hz => ?_)
  obtain ⟨hu, rfl⟩ := hz
  have hP : RP cy a (putS e u 0 82) n T S M E r F B V G Cn := RP_ext (show RP cy a u n T S M E r F B V G Cn from by rw [hu]; exact hP) (fun k hk => putS_in (off := 0) hk) (fun _ _ => rfl)
  have hM : RM cy (fun k => a (k + 83)) (fun k => putS e u 0 82 (k + 83)) n T th S M E r nw od cn bf := RM_ext hM (fun k hk => putS_out (by omega)) (fun _ _ => rfl)
  have hO : isD cy (putS e u 0 82 82) 1 v0 := by rw [putS_out (by omega)]; exact hO
  generalize putS e u 0 82 = e at hP hM hO ⊢
  refine g_aload_n C dL_law_357 rfl 2 rfl ?_
  refine g_subi (off := 83) (n := 9) (As := []) (rest := [.int (nI T)]) C (cwV 0 C.2.2.2.2.1 gL_law_X1_length rfl rfl rfl (by decide +kernel) ⟨(Nat.le_of_ble_eq_true rfl), (Nat.le_of_ble_eq_true rfl)⟩) (c_X1_length l D cy (fun k => a (k + 83)) hi9 hM ) (by decide) (by decide) (show e 83 = _ from hM.1) inl_pos1 rfl rfl (Nat.le_of_ble_eq_true rfl) dL_law_358 ⟨by show cells ≤ 623084; omega, by show slots ≤ 7175652; omega⟩ (fun z u hz => ?_)
  obtain ⟨hu, rfl⟩ := hz
  have hP : RP cy a (putS e u 83 9) n T S M E r F B V G Cn := RP_ext hP (fun k hk => putS_out (by omega)) (fun _ _ => rfl)
  have hM : RM cy (fun k => a (k + 83)) (fun k => putS e u 83 9 (k + 83)) n T 0 S M E r nw od cn bf := RM_ext (show RM cy (fun k => a (k + 83)) u n T 0 S M E r nw od cn bf from hu) (fun k hk => putS_in (off := 83) hk) (fun _ _ => rfl)
  have hO : isD cy (putS e u 83 9 82) 1 v0 := by rw [putS_out (by omega)]; exact hO
  generalize putS e u 83 9 = e at hP hM hO ⊢
  refine g_icmp_eq (tgt := 742) C dL_law_361 (by decide) (fun _ => ?_) (fun c1 => absurd rfl c1)
  exact K e _ _ (by omega) (by omega) ⟨_, _, _, _, _, _, _, _, _, _, _, _, _, _, _, _, _, hP, hM, hO, hn, hT, hW, hr4⟩

set_option maxHeartbeats 1000000 in
set_option maxRecDepth 100000 in
theorem law_c10 {p : Program} {l : Launch} {en : Env} {s : State} {m : MethodId} {args : Array Value} {below : List Frame} {meth : Method} {c : Code} {cells slots : Nat} {Q : State → Prop} {D : va_G} {cy : Nat → ClassId} {a sg : Nat → Nat} {A : Nat → Prop} {b L : Nat} {xs : Nat → Int32} (C : Cx p s m args c cL_law wsL_law RL D clP cy 92 9 a A) (hfl : l.stackTraces = false) (hX : XT A sg s s.heap) (hs : va_X b L xs s s.heap) (hbl : b < s.heap.size) (hbA : ¬ A b) {i : Nat} (hi4 : i + 4 ≤ L) (hL : L ≤ 2048) (hcc : cells ≤ 4300 ∧ slots ≤ 26000) {e : Nat → va_E} {n T th : Nat} {S : Nat → UInt64} {M E : T2} {r : Nat → Nat} {F B V : T2} {G : Nat → Nat → Int32} {Cn : Nat → Nat → Int64} {nw od : Nat → UInt64} {cn bf : Nat → Int64} {v0 : Nat → UInt64} (hP : RP cy a e n T S M E r F B V G Cn) (hM : RM cy (fun k => a (k + 83)) (fun k => e (k + 83)) n T th S M E r nw od cn bf) (hO : isD cy (e 82) 1 v0) (hn : 1 ≤ n ∧ n ≤ 6) (hT : T ≤ 12) (hW : WB S M E) (hr4 : RW4 r) (K : ∀ (e2 : Nat → va_E) (cells2 slots2 : Nat), cells2 ≤ cells + 2 → slots2 ≤ slots + 12 → LI cy a e2 → GW p l en room_1 s m args below meth c cells2 slots2 Q D clP 92 9 a A e2 742 [(0, .ref b), (1, .ref (a 0)), (2, .ref (a 83)), (3, .ref (a 82)), (4, .int (nI i))] []) : GW p l en room_1 s m args below meth c cells slots Q D clP 92 9 a A e 536 [(0, .ref b), (1, .ref (a 0)), (2, .ref (a 83)), (3, .ref (a 82)), (4, .int (nI i))] [] := by
  have hi0 : wInj 82 a := fun i j h1 h2 h3 => C.2.2.2.2.2.2.1 i j (by omega) (by omega) h3
  have hi9 : wInj 9 (fun k => a (k + 83)) := sub_inj (off := 83) C.2.2.2.2.2.2.1 (by decide)
  refine g_aload_n C dL_law_536 rfl 1 rfl ?_
  refine g_subd (off := 0) (n := 82) (As := []) (rest := []) C (cwV 0 C.2.2.2.2.1 gL_law_X0_total rfl rfl rfl (by decide +kernel) ⟨(Nat.le_of_ble_eq_true rfl), (Nat.le_of_ble_eq_true rfl)⟩) (c_X0_total l D cy a hi0 hP hn hT hW hr4) (by decide) (by decide) hP.1 inl_pos0 rfl rfl (Nat.le_of_ble_eq_true rfl) dL_law_537 ⟨by show cells ≤ 623084; omega, by show slots ≤ 7175652; omega⟩ (fun z u hz => ?_)
  obtain ⟨⟨F1, hu⟩, rfl⟩ := hz
  have hP : RP cy a (putS e u 0 82) n T S M E r F1 B V G Cn := RP_ext (show RP cy a u n T S M E r F1 B V G Cn from hu) (fun k hk => putS_in (off := 0) hk) (fun _ _ => rfl)
  have hM : RM cy (fun k => a (k + 83)) (fun k => putS e u 0 82 (k + 83)) n T th S M E r nw od cn bf := RM_ext hM (fun k hk => putS_out (by omega)) (fun _ _ => rfl)
  have hO : isD cy (putS e u 0 82 82) 1 v0 := by rw [putS_out (by omega)]; exact hO
  generalize putS e u 0 82 = e at hP hM hO ⊢
  refine g_dstore (lv' := [(0, .ref b), (1, .ref (a 0)), (2, .ref (a 83)), (3, .ref (a 82)), (4, .int (nI i)), (5, .double (fTot n S M E r T))]) C dL_law_540 (by decide) [1, 2, 3, 4, 5, 0] rfl ?_
  refine g_aload_n C dL_law_542 rfl 2 rfl ?_
  refine g_subd (off := 83) (n := 9) (As := []) (rest := []) C (cwV 0 C.2.2.2.2.1 gL_law_X1_total rfl rfl rfl (by decide +kernel) ⟨(Nat.le_of_ble_eq_true rfl), (Nat.le_of_ble_eq_true rfl)⟩) (c_X1_total l D cy (fun k => a (k + 83)) hi9 hM hn hT hW hr4) (by decide) (by decide) (show e 83 = _ from hM.1) inl_pos1 rfl rfl (Nat.le_of_ble_eq_true rfl) dL_law_543 ⟨by show cells ≤ 623084; omega, by show slots ≤ 7175652; omega⟩ (fun z u hz => ?_)
  obtain ⟨⟨nw1, od1, hu⟩, rfl⟩ := hz
  have hP : RP cy a (putS e u 83 9) n T S M E r F1 B V G Cn := RP_ext hP (fun k hk => putS_out (by omega)) (fun _ _ => rfl)
  have hM : RM cy (fun k => a (k + 83)) (fun k => putS e u 83 9 (k + 83)) n T 0 S M E r nw1 od1 cn bf := RM_ext (show RM cy (fun k => a (k + 83)) u n T 0 S M E r nw1 od1 cn bf from hu) (fun k hk => putS_in (off := 83) hk) (fun _ _ => rfl)
  have hO : isD cy (putS e u 83 9 82) 1 v0 := by rw [putS_out (by omega)]; exact hO
  generalize putS e u 83 9 = e at hP hM hO ⊢
  refine g_dstore (lv' := [(0, .ref b), (1, .ref (a 0)), (2, .ref (a 83)), (3, .ref (a 82)), (4, .int (nI i)), (5, .double (fTot n S M E r T)), (7, .double (fTot n S M E r T))]) C dL_law_546 (by decide) [1, 2, 3, 4, 5, 6, 0] rfl ?_
  refine g_dload C dL_law_548 5 rfl ?_
  refine g_dload C dL_law_550 6 rfl ?_
  refine g_dcmp C dL_law_552 ?_
  refine g_if_eq (tgt := 574) C dL_law_553 (by decide) (fun c1 => ?_) (fun c1 => absurd c1 (fun q => q (cmp_self (mg_n64 (fTot_mg hn.2 hT hW hr4) (by decide)))))
  refine g_goto (tgt := 742) C dL_law_574 (by decide) ?_
  refine g_pick (lv' := [(0, .ref b), (1, .ref (a 0)), (2, .ref (a 83)), (3, .ref (a 82)), (4, .int (nI i))]) [0, 1, 2, 3, 4] rfl ?_
  exact K e _ _ (by omega) (by omega) ⟨_, _, _, _, _, _, _, _, _, _, _, _, _, _, _, _, _, hP, hM, hO, hn, hT, hW, hr4⟩

set_option maxHeartbeats 1000000 in
set_option maxRecDepth 100000 in
theorem law_c11 {p : Program} {l : Launch} {en : Env} {s : State} {m : MethodId} {args : Array Value} {below : List Frame} {meth : Method} {c : Code} {cells slots : Nat} {Q : State → Prop} {D : va_G} {cy : Nat → ClassId} {a sg : Nat → Nat} {A : Nat → Prop} {b L : Nat} {xs : Nat → Int32} (C : Cx p s m args c cL_law wsL_law RL D clP cy 92 9 a A) (hfl : l.stackTraces = false) (hX : XT A sg s s.heap) (hs : va_X b L xs s s.heap) (hbl : b < s.heap.size) (hbA : ¬ A b) {i : Nat} (hi4 : i + 4 ≤ L) (hL : L ≤ 2048) (hcc : cells ≤ 4300 ∧ slots ≤ 26000) {e : Nat → va_E} {n T th : Nat} {S : Nat → UInt64} {M E : T2} {r : Nat → Nat} {F B V : T2} {G : Nat → Nat → Int32} {Cn : Nat → Nat → Int64} {nw od : Nat → UInt64} {cn bf : Nat → Int64} {v0 : Nat → UInt64} (hP : RP cy a e n T S M E r F B V G Cn) (hM : RM cy (fun k => a (k + 83)) (fun k => e (k + 83)) n T th S M E r nw od cn bf) (hO : isD cy (e 82) 1 v0) (hn : 1 ≤ n ∧ n ≤ 6) (hT : T ≤ 12) (hW : WB S M E) (hr4 : RW4 r) (K : ∀ (e2 : Nat → va_E) (cells2 slots2 : Nat), cells2 ≤ cells + 2 → slots2 ≤ slots + 12 → LI cy a e2 → GW p l en room_1 s m args below meth c cells2 slots2 Q D clP 92 9 a A e2 742 [(0, .ref b), (1, .ref (a 0)), (2, .ref (a 83)), (3, .ref (a 82)), (4, .int (nI i))] []) : GW p l en room_1 s m args below meth c cells slots Q D clP 92 9 a A e 577 [(0, .ref b), (1, .ref (a 0)), (2, .ref (a 83)), (3, .ref (a 82)), (4, .int (nI i))] [] := by
  have hi0 : wInj 82 a := fun i j h1 h2 h3 => C.2.2.2.2.2.2.1 i j (by omega) (by omega) h3
  have hi9 : wInj 9 (fun k => a (k + 83)) := sub_inj (off := 83) C.2.2.2.2.2.2.1 (by decide)
  refine g_aload_n C dL_law_577 rfl 1 rfl ?_
  refine g_subd (off := 0) (n := 82) (As := []) (rest := []) C (cwV 0 C.2.2.2.2.1 gL_law_X0_best rfl rfl rfl (by decide +kernel) ⟨(Nat.le_of_ble_eq_true rfl), (Nat.le_of_ble_eq_true rfl)⟩) (c_X0_best l D cy a hi0 hP hn hT hW hr4) (by decide) (by decide) hP.1 inl_pos0 rfl rfl (Nat.le_of_ble_eq_true rfl) dL_law_578 ⟨by show cells ≤ 623084; omega, by show slots ≤ 7175652; omega⟩ (fun z u hz => ?_)
  obtain ⟨⟨V1, G1, hu⟩, rfl⟩ := hz
  have hP : RP cy a (putS e u 0 82) n T S M E r F B V1 G1 Cn := RP_ext (show RP cy a u n T S M E r F B V1 G1 Cn from hu) (fun k hk => putS_in (off := 0) hk) (fun _ _ => rfl)
  have hM : RM cy (fun k => a (k + 83)) (fun k => putS e u 0 82 (k + 83)) n T th S M E r nw od cn bf := RM_ext hM (fun k hk => putS_out (by omega)) (fun _ _ => rfl)
  have hO : isD cy (putS e u 0 82 82) 1 v0 := by rw [putS_out (by omega)]; exact hO
  generalize putS e u 0 82 = e at hP hM hO ⊢
  refine g_dstore (lv' := [(0, .ref b), (1, .ref (a 0)), (2, .ref (a 83)), (3, .ref (a 82)), (4, .int (nI i)), (5, .double (fBest n S M E r T))]) C dL_law_581 (by decide) [1, 2, 3, 4, 5, 0] rfl ?_
  refine g_aload_n C dL_law_583 rfl 2 rfl ?_
  refine g_subd (off := 83) (n := 9) (As := []) (rest := []) C (cwV 0 C.2.2.2.2.1 gL_law_X1_best rfl rfl rfl (by decide +kernel) ⟨(Nat.le_of_ble_eq_true rfl), (Nat.le_of_ble_eq_true rfl)⟩) (c_X1_best l D cy (fun k => a (k + 83)) hi9 hM hn hT hW hr4) (by decide) (by decide) (show e 83 = _ from hM.1) inl_pos1 rfl rfl (Nat.le_of_ble_eq_true rfl) dL_law_584 ⟨by show cells ≤ 623084; omega, by show slots ≤ 7175652; omega⟩ (fun z u hz => ?_)
  obtain ⟨⟨nw1, od1, hu⟩, rfl⟩ := hz
  have hP : RP cy a (putS e u 83 9) n T S M E r F B V1 G1 Cn := RP_ext hP (fun k hk => putS_out (by omega)) (fun _ _ => rfl)
  have hM : RM cy (fun k => a (k + 83)) (fun k => putS e u 83 9 (k + 83)) n T 0 S M E r nw1 od1 cn bf := RM_ext (show RM cy (fun k => a (k + 83)) u n T 0 S M E r nw1 od1 cn bf from hu) (fun k hk => putS_in (off := 83) hk) (fun _ _ => rfl)
  have hO : isD cy (putS e u 83 9 82) 1 v0 := by rw [putS_out (by omega)]; exact hO
  generalize putS e u 83 9 = e at hP hM hO ⊢
  refine g_dstore (lv' := [(0, .ref b), (1, .ref (a 0)), (2, .ref (a 83)), (3, .ref (a 82)), (4, .int (nI i)), (5, .double (fBest n S M E r T)), (7, .double (fBest n S M E r T))]) C dL_law_587 (by decide) [1, 2, 3, 4, 5, 6, 0] rfl ?_
  refine g_dload C dL_law_589 5 rfl ?_
  refine g_dload C dL_law_591 6 rfl ?_
  refine g_dcmp C dL_law_593 ?_
  refine g_if_eq (tgt := 615) C dL_law_594 (by decide) (fun c1 => ?_) (fun c1 => absurd c1 (fun q => q (cmp_self (mg_n64 (fBest_mg hn hT hW hr4) (by decide)))))
  refine g_goto (tgt := 742) C dL_law_615 (by decide) ?_
  refine g_pick (lv' := [(0, .ref b), (1, .ref (a 0)), (2, .ref (a 83)), (3, .ref (a 82)), (4, .int (nI i))]) [0, 1, 2, 3, 4] rfl ?_
  exact K e _ _ (by omega) (by omega) ⟨_, _, _, _, _, _, _, _, _, _, _, _, _, _, _, _, _, hP, hM, hO, hn, hT, hW, hr4⟩

set_option maxHeartbeats 1000000 in
set_option maxRecDepth 100000 in
theorem law_c12 {p : Program} {l : Launch} {en : Env} {s : State} {m : MethodId} {args : Array Value} {below : List Frame} {meth : Method} {c : Code} {cells slots : Nat} {Q : State → Prop} {D : va_G} {cy : Nat → ClassId} {a sg : Nat → Nat} {A : Nat → Prop} {b L : Nat} {xs : Nat → Int32} (C : Cx p s m args c cL_law wsL_law RL D clP cy 92 9 a A) (hfl : l.stackTraces = false) (hX : XT A sg s s.heap) (hs : va_X b L xs s s.heap) (hbl : b < s.heap.size) (hbA : ¬ A b) {i : Nat} (hi4 : i + 4 ≤ L) (hL : L ≤ 2048) (hcc : cells ≤ 4300 ∧ slots ≤ 26000) {e : Nat → va_E} {n T th : Nat} {S : Nat → UInt64} {M E : T2} {r : Nat → Nat} {F B V : T2} {G : Nat → Nat → Int32} {Cn : Nat → Nat → Int64} {nw od : Nat → UInt64} {cn bf : Nat → Int64} {v0 : Nat → UInt64} (hP : RP cy a e n T S M E r F B V G Cn) (hM : RM cy (fun k => a (k + 83)) (fun k => e (k + 83)) n T th S M E r nw od cn bf) (hO : isD cy (e 82) 1 v0) (hn : 1 ≤ n ∧ n ≤ 6) (hT : T ≤ 12) (hW : WB S M E) (hr4 : RW4 r) (K : ∀ (e2 : Nat → va_E) (cells2 slots2 : Nat), cells2 ≤ cells + 2 → slots2 ≤ slots + 12 → LI cy a e2 → GW p l en room_1 s m args below meth c cells2 slots2 Q D clP 92 9 a A e2 742 [(0, .ref b), (1, .ref (a 0)), (2, .ref (a 83)), (3, .ref (a 82)), (4, .int (nI i))] []) : GW p l en room_1 s m args below meth c cells slots Q D clP 92 9 a A e 618 [(0, .ref b), (1, .ref (a 0)), (2, .ref (a 83)), (3, .ref (a 82)), (4, .int (nI i))] [] := by
  have hi0 : wInj 82 a := fun i j h1 h2 h3 => C.2.2.2.2.2.2.1 i j (by omega) (by omega) h3
  have hi9 : wInj 9 (fun k => a (k + 83)) := sub_inj (off := 83) C.2.2.2.2.2.2.1 (by decide)
  refine g_aload_n C dL_law_618 rfl 1 rfl ?_
  refine g_aload_n C dL_law_619 rfl 0 rfl ?_
  refine g_iload C dL_law_620 4 rfl ?_
  refine g_iconst (v := nI 1) C dL_law_622 (by decide) ?_
  refine g_iadd (v := nI (i + 1)) C dL_law_623 (nI_add i 1) ?_
  refine g_sld C hs hbl hbA (by omega) (by omega) dL_law_624 ?_
  refine g_subi (off := 0) (n := 82) (As := [.int (xs (i + 1))]) (rest := []) C (cwV 1 C.2.2.2.2.1 gL_law_X0_bestState rfl rfl rfl (by decide +kernel) ⟨(Nat.le_of_ble_eq_true rfl), (Nat.le_of_ble_eq_true rfl)⟩) (c_X0_bestState l D cy a hi0 hP hn hT hW hr4 _) (by decide) (by decide) hP.1 inl_pos0 rfl rfl (Nat.le_of_ble_eq_true rfl) dL_law_625 ⟨by show cells ≤ 623084; omega, by show slots ≤ 7175652; omega⟩ (fun z u hz => ?_)
  obtain ⟨⟨V1, G1, hu⟩, hz⟩ := hz
  have hP : RP cy a (putS e u 0 82) n T S M E r F B V1 G1 Cn := RP_ext (show RP cy a u n T S M E r F B V1 G1 Cn from hu) (fun k hk => putS_in (off := 0) hk) (fun _ _ => rfl)
  have hM : RM cy (fun k => a (k + 83)) (fun k => putS e u 0 82 (k + 83)) n T th S M E r nw od cn bf := RM_ext hM (fun k hk => putS_out (by omega)) (fun _ _ => rfl)
  have hO : isD cy (putS e u 0 82 82) 1 v0 := by rw [putS_out (by omega)]; exact hO
  generalize putS e u 0 82 = e at hP hM hO ⊢
  refine g_aload_n C dL_law_628 rfl 2 rfl ?_
  refine g_aload_n C dL_law_629 rfl 0 rfl ?_
  refine g_iload C dL_law_630 4 rfl ?_
  refine g_iconst (v := nI 1) C dL_law_632 (by decide) ?_
  refine g_iadd (v := nI (i + 1)) C dL_law_633 (nI_add i 1) ?_
  refine g_sld C hs hbl hbA (by omega) (by omega) dL_law_634 ?_
  refine g_subi (off := 83) (n := 9) (As := [.int (xs (i + 1))]) (rest := [.int z]) C (cwV 1 C.2.2.2.2.1 gL_law_X1_bestState rfl rfl rfl (by decide +kernel) ⟨(Nat.le_of_ble_eq_true rfl), (Nat.le_of_ble_eq_true rfl)⟩) (c_X1_bestState l D cy (fun k => a (k + 83)) hi9 hM hn hT hW hr4 _) (by decide) (by decide) (show e 83 = _ from hM.1) inl_pos1 rfl rfl (Nat.le_of_ble_eq_true rfl) dL_law_635 ⟨by show cells ≤ 623084; omega, by show slots ≤ 7175652; omega⟩ (fun z2 u hz2 => ?_)
  obtain ⟨⟨nw1, od1, hu⟩, hz2⟩ := hz2
  have hP : RP cy a (putS e u 83 9) n T S M E r F B V1 G1 Cn := RP_ext hP (fun k hk => putS_out (by omega)) (fun _ _ => rfl)
  have hM : RM cy (fun k => a (k + 83)) (fun k => putS e u 83 9 (k + 83)) n T 0 S M E r nw1 od1 cn bf := RM_ext (show RM cy (fun k => a (k + 83)) u n T 0 S M E r nw1 od1 cn bf from hu) (fun k hk => putS_in (off := 83) hk) (fun _ _ => rfl)
  have hO : isD cy (putS e u 83 9 82) 1 v0 := by rw [putS_out (by omega)]; exact hO
  generalize putS e u 83 9 = e at hP hM hO ⊢
  have hzz : z2 = z := by
    rcases hz with ⟨t, ht, hx, rfl⟩ | ⟨hno, rfl⟩ <;> rcases hz2 with ⟨t2, ht2, hx2, rfl⟩ | ⟨hno2, rfl⟩
    · rw [(nI_eq (by omega) (by omega)).mp (hx2.symm.trans hx)]
    · exact absurd ⟨t, ht, hx⟩ hno2
    · exact absurd ⟨t2, ht2, hx2⟩ hno
    · rfl
  subst hzz
  refine g_icmp_eq (tgt := 742) C dL_law_638 (by decide) (fun _ => ?_) (fun c1 => absurd rfl c1)
  exact K e _ _ (by omega) (by omega) ⟨_, _, _, _, _, _, _, _, _, _, _, _, _, _, _, _, _, hP, hM, hO, hn, hT, hW, hr4⟩

set_option maxHeartbeats 1000000 in
set_option maxRecDepth 100000 in
theorem law_c14 {p : Program} {l : Launch} {en : Env} {s : State} {m : MethodId} {args : Array Value} {below : List Frame} {meth : Method} {c : Code} {cells slots : Nat} {Q : State → Prop} {D : va_G} {cy : Nat → ClassId} {a sg : Nat → Nat} {A : Nat → Prop} {b L : Nat} {xs : Nat → Int32} (C : Cx p s m args c cL_law wsL_law RL D clP cy 92 9 a A) (hfl : l.stackTraces = false) (hX : XT A sg s s.heap) (hs : va_X b L xs s s.heap) (hbl : b < s.heap.size) (hbA : ¬ A b) {i : Nat} (hi4 : i + 4 ≤ L) (hL : L ≤ 2048) (hcc : cells ≤ 4300 ∧ slots ≤ 26000) {e : Nat → va_E} {n T th : Nat} {S : Nat → UInt64} {M E : T2} {r : Nat → Nat} {F B V : T2} {G : Nat → Nat → Int32} {Cn : Nat → Nat → Int64} {nw od : Nat → UInt64} {cn bf : Nat → Int64} {v0 : Nat → UInt64} (hP : RP cy a e n T S M E r F B V G Cn) (hM : RM cy (fun k => a (k + 83)) (fun k => e (k + 83)) n T th S M E r nw od cn bf) (hO : isD cy (e 82) 1 v0) (hn : 1 ≤ n ∧ n ≤ 6) (hT : T ≤ 12) (hW : WB S M E) (hr4 : RW4 r) (K : ∀ (e2 : Nat → va_E) (cells2 slots2 : Nat), cells2 ≤ cells + 2 → slots2 ≤ slots + 12 → LI cy a e2 → GW p l en room_1 s m args below meth c cells2 slots2 Q D clP 92 9 a A e2 742 [(0, .ref b), (1, .ref (a 0)), (2, .ref (a 83)), (3, .ref (a 82)), (4, .int (nI i))] []) : GW p l en room_1 s m args below meth c cells slots Q D clP 92 9 a A e 728 [(0, .ref b), (1, .ref (a 0)), (2, .ref (a 83)), (3, .ref (a 82)), (4, .int (nI i))] [] := by
  have hi0 : wInj 82 a := fun i j h1 h2 h3 => C.2.2.2.2.2.2.1 i j (by omega) (by omega) h3
  have hi9 : wInj 9 (fun k => a (k + 83)) := sub_inj (off := 83) C.2.2.2.2.2.2.1 (by decide)
  refine g_aload_n C dL_law_728 rfl 1 rfl ?_
  refine g_subl (off := 0) (n := 82) (As := []) (rest := []) C (cwV 0 C.2.2.2.2.1 gL_law_X0_possible rfl rfl rfl (by decide +kernel) ⟨(Nat.le_of_ble_eq_true rfl), (Nat.le_of_ble_eq_true rfl)⟩) (c_X0_possible l D cy a hi0 hP hn hT hr4) (by decide) (by decide) hP.1 inl_pos0 rfl rfl (Nat.le_of_ble_eq_true rfl) dL_law_729 ⟨by show cells ≤ 623084; omega, by show slots ≤ 7175652; omega⟩ (fun z u hz => ?_)
  obtain ⟨⟨C1, hu⟩, rfl⟩ := hz
  have hP : RP cy a (putS e u 0 82) n T S M E r F B V G C1 := RP_ext (show RP cy a u n T S M E r F B V G C1 from hu) (fun k hk => putS_in (off := 0) hk) (fun _ _ => rfl)
  have hM : RM cy (fun k => a (k + 83)) (fun k => putS e u 0 82 (k + 83)) n T th S M E r nw od cn bf := RM_ext hM (fun k hk => putS_out (by omega)) (fun _ _ => rfl)
  have hO : isD cy (putS e u 0 82 82) 1 v0 := by rw [putS_out (by omega)]; exact hO
  generalize putS e u 0 82 = e at hP hM hO ⊢
  refine g_aload_n C dL_law_732 rfl 2 rfl ?_
  refine g_subl (off := 83) (n := 9) (As := []) (rest := [.long (fPos n S M E r T)]) C (cwV 0 C.2.2.2.2.1 gL_law_X1_possible rfl rfl rfl (by decide +kernel) ⟨(Nat.le_of_ble_eq_true rfl), (Nat.le_of_ble_eq_true rfl)⟩) (c_X1_possible l D cy (fun k => a (k + 83)) hi9 hM hn hT hr4) (by decide) (by decide) (show e 83 = _ from hM.1) inl_pos1 rfl rfl (Nat.le_of_ble_eq_true rfl) dL_law_733 ⟨by show cells ≤ 623084; omega, by show slots ≤ 7175652; omega⟩ (fun z u hz => ?_)
  obtain ⟨⟨cn1, bf1, hu⟩, rfl⟩ := hz
  have hP : RP cy a (putS e u 83 9) n T S M E r F B V G C1 := RP_ext hP (fun k hk => putS_out (by omega)) (fun _ _ => rfl)
  have hM : RM cy (fun k => a (k + 83)) (fun k => putS e u 83 9 (k + 83)) n T 0 S M E r nw od cn1 bf1 := RM_ext (show RM cy (fun k => a (k + 83)) u n T 0 S M E r nw od cn1 bf1 from hu) (fun k hk => putS_in (off := 83) hk) (fun _ _ => rfl)
  have hO : isD cy (putS e u 83 9 82) 1 v0 := by rw [putS_out (by omega)]; exact hO
  generalize putS e u 83 9 = e at hP hM hO ⊢
  refine g_lcmp C dL_law_736 ?_
  refine g_if_eq (tgt := 742) C dL_law_737 (by decide) (fun c1 => ?_) (fun c1 => absurd c1 (fun q => q (lcmp_self _)))
  exact K e _ _ (by omega) (by omega) ⟨_, _, _, _, _, _, _, _, _, _, _, _, _, _, _, _, _, hP, hM, hO, hn, hT, hW, hr4⟩

set_option maxHeartbeats 1000000 in
set_option maxRecDepth 100000 in
theorem law_c8 {p : Program} {l : Launch} {en : Env} {s : State} {m : MethodId} {args : Array Value} {below : List Frame} {meth : Method} {c : Code} {cells slots : Nat} {Q : State → Prop} {D : va_G} {cy : Nat → ClassId} {a sg : Nat → Nat} {A : Nat → Prop} {b L : Nat} {xs : Nat → Int32} (C : Cx p s m args c cL_law wsL_law RL D clP cy 92 9 a A) (hfl : l.stackTraces = false) (hX : XT A sg s s.heap) (hs : va_X b L xs s s.heap) (hbl : b < s.heap.size) (hbA : ¬ A b) {i : Nat} (hi4 : i + 4 ≤ L) (hL : L ≤ 2048) (hcc : cells ≤ 4300 ∧ slots ≤ 26000) {e : Nat → va_E} {n T th : Nat} {S : Nat → UInt64} {M E : T2} {r : Nat → Nat} {F B V : T2} {G : Nat → Nat → Int32} {Cn : Nat → Nat → Int64} {nw od : Nat → UInt64} {cn bf : Nat → Int64} {v0 : Nat → UInt64} (hP : RP cy a e n T S M E r F B V G Cn) (hM : RM cy (fun k => a (k + 83)) (fun k => e (k + 83)) n T th S M E r nw od cn bf) (hO : isD cy (e 82) 1 v0) (hn : 1 ≤ n ∧ n ≤ 6) (hT : T ≤ 12) (hW : WB S M E) (hr4 : RW4 r) (K : ∀ (e2 : Nat → va_E) (cells2 slots2 : Nat), cells2 ≤ cells + 2 → slots2 ≤ slots + 12 → LI cy a e2 → GW p l en room_1 s m args below meth c cells2 slots2 Q D clP 92 9 a A e2 742 [(0, .ref b), (1, .ref (a 0)), (2, .ref (a 83)), (3, .ref (a 82)), (4, .int (nI i))] []) : GW p l en room_1 s m args below meth c cells slots Q D clP 92 9 a A e 366 [(0, .ref b), (1, .ref (a 0)), (2, .ref (a 83)), (3, .ref (a 82)), (4, .int (nI i))] [] := by
  have hi0 : wInj 82 a := fun i j h1 h2 h3 => C.2.2.2.2.2.2.1 i j (by omega) (by omega) h3
  have hi9 : wInj 9 (fun k => a (k + 83)) := sub_inj (off := 83) C.2.2.2.2.2.2.1 (by decide)
  refine g_aload_n C dL_law_366 rfl 1 rfl ?_
  refine g_aload_n C dL_law_367 rfl 0 rfl ?_
  refine g_iload C dL_law_368 4 rfl ?_
  refine g_iconst (v := nI 1) C dL_law_370 (by decide) ?_
  refine g_iadd (v := nI (i + 1)) C dL_law_371 (nI_add i 1) ?_
  refine g_sld C hs hbl hbA (by omega) (by omega) dL_law_372 ?_
  refine g_aload_n C dL_law_373 rfl 0 rfl ?_
  refine g_iload C dL_law_374 4 rfl ?_
  refine g_iconst (v := nI 2) C dL_law_376 (by decide) ?_
  refine g_iadd (v := nI (i + 2)) C dL_law_377 (nI_add i 2) ?_
  refine g_sld C hs hbl hbA (by omega) (by omega) dL_law_378 ?_
  refine g_aload_n C dL_law_379 rfl 3 rfl ?_
  refine g_subSi (kc := 1) (ks := 6) (off := 0) (n := 83) (As := [.ref (a 0), .int (xs (i + 1)), .int (xs (i + 2)), .ref (a 82)]) (rest := []) C hX (vx_cwSW 4 C.2.2.2.2.1 gL_law_L_forward rfl rfl rfl (by decide +kernel) ⟨(Nat.le_of_ble_eq_true rfl), (Nat.le_of_ble_eq_true rfl)⟩) (c_L_forward l hfl D cy a sg (fun i j h1 h2 h3 => C.2.2.2.2.2.2.1 i j (by omega) (by omega) h3) hP hn hT hW hr4 _ _ hO) (by decide) rfl rfl (Nat.le_of_ble_eq_true rfl) dL_law_380 ⟨by show cells + 1 ≤ 623084; omega, by show slots + 6 ≤ 7175652; omega⟩ (fun z u hz => ?_)
  obtain ⟨⟨F1, B1, hu⟩, ⟨v1, hv1⟩, hz⟩ := hz
  have hP : RP cy a (putS e u 0 83) n T S M E r F1 B1 V G Cn := RP_ext hu (fun k hk => putS_in (off := 0) (by omega)) (fun _ _ => rfl)
  have hM : RM cy (fun k => a (k + 83)) (fun k => putS e u 0 83 (k + 83)) n T th S M E r nw od cn bf := RM_ext hM (fun k hk => putS_out (by omega)) (fun _ _ => rfl)
  have hu82 : putS e u 0 83 82 = u 82 := putS_in (off := 0) (k := 82) (by omega)
  generalize putS e u 0 83 = e at hP hM hu82 ⊢
  rw [← hu82] at hv1
  rcases hz with ⟨rfl, hno⟩ | ⟨rfl, hpl, hno⟩ | ⟨rfl, t0, i0, ht0, hin0, hxt, hxi, hvv⟩
  · have hO := hv1
    clear hv1
    refine g_istore (lv' := [(0, .ref b), (1, .ref (a 0)), (2, .ref (a 83)), (3, .ref (a 82)), (4, .int (nI i)), (5, .int (nI 1))]) C dL_law_383 (by decide) [1, 2, 3, 4, 5, 0] rfl ?_
    refine g_aload_n C dL_law_385 rfl 2 rfl ?_
    refine g_aload_n C dL_law_386 rfl 0 rfl ?_
    refine g_iload C dL_law_387 4 rfl ?_
    refine g_iconst (v := nI 1) C dL_law_389 (by decide) ?_
    refine g_iadd (v := nI (i + 1)) C dL_law_390 (nI_add i 1) ?_
    refine g_sld C hs hbl hbA (by omega) (by omega) dL_law_391 ?_
    refine g_aload_n C dL_law_392 rfl 0 rfl ?_
    refine g_iload C dL_law_393 4 rfl ?_
    refine g_iconst (v := nI 2) C dL_law_395 (by decide) ?_
    refine g_iadd (v := nI (i + 2)) C dL_law_396 (nI_add i 2) ?_
    refine g_sld C hs hbl hbA (by omega) (by omega) dL_law_397 ?_
    refine g_subd (off := 83) (n := 9) (As := [.int (xs (i + 1)), .int (xs (i + 2))]) (rest := []) C (cwV 2 C.2.2.2.2.1 gL_law_X1_forward rfl rfl rfl (by decide +kernel) ⟨(Nat.le_of_ble_eq_true rfl), (Nat.le_of_ble_eq_true rfl)⟩) (c_X1_forward l D cy (fun k => a (k + 83)) hi9 hM hn hT hW hr4 _ _) (by decide) (by decide) (show e 83 = _ from hM.1) inl_pos1 rfl rfl (Nat.le_of_ble_eq_true rfl) dL_law_398 ⟨by show cells + 1 ≤ 623084; omega, by show slots + 6 ≤ 7175652; omega⟩ (fun z2 u2 hz2 => ?_)
    obtain ⟨th1, ⟨nw1, od1, hu2⟩, hz2⟩ := hz2
    have hP : RP cy a (putS e u2 83 9) n T S M E r F1 B1 V G Cn := RP_ext hP (fun k hk => putS_out (by omega)) (fun _ _ => rfl)
    have hM : RM cy (fun k => a (k + 83)) (fun k => putS e u2 83 9 (k + 83)) n T th1 S M E r nw1 od1 cn bf := RM_ext (show RM cy (fun k => a (k + 83)) u2 n T th1 S M E r nw1 od1 cn bf from hu2) (fun k hk => putS_in (off := 83) hk) (fun _ _ => rfl)
    have hO : isD cy (putS e u2 83 9 82) 1 v1 := by rw [putS_out (by omega)]; exact hO
    generalize putS e u2 83 9 = e at hP hM hO ⊢
    rcases hz2 with ⟨rfl, hno2⟩ | ⟨rfl, hpl2, hno2⟩ | ⟨rfl, t2, i2, ht2, hin2, hxt2, hxi2, hvv2⟩
    · refine g_dstore (lv' := [(0, .ref b), (1, .ref (a 0)), (2, .ref (a 83)), (3, .ref (a 82)), (4, .int (nI i)), (5, .int (nI 1)), (6, .double z2)]) C dL_law_401 (by decide) [1, 2, 3, 4, 5, 6, 0] rfl ?_
      refine g_aload_n C dL_law_403 rfl 2 rfl ?_
      refine g_subi (off := 83) (n := 9) (As := []) (rest := []) C (cwV 0 C.2.2.2.2.1 gL_law_X1_thrown rfl rfl rfl (by decide +kernel) ⟨(Nat.le_of_ble_eq_true rfl), (Nat.le_of_ble_eq_true rfl)⟩) (c_X1_thrown l D cy (fun k => a (k + 83)) hi9 hM ) (by decide) (by decide) (show e 83 = _ from hM.1) inl_pos1 rfl rfl (Nat.le_of_ble_eq_true rfl) dL_law_404 ⟨by show cells + 1 ≤ 623084; omega, by show slots + 6 ≤ 7175652; omega⟩ (fun z3 u3 hz3 => ?_)
      obtain ⟨hu3, rfl⟩ := hz3
      have hP : RP cy a (putS e u3 83 9) n T S M E r F1 B1 V G Cn := RP_ext hP (fun k hk => putS_out (by omega)) (fun _ _ => rfl)
      have hM : RM cy (fun k => a (k + 83)) (fun k => putS e u3 83 9 (k + 83)) n T 1 S M E r nw1 od1 cn bf := RM_ext (show RM cy (fun k => a (k + 83)) u3 n T 1 S M E r nw1 od1 cn bf from by rw [hu3]; exact hM) (fun k hk => putS_in (off := 83) hk) (fun _ _ => rfl)
      have hO : isD cy (putS e u3 83 9 82) 1 v1 := by rw [putS_out (by omega)]; exact hO
      generalize putS e u3 83 9 = e at hP hM hO ⊢
      refine g_iload C dL_law_407 5 rfl ?_
      refine g_icmp_eq (tgt := 414) C dL_law_409 (by decide) (fun _ => ?_) (fun c1 => absurd rfl c1)
      refine g_iload C dL_law_414 5 rfl ?_
      refine g_if_ne (tgt := 448) C dL_law_416 (by decide) (fun c1 => ?_) (fun c1 => absurd c1 (by decide))
      refine g_goto (tgt := 742) C dL_law_448 (by decide) ?_
      refine g_pick (lv' := [(0, .ref b), (1, .ref (a 0)), (2, .ref (a 83)), (3, .ref (a 82)), (4, .int (nI i))]) [0, 1, 2, 3, 4] rfl ?_
      exact K e _ _ (by omega) (by omega) ⟨_, _, _, _, _, _, _, _, _, _, _, _, _, _, _, _, _, hP, hM, hO, hn, hT, hW, hr4⟩
    · exact absurd hpl2 hno
    · exact absurd ⟨t2, ht2, hxt2⟩ hno
  · have hO := hv1
    clear hv1
    refine g_istore (lv' := [(0, .ref b), (1, .ref (a 0)), (2, .ref (a 83)), (3, .ref (a 82)), (4, .int (nI i)), (5, .int (nI 2))]) C dL_law_383 (by decide) [1, 2, 3, 4, 5, 0] rfl ?_
    refine g_aload_n C dL_law_385 rfl 2 rfl ?_
    refine g_aload_n C dL_law_386 rfl 0 rfl ?_
    refine g_iload C dL_law_387 4 rfl ?_
    refine g_iconst (v := nI 1) C dL_law_389 (by decide) ?_
    refine g_iadd (v := nI (i + 1)) C dL_law_390 (nI_add i 1) ?_
    refine g_sld C hs hbl hbA (by omega) (by omega) dL_law_391 ?_
    refine g_aload_n C dL_law_392 rfl 0 rfl ?_
    refine g_iload C dL_law_393 4 rfl ?_
    refine g_iconst (v := nI 2) C dL_law_395 (by decide) ?_
    refine g_iadd (v := nI (i + 2)) C dL_law_396 (nI_add i 2) ?_
    refine g_sld C hs hbl hbA (by omega) (by omega) dL_law_397 ?_
    refine g_subd (off := 83) (n := 9) (As := [.int (xs (i + 1)), .int (xs (i + 2))]) (rest := []) C (cwV 2 C.2.2.2.2.1 gL_law_X1_forward rfl rfl rfl (by decide +kernel) ⟨(Nat.le_of_ble_eq_true rfl), (Nat.le_of_ble_eq_true rfl)⟩) (c_X1_forward l D cy (fun k => a (k + 83)) hi9 hM hn hT hW hr4 _ _) (by decide) (by decide) (show e 83 = _ from hM.1) inl_pos1 rfl rfl (Nat.le_of_ble_eq_true rfl) dL_law_398 ⟨by show cells + 1 ≤ 623084; omega, by show slots + 6 ≤ 7175652; omega⟩ (fun z2 u2 hz2 => ?_)
    obtain ⟨th1, ⟨nw1, od1, hu2⟩, hz2⟩ := hz2
    have hP : RP cy a (putS e u2 83 9) n T S M E r F1 B1 V G Cn := RP_ext hP (fun k hk => putS_out (by omega)) (fun _ _ => rfl)
    have hM : RM cy (fun k => a (k + 83)) (fun k => putS e u2 83 9 (k + 83)) n T th1 S M E r nw1 od1 cn bf := RM_ext (show RM cy (fun k => a (k + 83)) u2 n T th1 S M E r nw1 od1 cn bf from hu2) (fun k hk => putS_in (off := 83) hk) (fun _ _ => rfl)
    have hO : isD cy (putS e u2 83 9 82) 1 v1 := by rw [putS_out (by omega)]; exact hO
    generalize putS e u2 83 9 = e at hP hM hO ⊢
    rcases hz2 with ⟨rfl, hno2⟩ | ⟨rfl, hpl2, hno2⟩ | ⟨rfl, t2, i2, ht2, hin2, hxt2, hxi2, hvv2⟩
    · exact absurd hpl hno2
    · refine g_dstore (lv' := [(0, .ref b), (1, .ref (a 0)), (2, .ref (a 83)), (3, .ref (a 82)), (4, .int (nI i)), (5, .int (nI 2)), (6, .double z2)]) C dL_law_401 (by decide) [1, 2, 3, 4, 5, 6, 0] rfl ?_
      refine g_aload_n C dL_law_403 rfl 2 rfl ?_
      refine g_subi (off := 83) (n := 9) (As := []) (rest := []) C (cwV 0 C.2.2.2.2.1 gL_law_X1_thrown rfl rfl rfl (by decide +kernel) ⟨(Nat.le_of_ble_eq_true rfl), (Nat.le_of_ble_eq_true rfl)⟩) (c_X1_thrown l D cy (fun k => a (k + 83)) hi9 hM ) (by decide) (by decide) (show e 83 = _ from hM.1) inl_pos1 rfl rfl (Nat.le_of_ble_eq_true rfl) dL_law_404 ⟨by show cells + 1 ≤ 623084; omega, by show slots + 6 ≤ 7175652; omega⟩ (fun z3 u3 hz3 => ?_)
      obtain ⟨hu3, rfl⟩ := hz3
      have hP : RP cy a (putS e u3 83 9) n T S M E r F1 B1 V G Cn := RP_ext hP (fun k hk => putS_out (by omega)) (fun _ _ => rfl)
      have hM : RM cy (fun k => a (k + 83)) (fun k => putS e u3 83 9 (k + 83)) n T 2 S M E r nw1 od1 cn bf := RM_ext (show RM cy (fun k => a (k + 83)) u3 n T 2 S M E r nw1 od1 cn bf from by rw [hu3]; exact hM) (fun k hk => putS_in (off := 83) hk) (fun _ _ => rfl)
      have hO : isD cy (putS e u3 83 9 82) 1 v1 := by rw [putS_out (by omega)]; exact hO
      generalize putS e u3 83 9 = e at hP hM hO ⊢
      refine g_iload C dL_law_407 5 rfl ?_
      refine g_icmp_eq (tgt := 414) C dL_law_409 (by decide) (fun _ => ?_) (fun c1 => absurd rfl c1)
      refine g_iload C dL_law_414 5 rfl ?_
      refine g_if_ne (tgt := 448) C dL_law_416 (by decide) (fun c1 => ?_) (fun c1 => absurd c1 (by decide))
      refine g_goto (tgt := 742) C dL_law_448 (by decide) ?_
      refine g_pick (lv' := [(0, .ref b), (1, .ref (a 0)), (2, .ref (a 83)), (3, .ref (a 82)), (4, .int (nI i))]) [0, 1, 2, 3, 4] rfl ?_
      exact K e _ _ (by omega) (by omega) ⟨_, _, _, _, _, _, _, _, _, _, _, _, _, _, _, _, _, hP, hM, hO, hn, hT, hW, hr4⟩
    · exact absurd ⟨i2, hin2, hxi2⟩ hno
  · rw [← hu82] at hvv
    have hO := hvv
    clear hvv hv1
    refine g_istore (lv' := [(0, .ref b), (1, .ref (a 0)), (2, .ref (a 83)), (3, .ref (a 82)), (4, .int (nI i)), (5, .int (nI 0))]) C dL_law_383 (by decide) [1, 2, 3, 4, 5, 0] rfl ?_
    refine g_aload_n C dL_law_385 rfl 2 rfl ?_
    refine g_aload_n C dL_law_386 rfl 0 rfl ?_
    refine g_iload C dL_law_387 4 rfl ?_
    refine g_iconst (v := nI 1) C dL_law_389 (by decide) ?_
    refine g_iadd (v := nI (i + 1)) C dL_law_390 (nI_add i 1) ?_
    refine g_sld C hs hbl hbA (by omega) (by omega) dL_law_391 ?_
    refine g_aload_n C dL_law_392 rfl 0 rfl ?_
    refine g_iload C dL_law_393 4 rfl ?_
    refine g_iconst (v := nI 2) C dL_law_395 (by decide) ?_
    refine g_iadd (v := nI (i + 2)) C dL_law_396 (nI_add i 2) ?_
    refine g_sld C hs hbl hbA (by omega) (by omega) dL_law_397 ?_
    refine g_subd (off := 83) (n := 9) (As := [.int (xs (i + 1)), .int (xs (i + 2))]) (rest := []) C (cwV 2 C.2.2.2.2.1 gL_law_X1_forward rfl rfl rfl (by decide +kernel) ⟨(Nat.le_of_ble_eq_true rfl), (Nat.le_of_ble_eq_true rfl)⟩) (c_X1_forward l D cy (fun k => a (k + 83)) hi9 hM hn hT hW hr4 _ _) (by decide) (by decide) (show e 83 = _ from hM.1) inl_pos1 rfl rfl (Nat.le_of_ble_eq_true rfl) dL_law_398 ⟨by show cells + 1 ≤ 623084; omega, by show slots + 6 ≤ 7175652; omega⟩ (fun z2 u2 hz2 => ?_)
    obtain ⟨th1, ⟨nw1, od1, hu2⟩, hz2⟩ := hz2
    have hP : RP cy a (putS e u2 83 9) n T S M E r F1 B1 V G Cn := RP_ext hP (fun k hk => putS_out (by omega)) (fun _ _ => rfl)
    have hM : RM cy (fun k => a (k + 83)) (fun k => putS e u2 83 9 (k + 83)) n T th1 S M E r nw1 od1 cn bf := RM_ext (show RM cy (fun k => a (k + 83)) u2 n T th1 S M E r nw1 od1 cn bf from hu2) (fun k hk => putS_in (off := 83) hk) (fun _ _ => rfl)
    have hO : isD cy (putS e u2 83 9 82) 1 (fun _ => fA n S M E r t0 i0) := by rw [putS_out (by omega)]; exact hO
    generalize putS e u2 83 9 = e at hP hM hO ⊢
    rcases hz2 with ⟨rfl, hno2⟩ | ⟨rfl, hpl2, hno2⟩ | ⟨rfl, t2, i2, ht2, hin2, hxt2, hxi2, hvv2⟩
    · exact absurd ⟨t0, ht0, hxt⟩ hno2
    · exact absurd ⟨i0, hin0, hxi⟩ hno2
    · have hti : t2 = t0 := (nI_eq (by omega) (by omega)).mp (hxt2.symm.trans hxt)
      have hii : i2 = i0 := (nI_eq (by omega) (by omega)).mp (hxi2.symm.trans hxi)
      subst hti
      subst hii
      subst hvv2
      refine g_dstore (lv' := [(0, .ref b), (1, .ref (a 0)), (2, .ref (a 83)), (3, .ref (a 82)), (4, .int (nI i)), (5, .int (nI 0)), (6, .double (fA n S M E r t2 i2))]) C dL_law_401 (by decide) [1, 2, 3, 4, 5, 6, 0] rfl ?_
      refine g_aload_n C dL_law_403 rfl 2 rfl ?_
      refine g_subi (off := 83) (n := 9) (As := []) (rest := []) C (cwV 0 C.2.2.2.2.1 gL_law_X1_thrown rfl rfl rfl (by decide +kernel) ⟨(Nat.le_of_ble_eq_true rfl), (Nat.le_of_ble_eq_true rfl)⟩) (c_X1_thrown l D cy (fun k => a (k + 83)) hi9 hM ) (by decide) (by decide) (show e 83 = _ from hM.1) inl_pos1 rfl rfl (Nat.le_of_ble_eq_true rfl) dL_law_404 ⟨by show cells + 1 ≤ 623084; omega, by show slots + 6 ≤ 7175652; omega⟩ (fun z3 u3 hz3 => ?_)
      obtain ⟨hu3, rfl⟩ := hz3
      have hP : RP cy a (putS e u3 83 9) n T S M E r F1 B1 V G Cn := RP_ext hP (fun k hk => putS_out (by omega)) (fun _ _ => rfl)
      have hM : RM cy (fun k => a (k + 83)) (fun k => putS e u3 83 9 (k + 83)) n T 0 S M E r nw1 od1 cn bf := RM_ext (show RM cy (fun k => a (k + 83)) u3 n T 0 S M E r nw1 od1 cn bf from by rw [hu3]; exact hM) (fun k hk => putS_in (off := 83) hk) (fun _ _ => rfl)
      have hO : isD cy (putS e u3 83 9 82) 1 (fun _ => fA n S M E r t2 i2) := by rw [putS_out (by omega)]; exact hO
      generalize putS e u3 83 9 = e at hP hM hO ⊢
      refine g_iload C dL_law_407 5 rfl ?_
      refine g_icmp_eq (tgt := 414) C dL_law_409 (by decide) (fun _ => ?_) (fun c1 => absurd rfl c1)
      refine g_iload C dL_law_414 5 rfl ?_
      refine g_if_ne (tgt := 448) C dL_law_416 (by decide) (fun c1 => absurd c1 (fun q => q rfl)) (fun c1 => ?_)
      refine g_aload_n C dL_law_419 rfl 3 rfl ?_
      refine g_iconst (v := nI 0) C dL_law_420 (by decide) ?_
      refine g_dald (n := 1) (i := 0) C (by decide) hO (by decide) (by decide) dL_law_421 ?_
      refine g_dload C dL_law_422 6 rfl ?_
      refine g_dcmp C dL_law_424 ?_
      refine g_if_eq (tgt := 448) C dL_law_425 (by decide) (fun c1 => ?_) (fun c1 => absurd c1 (fun q => q (cmp_self (mg_n64 (fA_mg hn.2 hW hr4 t2 i2 (by omega) (by omega)) (by omega)))))
      refine g_goto (tgt := 742) C dL_law_448 (by decide) ?_
      refine g_pick (lv' := [(0, .ref b), (1, .ref (a 0)), (2, .ref (a 83)), (3, .ref (a 82)), (4, .int (nI i))]) [0, 1, 2, 3, 4] rfl ?_
      exact K e _ _ (by omega) (by omega) ⟨_, _, _, _, _, _, _, _, _, _, _, _, _, _, _, _, _, hP, hM, hO, hn, hT, hW, hr4⟩

set_option maxHeartbeats 1000000 in
set_option maxRecDepth 100000 in
theorem law_c9 {p : Program} {l : Launch} {en : Env} {s : State} {m : MethodId} {args : Array Value} {below : List Frame} {meth : Method} {c : Code} {cells slots : Nat} {Q : State → Prop} {D : va_G} {cy : Nat → ClassId} {a sg : Nat → Nat} {A : Nat → Prop} {b L : Nat} {xs : Nat → Int32} (C : Cx p s m args c cL_law wsL_law RL D clP cy 92 9 a A) (hfl : l.stackTraces = false) (hX : XT A sg s s.heap) (hs : va_X b L xs s s.heap) (hbl : b < s.heap.size) (hbA : ¬ A b) {i : Nat} (hi4 : i + 4 ≤ L) (hL : L ≤ 2048) (hcc : cells ≤ 4300 ∧ slots ≤ 26000) {e : Nat → va_E} {n T th : Nat} {S : Nat → UInt64} {M E : T2} {r : Nat → Nat} {F B V : T2} {G : Nat → Nat → Int32} {Cn : Nat → Nat → Int64} {nw od : Nat → UInt64} {cn bf : Nat → Int64} {v0 : Nat → UInt64} (hP : RP cy a e n T S M E r F B V G Cn) (hM : RM cy (fun k => a (k + 83)) (fun k => e (k + 83)) n T th S M E r nw od cn bf) (hO : isD cy (e 82) 1 v0) (hn : 1 ≤ n ∧ n ≤ 6) (hT : T ≤ 12) (hW : WB S M E) (hr4 : RW4 r) (K : ∀ (e2 : Nat → va_E) (cells2 slots2 : Nat), cells2 ≤ cells + 2 → slots2 ≤ slots + 12 → LI cy a e2 → GW p l en room_1 s m args below meth c cells2 slots2 Q D clP 92 9 a A e2 742 [(0, .ref b), (1, .ref (a 0)), (2, .ref (a 83)), (3, .ref (a 82)), (4, .int (nI i))] []) : GW p l en room_1 s m args below meth c cells slots Q D clP 92 9 a A e 451 [(0, .ref b), (1, .ref (a 0)), (2, .ref (a 83)), (3, .ref (a 82)), (4, .int (nI i))] [] := by
  have hi0 : wInj 82 a := fun i j h1 h2 h3 => C.2.2.2.2.2.2.1 i j (by omega) (by omega) h3
  have hi9 : wInj 9 (fun k => a (k + 83)) := sub_inj (off := 83) C.2.2.2.2.2.2.1 (by decide)
  refine g_aload_n C dL_law_451 rfl 1 rfl ?_
  refine g_aload_n C dL_law_452 rfl 0 rfl ?_
  refine g_iload C dL_law_453 4 rfl ?_
  refine g_iconst (v := nI 1) C dL_law_455 (by decide) ?_
  refine g_iadd (v := nI (i + 1)) C dL_law_456 (nI_add i 1) ?_
  refine g_sld C hs hbl hbA (by omega) (by omega) dL_law_457 ?_
  refine g_aload_n C dL_law_458 rfl 0 rfl ?_
  refine g_iload C dL_law_459 4 rfl ?_
  refine g_iconst (v := nI 2) C dL_law_461 (by decide) ?_
  refine g_iadd (v := nI (i + 2)) C dL_law_462 (nI_add i 2) ?_
  refine g_sld C hs hbl hbA (by omega) (by omega) dL_law_463 ?_
  refine g_aload_n C dL_law_464 rfl 3 rfl ?_
  refine g_subSi (kc := 1) (ks := 6) (off := 0) (n := 83) (As := [.ref (a 0), .int (xs (i + 1)), .int (xs (i + 2)), .ref (a 82)]) (rest := []) C hX (vx_cwSW 4 C.2.2.2.2.1 gL_law_L_backward rfl rfl rfl (by decide +kernel) ⟨(Nat.le_of_ble_eq_true rfl), (Nat.le_of_ble_eq_true rfl)⟩) (c_L_backward l hfl D cy a sg (fun i j h1 h2 h3 => C.2.2.2.2.2.2.1 i j (by omega) (by omega) h3) hP hn hT hW hr4 _ _ hO) (by decide) rfl rfl (Nat.le_of_ble_eq_true rfl) dL_law_465 ⟨by show cells + 1 ≤ 623084; omega, by show slots + 6 ≤ 7175652; omega⟩ (fun z u hz => ?_)
  obtain ⟨⟨F1, B1, hu⟩, ⟨v1, hv1⟩, hz⟩ := hz
  have hP : RP cy a (putS e u 0 83) n T S M E r F1 B1 V G Cn := RP_ext hu (fun k hk => putS_in (off := 0) (by omega)) (fun _ _ => rfl)
  have hM : RM cy (fun k => a (k + 83)) (fun k => putS e u 0 83 (k + 83)) n T th S M E r nw od cn bf := RM_ext hM (fun k hk => putS_out (by omega)) (fun _ _ => rfl)
  have hu82 : putS e u 0 83 82 = u 82 := putS_in (off := 0) (k := 82) (by omega)
  generalize putS e u 0 83 = e at hP hM hu82 ⊢
  rw [← hu82] at hv1
  rcases hz with ⟨rfl, hno⟩ | ⟨rfl, hpl, hno⟩ | ⟨rfl, t0, i0, ht0, hin0, hxt, hxi, hvv⟩
  · have hO := hv1
    clear hv1
    refine g_istore (lv' := [(0, .ref b), (1, .ref (a 0)), (2, .ref (a 83)), (3, .ref (a 82)), (4, .int (nI i)), (5, .int (nI 1))]) C dL_law_468 (by decide) [1, 2, 3, 4, 5, 0] rfl ?_
    refine g_aload_n C dL_law_470 rfl 2 rfl ?_
    refine g_aload_n C dL_law_471 rfl 0 rfl ?_
    refine g_iload C dL_law_472 4 rfl ?_
    refine g_iconst (v := nI 1) C dL_law_474 (by decide) ?_
    refine g_iadd (v := nI (i + 1)) C dL_law_475 (nI_add i 1) ?_
    refine g_sld C hs hbl hbA (by omega) (by omega) dL_law_476 ?_
    refine g_aload_n C dL_law_477 rfl 0 rfl ?_
    refine g_iload C dL_law_478 4 rfl ?_
    refine g_iconst (v := nI 2) C dL_law_480 (by decide) ?_
    refine g_iadd (v := nI (i + 2)) C dL_law_481 (nI_add i 2) ?_
    refine g_sld C hs hbl hbA (by omega) (by omega) dL_law_482 ?_
    refine g_subd (off := 83) (n := 9) (As := [.int (xs (i + 1)), .int (xs (i + 2))]) (rest := []) C (cwV 2 C.2.2.2.2.1 gL_law_X1_backward rfl rfl rfl (by decide +kernel) ⟨(Nat.le_of_ble_eq_true rfl), (Nat.le_of_ble_eq_true rfl)⟩) (c_X1_backward l D cy (fun k => a (k + 83)) hi9 hM hn hT hW hr4 _ _) (by decide) (by decide) (show e 83 = _ from hM.1) inl_pos1 rfl rfl (Nat.le_of_ble_eq_true rfl) dL_law_483 ⟨by show cells + 1 ≤ 623084; omega, by show slots + 6 ≤ 7175652; omega⟩ (fun z2 u2 hz2 => ?_)
    obtain ⟨th1, ⟨nw1, od1, hu2⟩, hz2⟩ := hz2
    have hP : RP cy a (putS e u2 83 9) n T S M E r F1 B1 V G Cn := RP_ext hP (fun k hk => putS_out (by omega)) (fun _ _ => rfl)
    have hM : RM cy (fun k => a (k + 83)) (fun k => putS e u2 83 9 (k + 83)) n T th1 S M E r nw1 od1 cn bf := RM_ext (show RM cy (fun k => a (k + 83)) u2 n T th1 S M E r nw1 od1 cn bf from hu2) (fun k hk => putS_in (off := 83) hk) (fun _ _ => rfl)
    have hO : isD cy (putS e u2 83 9 82) 1 v1 := by rw [putS_out (by omega)]; exact hO
    generalize putS e u2 83 9 = e at hP hM hO ⊢
    rcases hz2 with ⟨rfl, hno2⟩ | ⟨rfl, hpl2, hno2⟩ | ⟨rfl, t2, i2, ht2, hin2, hxt2, hxi2, hvv2⟩
    · refine g_dstore (lv' := [(0, .ref b), (1, .ref (a 0)), (2, .ref (a 83)), (3, .ref (a 82)), (4, .int (nI i)), (5, .int (nI 1)), (6, .double z2)]) C dL_law_486 (by decide) [1, 2, 3, 4, 5, 6, 0] rfl ?_
      refine g_aload_n C dL_law_488 rfl 2 rfl ?_
      refine g_subi (off := 83) (n := 9) (As := []) (rest := []) C (cwV 0 C.2.2.2.2.1 gL_law_X1_thrown rfl rfl rfl (by decide +kernel) ⟨(Nat.le_of_ble_eq_true rfl), (Nat.le_of_ble_eq_true rfl)⟩) (c_X1_thrown l D cy (fun k => a (k + 83)) hi9 hM ) (by decide) (by decide) (show e 83 = _ from hM.1) inl_pos1 rfl rfl (Nat.le_of_ble_eq_true rfl) dL_law_489 ⟨by show cells + 1 ≤ 623084; omega, by show slots + 6 ≤ 7175652; omega⟩ (fun z3 u3 hz3 => ?_)
      obtain ⟨hu3, rfl⟩ := hz3
      have hP : RP cy a (putS e u3 83 9) n T S M E r F1 B1 V G Cn := RP_ext hP (fun k hk => putS_out (by omega)) (fun _ _ => rfl)
      have hM : RM cy (fun k => a (k + 83)) (fun k => putS e u3 83 9 (k + 83)) n T 1 S M E r nw1 od1 cn bf := RM_ext (show RM cy (fun k => a (k + 83)) u3 n T 1 S M E r nw1 od1 cn bf from by rw [hu3]; exact hM) (fun k hk => putS_in (off := 83) hk) (fun _ _ => rfl)
      have hO : isD cy (putS e u3 83 9 82) 1 v1 := by rw [putS_out (by omega)]; exact hO
      generalize putS e u3 83 9 = e at hP hM hO ⊢
      refine g_iload C dL_law_492 5 rfl ?_
      refine g_icmp_eq (tgt := 499) C dL_law_494 (by decide) (fun _ => ?_) (fun c1 => absurd rfl c1)
      refine g_iload C dL_law_499 5 rfl ?_
      refine g_if_ne (tgt := 533) C dL_law_501 (by decide) (fun c1 => ?_) (fun c1 => absurd c1 (by decide))
      refine g_goto (tgt := 742) C dL_law_533 (by decide) ?_
      refine g_pick (lv' := [(0, .ref b), (1, .ref (a 0)), (2, .ref (a 83)), (3, .ref (a 82)), (4, .int (nI i))]) [0, 1, 2, 3, 4] rfl ?_
      exact K e _ _ (by omega) (by omega) ⟨_, _, _, _, _, _, _, _, _, _, _, _, _, _, _, _, _, hP, hM, hO, hn, hT, hW, hr4⟩
    · exact absurd hpl2 hno
    · exact absurd ⟨t2, ht2, hxt2⟩ hno
  · have hO := hv1
    clear hv1
    refine g_istore (lv' := [(0, .ref b), (1, .ref (a 0)), (2, .ref (a 83)), (3, .ref (a 82)), (4, .int (nI i)), (5, .int (nI 2))]) C dL_law_468 (by decide) [1, 2, 3, 4, 5, 0] rfl ?_
    refine g_aload_n C dL_law_470 rfl 2 rfl ?_
    refine g_aload_n C dL_law_471 rfl 0 rfl ?_
    refine g_iload C dL_law_472 4 rfl ?_
    refine g_iconst (v := nI 1) C dL_law_474 (by decide) ?_
    refine g_iadd (v := nI (i + 1)) C dL_law_475 (nI_add i 1) ?_
    refine g_sld C hs hbl hbA (by omega) (by omega) dL_law_476 ?_
    refine g_aload_n C dL_law_477 rfl 0 rfl ?_
    refine g_iload C dL_law_478 4 rfl ?_
    refine g_iconst (v := nI 2) C dL_law_480 (by decide) ?_
    refine g_iadd (v := nI (i + 2)) C dL_law_481 (nI_add i 2) ?_
    refine g_sld C hs hbl hbA (by omega) (by omega) dL_law_482 ?_
    refine g_subd (off := 83) (n := 9) (As := [.int (xs (i + 1)), .int (xs (i + 2))]) (rest := []) C (cwV 2 C.2.2.2.2.1 gL_law_X1_backward rfl rfl rfl (by decide +kernel) ⟨(Nat.le_of_ble_eq_true rfl), (Nat.le_of_ble_eq_true rfl)⟩) (c_X1_backward l D cy (fun k => a (k + 83)) hi9 hM hn hT hW hr4 _ _) (by decide) (by decide) (show e 83 = _ from hM.1) inl_pos1 rfl rfl (Nat.le_of_ble_eq_true rfl) dL_law_483 ⟨by show cells + 1 ≤ 623084; omega, by show slots + 6 ≤ 7175652; omega⟩ (fun z2 u2 hz2 => ?_)
    obtain ⟨th1, ⟨nw1, od1, hu2⟩, hz2⟩ := hz2
    have hP : RP cy a (putS e u2 83 9) n T S M E r F1 B1 V G Cn := RP_ext hP (fun k hk => putS_out (by omega)) (fun _ _ => rfl)
    have hM : RM cy (fun k => a (k + 83)) (fun k => putS e u2 83 9 (k + 83)) n T th1 S M E r nw1 od1 cn bf := RM_ext (show RM cy (fun k => a (k + 83)) u2 n T th1 S M E r nw1 od1 cn bf from hu2) (fun k hk => putS_in (off := 83) hk) (fun _ _ => rfl)
    have hO : isD cy (putS e u2 83 9 82) 1 v1 := by rw [putS_out (by omega)]; exact hO
    generalize putS e u2 83 9 = e at hP hM hO ⊢
    rcases hz2 with ⟨rfl, hno2⟩ | ⟨rfl, hpl2, hno2⟩ | ⟨rfl, t2, i2, ht2, hin2, hxt2, hxi2, hvv2⟩
    · exact absurd hpl hno2
    · refine g_dstore (lv' := [(0, .ref b), (1, .ref (a 0)), (2, .ref (a 83)), (3, .ref (a 82)), (4, .int (nI i)), (5, .int (nI 2)), (6, .double z2)]) C dL_law_486 (by decide) [1, 2, 3, 4, 5, 6, 0] rfl ?_
      refine g_aload_n C dL_law_488 rfl 2 rfl ?_
      refine g_subi (off := 83) (n := 9) (As := []) (rest := []) C (cwV 0 C.2.2.2.2.1 gL_law_X1_thrown rfl rfl rfl (by decide +kernel) ⟨(Nat.le_of_ble_eq_true rfl), (Nat.le_of_ble_eq_true rfl)⟩) (c_X1_thrown l D cy (fun k => a (k + 83)) hi9 hM ) (by decide) (by decide) (show e 83 = _ from hM.1) inl_pos1 rfl rfl (Nat.le_of_ble_eq_true rfl) dL_law_489 ⟨by show cells + 1 ≤ 623084; omega, by show slots + 6 ≤ 7175652; omega⟩ (fun z3 u3 hz3 => ?_)
      obtain ⟨hu3, rfl⟩ := hz3
      have hP : RP cy a (putS e u3 83 9) n T S M E r F1 B1 V G Cn := RP_ext hP (fun k hk => putS_out (by omega)) (fun _ _ => rfl)
      have hM : RM cy (fun k => a (k + 83)) (fun k => putS e u3 83 9 (k + 83)) n T 2 S M E r nw1 od1 cn bf := RM_ext (show RM cy (fun k => a (k + 83)) u3 n T 2 S M E r nw1 od1 cn bf from by rw [hu3]; exact hM) (fun k hk => putS_in (off := 83) hk) (fun _ _ => rfl)
      have hO : isD cy (putS e u3 83 9 82) 1 v1 := by rw [putS_out (by omega)]; exact hO
      generalize putS e u3 83 9 = e at hP hM hO ⊢
      refine g_iload C dL_law_492 5 rfl ?_
      refine g_icmp_eq (tgt := 499) C dL_law_494 (by decide) (fun _ => ?_) (fun c1 => absurd rfl c1)
      refine g_iload C dL_law_499 5 rfl ?_
      refine g_if_ne (tgt := 533) C dL_law_501 (by decide) (fun c1 => ?_) (fun c1 => absurd c1 (by decide))
      refine g_goto (tgt := 742) C dL_law_533 (by decide) ?_
      refine g_pick (lv' := [(0, .ref b), (1, .ref (a 0)), (2, .ref (a 83)), (3, .ref (a 82)), (4, .int (nI i))]) [0, 1, 2, 3, 4] rfl ?_
      exact K e _ _ (by omega) (by omega) ⟨_, _, _, _, _, _, _, _, _, _, _, _, _, _, _, _, _, hP, hM, hO, hn, hT, hW, hr4⟩
    · exact absurd ⟨i2, hin2, hxi2⟩ hno
  · rw [← hu82] at hvv
    have hO := hvv
    clear hvv hv1
    refine g_istore (lv' := [(0, .ref b), (1, .ref (a 0)), (2, .ref (a 83)), (3, .ref (a 82)), (4, .int (nI i)), (5, .int (nI 0))]) C dL_law_468 (by decide) [1, 2, 3, 4, 5, 0] rfl ?_
    refine g_aload_n C dL_law_470 rfl 2 rfl ?_
    refine g_aload_n C dL_law_471 rfl 0 rfl ?_
    refine g_iload C dL_law_472 4 rfl ?_
    refine g_iconst (v := nI 1) C dL_law_474 (by decide) ?_
    refine g_iadd (v := nI (i + 1)) C dL_law_475 (nI_add i 1) ?_
    refine g_sld C hs hbl hbA (by omega) (by omega) dL_law_476 ?_
    refine g_aload_n C dL_law_477 rfl 0 rfl ?_
    refine g_iload C dL_law_478 4 rfl ?_
    refine g_iconst (v := nI 2) C dL_law_480 (by decide) ?_
    refine g_iadd (v := nI (i + 2)) C dL_law_481 (nI_add i 2) ?_
    refine g_sld C hs hbl hbA (by omega) (by omega) dL_law_482 ?_
    refine g_subd (off := 83) (n := 9) (As := [.int (xs (i + 1)), .int (xs (i + 2))]) (rest := []) C (cwV 2 C.2.2.2.2.1 gL_law_X1_backward rfl rfl rfl (by decide +kernel) ⟨(Nat.le_of_ble_eq_true rfl), (Nat.le_of_ble_eq_true rfl)⟩) (c_X1_backward l D cy (fun k => a (k + 83)) hi9 hM hn hT hW hr4 _ _) (by decide) (by decide) (show e 83 = _ from hM.1) inl_pos1 rfl rfl (Nat.le_of_ble_eq_true rfl) dL_law_483 ⟨by show cells + 1 ≤ 623084; omega, by show slots + 6 ≤ 7175652; omega⟩ (fun z2 u2 hz2 => ?_)
    obtain ⟨th1, ⟨nw1, od1, hu2⟩, hz2⟩ := hz2
    have hP : RP cy a (putS e u2 83 9) n T S M E r F1 B1 V G Cn := RP_ext hP (fun k hk => putS_out (by omega)) (fun _ _ => rfl)
    have hM : RM cy (fun k => a (k + 83)) (fun k => putS e u2 83 9 (k + 83)) n T th1 S M E r nw1 od1 cn bf := RM_ext (show RM cy (fun k => a (k + 83)) u2 n T th1 S M E r nw1 od1 cn bf from hu2) (fun k hk => putS_in (off := 83) hk) (fun _ _ => rfl)
    have hO : isD cy (putS e u2 83 9 82) 1 (fun _ => fB n M E r T (T - 1 - t0) i0) := by rw [putS_out (by omega)]; exact hO
    generalize putS e u2 83 9 = e at hP hM hO ⊢
    rcases hz2 with ⟨rfl, hno2⟩ | ⟨rfl, hpl2, hno2⟩ | ⟨rfl, t2, i2, ht2, hin2, hxt2, hxi2, hvv2⟩
    · exact absurd ⟨t0, ht0, hxt⟩ hno2
    · exact absurd ⟨i0, hin0, hxi⟩ hno2
    · have hti : t2 = t0 := (nI_eq (by omega) (by omega)).mp (hxt2.symm.trans hxt)
      have hii : i2 = i0 := (nI_eq (by omega) (by omega)).mp (hxi2.symm.trans hxi)
      subst hti
      subst hii
      subst hvv2
      refine g_dstore (lv' := [(0, .ref b), (1, .ref (a 0)), (2, .ref (a 83)), (3, .ref (a 82)), (4, .int (nI i)), (5, .int (nI 0)), (6, .double (fB n M E r T (T - 1 - t2) i2))]) C dL_law_486 (by decide) [1, 2, 3, 4, 5, 6, 0] rfl ?_
      refine g_aload_n C dL_law_488 rfl 2 rfl ?_
      refine g_subi (off := 83) (n := 9) (As := []) (rest := []) C (cwV 0 C.2.2.2.2.1 gL_law_X1_thrown rfl rfl rfl (by decide +kernel) ⟨(Nat.le_of_ble_eq_true rfl), (Nat.le_of_ble_eq_true rfl)⟩) (c_X1_thrown l D cy (fun k => a (k + 83)) hi9 hM ) (by decide) (by decide) (show e 83 = _ from hM.1) inl_pos1 rfl rfl (Nat.le_of_ble_eq_true rfl) dL_law_489 ⟨by show cells + 1 ≤ 623084; omega, by show slots + 6 ≤ 7175652; omega⟩ (fun z3 u3 hz3 => ?_)
      obtain ⟨hu3, rfl⟩ := hz3
      have hP : RP cy a (putS e u3 83 9) n T S M E r F1 B1 V G Cn := RP_ext hP (fun k hk => putS_out (by omega)) (fun _ _ => rfl)
      have hM : RM cy (fun k => a (k + 83)) (fun k => putS e u3 83 9 (k + 83)) n T 0 S M E r nw1 od1 cn bf := RM_ext (show RM cy (fun k => a (k + 83)) u3 n T 0 S M E r nw1 od1 cn bf from by rw [hu3]; exact hM) (fun k hk => putS_in (off := 83) hk) (fun _ _ => rfl)
      have hO : isD cy (putS e u3 83 9 82) 1 (fun _ => fB n M E r T (T - 1 - t2) i2) := by rw [putS_out (by omega)]; exact hO
      generalize putS e u3 83 9 = e at hP hM hO ⊢
      refine g_iload C dL_law_492 5 rfl ?_
      refine g_icmp_eq (tgt := 499) C dL_law_494 (by decide) (fun _ => ?_) (fun c1 => absurd rfl c1)
      refine g_iload C dL_law_499 5 rfl ?_
      refine g_if_ne (tgt := 533) C dL_law_501 (by decide) (fun c1 => absurd c1 (fun q => q rfl)) (fun c1 => ?_)
      refine g_aload_n C dL_law_504 rfl 3 rfl ?_
      refine g_iconst (v := nI 0) C dL_law_505 (by decide) ?_
      refine g_dald (n := 1) (i := 0) C (by decide) hO (by decide) (by decide) dL_law_506 ?_
      refine g_dload C dL_law_507 6 rfl ?_
      refine g_dcmp C dL_law_509 ?_
      refine g_if_eq (tgt := 533) C dL_law_510 (by decide) (fun c1 => ?_) (fun c1 => absurd c1 (fun q => q (cmp_self (mg_n64 (fB_mg (S := S) hn.2 hT hW hr4 (T - 1 - t2) i2 (by omega) (by omega)) (by omega)))))
      refine g_goto (tgt := 742) C dL_law_533 (by decide) ?_
      refine g_pick (lv' := [(0, .ref b), (1, .ref (a 0)), (2, .ref (a 83)), (3, .ref (a 82)), (4, .int (nI i))]) [0, 1, 2, 3, 4] rfl ?_
      exact K e _ _ (by omega) (by omega) ⟨_, _, _, _, _, _, _, _, _, _, _, _, _, _, _, _, _, hP, hM, hO, hn, hT, hW, hr4⟩

set_option maxHeartbeats 1000000 in
set_option maxRecDepth 100000 in
theorem law_c13 {p : Program} {l : Launch} {en : Env} {s : State} {m : MethodId} {args : Array Value} {below : List Frame} {meth : Method} {c : Code} {cells slots : Nat} {Q : State → Prop} {D : va_G} {cy : Nat → ClassId} {a sg : Nat → Nat} {A : Nat → Prop} {b L : Nat} {xs : Nat → Int32} (C : Cx p s m args c cL_law wsL_law RL D clP cy 92 9 a A) (hfl : l.stackTraces = false) (hX : XT A sg s s.heap) (hs : va_X b L xs s s.heap) (hbl : b < s.heap.size) (hbA : ¬ A b) {i : Nat} (hi4 : i + 4 ≤ L) (hL : L ≤ 2048) (hcc : cells ≤ 4300 ∧ slots ≤ 26000) {e : Nat → va_E} {n T th : Nat} {S : Nat → UInt64} {M E : T2} {r : Nat → Nat} {F B V : T2} {G : Nat → Nat → Int32} {Cn : Nat → Nat → Int64} {nw od : Nat → UInt64} {cn bf : Nat → Int64} {v0 : Nat → UInt64} (hP : RP cy a e n T S M E r F B V G Cn) (hM : RM cy (fun k => a (k + 83)) (fun k => e (k + 83)) n T th S M E r nw od cn bf) (hO : isD cy (e 82) 1 v0) (hn : 1 ≤ n ∧ n ≤ 6) (hT : T ≤ 12) (hW : WB S M E) (hr4 : RW4 r) (K : ∀ (e2 : Nat → va_E) (cells2 slots2 : Nat), cells2 ≤ cells + 2 → slots2 ≤ slots + 12 → LI cy a e2 → GW p l en room_1 s m args below meth c cells2 slots2 Q D clP 92 9 a A e2 742 [(0, .ref b), (1, .ref (a 0)), (2, .ref (a 83)), (3, .ref (a 82)), (4, .int (nI i))] []) : GW p l en room_1 s m args below meth c cells slots Q D clP 92 9 a A e 643 [(0, .ref b), (1, .ref (a 0)), (2, .ref (a 83)), (3, .ref (a 82)), (4, .int (nI i))] [] := by
  have hi0 : wInj 82 a := fun i j h1 h2 h3 => C.2.2.2.2.2.2.1 i j (by omega) (by omega) h3
  have hi9 : wInj 9 (fun k => a (k + 83)) := sub_inj (off := 83) C.2.2.2.2.2.2.1 (by decide)
  refine g_aload_n C dL_law_643 rfl 1 rfl ?_
  refine g_aload_n C dL_law_644 rfl 0 rfl ?_
  refine g_iload C dL_law_645 4 rfl ?_
  refine g_iconst (v := nI 1) C dL_law_647 (by decide) ?_
  refine g_iadd (v := nI (i + 1)) C dL_law_648 (nI_add i 1) ?_
  refine g_sld C hs hbl hbA (by omega) (by omega) dL_law_649 ?_
  refine g_aload_n C dL_law_650 rfl 0 rfl ?_
  refine g_iload C dL_law_651 4 rfl ?_
  refine g_iconst (v := nI 2) C dL_law_653 (by decide) ?_
  refine g_iadd (v := nI (i + 2)) C dL_law_654 (nI_add i 2) ?_
  refine g_sld C hs hbl hbA (by omega) (by omega) dL_law_655 ?_
  refine g_aload_n C dL_law_656 rfl 3 rfl ?_
  refine g_subSi (kc := 2) (ks := 12) (off := 0) (n := 83) (As := [.ref (a 0), .int (xs (i + 1)), .int (xs (i + 2)), .ref (a 82)]) (rest := []) C hX (vx_cwSW 4 C.2.2.2.2.1 gL_law_L_share rfl rfl rfl (by decide +kernel) ⟨(Nat.le_of_ble_eq_true rfl), (Nat.le_of_ble_eq_true rfl)⟩) (c_L_share l hfl D cy a sg (fun i j h1 h2 h3 => C.2.2.2.2.2.2.1 i j (by omega) (by omega) h3) hP hn hT hW hr4 _ _ hO) (by decide) rfl rfl (Nat.le_of_ble_eq_true rfl) dL_law_657 ⟨by show cells + 2 ≤ 623084; omega, by show slots + 12 ≤ 7175652; omega⟩ (fun z u hz => ?_)
  obtain ⟨⟨F1, B1, hu⟩, ⟨v1, hv1⟩, hz⟩ := hz
  have hP : RP cy a (putS e u 0 83) n T S M E r F1 B1 V G Cn := RP_ext hu (fun k hk => putS_in (off := 0) (by omega)) (fun _ _ => rfl)
  have hM : RM cy (fun k => a (k + 83)) (fun k => putS e u 0 83 (k + 83)) n T th S M E r nw od cn bf := RM_ext hM (fun k hk => putS_out (by omega)) (fun _ _ => rfl)
  have hu82 : putS e u 0 83 82 = u 82 := putS_in (off := 0) (k := 82) (by omega)
  generalize putS e u 0 83 = e at hP hM hu82 ⊢
  rw [← hu82] at hv1
  rcases hz with ⟨rfl, hno⟩ | ⟨rfl, hpl, hno⟩ | ⟨rfl, hpl, hst, hcz⟩ | ⟨rfl, hcz, t0, i0, ht0, hin0, hxt, hxi, hvv⟩
  · have hO := hv1
    clear hv1
    refine g_istore (lv' := [(0, .ref b), (1, .ref (a 0)), (2, .ref (a 83)), (3, .ref (a 82)), (4, .int (nI i)), (5, .int (nI 1))]) C dL_law_660 (by decide) [1, 2, 3, 4, 5, 0] rfl ?_
    refine g_aload_n C dL_law_662 rfl 2 rfl ?_
    refine g_aload_n C dL_law_663 rfl 0 rfl ?_
    refine g_iload C dL_law_664 4 rfl ?_
    refine g_iconst (v := nI 1) C dL_law_666 (by decide) ?_
    refine g_iadd (v := nI (i + 1)) C dL_law_667 (nI_add i 1) ?_
    refine g_sld C hs hbl hbA (by omega) (by omega) dL_law_668 ?_
    refine g_aload_n C dL_law_669 rfl 0 rfl ?_
    refine g_iload C dL_law_670 4 rfl ?_
    refine g_iconst (v := nI 2) C dL_law_672 (by decide) ?_
    refine g_iadd (v := nI (i + 2)) C dL_law_673 (nI_add i 2) ?_
    refine g_sld C hs hbl hbA (by omega) (by omega) dL_law_674 ?_
    refine g_subd (off := 83) (n := 9) (As := [.int (xs (i + 1)), .int (xs (i + 2))]) (rest := []) C (cwV 2 C.2.2.2.2.1 gL_law_X1_share rfl rfl rfl (by decide +kernel) ⟨(Nat.le_of_ble_eq_true rfl), (Nat.le_of_ble_eq_true rfl)⟩) (c_X1_share l D cy (fun k => a (k + 83)) hi9 hM hn hT hW hr4 _ _) (by decide) (by decide) (show e 83 = _ from hM.1) inl_pos1 rfl rfl (Nat.le_of_ble_eq_true rfl) dL_law_675 ⟨by show cells + 2 ≤ 623084; omega, by show slots + 12 ≤ 7175652; omega⟩ (fun z2 u2 hz2 => ?_)
    obtain ⟨th1, ⟨nw1, od1, hu2⟩, hz2⟩ := hz2
    have hP : RP cy a (putS e u2 83 9) n T S M E r F1 B1 V G Cn := RP_ext hP (fun k hk => putS_out (by omega)) (fun _ _ => rfl)
    have hM : RM cy (fun k => a (k + 83)) (fun k => putS e u2 83 9 (k + 83)) n T th1 S M E r nw1 od1 cn bf := RM_ext (show RM cy (fun k => a (k + 83)) u2 n T th1 S M E r nw1 od1 cn bf from hu2) (fun k hk => putS_in (off := 83) hk) (fun _ _ => rfl)
    have hO : isD cy (putS e u2 83 9 82) 1 v1 := by rw [putS_out (by omega)]; exact hO
    generalize putS e u2 83 9 = e at hP hM hO ⊢
    rcases hz2 with ⟨rfl, hno2⟩ | ⟨rfl, hpl2, hno2⟩ | ⟨rfl, hpl2, hst2, hcz2⟩ | ⟨rfl, hcz2, t2, i2, ht2, hin2, hxt2, hxi2, hvv2⟩
    · refine g_dstore (lv' := [(0, .ref b), (1, .ref (a 0)), (2, .ref (a 83)), (3, .ref (a 82)), (4, .int (nI i)), (5, .int (nI 1)), (6, .double z2)]) C dL_law_678 (by decide) [1, 2, 3, 4, 5, 6, 0] rfl ?_
      refine g_aload_n C dL_law_680 rfl 2 rfl ?_
      refine g_subi (off := 83) (n := 9) (As := []) (rest := []) C (cwV 0 C.2.2.2.2.1 gL_law_X1_thrown rfl rfl rfl (by decide +kernel) ⟨(Nat.le_of_ble_eq_true rfl), (Nat.le_of_ble_eq_true rfl)⟩) (c_X1_thrown l D cy (fun k => a (k + 83)) hi9 hM ) (by decide) (by decide) (show e 83 = _ from hM.1) inl_pos1 rfl rfl (Nat.le_of_ble_eq_true rfl) dL_law_681 ⟨by show cells + 2 ≤ 623084; omega, by show slots + 12 ≤ 7175652; omega⟩ (fun z3 u3 hz3 => ?_)
      obtain ⟨hu3, rfl⟩ := hz3
      have hP : RP cy a (putS e u3 83 9) n T S M E r F1 B1 V G Cn := RP_ext hP (fun k hk => putS_out (by omega)) (fun _ _ => rfl)
      have hM : RM cy (fun k => a (k + 83)) (fun k => putS e u3 83 9 (k + 83)) n T 1 S M E r nw1 od1 cn bf := RM_ext (show RM cy (fun k => a (k + 83)) u3 n T 1 S M E r nw1 od1 cn bf from by rw [hu3]; exact hM) (fun k hk => putS_in (off := 83) hk) (fun _ _ => rfl)
      have hO : isD cy (putS e u3 83 9 82) 1 v1 := by rw [putS_out (by omega)]; exact hO
      generalize putS e u3 83 9 = e at hP hM hO ⊢
      refine g_iload C dL_law_684 5 rfl ?_
      refine g_icmp_eq (tgt := 691) C dL_law_686 (by decide) (fun _ => ?_) (fun c1 => absurd rfl c1)
      refine g_iload C dL_law_691 5 rfl ?_
      refine g_if_ne (tgt := 725) C dL_law_693 (by decide) (fun c1 => ?_) (fun c1 => absurd c1 (by decide))
      refine g_goto (tgt := 742) C dL_law_725 (by decide) ?_
      refine g_pick (lv' := [(0, .ref b), (1, .ref (a 0)), (2, .ref (a 83)), (3, .ref (a 82)), (4, .int (nI i))]) [0, 1, 2, 3, 4] rfl ?_
      exact K e _ _ (by omega) (by omega) ⟨_, _, _, _, _, _, _, _, _, _, _, _, _, _, _, _, _, hP, hM, hO, hn, hT, hW, hr4⟩
    · exact absurd hpl2 hno
    · exact absurd hpl2 hno
    · exact absurd ⟨t2, ht2, hxt2⟩ hno
  · have hO := hv1
    clear hv1
    refine g_istore (lv' := [(0, .ref b), (1, .ref (a 0)), (2, .ref (a 83)), (3, .ref (a 82)), (4, .int (nI i)), (5, .int (nI 2))]) C dL_law_660 (by decide) [1, 2, 3, 4, 5, 0] rfl ?_
    refine g_aload_n C dL_law_662 rfl 2 rfl ?_
    refine g_aload_n C dL_law_663 rfl 0 rfl ?_
    refine g_iload C dL_law_664 4 rfl ?_
    refine g_iconst (v := nI 1) C dL_law_666 (by decide) ?_
    refine g_iadd (v := nI (i + 1)) C dL_law_667 (nI_add i 1) ?_
    refine g_sld C hs hbl hbA (by omega) (by omega) dL_law_668 ?_
    refine g_aload_n C dL_law_669 rfl 0 rfl ?_
    refine g_iload C dL_law_670 4 rfl ?_
    refine g_iconst (v := nI 2) C dL_law_672 (by decide) ?_
    refine g_iadd (v := nI (i + 2)) C dL_law_673 (nI_add i 2) ?_
    refine g_sld C hs hbl hbA (by omega) (by omega) dL_law_674 ?_
    refine g_subd (off := 83) (n := 9) (As := [.int (xs (i + 1)), .int (xs (i + 2))]) (rest := []) C (cwV 2 C.2.2.2.2.1 gL_law_X1_share rfl rfl rfl (by decide +kernel) ⟨(Nat.le_of_ble_eq_true rfl), (Nat.le_of_ble_eq_true rfl)⟩) (c_X1_share l D cy (fun k => a (k + 83)) hi9 hM hn hT hW hr4 _ _) (by decide) (by decide) (show e 83 = _ from hM.1) inl_pos1 rfl rfl (Nat.le_of_ble_eq_true rfl) dL_law_675 ⟨by show cells + 2 ≤ 623084; omega, by show slots + 12 ≤ 7175652; omega⟩ (fun z2 u2 hz2 => ?_)
    obtain ⟨th1, ⟨nw1, od1, hu2⟩, hz2⟩ := hz2
    have hP : RP cy a (putS e u2 83 9) n T S M E r F1 B1 V G Cn := RP_ext hP (fun k hk => putS_out (by omega)) (fun _ _ => rfl)
    have hM : RM cy (fun k => a (k + 83)) (fun k => putS e u2 83 9 (k + 83)) n T th1 S M E r nw1 od1 cn bf := RM_ext (show RM cy (fun k => a (k + 83)) u2 n T th1 S M E r nw1 od1 cn bf from hu2) (fun k hk => putS_in (off := 83) hk) (fun _ _ => rfl)
    have hO : isD cy (putS e u2 83 9 82) 1 v1 := by rw [putS_out (by omega)]; exact hO
    generalize putS e u2 83 9 = e at hP hM hO ⊢
    rcases hz2 with ⟨rfl, hno2⟩ | ⟨rfl, hpl2, hno2⟩ | ⟨rfl, hpl2, hst2, hcz2⟩ | ⟨rfl, hcz2, t2, i2, ht2, hin2, hxt2, hxi2, hvv2⟩
    · exact absurd hpl hno2
    · refine g_dstore (lv' := [(0, .ref b), (1, .ref (a 0)), (2, .ref (a 83)), (3, .ref (a 82)), (4, .int (nI i)), (5, .int (nI 2)), (6, .double z2)]) C dL_law_678 (by decide) [1, 2, 3, 4, 5, 6, 0] rfl ?_
      refine g_aload_n C dL_law_680 rfl 2 rfl ?_
      refine g_subi (off := 83) (n := 9) (As := []) (rest := []) C (cwV 0 C.2.2.2.2.1 gL_law_X1_thrown rfl rfl rfl (by decide +kernel) ⟨(Nat.le_of_ble_eq_true rfl), (Nat.le_of_ble_eq_true rfl)⟩) (c_X1_thrown l D cy (fun k => a (k + 83)) hi9 hM ) (by decide) (by decide) (show e 83 = _ from hM.1) inl_pos1 rfl rfl (Nat.le_of_ble_eq_true rfl) dL_law_681 ⟨by show cells + 2 ≤ 623084; omega, by show slots + 12 ≤ 7175652; omega⟩ (fun z3 u3 hz3 => ?_)
      obtain ⟨hu3, rfl⟩ := hz3
      have hP : RP cy a (putS e u3 83 9) n T S M E r F1 B1 V G Cn := RP_ext hP (fun k hk => putS_out (by omega)) (fun _ _ => rfl)
      have hM : RM cy (fun k => a (k + 83)) (fun k => putS e u3 83 9 (k + 83)) n T 2 S M E r nw1 od1 cn bf := RM_ext (show RM cy (fun k => a (k + 83)) u3 n T 2 S M E r nw1 od1 cn bf from by rw [hu3]; exact hM) (fun k hk => putS_in (off := 83) hk) (fun _ _ => rfl)
      have hO : isD cy (putS e u3 83 9 82) 1 v1 := by rw [putS_out (by omega)]; exact hO
      generalize putS e u3 83 9 = e at hP hM hO ⊢
      refine g_iload C dL_law_684 5 rfl ?_
      refine g_icmp_eq (tgt := 691) C dL_law_686 (by decide) (fun _ => ?_) (fun c1 => absurd rfl c1)
      refine g_iload C dL_law_691 5 rfl ?_
      refine g_if_ne (tgt := 725) C dL_law_693 (by decide) (fun c1 => ?_) (fun c1 => absurd c1 (by decide))
      refine g_goto (tgt := 742) C dL_law_725 (by decide) ?_
      refine g_pick (lv' := [(0, .ref b), (1, .ref (a 0)), (2, .ref (a 83)), (3, .ref (a 82)), (4, .int (nI i))]) [0, 1, 2, 3, 4] rfl ?_
      exact K e _ _ (by omega) (by omega) ⟨_, _, _, _, _, _, _, _, _, _, _, _, _, _, _, _, _, hP, hM, hO, hn, hT, hW, hr4⟩
    · exact absurd hst2 hno
    · exact absurd ⟨i2, hin2, hxi2⟩ hno
  · have hO := hv1
    clear hv1
    refine g_istore (lv' := [(0, .ref b), (1, .ref (a 0)), (2, .ref (a 83)), (3, .ref (a 82)), (4, .int (nI i)), (5, .int (nI 3))]) C dL_law_660 (by decide) [1, 2, 3, 4, 5, 0] rfl ?_
    refine g_aload_n C dL_law_662 rfl 2 rfl ?_
    refine g_aload_n C dL_law_663 rfl 0 rfl ?_
    refine g_iload C dL_law_664 4 rfl ?_
    refine g_iconst (v := nI 1) C dL_law_666 (by decide) ?_
    refine g_iadd (v := nI (i + 1)) C dL_law_667 (nI_add i 1) ?_
    refine g_sld C hs hbl hbA (by omega) (by omega) dL_law_668 ?_
    refine g_aload_n C dL_law_669 rfl 0 rfl ?_
    refine g_iload C dL_law_670 4 rfl ?_
    refine g_iconst (v := nI 2) C dL_law_672 (by decide) ?_
    refine g_iadd (v := nI (i + 2)) C dL_law_673 (nI_add i 2) ?_
    refine g_sld C hs hbl hbA (by omega) (by omega) dL_law_674 ?_
    refine g_subd (off := 83) (n := 9) (As := [.int (xs (i + 1)), .int (xs (i + 2))]) (rest := []) C (cwV 2 C.2.2.2.2.1 gL_law_X1_share rfl rfl rfl (by decide +kernel) ⟨(Nat.le_of_ble_eq_true rfl), (Nat.le_of_ble_eq_true rfl)⟩) (c_X1_share l D cy (fun k => a (k + 83)) hi9 hM hn hT hW hr4 _ _) (by decide) (by decide) (show e 83 = _ from hM.1) inl_pos1 rfl rfl (Nat.le_of_ble_eq_true rfl) dL_law_675 ⟨by show cells + 2 ≤ 623084; omega, by show slots + 12 ≤ 7175652; omega⟩ (fun z2 u2 hz2 => ?_)
    obtain ⟨th1, ⟨nw1, od1, hu2⟩, hz2⟩ := hz2
    have hP : RP cy a (putS e u2 83 9) n T S M E r F1 B1 V G Cn := RP_ext hP (fun k hk => putS_out (by omega)) (fun _ _ => rfl)
    have hM : RM cy (fun k => a (k + 83)) (fun k => putS e u2 83 9 (k + 83)) n T th1 S M E r nw1 od1 cn bf := RM_ext (show RM cy (fun k => a (k + 83)) u2 n T th1 S M E r nw1 od1 cn bf from hu2) (fun k hk => putS_in (off := 83) hk) (fun _ _ => rfl)
    have hO : isD cy (putS e u2 83 9 82) 1 v1 := by rw [putS_out (by omega)]; exact hO
    generalize putS e u2 83 9 = e at hP hM hO ⊢
    rcases hz2 with ⟨rfl, hno2⟩ | ⟨rfl, hpl2, hno2⟩ | ⟨rfl, hpl2, hst2, hcz2⟩ | ⟨rfl, hcz2, t2, i2, ht2, hin2, hxt2, hxi2, hvv2⟩
    · exact absurd hpl hno2
    · exact absurd hst hno2
    · refine g_dstore (lv' := [(0, .ref b), (1, .ref (a 0)), (2, .ref (a 83)), (3, .ref (a 82)), (4, .int (nI i)), (5, .int (nI 3)), (6, .double z2)]) C dL_law_678 (by decide) [1, 2, 3, 4, 5, 6, 0] rfl ?_
      refine g_aload_n C dL_law_680 rfl 2 rfl ?_
      refine g_subi (off := 83) (n := 9) (As := []) (rest := []) C (cwV 0 C.2.2.2.2.1 gL_law_X1_thrown rfl rfl rfl (by decide +kernel) ⟨(Nat.le_of_ble_eq_true rfl), (Nat.le_of_ble_eq_true rfl)⟩) (c_X1_thrown l D cy (fun k => a (k + 83)) hi9 hM ) (by decide) (by decide) (show e 83 = _ from hM.1) inl_pos1 rfl rfl (Nat.le_of_ble_eq_true rfl) dL_law_681 ⟨by show cells + 2 ≤ 623084; omega, by show slots + 12 ≤ 7175652; omega⟩ (fun z3 u3 hz3 => ?_)
      obtain ⟨hu3, rfl⟩ := hz3
      have hP : RP cy a (putS e u3 83 9) n T S M E r F1 B1 V G Cn := RP_ext hP (fun k hk => putS_out (by omega)) (fun _ _ => rfl)
      have hM : RM cy (fun k => a (k + 83)) (fun k => putS e u3 83 9 (k + 83)) n T 3 S M E r nw1 od1 cn bf := RM_ext (show RM cy (fun k => a (k + 83)) u3 n T 3 S M E r nw1 od1 cn bf from by rw [hu3]; exact hM) (fun k hk => putS_in (off := 83) hk) (fun _ _ => rfl)
      have hO : isD cy (putS e u3 83 9 82) 1 v1 := by rw [putS_out (by omega)]; exact hO
      generalize putS e u3 83 9 = e at hP hM hO ⊢
      refine g_iload C dL_law_684 5 rfl ?_
      refine g_icmp_eq (tgt := 691) C dL_law_686 (by decide) (fun _ => ?_) (fun c1 => absurd rfl c1)
      refine g_iload C dL_law_691 5 rfl ?_
      refine g_if_ne (tgt := 725) C dL_law_693 (by decide) (fun c1 => ?_) (fun c1 => absurd c1 (by decide))
      refine g_goto (tgt := 742) C dL_law_725 (by decide) ?_
      refine g_pick (lv' := [(0, .ref b), (1, .ref (a 0)), (2, .ref (a 83)), (3, .ref (a 82)), (4, .int (nI i))]) [0, 1, 2, 3, 4] rfl ?_
      exact K e _ _ (by omega) (by omega) ⟨_, _, _, _, _, _, _, _, _, _, _, _, _, _, _, _, _, hP, hM, hO, hn, hT, hW, hr4⟩
    · exact absurd hcz hcz2
  · rw [← hu82] at hvv
    have hO := hvv
    clear hvv hv1
    refine g_istore (lv' := [(0, .ref b), (1, .ref (a 0)), (2, .ref (a 83)), (3, .ref (a 82)), (4, .int (nI i)), (5, .int (nI 0))]) C dL_law_660 (by decide) [1, 2, 3, 4, 5, 0] rfl ?_
    refine g_aload_n C dL_law_662 rfl 2 rfl ?_
    refine g_aload_n C dL_law_663 rfl 0 rfl ?_
    refine g_iload C dL_law_664 4 rfl ?_
    refine g_iconst (v := nI 1) C dL_law_666 (by decide) ?_
    refine g_iadd (v := nI (i + 1)) C dL_law_667 (nI_add i 1) ?_
    refine g_sld C hs hbl hbA (by omega) (by omega) dL_law_668 ?_
    refine g_aload_n C dL_law_669 rfl 0 rfl ?_
    refine g_iload C dL_law_670 4 rfl ?_
    refine g_iconst (v := nI 2) C dL_law_672 (by decide) ?_
    refine g_iadd (v := nI (i + 2)) C dL_law_673 (nI_add i 2) ?_
    refine g_sld C hs hbl hbA (by omega) (by omega) dL_law_674 ?_
    refine g_subd (off := 83) (n := 9) (As := [.int (xs (i + 1)), .int (xs (i + 2))]) (rest := []) C (cwV 2 C.2.2.2.2.1 gL_law_X1_share rfl rfl rfl (by decide +kernel) ⟨(Nat.le_of_ble_eq_true rfl), (Nat.le_of_ble_eq_true rfl)⟩) (c_X1_share l D cy (fun k => a (k + 83)) hi9 hM hn hT hW hr4 _ _) (by decide) (by decide) (show e 83 = _ from hM.1) inl_pos1 rfl rfl (Nat.le_of_ble_eq_true rfl) dL_law_675 ⟨by show cells + 2 ≤ 623084; omega, by show slots + 12 ≤ 7175652; omega⟩ (fun z2 u2 hz2 => ?_)
    obtain ⟨th1, ⟨nw1, od1, hu2⟩, hz2⟩ := hz2
    have hP : RP cy a (putS e u2 83 9) n T S M E r F1 B1 V G Cn := RP_ext hP (fun k hk => putS_out (by omega)) (fun _ _ => rfl)
    have hM : RM cy (fun k => a (k + 83)) (fun k => putS e u2 83 9 (k + 83)) n T th1 S M E r nw1 od1 cn bf := RM_ext (show RM cy (fun k => a (k + 83)) u2 n T th1 S M E r nw1 od1 cn bf from hu2) (fun k hk => putS_in (off := 83) hk) (fun _ _ => rfl)
    have hO : isD cy (putS e u2 83 9 82) 1 (fun _ => FP.ddiv (FP.dmul (fA n S M E r t0 i0) (fB n M E r T (T - 1 - t0) i0)) (fTot n S M E r T)) := by rw [putS_out (by omega)]; exact hO
    generalize putS e u2 83 9 = e at hP hM hO ⊢
    rcases hz2 with ⟨rfl, hno2⟩ | ⟨rfl, hpl2, hno2⟩ | ⟨rfl, hpl2, hst2, hcz2⟩ | ⟨rfl, hcz2, t2, i2, ht2, hin2, hxt2, hxi2, hvv2⟩
    · exact absurd ⟨t0, ht0, hxt⟩ hno2
    · exact absurd ⟨i0, hin0, hxi⟩ hno2
    · exact absurd hcz2 hcz
    · have hti : t2 = t0 := (nI_eq (by omega) (by omega)).mp (hxt2.symm.trans hxt)
      have hii : i2 = i0 := (nI_eq (by omega) (by omega)).mp (hxi2.symm.trans hxi)
      subst hti
      subst hii
      subst hvv2
      refine g_dstore (lv' := [(0, .ref b), (1, .ref (a 0)), (2, .ref (a 83)), (3, .ref (a 82)), (4, .int (nI i)), (5, .int (nI 0)), (6, .double (FP.ddiv (FP.dmul (fA n S M E r t2 i2) (fB n M E r T (T - 1 - t2) i2)) (fTot n S M E r T)))]) C dL_law_678 (by decide) [1, 2, 3, 4, 5, 6, 0] rfl ?_
      refine g_aload_n C dL_law_680 rfl 2 rfl ?_
      refine g_subi (off := 83) (n := 9) (As := []) (rest := []) C (cwV 0 C.2.2.2.2.1 gL_law_X1_thrown rfl rfl rfl (by decide +kernel) ⟨(Nat.le_of_ble_eq_true rfl), (Nat.le_of_ble_eq_true rfl)⟩) (c_X1_thrown l D cy (fun k => a (k + 83)) hi9 hM ) (by decide) (by decide) (show e 83 = _ from hM.1) inl_pos1 rfl rfl (Nat.le_of_ble_eq_true rfl) dL_law_681 ⟨by show cells + 2 ≤ 623084; omega, by show slots + 12 ≤ 7175652; omega⟩ (fun z3 u3 hz3 => ?_)
      obtain ⟨hu3, rfl⟩ := hz3
      have hP : RP cy a (putS e u3 83 9) n T S M E r F1 B1 V G Cn := RP_ext hP (fun k hk => putS_out (by omega)) (fun _ _ => rfl)
      have hM : RM cy (fun k => a (k + 83)) (fun k => putS e u3 83 9 (k + 83)) n T 0 S M E r nw1 od1 cn bf := RM_ext (show RM cy (fun k => a (k + 83)) u3 n T 0 S M E r nw1 od1 cn bf from by rw [hu3]; exact hM) (fun k hk => putS_in (off := 83) hk) (fun _ _ => rfl)
      have hO : isD cy (putS e u3 83 9 82) 1 (fun _ => FP.ddiv (FP.dmul (fA n S M E r t2 i2) (fB n M E r T (T - 1 - t2) i2)) (fTot n S M E r T)) := by rw [putS_out (by omega)]; exact hO
      generalize putS e u3 83 9 = e at hP hM hO ⊢
      refine g_iload C dL_law_684 5 rfl ?_
      refine g_icmp_eq (tgt := 691) C dL_law_686 (by decide) (fun _ => ?_) (fun c1 => absurd rfl c1)
      refine g_iload C dL_law_691 5 rfl ?_
      refine g_if_ne (tgt := 725) C dL_law_693 (by decide) (fun c1 => absurd c1 (fun q => q rfl)) (fun c1 => ?_)
      refine g_aload_n C dL_law_696 rfl 3 rfl ?_
      refine g_iconst (v := nI 0) C dL_law_697 (by decide) ?_
      refine g_dald (n := 1) (i := 0) C (by decide) hO (by decide) (by decide) dL_law_698 ?_
      refine g_dload C dL_law_699 6 rfl ?_
      refine g_dcmp C dL_law_701 ?_
      refine g_if_eq (tgt := 725) C dL_law_702 (by decide) (fun c1 => ?_) (fun c1 => absurd c1 (fun q => q (cmp_self (div_n64 (mg_mul (fA_mg hn.2 hW hr4 t2 i2 (by omega) (by omega)) (fB_mg (S := S) hn.2 hT hW hr4 (T - 1 - t2) i2 (by omega) (by omega)) (by omega) (by omega)) (fTot_mg hn.2 hT hW hr4) (by omega) (by decide) (ne0_of (fTot_mg hn.2 hT hW hr4) (by decide) hcz)))))
      refine g_goto (tgt := 742) C dL_law_725 (by decide) ?_
      refine g_pick (lv' := [(0, .ref b), (1, .ref (a 0)), (2, .ref (a 83)), (3, .ref (a 82)), (4, .int (nI i))]) [0, 1, 2, 3, 4] rfl ?_
      exact K e _ _ (by omega) (by omega) ⟨_, _, _, _, _, _, _, _, _, _, _, _, _, _, _, _, _, hP, hM, hO, hn, hT, hW, hr4⟩
