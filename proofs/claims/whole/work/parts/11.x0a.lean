set_option maxHeartbeats 4000000 in
set_option maxRecDepth 100000 in
theorem c_X0_isState (l : Launch) (D : va_G) (cy : Nat → ClassId) (a : Nat → Nat) (hi : wInj 82 a) {e : Nat → va_E} {n T : Nat} {S : Nat → UInt64} {M E : T2} {r : Nat → Nat} {F B V : T2} {G : Nat → Nat → Int32} {Cn : Nat → Nat → Int64} (h : RP cy a e n T S M E r F B V G Cn) (hb : n ≤ 100) (x : Int32) : Met l yX0_isState wsX0_isState ({ frames := 0, cells := 0, slots := 0, locals := 0 }) (gPc D clP cy 82 a e [.ref (a 0), .int x]) (va_Qi (fun z e1 => e1 = e ∧ inB n x z) (gB D clP 82 a) (wA 82 a)) 0 0 (wA 82 a) := by
  refine g_met (cc := cX0_isState) (maxL := 2) (ret := (some .boolean)) (lv := [(0, .ref (a 0)), (1, .int x)]) (by decide) rfl (Nat.le_of_ble_eq_true rfl) rfl hi (fun k hk => ⟨k, hk, rfl⟩) ?_
  intro p en s m below meth c C hr hlocks
  have hin : ∀ w ∈ u_ws RX0 TX0 11, w ∈ wsX0_isState := by decide +kernel
  have f_stateCount := C.2.2.2.2.1 (.fieldLink RX0 25 "PathOdds" "stateCount" "I") (by decide +kernel)
  obtain ⟨h0, hS, h2, h9, hr0, h17, h30, h43, h56, h69, hM, hE, hF, hB, hV, hG, hC⟩ := id h
  refine g_iload_n C dX0_isState_0 rfl 1 rfl ?_
  refine g_if_lt (tgt := 16) C dX0_isState_1 (by decide) (fun c1 => ?_) (fun c1 => ?_)
  · refine g_iconst (v := nI 0) C dX0_isState_16 (by decide) ?_
    exact g_zret C hr hlocks (by decide) (⟨rfl, Or.inr ⟨rfl, inB_neg (by omega) c1⟩⟩) dX0_isState_17
  · refine g_iload_n C dX0_isState_4 rfl 1 rfl ?_
    refine g_aload_n C dX0_isState_5 rfl 0 rfl ?_
    refine g_get C 4 hin inl_pos0 (by decide) h0 (by decide) f_stateCount rfl dX0_isState_6 ?_
    refine g_icmp_ge (tgt := 16) C dX0_isState_9 (by decide) (fun c2 => ?_) (fun c2 => ?_)
    · refine g_iconst (v := nI 0) C dX0_isState_16 (by decide) ?_
      exact g_zret C hr hlocks (by decide) (⟨rfl, Or.inr ⟨rfl, inB_big (by omega) c2⟩⟩) dX0_isState_17
    · refine g_iconst (v := nI 1) C dX0_isState_12 (by decide) ?_
      refine g_goto (tgt := 17) C dX0_isState_13 (by decide) ?_
      exact g_zret C hr hlocks (by decide) (⟨rfl, Or.inl ⟨rfl, inB_in (by omega) c1 c2⟩⟩) dX0_isState_17

set_option maxHeartbeats 4000000 in
set_option maxRecDepth 100000 in
theorem c_X0_isPlace (l : Launch) (D : va_G) (cy : Nat → ClassId) (a : Nat → Nat) (hi : wInj 82 a) {e : Nat → va_E} {n T : Nat} {S : Nat → UInt64} {M E : T2} {r : Nat → Nat} {F B V : T2} {G : Nat → Nat → Int32} {Cn : Nat → Nat → Int64} (h : RP cy a e n T S M E r F B V G Cn) (hb : T ≤ 100) (x : Int32) : Met l yX0_isPlace wsX0_isPlace ({ frames := 0, cells := 0, slots := 0, locals := 0 }) (gPc D clP cy 82 a e [.ref (a 0), .int x]) (va_Qi (fun z e1 => e1 = e ∧ inB T x z) (gB D clP 82 a) (wA 82 a)) 0 0 (wA 82 a) := by
  refine g_met (cc := cX0_isPlace) (maxL := 2) (ret := (some .boolean)) (lv := [(0, .ref (a 0)), (1, .int x)]) (by decide) rfl (Nat.le_of_ble_eq_true rfl) rfl hi (fun k hk => ⟨k, hk, rfl⟩) ?_
  intro p en s m below meth c C hr hlocks
  have hin : ∀ w ∈ u_ws RX0 TX0 11, w ∈ wsX0_isPlace := by decide +kernel
  have f_rowLength := C.2.2.2.2.1 (.fieldLink RX0 29 "PathOdds" "rowLength" "I") (by decide +kernel)
  obtain ⟨h0, hS, h2, h9, hr0, h17, h30, h43, h56, h69, hM, hE, hF, hB, hV, hG, hC⟩ := id h
  refine g_iload_n C dX0_isPlace_0 rfl 1 rfl ?_
  refine g_if_lt (tgt := 16) C dX0_isPlace_1 (by decide) (fun c1 => ?_) (fun c1 => ?_)
  · refine g_iconst (v := nI 0) C dX0_isPlace_16 (by decide) ?_
    exact g_zret C hr hlocks (by decide) (⟨rfl, Or.inr ⟨rfl, inB_neg (by omega) c1⟩⟩) dX0_isPlace_17
  · refine g_iload_n C dX0_isPlace_4 rfl 1 rfl ?_
    refine g_aload_n C dX0_isPlace_5 rfl 0 rfl ?_
    refine g_get C 5 hin inl_pos0 (by decide) h0 (by decide) f_rowLength rfl dX0_isPlace_6 ?_
    refine g_icmp_ge (tgt := 16) C dX0_isPlace_9 (by decide) (fun c2 => ?_) (fun c2 => ?_)
    · refine g_iconst (v := nI 0) C dX0_isPlace_16 (by decide) ?_
      exact g_zret C hr hlocks (by decide) (⟨rfl, Or.inr ⟨rfl, inB_big (by omega) c2⟩⟩) dX0_isPlace_17
    · refine g_iconst (v := nI 1) C dX0_isPlace_12 (by decide) ?_
      refine g_goto (tgt := 17) C dX0_isPlace_13 (by decide) ?_
      exact g_zret C hr hlocks (by decide) (⟨rfl, Or.inl ⟨rfl, inB_in (by omega) c1 c2⟩⟩) dX0_isPlace_17

set_option maxHeartbeats 4000000 in
set_option maxRecDepth 100000 in
theorem c_X0_isSymbol (l : Launch) (D : va_G) (cy : Nat → ClassId) (a : Nat → Nat) (hi : wInj 82 a) {e : Nat → va_E} {n T : Nat} {S : Nat → UInt64} {M E : T2} {r : Nat → Nat} {F B V : T2} {G : Nat → Nat → Int32} {Cn : Nat → Nat → Int64} (h : RP cy a e n T S M E r F B V G Cn) (x : Int32) : Met l yX0_isSymbol wsX0_isSymbol ({ frames := 0, cells := 0, slots := 0, locals := 0 }) (gPc D clP cy 82 a e [.int x]) (va_Qi (fun z e1 => e1 = e ∧ inB 4 x z) (gB D clP 82 a) (wA 82 a)) 0 0 (wA 82 a) := by
  refine g_met (cc := cX0_isSymbol) (maxL := 1) (ret := (some .boolean)) (lv := [(0, .int x)]) (by decide) rfl (Nat.le_of_ble_eq_true rfl) rfl hi (fun k hk => ⟨k, hk, rfl⟩) ?_
  intro p en s m below meth c C hr hlocks
  refine g_iload_n C dX0_isSymbol_0 rfl 0 rfl ?_
  refine g_if_lt (tgt := 13) C dX0_isSymbol_1 (by decide) (fun c1 => ?_) (fun c1 => ?_)
  · refine g_iconst (v := nI 0) C dX0_isSymbol_13 (by decide) ?_
    exact g_zret C hr hlocks (by decide) (⟨rfl, Or.inr ⟨rfl, inB_neg (by omega) c1⟩⟩) dX0_isSymbol_14
  · refine g_iload_n C dX0_isSymbol_4 rfl 0 rfl ?_
    refine g_iconst (v := nI 4) C dX0_isSymbol_5 (by decide) ?_
    refine g_icmp_ge (tgt := 13) C dX0_isSymbol_6 (by decide) (fun c2 => ?_) (fun c2 => ?_)
    · refine g_iconst (v := nI 0) C dX0_isSymbol_13 (by decide) ?_
      exact g_zret C hr hlocks (by decide) (⟨rfl, Or.inr ⟨rfl, inB_big (by omega) c2⟩⟩) dX0_isSymbol_14
    · refine g_iconst (v := nI 1) C dX0_isSymbol_9 (by decide) ?_
      refine g_goto (tgt := 14) C dX0_isSymbol_10 (by decide) ?_
      exact g_zret C hr hlocks (by decide) (⟨rfl, Or.inl ⟨rfl, inB_in (by omega) c1 c2⟩⟩) dX0_isSymbol_14

set_option maxHeartbeats 4000000 in
set_option maxRecDepth 100000 in
theorem c_X0_isWeight (l : Launch) (D : va_G) (cy : Nat → ClassId) (a : Nat → Nat) (hi : wInj 82 a) {e : Nat → va_E} {n T : Nat} {S : Nat → UInt64} {M E : T2} {r : Nat → Nat} {F B V : T2} {G : Nat → Nat → Int32} {Cn : Nat → Nat → Int64} (h : RP cy a e n T S M E r F B V G Cn) (x : UInt64) : Met l yX0_isWeight wsX0_isWeight ({ frames := 0, cells := 0, slots := 0, locals := 0 }) (gPc D clP cy 82 a e [.double x]) (va_Qi (fun z e1 => e1 = e ∧ okB x z) (gB D clP 82 a) (wA 82 a)) 0 0 (wA 82 a) := by
  refine g_met (cc := cX0_isWeight) (maxL := 2) (ret := (some .boolean)) (lv := [(0, .double x)]) (by decide) rfl (Nat.le_of_ble_eq_true rfl) rfl hi (fun k hk => ⟨k, hk, rfl⟩) ?_
  intro p en s m below meth c C hr hlocks
  refine g_dload_n C dX0_isWeight_0 rfl 0 rfl ?_
  refine g_dconst0 C dX0_isWeight_1 ?_
  refine g_dcmp C dX0_isWeight_2 ?_
  refine g_if_lt (tgt := 16) C dX0_isWeight_3 (by decide) (fun c1 => ?_) (fun c1 => ?_)
  · refine g_iconst (v := nI 0) C dX0_isWeight_16 (by decide) ?_
    exact g_zret C hr hlocks (by decide) (⟨rfl, Or.inr ⟨rfl, fun q => q.1 c1⟩⟩) dX0_isWeight_17
  · refine g_dload_n C dX0_isWeight_6 rfl 0 rfl ?_
    refine g_dconst1 C dX0_isWeight_7 ?_
    refine g_dcmp C dX0_isWeight_8 ?_
    refine g_if_gt (tgt := 16) C dX0_isWeight_9 (by decide) (fun c2 => ?_) (fun c2 => ?_)
    · refine g_iconst (v := nI 0) C dX0_isWeight_16 (by decide) ?_
      exact g_zret C hr hlocks (by decide) (⟨rfl, Or.inr ⟨rfl, fun q => q.2 c2⟩⟩) dX0_isWeight_17
    · refine g_iconst (v := nI 1) C dX0_isWeight_12 (by decide) ?_
      refine g_goto (tgt := 17) C dX0_isWeight_13 (by decide) ?_
      exact g_zret C hr hlocks (by decide) (⟨rfl, Or.inl ⟨rfl, c1, c2⟩⟩) dX0_isWeight_17

set_option maxHeartbeats 4000000 in
set_option maxRecDepth 100000 in
theorem c_X0_size (l : Launch) (D : va_G) (cy : Nat → ClassId) (a : Nat → Nat) (hi : wInj 82 a) {e : Nat → va_E} {n T : Nat} {S : Nat → UInt64} {M E : T2} {r : Nat → Nat} {F B V : T2} {G : Nat → Nat → Int32} {Cn : Nat → Nat → Int64} (h : RP cy a e n T S M E r F B V G Cn)  : Met l yX0_size wsX0_size ({ frames := 0, cells := 0, slots := 0, locals := 0 }) (gPc D clP cy 82 a e [.ref (a 0)]) (va_Qi (fun z e1 => e1 = e ∧ z = nI n) (gB D clP 82 a) (wA 82 a)) 0 0 (wA 82 a) := by
  refine g_met (cc := cX0_size) (maxL := 1) (ret := (some .int)) (lv := [(0, .ref (a 0))]) (by decide) rfl (Nat.le_of_ble_eq_true rfl) rfl hi (fun k hk => ⟨k, hk, rfl⟩) ?_
  intro p en s m below meth c C hr hlocks
  have hin : ∀ w ∈ u_ws RX0 TX0 11, w ∈ wsX0_size := by decide +kernel
  have f_stateCount := C.2.2.2.2.1 (.fieldLink RX0 25 "PathOdds" "stateCount" "I") (by decide +kernel)
  obtain ⟨h0, hS, h2, h9, hr0, h17, h30, h43, h56, h69, hM, hE, hF, hB, hV, hG, hC⟩ := id h
  refine g_aload_n C dX0_size_0 rfl 0 rfl ?_
  refine g_get C 4 hin inl_pos0 (by decide) h0 (by decide) f_stateCount rfl dX0_size_1 ?_
  exact g_iret C hr hlocks (⟨rfl, rfl⟩) dX0_size_4

set_option maxHeartbeats 4000000 in
set_option maxRecDepth 100000 in
theorem c_X0_length (l : Launch) (D : va_G) (cy : Nat → ClassId) (a : Nat → Nat) (hi : wInj 82 a) {e : Nat → va_E} {n T : Nat} {S : Nat → UInt64} {M E : T2} {r : Nat → Nat} {F B V : T2} {G : Nat → Nat → Int32} {Cn : Nat → Nat → Int64} (h : RP cy a e n T S M E r F B V G Cn)  : Met l yX0_length wsX0_length ({ frames := 0, cells := 0, slots := 0, locals := 0 }) (gPc D clP cy 82 a e [.ref (a 0)]) (va_Qi (fun z e1 => e1 = e ∧ z = nI T) (gB D clP 82 a) (wA 82 a)) 0 0 (wA 82 a) := by
  refine g_met (cc := cX0_length) (maxL := 1) (ret := (some .int)) (lv := [(0, .ref (a 0))]) (by decide) rfl (Nat.le_of_ble_eq_true rfl) rfl hi (fun k hk => ⟨k, hk, rfl⟩) ?_
  intro p en s m below meth c C hr hlocks
  have hin : ∀ w ∈ u_ws RX0 TX0 11, w ∈ wsX0_length := by decide +kernel
  have f_rowLength := C.2.2.2.2.1 (.fieldLink RX0 29 "PathOdds" "rowLength" "I") (by decide +kernel)
  obtain ⟨h0, hS, h2, h9, hr0, h17, h30, h43, h56, h69, hM, hE, hF, hB, hV, hG, hC⟩ := id h
  refine g_aload_n C dX0_length_0 rfl 0 rfl ?_
  refine g_get C 5 hin inl_pos0 (by decide) h0 (by decide) f_rowLength rfl dX0_length_1 ?_
  exact g_iret C hr hlocks (⟨rfl, rfl⟩) dX0_length_4

set_option maxHeartbeats 4000000 in
set_option maxRecDepth 100000 in
theorem c_X0_clearWeights (l : Launch) (D : va_G) (cy : Nat → ClassId) (a : Nat → Nat) (hi : wInj 82 a) {e : Nat → va_E} {n T : Nat} {S : Nat → UInt64} {M E : T2} {r : Nat → Nat} {F B V : T2} {G : Nat → Nat → Int32} {Cn : Nat → Nat → Int64} (h : RP cy a e n T S M E r F B V G Cn)  : Met l yX0_clearWeights wsX0_clearWeights ({ frames := 0, cells := 0, slots := 0, locals := 0 }) (gPc D clP cy 82 a e [.ref (a 0)]) (va_Qv (fun e1 => RP cy a e1 n T z1 z2 z2 r F B V G Cn) (gB D clP 82 a) (wA 82 a)) 0 0 (wA 82 a) := by
  refine g_met (cc := cX0_clearWeights) (maxL := 3) (ret := none) (lv := [(0, .ref (a 0))]) (by decide) rfl (Nat.le_of_ble_eq_true rfl) rfl hi (fun k hk => ⟨k, hk, rfl⟩) ?_
  intro p en s m below meth c C hr hlocks
  have hin : ∀ w ∈ u_ws RX0 TX0 11, w ∈ wsX0_clearWeights := by decide +kernel
  have f_startWeights := C.2.2.2.2.1 (.fieldLink RX0 9 "PathOdds" "startWeights" "[D") (by decide +kernel)
  have f_moveWeights := C.2.2.2.2.1 (.fieldLink RX0 15 "PathOdds" "moveWeights" "[[D") (by decide +kernel)
  have f_showWeights := C.2.2.2.2.1 (.fieldLink RX0 18 "PathOdds" "showWeights" "[[D") (by decide +kernel)
  obtain ⟨h0, hS, h2, h9, hr0, h17, h30, h43, h56, h69, hM, hE, hF, hB, hV, hG, hC⟩ := id h
  have L1 : ∀ (k i : Nat) (e : Nat → va_E) (S : Nat → UInt64) (M E : T2), i + k = 6 → RP cy a e n T S M E r F B V G Cn → (∀ q, q < i → S q = FP.dconst0) → (∀ q u, q < i → u < 6 → M q u = FP.dconst0) → (∀ q u, q < i → u < 4 → E q u = FP.dconst0) → GW p l en ({ frames := 0, cells := 0, slots := 0, locals := 0 }) s m ([.ref (a 0)] : List Value).toArray below meth c 0 0 (MQ below (va_Qv (fun e1 => RP cy a e1 n T z1 z2 z2 r F B V G Cn) (gB D clP 82 a) (wA 82 a)) ([.ref (a 0)] : List Value).toArray s 0 0 (wA 82 a)) D clP 82 3 a (wA 82 a) e 2 [(0, .ref (a 0)), (1, .int (nI i))] [] := by
    intro k
    induction k with
    | zero =>
      intro i e S M E hk h z_S z_M z_E
      obtain ⟨h0, hS, h2, h9, hr0, h17, h30, h43, h56, h69, hM, hE, hF, hB, hV, hG, hC⟩ := id h
      refine g_iload_n C dX0_clearWeights_2 rfl 1 rfl ?_
      refine g_bipush (v := nI 6) C dX0_clearWeights_3 (by decide) ?_
      refine g_icmp_ge (tgt := 66) C dX0_clearWeights_5 (by decide) (fun c1 => ?_) (fun c1 => absurd c1 (fun q => q (nI_le (by omega) (by omega))))
      exact g_vret C hr hlocks (RP_to h (fun q hq => z_S q (by omega)) (fun q u hq hu => z_M q u (by omega) hu) (fun q u hq hu => z_E q u (by omega) hu)) dX0_clearWeights_66
    | succ k ih =>
      intro i e S M E hk h z_S z_M z_E
      obtain ⟨h0, hS, h2, h9, hr0, h17, h30, h43, h56, h69, hM, hE, hF, hB, hV, hG, hC⟩ := id h
      refine g_iload_n C dX0_clearWeights_2 rfl 1 rfl ?_
      refine g_bipush (v := nI 6) C dX0_clearWeights_3 (by decide) ?_
      refine g_icmp_ge (tgt := 66) C dX0_clearWeights_5 (by decide) (fun c1 => absurd c1 (nI_ge (by omega) (by decide))) (fun c1 => ?_)
      refine g_aload_n C dX0_clearWeights_8 rfl 0 rfl ?_
      refine g_get C 0 hin inl_pos0 (by decide) h0 (by decide) f_startWeights rfl dX0_clearWeights_9 ?_
      refine g_iload_n C dX0_clearWeights_12 rfl 1 rfl ?_
      refine g_dconst0 C dX0_clearWeights_13 ?_
      refine g_dast C (by omega) hS (by omega) (by decide) dX0_clearWeights_14 (fun y hy => ?_)
      have h := RP_S h hy
      generalize va_up e 1 _ = e at h ⊢
      obtain ⟨h0, hS, h2, h9, hr0, h17, h30, h43, h56, h69, hM, hE, hF, hB, hV, hG, hC⟩ := id h
      have z_S : ∀ q, q < i + 1 → va_up S i FP.dconst0 q = FP.dconst0 := fun q hq => by
        by_cases hqi : q = i
        · subst hqi; exact va_up_self _ _ _
        · rw [va_up_ne _ _ hqi]; exact z_S q (by omega)
      generalize va_up S i FP.dconst0 = S at h hS z_S
      have LB : ∀ (k2 j : Nat) (e : Nat → va_E) (M E : T2), j + k2 = 4 → RP cy a e n T S M E r F B V G Cn → (∀ q u, q < i + 1 → u < 6 → M q u = FP.dconst0) → (∀ q u, q < i → u < 4 → E q u = FP.dconst0) → (∀ u, u < j → E i u = FP.dconst0) → GW p l en ({ frames := 0, cells := 0, slots := 0, locals := 0 }) s m ([.ref (a 0)] : List Value).toArray below meth c 0 0 (MQ below (va_Qv (fun e1 => RP cy a e1 n T z1 z2 z2 r F B V G Cn) (gB D clP 82 a) (wA 82 a)) ([.ref (a 0)] : List Value).toArray s 0 0 (wA 82 a)) D clP 82 3 a (wA 82 a) e 40 [(0, .ref (a 0)), (1, .int (nI i)), (2, .int (nI j))] [] := by
        intro k2
        induction k2 with
        | zero =>
          intro j e M E hk2 h z_M z_E z_j
          obtain ⟨h0, hS, h2, h9, hr0, h17, h30, h43, h56, h69, hM, hE, hF, hB, hV, hG, hC⟩ := id h
          refine g_iload_n C dX0_clearWeights_40 rfl 2 rfl ?_
          refine g_iconst (v := nI 4) C dX0_clearWeights_41 (by decide) ?_
          refine g_icmp_ge (tgt := 60) C dX0_clearWeights_42 (by decide) (fun c1 => ?_) (fun c1 => absurd c1 (fun q => q (nI_le (by omega) (by omega))))
          refine g_iinc (v := nI (i + 1)) (k := 1) (lv' := [(0, .ref (a 0)), (1, .int (nI (i + 1))), (2, .int (nI j))]) C dX0_clearWeights_60 rfl (nI_inc i) (by decide) [1, 0, 2] rfl ?_
          refine g_goto (tgt := 2) C dX0_clearWeights_63 (by decide) ?_
          refine g_pick [0, 1] rfl ?_
          exact ih (i + 1) e S M E (by omega) h z_S z_M (fun q u hq hu => by
            by_cases hqi : q = i
            · subst hqi; exact z_j u (by omega)
            · exact z_E q u (by omega) hu)
        | succ k2 ih2 =>
          intro j e M E hk2 h z_M z_E z_j
          obtain ⟨h0, hS, h2, h9, hr0, h17, h30, h43, h56, h69, hM, hE, hF, hB, hV, hG, hC⟩ := id h
          refine g_iload_n C dX0_clearWeights_40 rfl 2 rfl ?_
          refine g_iconst (v := nI 4) C dX0_clearWeights_41 (by decide) ?_
          refine g_icmp_ge (tgt := 60) C dX0_clearWeights_42 (by decide) (fun c1 => absurd c1 (nI_ge (by omega) (by decide))) (fun c1 => ?_)
          refine g_aload_n C dX0_clearWeights_45 rfl 0 rfl ?_
          refine g_get C 2 hin inl_pos0 (by decide) h0 (by decide) f_showWeights rfl dX0_clearWeights_46 ?_
          refine g_iload_n C dX0_clearWeights_49 rfl 1 rfl ?_
          refine g_aald C (by omega) (tyD2 cy) h9 (by omega) (by decide) dX0_clearWeights_50 ?_
          refine g_iload_n C dX0_clearWeights_51 rfl 2 rfl ?_
          refine g_dconst0 C dX0_clearWeights_52 ?_
          refine g_dast C (by omega) (hE i (by omega)) (by omega) (by decide) dX0_clearWeights_53 (fun y hy => ?_)
          have h := RP_E (t := i) h (by omega) hy
          generalize va_up e (10 + i) _ = e at h ⊢
          obtain ⟨h0, hS, h2, h9, hr0, h17, h30, h43, h56, h69, hM, hE, hF, hB, hV, hG, hC⟩ := id h
          refine g_iinc (v := nI (j + 1)) (k := 2) (lv' := [(0, .ref (a 0)), (1, .int (nI i)), (2, .int (nI (j + 1)))]) C dX0_clearWeights_54 rfl (nI_inc j) (by decide) [1, 2, 0] rfl ?_
          refine g_goto (tgt := 40) C dX0_clearWeights_57 (by decide) ?_
          exact ih2 (j + 1) e M _ (by omega) h z_M (fun q u hq hu => by rw [va_up_ne _ _ (by omega)]; exact z_E q u hq hu) (fun u hu => by
            rw [va_up_self]
            by_cases huj : u = j
            · subst huj; exact va_up_self _ _ _
            · rw [va_up_ne _ _ huj]; exact z_j u (by omega))
      have LA : ∀ (k2 j : Nat) (e : Nat → va_E) (M : T2), j + k2 = 6 → RP cy a e n T S M E r F B V G Cn → (∀ q u, q < i → u < 6 → M q u = FP.dconst0) → (∀ u, u < j → M i u = FP.dconst0) → GW p l en ({ frames := 0, cells := 0, slots := 0, locals := 0 }) s m ([.ref (a 0)] : List Value).toArray below meth c 0 0 (MQ below (va_Qv (fun e1 => RP cy a e1 n T z1 z2 z2 r F B V G Cn) (gB D clP 82 a) (wA 82 a)) ([.ref (a 0)] : List Value).toArray s 0 0 (wA 82 a)) D clP 82 3 a (wA 82 a) e 17 [(0, .ref (a 0)), (1, .int (nI i)), (2, .int (nI j))] [] := by
        intro k2
        induction k2 with
        | zero =>
          intro j e M hk2 h z_M z_j
          obtain ⟨h0, hS, h2, h9, hr0, h17, h30, h43, h56, h69, hM, hE, hF, hB, hV, hG, hC⟩ := id h
          refine g_iload_n C dX0_clearWeights_17 rfl 2 rfl ?_
          refine g_bipush (v := nI 6) C dX0_clearWeights_18 (by decide) ?_
          refine g_icmp_ge (tgt := 38) C dX0_clearWeights_20 (by decide) (fun c1 => ?_) (fun c1 => absurd c1 (fun q => q (nI_le (by omega) (by omega))))
          refine g_iconst (v := nI 0) C dX0_clearWeights_38 (by decide) ?_
          refine g_istore_n (lv' := [(0, .ref (a 0)), (1, .int (nI i)), (2, .int (nI 0))]) C dX0_clearWeights_39 rfl (by decide) [1, 2, 0] rfl ?_
          exact LB 4 0 e M E (by omega) h (fun q u hq hu => by
            by_cases hqi : q = i
            · subst hqi; exact z_j u (by omega)
            · exact z_M q u (by omega) hu) z_E (fun u hu => absurd hu (by omega))
        | succ k2 ih2 =>
          intro j e M hk2 h z_M z_j
          obtain ⟨h0, hS, h2, h9, hr0, h17, h30, h43, h56, h69, hM, hE, hF, hB, hV, hG, hC⟩ := id h
          refine g_iload_n C dX0_clearWeights_17 rfl 2 rfl ?_
          refine g_bipush (v := nI 6) C dX0_clearWeights_18 (by decide) ?_
          refine g_icmp_ge (tgt := 38) C dX0_clearWeights_20 (by decide) (fun c1 => absurd c1 (nI_ge (by omega) (by decide))) (fun c1 => ?_)
          refine g_aload_n C dX0_clearWeights_23 rfl 0 rfl ?_
          refine g_get C 1 hin inl_pos0 (by decide) h0 (by decide) f_moveWeights rfl dX0_clearWeights_24 ?_
          refine g_iload_n C dX0_clearWeights_27 rfl 1 rfl ?_
          refine g_aald C (by omega) (tyD2 cy) h2 (by omega) (by decide) dX0_clearWeights_28 ?_
          refine g_iload_n C dX0_clearWeights_29 rfl 2 rfl ?_
          refine g_dconst0 C dX0_clearWeights_30 ?_
          refine g_dast C (by omega) (hM i (by omega)) (by omega) (by decide) dX0_clearWeights_31 (fun y hy => ?_)
          have h := RP_M (t := i) h (by omega) hy
          generalize va_up e (3 + i) _ = e at h ⊢
          obtain ⟨h0, hS, h2, h9, hr0, h17, h30, h43, h56, h69, hM, hE, hF, hB, hV, hG, hC⟩ := id h
          refine g_iinc (v := nI (j + 1)) (k := 2) (lv' := [(0, .ref (a 0)), (1, .int (nI i)), (2, .int (nI (j + 1)))]) C dX0_clearWeights_32 rfl (nI_inc j) (by decide) [1, 2, 0] rfl ?_
          refine g_goto (tgt := 17) C dX0_clearWeights_35 (by decide) ?_
          exact ih2 (j + 1) e _ (by omega) h (fun q u hq hu => by rw [va_up_ne _ _ (by omega)]; exact z_M q u hq hu) (fun u hu => by
            rw [va_up_self]
            by_cases huj : u = j
            · subst huj; exact va_up_self _ _ _
            · rw [va_up_ne _ _ huj]; exact z_j u (by omega))
      refine g_iconst (v := nI 0) C dX0_clearWeights_15 (by decide) ?_
      refine g_istore_n (lv' := [(0, .ref (a 0)), (1, .int (nI i)), (2, .int (nI 0))]) C dX0_clearWeights_16 rfl (by decide) [1, 2, 0] rfl ?_
      exact LA 6 0 e M (by omega) h z_M (fun u hu => absurd hu (by omega))
  refine g_iconst (v := nI 0) C dX0_clearWeights_0 (by decide) ?_
  refine g_istore_n (lv' := [(0, .ref (a 0)), (1, .int (nI 0))]) C dX0_clearWeights_1 rfl (by decide) [1, 0] rfl ?_
  exact L1 6 0 e S M E (by omega) h (fun q hq => absurd hq (by omega)) (fun q u hq => absurd hq (by omega)) (fun q u hq => absurd hq (by omega))
