set_option maxHeartbeats 1000000 in
set_option maxRecDepth 100000 in
theorem c_X0_refuseWrongPlaceOrState (l : Launch) (hfl : l.stackTraces = false) (D : va_G) (cy : Nat → ClassId) (a sg : Nat → Nat) (hi : wInj 82 a) {e : Nat → va_E} {n T : Nat} {S : Nat → UInt64} {M E : T2} {r : Nat → Nat} {F B V : T2} {G : Nat → Nat → Int32} {Cn : Nat → Nat → Int64} (h : RP cy a e n T S M E r F B V G Cn) (hn : n ≤ 6) (hT : T ≤ 12) (x x2 : Int32) : vx_Met l yX0_refuseWrongPlaceOrState wsX0_refuseWrongPlaceOrState ({ frames := 6, cells := 1, slots := 6, locals := 82 }) (gPcX D clP cy 82 a sg e [.ref (a 0), .int x, .int x2]) (va_Qv (fun e1 => e1 = e ∧ (∃ t, t < T ∧ x = nI t) ∧ (∃ i, i < n ∧ x2 = nI i)) (gB D clP 82 a) (wA 82 a)) (gXC D clP 82 a (fun X u => u = e ∧ ((X = xI ∧ ¬ (∃ t, t < T ∧ x = nI t)) ∨ (X = xA ∧ (∃ t, t < T ∧ x = nI t) ∧ ¬ (∃ i, i < n ∧ x2 = nI i))))) 1 6 (wA 82 a) := by
  refine g_metX (cc := cX0_refuseWrongPlaceOrState) (maxL := 3) (ret := none) (lv := [(0, .ref (a 0)), (1, .int x), (2, .int x2)]) (by decide) rfl (Nat.le_of_ble_eq_true rfl) rfl hi ?_
  intro p en s m below meth c C hnt hX hr hlocks
  obtain ⟨h0, hS, h2, h9, hr0, h17, h30, h43, h56, h69, hM, hE, hF, hB, hV, hG, hC⟩ := id h
  refine g_aload_n C dX0_refuseWrongPlaceOrState_0 rfl 0 rfl ?_
  refine g_iload_n C dX0_refuseWrongPlaceOrState_1 rfl 1 rfl ?_
  refine g_calli (As := [.int x]) (rest := []) C (cwV 1 C.2.2.2.2.1 gX0_refuseWrongPlaceOrState_X0_isPlace rfl rfl rfl (by decide +kernel) ⟨Nat.le_of_ble_eq_true rfl, Nat.le_of_ble_eq_true rfl⟩) (c_X0_isPlace l D cy a hi h (by omega) x) (by decide) h0 inl_pos0 rfl rfl (Nat.le_of_ble_eq_true rfl) dX0_refuseWrongPlaceOrState_2 ⟨Nat.zero_le _, Nat.zero_le _⟩ (fun z e1 hz => ?_)
  rw [hz.1]
  rcases hz.2 with ⟨rfl, hpl⟩ | ⟨rfl, hno⟩
  · refine g_if_ne (tgt := 18) C dX0_refuseWrongPlaceOrState_5 (by decide) (fun c1 => ?_) (fun c1 => absurd c1 (by decide))
    refine g_aload_n C dX0_refuseWrongPlaceOrState_18 rfl 0 rfl ?_
    refine g_iload_n C dX0_refuseWrongPlaceOrState_19 rfl 2 rfl ?_
    refine g_calli (As := [.int x2]) (rest := []) C (cwV 1 C.2.2.2.2.1 gX0_refuseWrongPlaceOrState_X0_isState rfl rfl rfl (by decide +kernel) ⟨Nat.le_of_ble_eq_true rfl, Nat.le_of_ble_eq_true rfl⟩) (c_X0_isState l D cy a hi h (by omega) x2) (by decide) h0 inl_pos0 rfl rfl (Nat.le_of_ble_eq_true rfl) dX0_refuseWrongPlaceOrState_20 ⟨Nat.zero_le _, Nat.zero_le _⟩ (fun z e1 hz => ?_)
    rw [hz.1]
    rcases hz.2 with ⟨rfl, hst⟩ | ⟨rfl, hno⟩
    · refine g_if_ne (tgt := 36) C dX0_refuseWrongPlaceOrState_23 (by decide) (fun c1 => ?_) (fun c1 => absurd c1 (by decide))
      exact g_vretX C hr hlocks (Nat.zero_le _) (Nat.zero_le _) ⟨rfl, hpl, hst⟩ dX0_refuseWrongPlaceOrState_36
    · refine g_if_ne (tgt := 36) C dX0_refuseWrongPlaceOrState_23 (by decide) (fun c1 => absurd c1 (fun q => q (by decide))) (fun c1 => ?_)
      exact g_throw (cls := xA) (ik := 104) (is := 106) (ic := 108) (sa := sg 1) C hfl hnt hX hlocks (by decide +kernel) (C.2.2.2.2.1 (.classLink RX0 104 xA) (by decide +kernel)) (C.2.2.2.2.1 (.initialized xA) (by decide +kernel)) hX.2.2.2.1 (by decide +kernel) (by decide +kernel) (by decide +kernel) dX0_refuseWrongPlaceOrState_26 dX0_refuseWrongPlaceOrState_29 dX0_refuseWrongPlaceOrState_30 dX0_refuseWrongPlaceOrState_32 dX0_refuseWrongPlaceOrState_35 (Nat.le_of_ble_eq_true rfl) (Nat.le_of_ble_eq_true rfl) (Nat.le_of_ble_eq_true rfl) (Nat.le_of_ble_eq_true rfl) (⟨rfl, Or.inr ⟨rfl, hpl, hno⟩⟩) (Nat.le_of_ble_eq_true rfl) (Nat.le_of_ble_eq_true rfl)
  · refine g_if_ne (tgt := 18) C dX0_refuseWrongPlaceOrState_5 (by decide) (fun c1 => absurd c1 (fun q => q (by decide))) (fun c1 => ?_)
    exact g_throw (cls := xI) (ik := 99) (is := 101) (ic := 103) (sa := sg 0) C hfl hnt hX hlocks (by decide +kernel) (C.2.2.2.2.1 (.classLink RX0 99 xI) (by decide +kernel)) (C.2.2.2.2.1 (.initialized xI) (by decide +kernel)) hX.2.2.1 (by decide +kernel) (by decide +kernel) (by decide +kernel) dX0_refuseWrongPlaceOrState_8 dX0_refuseWrongPlaceOrState_11 dX0_refuseWrongPlaceOrState_12 dX0_refuseWrongPlaceOrState_14 dX0_refuseWrongPlaceOrState_17 (Nat.le_of_ble_eq_true rfl) (Nat.le_of_ble_eq_true rfl) (Nat.le_of_ble_eq_true rfl) (Nat.le_of_ble_eq_true rfl) (⟨rfl, Or.inl ⟨rfl, hno⟩⟩) (Nat.le_of_ble_eq_true rfl) (Nat.le_of_ble_eq_true rfl)

set_option maxHeartbeats 1000000 in
set_option maxRecDepth 100000 in
theorem c_X0_forward (l : Launch) (hfl : l.stackTraces = false) (D : va_G) (cy : Nat → ClassId) (a sg : Nat → Nat) (hi : wInj 82 a) {e : Nat → va_E} {n T : Nat} {S : Nat → UInt64} {M E : T2} {r : Nat → Nat} {F B V : T2} {G : Nat → Nat → Int32} {Cn : Nat → Nat → Int64} (h : RP cy a e n T S M E r F B V G Cn) (hn : 1 ≤ n ∧ n ≤ 6) (hT : T ≤ 12) (hW : WB S M E) (hr4 : RW4 r) (x x2 : Int32) : vx_Met l yX0_forward wsX0_forward ({ frames := 7, cells := 1, slots := 6, locals := 104 }) (gPcX D clP cy 82 a sg e [.ref (a 0), .int x, .int x2]) (va_Qd (fun z e1 => (∃ F1 B1, RP cy a e1 n T S M E r F1 B1 V G Cn) ∧ ∃ t i, t < T ∧ i < n ∧ x = nI t ∧ x2 = nI i ∧ z = fA n S M E r t i) (gB D clP 82 a) (wA 82 a)) (gXC D clP 82 a (fun X u => (∃ F1 B1, RP cy a u n T S M E r F1 B1 V G Cn) ∧ ((X = xI ∧ ¬ (∃ t, t < T ∧ x = nI t)) ∨ (X = xA ∧ (∃ t, t < T ∧ x = nI t) ∧ ¬ (∃ i, i < n ∧ x2 = nI i))))) 1 6 (wA 82 a) := by
  refine g_metX (cc := cX0_forward) (maxL := 3) (ret := (some .double)) (lv := [(0, .ref (a 0)), (1, .int x), (2, .int x2)]) (by decide) rfl (Nat.le_of_ble_eq_true rfl) rfl hi ?_
  intro p en s m below meth c C hnt hX hr hlocks
  have hin : ∀ w ∈ u_ws RX0 TX0 11, w ∈ wsX0_forward := by decide +kernel
  have f_forwardOdds := C.2.2.2.2.1 (.fieldLink RX0 32 "PathOdds" "forwardOdds" "[[D") (by decide +kernel)
  obtain ⟨h0, hS, h2, h9, hr0, h17, h30, h43, h56, h69, hM, hE, hF, hB, hV, hG, hC⟩ := id h
  refine g_aload_n C dX0_forward_0 rfl 0 rfl ?_
  refine g_iload_n C dX0_forward_1 rfl 1 rfl ?_
  refine g_iload_n C dX0_forward_2 rfl 2 rfl ?_
  refine g_callvX (As := [.int x, .int x2]) (rest := []) C hnt hX hlocks (cwV 2 C.2.2.2.2.1 gX0_forward_X0_refuseWrongPlaceOrState rfl rfl rfl (by decide +kernel) ⟨(Nat.le_of_ble_eq_true rfl), (Nat.le_of_ble_eq_true rfl)⟩) (c_X0_refuseWrongPlaceOrState l hfl D cy a sg hi h (by omega) hT x x2) (by decide) h0 inl_pos0 rfl rfl (Nat.le_of_ble_eq_true rfl) dX0_forward_3 ⟨(Nat.le_of_ble_eq_true rfl), (Nat.le_of_ble_eq_true rfl)⟩ ⟨(Nat.le_of_ble_eq_true rfl), (Nat.le_of_ble_eq_true rfl)⟩ (fun X u hu => ⟨⟨F, B, by rw [hu.1]; exact h⟩, hu.2⟩) (fun e1 he1 => ?_)
  rw [he1.1]
  obtain ⟨-, ⟨t0, ht0, rfl⟩, ⟨i0, hi0, rfl⟩⟩ := he1
  refine g_aload_n C dX0_forward_6 rfl 0 rfl ?_
  refine g_callv (As := []) (rest := []) C (cwV 0 C.2.2.2.2.1 gX0_forward_X0_fillForward rfl rfl rfl (by decide +kernel) ⟨Nat.le_of_ble_eq_true rfl, Nat.le_of_ble_eq_true rfl⟩) (c_X0_fillForward l D cy a hi h hn hT hW hr4) (by decide) h0 inl_pos0 rfl rfl (Nat.le_of_ble_eq_true rfl) dX0_forward_7 ⟨(Nat.le_of_ble_eq_true rfl), (Nat.le_of_ble_eq_true rfl)⟩ (fun e2 he => ?_)
  obtain ⟨F1, h, hp⟩ := he
  obtain ⟨h0, hS, h2, h9, hr0, h17, h30, h43, h56, h69, hM, hE, hF, hB, hV, hG, hC⟩ := id h
  refine g_aload_n C dX0_forward_10 rfl 0 rfl ?_
  refine g_get C 6 hin inl_pos0 (by decide) h0 (by decide) f_forwardOdds rfl dX0_forward_11 ?_
  refine g_iload_n C dX0_forward_14 rfl 1 rfl ?_
  refine g_aald C (by omega) (tyD2 cy) h17 (by omega) (by decide) dX0_forward_15 ?_
  refine g_iload_n C dX0_forward_16 rfl 2 rfl ?_
  refine g_dald C (by omega) (hF t0 (by omega)) (by omega) (by decide) dX0_forward_17 ?_
  exact g_dretX C hr hlocks (Nat.le_of_ble_eq_true rfl) (Nat.le_of_ble_eq_true rfl) (⟨⟨F1, B, h⟩, t0, i0, ht0, hi0, rfl, rfl, hp t0 i0 ht0 hi0⟩) dX0_forward_18

set_option maxHeartbeats 1000000 in
set_option maxRecDepth 100000 in
theorem c_X0_backward (l : Launch) (hfl : l.stackTraces = false) (D : va_G) (cy : Nat → ClassId) (a sg : Nat → Nat) (hi : wInj 82 a) {e : Nat → va_E} {n T : Nat} {S : Nat → UInt64} {M E : T2} {r : Nat → Nat} {F B V : T2} {G : Nat → Nat → Int32} {Cn : Nat → Nat → Int64} (h : RP cy a e n T S M E r F B V G Cn) (hn : 1 ≤ n ∧ n ≤ 6) (hT : T ≤ 12) (hW : WB S M E) (hr4 : RW4 r) (x x2 : Int32) : vx_Met l yX0_backward wsX0_backward ({ frames := 7, cells := 1, slots := 6, locals := 104 }) (gPcX D clP cy 82 a sg e [.ref (a 0), .int x, .int x2]) (va_Qd (fun z e1 => (∃ F1 B1, RP cy a e1 n T S M E r F1 B1 V G Cn) ∧ ∃ t i, t < T ∧ i < n ∧ x = nI t ∧ x2 = nI i ∧ z = fB n M E r T (T - 1 - t) i) (gB D clP 82 a) (wA 82 a)) (gXC D clP 82 a (fun X u => (∃ F1 B1, RP cy a u n T S M E r F1 B1 V G Cn) ∧ ((X = xI ∧ ¬ (∃ t, t < T ∧ x = nI t)) ∨ (X = xA ∧ (∃ t, t < T ∧ x = nI t) ∧ ¬ (∃ i, i < n ∧ x2 = nI i))))) 1 6 (wA 82 a) := by
  refine g_metX (cc := cX0_backward) (maxL := 3) (ret := (some .double)) (lv := [(0, .ref (a 0)), (1, .int x), (2, .int x2)]) (by decide) rfl (Nat.le_of_ble_eq_true rfl) rfl hi ?_
  intro p en s m below meth c C hnt hX hr hlocks
  have hin : ∀ w ∈ u_ws RX0 TX0 11, w ∈ wsX0_backward := by decide +kernel
  have f_backwardOdds := C.2.2.2.2.1 (.fieldLink RX0 35 "PathOdds" "backwardOdds" "[[D") (by decide +kernel)
  obtain ⟨h0, hS, h2, h9, hr0, h17, h30, h43, h56, h69, hM, hE, hF, hB, hV, hG, hC⟩ := id h
  refine g_aload_n C dX0_backward_0 rfl 0 rfl ?_
  refine g_iload_n C dX0_backward_1 rfl 1 rfl ?_
  refine g_iload_n C dX0_backward_2 rfl 2 rfl ?_
  refine g_callvX (As := [.int x, .int x2]) (rest := []) C hnt hX hlocks (cwV 2 C.2.2.2.2.1 gX0_backward_X0_refuseWrongPlaceOrState rfl rfl rfl (by decide +kernel) ⟨(Nat.le_of_ble_eq_true rfl), (Nat.le_of_ble_eq_true rfl)⟩) (c_X0_refuseWrongPlaceOrState l hfl D cy a sg hi h (by omega) hT x x2) (by decide) h0 inl_pos0 rfl rfl (Nat.le_of_ble_eq_true rfl) dX0_backward_3 ⟨(Nat.le_of_ble_eq_true rfl), (Nat.le_of_ble_eq_true rfl)⟩ ⟨(Nat.le_of_ble_eq_true rfl), (Nat.le_of_ble_eq_true rfl)⟩ (fun X u hu => ⟨⟨F, B, by rw [hu.1]; exact h⟩, hu.2⟩) (fun e1 he1 => ?_)
  rw [he1.1]
  obtain ⟨-, ⟨t0, ht0, rfl⟩, ⟨i0, hi0, rfl⟩⟩ := he1
  refine g_aload_n C dX0_backward_6 rfl 0 rfl ?_
  refine g_callv (As := []) (rest := []) C (cwV 0 C.2.2.2.2.1 gX0_backward_X0_fillBackward rfl rfl rfl (by decide +kernel) ⟨Nat.le_of_ble_eq_true rfl, Nat.le_of_ble_eq_true rfl⟩) (c_X0_fillBackward l D cy a hi h hn (by omega) hW hr4) (by decide) h0 inl_pos0 rfl rfl (Nat.le_of_ble_eq_true rfl) dX0_backward_7 ⟨(Nat.le_of_ble_eq_true rfl), (Nat.le_of_ble_eq_true rfl)⟩ (fun e2 he => ?_)
  obtain ⟨B1, h, hp⟩ := he
  obtain ⟨h0, hS, h2, h9, hr0, h17, h30, h43, h56, h69, hM, hE, hF, hB, hV, hG, hC⟩ := id h
  refine g_aload_n C dX0_backward_10 rfl 0 rfl ?_
  refine g_get C 7 hin inl_pos0 (by decide) h0 (by decide) f_backwardOdds rfl dX0_backward_11 ?_
  refine g_iload_n C dX0_backward_14 rfl 1 rfl ?_
  refine g_aald C (by omega) (tyD2 cy) h30 (by omega) (by decide) dX0_backward_15 ?_
  refine g_iload_n C dX0_backward_16 rfl 2 rfl ?_
  refine g_dald C (by omega) (hB t0 (by omega)) (by omega) (by decide) dX0_backward_17 ?_
  exact g_dretX C hr hlocks (Nat.le_of_ble_eq_true rfl) (Nat.le_of_ble_eq_true rfl) (⟨⟨F, B1, h⟩, t0, i0, ht0, hi0, rfl, rfl, hp t0 i0 ht0 hi0⟩) dX0_backward_18

set_option maxHeartbeats 1000000 in
set_option maxRecDepth 100000 in
theorem c_X0_share (l : Launch) (hfl : l.stackTraces = false) (D : va_G) (cy : Nat → ClassId) (a sg : Nat → Nat) (hi : wInj 82 a) {e : Nat → va_E} {n T : Nat} {S : Nat → UInt64} {M E : T2} {r : Nat → Nat} {F B V : T2} {G : Nat → Nat → Int32} {Cn : Nat → Nat → Int64} (h : RP cy a e n T S M E r F B V G Cn) (hn : 1 ≤ n ∧ n ≤ 6) (hT : T ≤ 12) (hW : WB S M E) (hr4 : RW4 r) (x x2 : Int32) : vx_Met l yX0_share wsX0_share ({ frames := 7, cells := 2, slots := 12, locals := 104 }) (gPcX D clP cy 82 a sg e [.ref (a 0), .int x, .int x2]) (va_Qd (fun z e1 => (∃ F1 B1, RP cy a e1 n T S M E r F1 B1 V G Cn) ∧ ¬ Op.cmpValue (FP.dcmp (fTot n S M E r T) FP.dconst0) CmpOp.l = 0 ∧ ∃ t i, t < T ∧ i < n ∧ x = nI t ∧ x2 = nI i ∧ z = FP.ddiv (FP.dmul (fA n S M E r t i) (fB n M E r T (T - 1 - t) i)) (fTot n S M E r T)) (gB D clP 82 a) (wA 82 a)) (gXC D clP 82 a (fun X u => (∃ F1 B1, RP cy a u n T S M E r F1 B1 V G Cn) ∧ ((X = xI ∧ ¬ (∃ t, t < T ∧ x = nI t)) ∨ (X = xA ∧ (∃ t, t < T ∧ x = nI t) ∧ ¬ (∃ i, i < n ∧ x2 = nI i)) ∨ (X = xR ∧ (∃ t, t < T ∧ x = nI t) ∧ (∃ i, i < n ∧ x2 = nI i) ∧ Op.cmpValue (FP.dcmp (fTot n S M E r T) FP.dconst0) CmpOp.l = 0)))) 2 12 (wA 82 a) := by
  refine g_metX (cc := cX0_share) (maxL := 5) (ret := (some .double)) (lv := [(0, .ref (a 0)), (1, .int x), (2, .int x2)]) (by decide) rfl (Nat.le_of_ble_eq_true rfl) rfl hi ?_
  intro p en s m below meth c C hnt hX hr hlocks
  have hin : ∀ w ∈ u_ws RX0 TX0 11, w ∈ wsX0_share := by decide +kernel
  have f_forwardOdds := C.2.2.2.2.1 (.fieldLink RX0 32 "PathOdds" "forwardOdds" "[[D") (by decide +kernel)
  have f_backwardOdds := C.2.2.2.2.1 (.fieldLink RX0 35 "PathOdds" "backwardOdds" "[[D") (by decide +kernel)
  obtain ⟨h0, hS, h2, h9, hr0, h17, h30, h43, h56, h69, hM, hE, hF, hB, hV, hG, hC⟩ := id h
  refine g_aload_n C dX0_share_0 rfl 0 rfl ?_
  refine g_iload_n C dX0_share_1 rfl 1 rfl ?_
  refine g_iload_n C dX0_share_2 rfl 2 rfl ?_
  refine g_callvX (As := [.int x, .int x2]) (rest := []) C hnt hX hlocks (cwV 2 C.2.2.2.2.1 gX0_share_X0_refuseWrongPlaceOrState rfl rfl rfl (by decide +kernel) ⟨(Nat.le_of_ble_eq_true rfl), (Nat.le_of_ble_eq_true rfl)⟩) (c_X0_refuseWrongPlaceOrState l hfl D cy a sg hi h (by omega) hT x x2) (by decide) h0 inl_pos0 rfl rfl (Nat.le_of_ble_eq_true rfl) dX0_share_3 ⟨(Nat.le_of_ble_eq_true rfl), (Nat.le_of_ble_eq_true rfl)⟩ ⟨(Nat.le_of_ble_eq_true rfl), (Nat.le_of_ble_eq_true rfl)⟩ (fun X u hu => ⟨⟨F, B, by rw [hu.1]; exact h⟩, hu.2.elim Or.inl (fun q => Or.inr (Or.inl q))⟩) (fun e1 he1 => ?_)
  rw [he1.1]
  obtain ⟨-, ⟨t0, ht0, rfl⟩, ⟨i0, hi0, rfl⟩⟩ := he1
  refine g_aload_n C dX0_share_6 rfl 0 rfl ?_
  refine g_callv (As := []) (rest := []) C (cwV 0 C.2.2.2.2.1 gX0_share_X0_fillForward rfl rfl rfl (by decide +kernel) ⟨Nat.le_of_ble_eq_true rfl, Nat.le_of_ble_eq_true rfl⟩) (c_X0_fillForward l D cy a hi h hn hT hW hr4) (by decide) h0 inl_pos0 rfl rfl (Nat.le_of_ble_eq_true rfl) dX0_share_7 ⟨(Nat.le_of_ble_eq_true rfl), (Nat.le_of_ble_eq_true rfl)⟩ (fun e2 he => ?_)
  obtain ⟨F1, h, hp⟩ := he
  obtain ⟨h0, hS, h2, h9, hr0, h17, h30, h43, h56, h69, hM, hE, hF, hB, hV, hG, hC⟩ := id h
  refine g_aload_n C dX0_share_10 rfl 0 rfl ?_
  refine g_calld (As := []) (rest := []) C (cwV 0 C.2.2.2.2.1 gX0_share_X0_sumOfLastForward rfl rfl rfl (by decide +kernel) ⟨Nat.le_of_ble_eq_true rfl, Nat.le_of_ble_eq_true rfl⟩) (c_X0_sumOfLastForward l D cy a hi h (by omega) (by omega) (K := 1202) (by omega) (fun i hi1 => by rw [hp (T - 1) i (by omega) hi1]; exact mg_mono (fA_mg hn.2 hW hr4 (T - 1) i (by omega) (by omega)) (by omega))) (by decide) h0 inl_pos0 rfl rfl (Nat.le_of_ble_eq_true rfl) dX0_share_11 ⟨(Nat.le_of_ble_eq_true rfl), (Nat.le_of_ble_eq_true rfl)⟩ (fun z e3 hz => ?_)
  rw [hz.1]
  have hzT : z = fTot n S M E r T := by rw [hz.2, fTot, if_neg (by omega)]; exact fsm_congr (fun i hi1 => hp (T - 1) i (by omega) hi1) n (Nat.le_refl n)
  clear hz
  subst hzT
  refine g_dstore_n (lv' := [(0, .ref (a 0)), (1, .int (nI t0)), (2, .int (nI i0)), (3, .double (fTot n S M E r T))]) C dX0_share_14 rfl (by decide) [1, 2, 3, 0] rfl ?_
  refine g_dload_n C dX0_share_15 rfl 3 rfl ?_
  refine g_dconst0 C dX0_share_16 ?_
  refine g_dcmp C dX0_share_17 ?_
  refine g_if_ne (tgt := 31) C dX0_share_18 (by decide) (fun c2 => ?_) (fun c2 => ?_)
  · refine g_aload_n C dX0_share_31 rfl 0 rfl ?_
    refine g_callv (As := []) (rest := []) C (cwV 0 C.2.2.2.2.1 gX0_share_X0_fillBackward rfl rfl rfl (by decide +kernel) ⟨Nat.le_of_ble_eq_true rfl, Nat.le_of_ble_eq_true rfl⟩) (c_X0_fillBackward l D cy a hi h hn (by omega) hW hr4) (by decide) h0 inl_pos0 rfl rfl (Nat.le_of_ble_eq_true rfl) dX0_share_32 ⟨(Nat.le_of_ble_eq_true rfl), (Nat.le_of_ble_eq_true rfl)⟩ (fun e4 he => ?_)
    obtain ⟨B1, h, hp3⟩ := he
    obtain ⟨h0, hS, h2, h9, hr0, h17, h30, h43, h56, h69, hM, hE, hF, hB, hV, hG, hC⟩ := id h
    refine g_aload_n C dX0_share_35 rfl 0 rfl ?_
    refine g_get C 6 hin inl_pos0 (by decide) h0 (by decide) f_forwardOdds rfl dX0_share_36 ?_
    refine g_iload_n C dX0_share_39 rfl 1 rfl ?_
    refine g_aald C (by omega) (tyD2 cy) h17 (by omega) (by decide) dX0_share_40 ?_
    refine g_iload_n C dX0_share_41 rfl 2 rfl ?_
    refine g_dald C (by omega) (hF t0 (by omega)) (by omega) (by decide) dX0_share_42 ?_
    refine g_aload_n C dX0_share_43 rfl 0 rfl ?_
    refine g_get C 7 hin inl_pos0 (by decide) h0 (by decide) f_backwardOdds rfl dX0_share_44 ?_
    refine g_iload_n C dX0_share_47 rfl 1 rfl ?_
    refine g_aald C (by omega) (tyD2 cy) h30 (by omega) (by decide) dX0_share_48 ?_
    refine g_iload_n C dX0_share_49 rfl 2 rfl ?_
    refine g_dald C (by omega) (hB t0 (by omega)) (by omega) (by decide) dX0_share_50 ?_
    rw [hp t0 i0 ht0 hi0, hp3 t0 i0 ht0 hi0]
    have hm := mg_mul (fA_mg hn.2 hW hr4 t0 i0 (by omega) (by omega)) (fB_mg (S := S) hn.2 hT hW hr4 (T - 1 - t0) i0 (by omega) (by omega)) (by omega) (by omega)
    refine g_dmul C dX0_share_51 (mg_n64 hm (by omega)) ?_
    refine g_dload_n C dX0_share_52 rfl 3 rfl ?_
    refine g_ddiv C dX0_share_53 (div_n64 hm (fTot_mg hn.2 hT hW hr4) (by omega) (by decide) (ne0_of (fTot_mg hn.2 hT hW hr4) (by decide) c2)) ?_
    exact g_dretX C hr hlocks (Nat.le_of_ble_eq_true rfl) (Nat.le_of_ble_eq_true rfl) (⟨⟨F1, B1, h⟩, c2, t0, i0, ht0, hi0, rfl, rfl, rfl⟩) dX0_share_54
  · exact g_throw (cls := xR) (ik := 89) (is := 91) (ic := 93) (sa := sg 2) C hfl hnt hX hlocks (by decide +kernel) (C.2.2.2.2.1 (.classLink RX0 89 xR) (by decide +kernel)) (C.2.2.2.2.1 (.initialized xR) (by decide +kernel)) hX.2.2.2.2.1 (by decide +kernel) (by decide +kernel) (by decide +kernel) dX0_share_21 dX0_share_24 dX0_share_25 dX0_share_27 dX0_share_30 (Nat.le_of_ble_eq_true rfl) (Nat.le_of_ble_eq_true rfl) (Nat.le_of_ble_eq_true rfl) (Nat.le_of_ble_eq_true rfl) (⟨⟨F1, B, h⟩, Or.inr (Or.inr ⟨rfl, ⟨t0, ht0, rfl⟩, ⟨i0, hi0, rfl⟩, c2⟩)⟩) (Nat.le_of_ble_eq_true rfl) (Nat.le_of_ble_eq_true rfl)
