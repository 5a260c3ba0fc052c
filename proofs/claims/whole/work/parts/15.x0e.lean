/-- the total; the best; how many are possible -/
def fTot (n : Nat) (S : Nat → UInt64) (M E : T2) (r : Nat → Nat) (T : Nat) : UInt64 := if T = 0 then FP.dconst1 else fsm (fun j => fA n S M E r (T - 1) j) n
def fBest (n : Nat) (S : Nat → UInt64) (M E : T2) (r : Nat → Nat) (T : Nat) : UInt64 := if T = 0 then FP.dconst1 else fV n S M E r (T - 1) (am (fun j => fV n S M E r (T - 1) j) n)
def fPos (n : Nat) (S : Nat → UInt64) (M E : T2) (r : Nat → Nat) (T : Nat) : Int64 := if T = 0 then 1 else lsm (fun j => fC n S M E r (T - 1) j) n
theorem fH_lt {n : Nat} (hn : 0 < n) (S : Nat → UInt64) (M E : T2) (r : Nat → Nat) (T : Nat) : ∀ d, fH n S M E r T d < n
  | 0 => am_lt _ n hn
  | _ + 1 => am_lt _ n hn

set_option maxHeartbeats 4000000 in
set_option maxRecDepth 100000 in
theorem c_X0_total (l : Launch) (D : va_G) (cy : Nat → ClassId) (a : Nat → Nat) (hi : wInj 82 a) {e : Nat → va_E} {n T : Nat} {S : Nat → UInt64} {M E : T2} {r : Nat → Nat} {F B V : T2} {G : Nat → Nat → Int32} {Cn : Nat → Nat → Int64} (h : RP cy a e n T S M E r F B V G Cn) (hn : 1 ≤ n ∧ n ≤ 6) (hT : T ≤ 12) (hW : WB S M E) (hr4 : RW4 r) : Met l yX0_total wsX0_total ({ frames := 2, cells := 0, slots := 0, locals := 48 }) (gPc D clP cy 82 a e [.ref (a 0)]) (va_Qd (fun z e1 => (∃ F1, RP cy a e1 n T S M E r F1 B V G Cn) ∧ z = fTot n S M E r T) (gB D clP 82 a) (wA 82 a)) 0 0 (wA 82 a) := by
  refine g_met (cc := cX0_total) (maxL := 1) (ret := (some .double)) (lv := [(0, .ref (a 0))]) (by decide) rfl (Nat.le_of_ble_eq_true rfl) rfl hi (fun k hk => ⟨k, hk, rfl⟩) ?_
  intro p en s m below meth c C hr hlocks
  have hin : ∀ w ∈ u_ws RX0 TX0 11, w ∈ wsX0_total := by decide +kernel
  have f_rowLength := C.2.2.2.2.1 (.fieldLink RX0 29 "PathOdds" "rowLength" "I") (by decide +kernel)
  obtain ⟨h0, hS, h2, h9, hr0, h17, h30, h43, h56, h69, hM, hE, hF, hB, hV, hG, hC⟩ := id h
  refine g_aload_n C dX0_total_0 rfl 0 rfl ?_
  refine g_get C 5 hin inl_pos0 (by decide) h0 (by decide) f_rowLength rfl dX0_total_1 ?_
  refine g_if_ne (tgt := 9) C dX0_total_4 (by decide) (fun c1 => ?_) (fun c1 => ?_)
  · have hT0 : 0 < T := Nat.pos_of_ne_zero (fun q => c1 (by rw [q]; rfl))
    refine g_aload_n C dX0_total_9 rfl 0 rfl ?_
    refine g_callv (As := []) (rest := []) C (cwV 0 C.2.2.2.2.1 gX0_total_X0_fillForward rfl rfl rfl (by decide +kernel) ⟨Nat.le_of_ble_eq_true rfl, Nat.le_of_ble_eq_true rfl⟩) (c_X0_fillForward l D cy a hi h hn hT hW hr4) (by decide) h0 inl_pos0 rfl rfl (Nat.le_of_ble_eq_true rfl) dX0_total_10 ⟨Nat.zero_le _, Nat.zero_le _⟩ (fun e1 he => ?_)
    obtain ⟨F1, h, hp⟩ := he
    obtain ⟨h0, hS, h2, h9, hr0, h17, h30, h43, h56, h69, hM, hE, hF, hB, hV, hG, hC⟩ := id h
    refine g_aload_n C dX0_total_13 rfl 0 rfl ?_
    refine g_calld (As := []) (rest := []) C (cwV 0 C.2.2.2.2.1 gX0_total_X0_sumOfLastForward rfl rfl rfl (by decide +kernel) ⟨Nat.le_of_ble_eq_true rfl, Nat.le_of_ble_eq_true rfl⟩) (c_X0_sumOfLastForward l D cy a hi h (by omega) (by omega) (K := 1202) (by omega) (fun i hi1 => by rw [hp (T - 1) i (by omega) hi1]; exact mg_mono (fA_mg hn.2 hW hr4 (T - 1) i (by omega) (by omega)) (by omega))) (by decide) h0 inl_pos0 rfl rfl (Nat.le_of_ble_eq_true rfl) dX0_total_14 ⟨Nat.zero_le _, Nat.zero_le _⟩ (fun z e2 hz => ?_)
    rw [hz.1]
    exact g_dret C hr hlocks (⟨⟨F1, h⟩, by rw [hz.2, fTot, if_neg (by omega)]; exact fsm_congr (fun i hi1 => hp (T - 1) i (by omega) hi1) n (Nat.le_refl n)⟩) dX0_total_17
  · refine g_dconst1 C dX0_total_7 ?_
    exact g_dret C hr hlocks (⟨⟨F, h⟩, by rw [fTot, if_pos ((nI_eq (by omega) (by decide)).mp c1)]⟩) dX0_total_8

set_option maxHeartbeats 4000000 in
set_option maxRecDepth 100000 in
theorem c_X0_best (l : Launch) (D : va_G) (cy : Nat → ClassId) (a : Nat → Nat) (hi : wInj 82 a) {e : Nat → va_E} {n T : Nat} {S : Nat → UInt64} {M E : T2} {r : Nat → Nat} {F B V : T2} {G : Nat → Nat → Int32} {Cn : Nat → Nat → Int64} (h : RP cy a e n T S M E r F B V G Cn) (hn : 1 ≤ n ∧ n ≤ 6) (hT : T ≤ 12) (hW : WB S M E) (hr4 : RW4 r) : Met l yX0_best wsX0_best ({ frames := 2, cells := 0, slots := 0, locals := 51 }) (gPc D clP cy 82 a e [.ref (a 0)]) (va_Qd (fun z e1 => (∃ V1 G1, RP cy a e1 n T S M E r F B V1 G1 Cn) ∧ z = fBest n S M E r T) (gB D clP 82 a) (wA 82 a)) 0 0 (wA 82 a) := by
  refine g_met (cc := cX0_best) (maxL := 1) (ret := (some .double)) (lv := [(0, .ref (a 0))]) (by decide) rfl (Nat.le_of_ble_eq_true rfl) rfl hi (fun k hk => ⟨k, hk, rfl⟩) ?_
  intro p en s m below meth c C hr hlocks
  have hin : ∀ w ∈ u_ws RX0 TX0 11, w ∈ wsX0_best := by decide +kernel
  have f_rowLength := C.2.2.2.2.1 (.fieldLink RX0 29 "PathOdds" "rowLength" "I") (by decide +kernel)
  have f_bestOdds := C.2.2.2.2.1 (.fieldLink RX0 38 "PathOdds" "bestOdds" "[[D") (by decide +kernel)
  obtain ⟨h0, hS, h2, h9, hr0, h17, h30, h43, h56, h69, hM, hE, hF, hB, hV, hG, hC⟩ := id h
  refine g_aload_n C dX0_best_0 rfl 0 rfl ?_
  refine g_get C 5 hin inl_pos0 (by decide) h0 (by decide) f_rowLength rfl dX0_best_1 ?_
  refine g_if_ne (tgt := 9) C dX0_best_4 (by decide) (fun c1 => ?_) (fun c1 => ?_)
  · have hT0 : 0 < T := Nat.pos_of_ne_zero (fun q => c1 (by rw [q]; rfl))
    refine g_aload_n C dX0_best_9 rfl 0 rfl ?_
    refine g_callv (As := []) (rest := []) C (cwV 0 C.2.2.2.2.1 gX0_best_X0_fillBest rfl rfl rfl (by decide +kernel) ⟨Nat.le_of_ble_eq_true rfl, Nat.le_of_ble_eq_true rfl⟩) (c_X0_fillBest l D cy a hi h hn hT hW hr4) (by decide) h0 inl_pos0 rfl rfl (Nat.le_of_ble_eq_true rfl) dX0_best_10 ⟨Nat.zero_le _, Nat.zero_le _⟩ (fun e1 he => ?_)
    obtain ⟨V1, G1, h, hp⟩ := he
    obtain ⟨h0, hS, h2, h9, hr0, h17, h30, h43, h56, h69, hM, hE, hF, hB, hV, hG, hC⟩ := id h
    refine g_aload_n C dX0_best_13 rfl 0 rfl ?_
    refine g_get C 8 hin inl_pos0 (by decide) h0 (by decide) f_bestOdds rfl dX0_best_14 ?_
    refine g_aload_n C dX0_best_17 rfl 0 rfl ?_
    refine g_get C 5 hin inl_pos0 (by decide) h0 (by decide) f_rowLength rfl dX0_best_18 ?_
    refine g_iconst (v := nI 1) C dX0_best_21 (by decide) ?_
    refine g_isub (v := nI (T - 1)) C dX0_best_22 (pk_sub (by omega)) ?_
    refine g_aald C (by omega) (tyD2 cy) h43 (by omega) (by decide) dX0_best_23 ?_
    refine g_aload_n C dX0_best_24 rfl 0 rfl ?_
    refine g_calli (As := []) (rest := [.ref (a (44 + (T - 1)))]) C (cwV 0 C.2.2.2.2.1 gX0_best_X0_lastBestState rfl rfl rfl (by decide +kernel) ⟨Nat.le_of_ble_eq_true rfl, Nat.le_of_ble_eq_true rfl⟩) (c_X0_lastBestState l D cy a hi h hn (by omega)) (by decide) h0 inl_pos0 rfl rfl (Nat.le_of_ble_eq_true rfl) dX0_best_25 ⟨Nat.zero_le _, Nat.zero_le _⟩ (fun z e2 hz => ?_)
    rw [hz.1]
    obtain ⟨-, hz⟩ := hz
    have hc := am_congr (n := n) (f := fun j => V1 (T - 1) j) (g := fun j => fV n S M E r (T - 1) j) (by omega) (fun i hi1 => (hp (T - 1) i (by omega) hi1).1) n (Nat.le_refl n)
    rw [hc] at hz
    subst hz
    have ha := am_lt (fun j => fV n S M E r (T - 1) j) n (by omega)
    refine g_dald C (by omega) (hV (T - 1) (by omega)) (by omega) (by decide) dX0_best_28 ?_
    exact g_dret C hr hlocks (⟨⟨V1, G1, h⟩, by rw [fBest, if_neg (by omega)]; exact (hp (T - 1) _ (by omega) ha).1⟩) dX0_best_29
  · refine g_dconst1 C dX0_best_7 ?_
    exact g_dret C hr hlocks (⟨⟨V, G, h⟩, by rw [fBest, if_pos ((nI_eq (by omega) (by decide)).mp c1)]⟩) dX0_best_8

set_option maxHeartbeats 4000000 in
set_option maxRecDepth 100000 in
theorem c_X0_bestState (l : Launch) (D : va_G) (cy : Nat → ClassId) (a : Nat → Nat) (hi : wInj 82 a) {e : Nat → va_E} {n T : Nat} {S : Nat → UInt64} {M E : T2} {r : Nat → Nat} {F B V : T2} {G : Nat → Nat → Int32} {Cn : Nat → Nat → Int64} (h : RP cy a e n T S M E r F B V G Cn) (hn : 1 ≤ n ∧ n ≤ 6) (hT : T ≤ 12) (hW : WB S M E) (hr4 : RW4 r) (x : Int32) : Met l yX0_bestState wsX0_bestState ({ frames := 2, cells := 0, slots := 0, locals := 51 }) (gPc D clP cy 82 a e [.ref (a 0), .int x]) (va_Qi (fun z e1 => (∃ V1 G1, RP cy a e1 n T S M E r F B V1 G1 Cn) ∧ ((∃ t, t < T ∧ x = nI t ∧ z = nI (fH n S M E r T (T - 1 - t))) ∨ (¬ (∃ t, t < T ∧ x = nI t) ∧ z = -1))) (gB D clP 82 a) (wA 82 a)) 0 0 (wA 82 a) := by
  refine g_met (cc := cX0_bestState) (maxL := 4) (ret := (some .int)) (lv := [(0, .ref (a 0)), (1, .int x)]) (by decide) rfl (Nat.le_of_ble_eq_true rfl) rfl hi (fun k hk => ⟨k, hk, rfl⟩) ?_
  intro p en s m below meth c C hr hlocks
  have hin : ∀ w ∈ u_ws RX0 TX0 11, w ∈ wsX0_bestState := by decide +kernel
  have f_rowLength := C.2.2.2.2.1 (.fieldLink RX0 29 "PathOdds" "rowLength" "I") (by decide +kernel)
  have f_bestFrom := C.2.2.2.2.1 (.fieldLink RX0 43 "PathOdds" "bestFrom" "[[I") (by decide +kernel)
  obtain ⟨h0, hS, h2, h9, hr0, h17, h30, h43, h56, h69, hM, hE, hF, hB, hV, hG, hC⟩ := id h
  refine g_aload_n C dX0_bestState_0 rfl 0 rfl ?_
  refine g_iload_n C dX0_bestState_1 rfl 1 rfl ?_
  refine g_calli (As := [.int x]) (rest := []) C (cwV 1 C.2.2.2.2.1 gX0_bestState_X0_isPlace rfl rfl rfl (by decide +kernel) ⟨Nat.le_of_ble_eq_true rfl, Nat.le_of_ble_eq_true rfl⟩) (c_X0_isPlace l D cy a hi h (by omega) x) (by decide) h0 inl_pos0 rfl rfl (Nat.le_of_ble_eq_true rfl) dX0_bestState_2 ⟨Nat.zero_le _, Nat.zero_le _⟩ (fun z e1 hz => ?_)
  rw [hz.1]
  rcases hz.2 with ⟨rfl, t0, h_t, rfl⟩ | ⟨rfl, hno⟩
  · refine g_if_ne (tgt := 10) C dX0_bestState_5 (by decide) (fun c1 => ?_) (fun c1 => absurd c1 (by decide))
    refine g_aload_n C dX0_bestState_10 rfl 0 rfl ?_
    refine g_callv (As := []) (rest := []) C (cwV 0 C.2.2.2.2.1 gX0_bestState_X0_fillBest rfl rfl rfl (by decide +kernel) ⟨Nat.le_of_ble_eq_true rfl, Nat.le_of_ble_eq_true rfl⟩) (c_X0_fillBest l D cy a hi h hn hT hW hr4) (by decide) h0 inl_pos0 rfl rfl (Nat.le_of_ble_eq_true rfl) dX0_bestState_11 ⟨Nat.zero_le _, Nat.zero_le _⟩ (fun e1 he => ?_)
    obtain ⟨V1, G1, h, hp⟩ := he
    obtain ⟨h0, hS, h2, h9, hr0, h17, h30, h43, h56, h69, hM, hE, hF, hB, hV, hG, hC⟩ := id h
    refine g_aload_n C dX0_bestState_14 rfl 0 rfl ?_
    refine g_calli (As := []) (rest := []) C (cwV 0 C.2.2.2.2.1 gX0_bestState_X0_lastBestState rfl rfl rfl (by decide +kernel) ⟨Nat.le_of_ble_eq_true rfl, Nat.le_of_ble_eq_true rfl⟩) (c_X0_lastBestState l D cy a hi h hn (by omega)) (by decide) h0 inl_pos0 rfl rfl (Nat.le_of_ble_eq_true rfl) dX0_bestState_15 ⟨Nat.zero_le _, Nat.zero_le _⟩ (fun z e2 hz => ?_)
    rw [hz.1]
    obtain ⟨-, hz⟩ := hz
    have hc := am_congr (n := n) (f := fun j => V1 (T - 1) j) (g := fun j => fV n S M E r (T - 1) j) (by omega) (fun i hi1 => (hp (T - 1) i (by omega) hi1).1) n (Nat.le_refl n)
    rw [hc] at hz
    have hz : z = nI (fH n S M E r T 0) := hz
    subst hz
    refine g_istore_n (lv' := [(0, .ref (a 0)), (1, .int (nI t0)), (2, .int (nI (fH n S M E r T 0)))]) C dX0_bestState_18 rfl (by decide) [1, 2, 0] rfl ?_
    refine g_aload_n C dX0_bestState_19 rfl 0 rfl ?_
    refine g_get C 5 hin inl_pos0 (by decide) h0 (by decide) f_rowLength rfl dX0_bestState_20 ?_
    refine g_iconst (v := nI 1) C dX0_bestState_23 (by decide) ?_
    refine g_isub (v := nI (T - 1)) C dX0_bestState_24 (pk_sub (by omega)) ?_
    refine g_istore_n (lv' := [(0, .ref (a 0)), (1, .int (nI t0)), (2, .int (nI (fH n S M E r T 0))), (3, .int (nI (T - 1)))]) C dX0_bestState_25 rfl (by decide) [1, 2, 3, 0] rfl ?_
    have L : ∀ (k : Nat) (d : Nat), d + k = T - 1 - t0 → GW p l en ({ frames := 2, cells := 0, slots := 0, locals := 51 }) s m ([.ref (a 0), .int (nI t0)] : List Value).toArray below meth c 0 0 (MQ below (va_Qi (fun z e1 => (∃ V1 G1, RP cy a e1 n T S M E r F B V1 G1 Cn) ∧ ((∃ t, t < T ∧ nI t0 = nI t ∧ z = nI (fH n S M E r T (T - 1 - t))) ∨ (¬ (∃ t, t < T ∧ nI t0 = nI t) ∧ z = -1))) (gB D clP 82 a) (wA 82 a)) ([.ref (a 0), .int (nI t0)] : List Value).toArray s 0 0 (wA 82 a)) D clP 82 4 a (wA 82 a) e1 26 [(0, .ref (a 0)), (1, .int (nI t0)), (2, .int (nI (fH n S M E r T d))), (3, .int (nI (T - 1 - d)))] [] := by
      intro k
      induction k with
      | zero =>
        intro d hk
        skip
        refine g_iload_n C dX0_bestState_26 rfl 3 rfl ?_
        refine g_iload_n C dX0_bestState_27 rfl 1 rfl ?_
        refine g_icmp_le (tgt := 46) C dX0_bestState_28 (by decide) (fun c1 => ?_) (fun c1 => absurd c1 (fun q => q (nI_le (by omega) (by omega))))
        refine g_iload_n C dX0_bestState_46 rfl 2 rfl ?_
        exact g_iret C hr hlocks (⟨⟨V1, G1, h⟩, Or.inl ⟨t0, h_t, rfl, by rw [show T - 1 - t0 = d by omega]⟩⟩) dX0_bestState_47
      | succ k ih =>
        intro d hk
        skip
        have hl := fH_lt (n := n) (by omega) S M E r T d
        have hg : G1 (T - 1 - d) (fH n S M E r T d) = nI (fH n S M E r T (d + 1)) := (hp (T - 1 - d) _ (by omega) hl).2 (by omega)
        refine g_iload_n C dX0_bestState_26 rfl 3 rfl ?_
        refine g_iload_n C dX0_bestState_27 rfl 1 rfl ?_
        refine g_icmp_le (tgt := 46) C dX0_bestState_28 (by decide) (fun c1 => absurd c1 (nI_ge (by omega) (by omega))) (fun c1 => ?_)
        refine g_aload_n C dX0_bestState_31 rfl 0 rfl ?_
        refine g_get C 9 hin inl_pos0 (by decide) h0 (by decide) f_bestFrom rfl dX0_bestState_32 ?_
        refine g_iload_n C dX0_bestState_35 rfl 3 rfl ?_
        refine g_aald C (by omega) (tyI2 cy) h56 (by omega) (by decide) dX0_bestState_36 ?_
        refine g_iload_n C dX0_bestState_37 rfl 2 rfl ?_
        refine g_iald C (by omega) (hG (T - 1 - d) (by omega)) (by omega) (by decide) dX0_bestState_38 ?_
        rw [hg]
        refine g_istore_n (lv' := [(0, .ref (a 0)), (1, .int (nI t0)), (2, .int (nI (fH n S M E r T (d + 1)))), (3, .int (nI (T - 1 - d)))]) C dX0_bestState_39 rfl (by decide) [1, 2, 0, 3] rfl ?_
        refine g_iinc (v := nI (T - 1 - (d + 1))) (k := 3) (lv' := [(0, .ref (a 0)), (1, .int (nI t0)), (2, .int (nI (fH n S M E r T (d + 1)))), (3, .int (nI (T - 1 - (d + 1))))]) C dX0_bestState_40 rfl (by rw [nI_dec (by omega), show T - 1 - d - 1 = T - 1 - (d + 1) by omega]) (by decide) [1, 2, 3, 0] rfl ?_
        refine g_goto (tgt := 26) C dX0_bestState_43 (by decide) ?_
        exact ih (d + 1) (by omega)
    exact L (T - 1 - t0) 0 (by omega)
  · refine g_if_ne (tgt := 10) C dX0_bestState_5 (by decide) (fun c1 => absurd c1 (fun q => q (by decide))) (fun c1 => ?_)
    refine g_iconst (v := -1) C dX0_bestState_8 (by decide) ?_
    exact g_iret C hr hlocks (⟨⟨V, G, h⟩, Or.inr ⟨hno, rfl⟩⟩) dX0_bestState_9

set_option maxHeartbeats 4000000 in
set_option maxRecDepth 100000 in
theorem c_X0_possible (l : Launch) (D : va_G) (cy : Nat → ClassId) (a : Nat → Nat) (hi : wInj 82 a) {e : Nat → va_E} {n T : Nat} {S : Nat → UInt64} {M E : T2} {r : Nat → Nat} {F B V : T2} {G : Nat → Nat → Int32} {Cn : Nat → Nat → Int64} (h : RP cy a e n T S M E r F B V G Cn) (hn : 1 ≤ n ∧ n ≤ 6) (hT : T ≤ 12) (hr4 : RW4 r) : Met l yX0_possible wsX0_possible ({ frames := 2, cells := 0, slots := 0, locals := 48 }) (gPc D clP cy 82 a e [.ref (a 0)]) (va_Ql (fun z e1 => (∃ C1 : Nat → Nat → Int64, RP cy a e1 n T S M E r F B V G C1) ∧ z = fPos n S M E r T) (gB D clP 82 a) (wA 82 a)) 0 0 (wA 82 a) := by
  refine g_met (cc := cX0_possible) (maxL := 4) (ret := (some .long)) (lv := [(0, .ref (a 0))]) (by decide) rfl (Nat.le_of_ble_eq_true rfl) rfl hi (fun k hk => ⟨k, hk, rfl⟩) ?_
  intro p en s m below meth c C hr hlocks
  have hin : ∀ w ∈ u_ws RX0 TX0 11, w ∈ wsX0_possible := by decide +kernel
  have f_rowLength := C.2.2.2.2.1 (.fieldLink RX0 29 "PathOdds" "rowLength" "I") (by decide +kernel)
  have f_stateCount := C.2.2.2.2.1 (.fieldLink RX0 25 "PathOdds" "stateCount" "I") (by decide +kernel)
  have f_wayCounts := C.2.2.2.2.1 (.fieldLink RX0 48 "PathOdds" "wayCounts" "[[J") (by decide +kernel)
  obtain ⟨h0, hS, h2, h9, hr0, h17, h30, h43, h56, h69, hM, hE, hF, hB, hV, hG, hC⟩ := id h
  refine g_aload_n C dX0_possible_0 rfl 0 rfl ?_
  refine g_get C 5 hin inl_pos0 (by decide) h0 (by decide) f_rowLength rfl dX0_possible_1 ?_
  refine g_if_ne (tgt := 9) C dX0_possible_4 (by decide) (fun c1 => ?_) (fun c1 => ?_)
  · have hT0 : 0 < T := Nat.pos_of_ne_zero (fun q => c1 (by rw [q]; rfl))
    refine g_aload_n C dX0_possible_9 rfl 0 rfl ?_
    refine g_callv (As := []) (rest := []) C (cwV 0 C.2.2.2.2.1 gX0_possible_X0_fillWayCounts rfl rfl rfl (by decide +kernel) ⟨Nat.le_of_ble_eq_true rfl, Nat.le_of_ble_eq_true rfl⟩) (c_X0_fillWayCounts l D cy a hi h hn hT hr4) (by decide) h0 inl_pos0 rfl rfl (Nat.le_of_ble_eq_true rfl) dX0_possible_10 ⟨Nat.zero_le _, Nat.zero_le _⟩ (fun e1 he => ?_)
    obtain ⟨C1, h, hp⟩ := he
    obtain ⟨h0, hS, h2, h9, hr0, h17, h30, h43, h56, h69, hM, hE, hF, hB, hV, hG, hC⟩ := id h
    refine g_lconst (v := 0) C dX0_possible_13 (by decide) ?_
    refine g_lstore_n (lv' := [(0, .ref (a 0)), (1, .long 0)]) C dX0_possible_14 rfl (by decide) [1, 0] rfl ?_
    refine g_iconst (v := nI 0) C dX0_possible_15 (by decide) ?_
    refine g_istore_n (lv' := [(0, .ref (a 0)), (1, .long 0), (3, .int (nI 0))]) C dX0_possible_16 rfl (by decide) [1, 2, 0] rfl ?_
    have L : ∀ (k : Nat) (i : Nat), i + k = n → GW p l en ({ frames := 2, cells := 0, slots := 0, locals := 48 }) s m ([.ref (a 0)] : List Value).toArray below meth c 0 0 (MQ below (va_Ql (fun z e1 => (∃ C1 : Nat → Nat → Int64, RP cy a e1 n T S M E r F B V G C1) ∧ z = fPos n S M E r T) (gB D clP 82 a) (wA 82 a)) ([.ref (a 0)] : List Value).toArray s 0 0 (wA 82 a)) D clP 82 4 a (wA 82 a) e1 17 [(0, .ref (a 0)), (1, .long (lsm (fun j => C1 (T - 1) j) i)), (3, .int (nI i))] [] := by
      intro k
      induction k with
      | zero =>
        intro i hk
        skip
        refine g_iload_n C dX0_possible_17 rfl 2 rfl ?_
        refine g_aload_n C dX0_possible_18 rfl 0 rfl ?_
        refine g_get C 4 hin inl_pos0 (by decide) h0 (by decide) f_stateCount rfl dX0_possible_19 ?_
        refine g_icmp_ge (tgt := 47) C dX0_possible_22 (by decide) (fun c1 => ?_) (fun c1 => absurd c1 (fun q => q (nI_le (by omega) (by omega))))
        refine g_lload_n C dX0_possible_47 rfl 1 rfl ?_
        exact g_lret C hr hlocks (⟨⟨C1, h⟩, by rw [fPos, if_neg (by omega), show i = n from by omega]; exact lsm_congr (fun q hq => hp (T - 1) q (by omega) hq) n (Nat.le_refl n)⟩) dX0_possible_48
      | succ k ih =>
        intro i hk
        skip
        refine g_iload_n C dX0_possible_17 rfl 2 rfl ?_
        refine g_aload_n C dX0_possible_18 rfl 0 rfl ?_
        refine g_get C 4 hin inl_pos0 (by decide) h0 (by decide) f_stateCount rfl dX0_possible_19 ?_
        refine g_icmp_ge (tgt := 47) C dX0_possible_22 (by decide) (fun c1 => absurd c1 (nI_ge (by omega) (by omega))) (fun c1 => ?_)
        refine g_lload_n C dX0_possible_25 rfl 1 rfl ?_
        refine g_aload_n C dX0_possible_26 rfl 0 rfl ?_
        refine g_get C 10 hin inl_pos0 (by decide) h0 (by decide) f_wayCounts rfl dX0_possible_27 ?_
        refine g_aload_n C dX0_possible_30 rfl 0 rfl ?_
        refine g_get C 5 hin inl_pos0 (by decide) h0 (by decide) f_rowLength rfl dX0_possible_31 ?_
        refine g_iconst (v := nI 1) C dX0_possible_34 (by decide) ?_
        refine g_isub (v := nI (T - 1)) C dX0_possible_35 (pk_sub (by omega)) ?_
        refine g_aald C (by omega) (tyL2 cy) h69 (by omega) (by decide) dX0_possible_36 ?_
        refine g_iload_n C dX0_possible_37 rfl 2 rfl ?_
        refine g_lald C (by omega) (hC (T - 1) (by omega)) (by omega) (by decide) dX0_possible_38 ?_
        refine g_ladd C dX0_possible_39 ?_
        refine g_lstore_n (lv' := [(0, .ref (a 0)), (1, .long ((lsm (fun j => C1 (T - 1) j) i) + (C1 (T - 1) i))), (3, .int (nI i))]) C dX0_possible_40 rfl (by decide) [1, 0, 2] rfl ?_
        refine g_iinc (v := nI (i + 1)) (k := 2) (lv' := [(0, .ref (a 0)), (1, .long ((lsm (fun j => C1 (T - 1) j) i) + (C1 (T - 1) i))), (3, .int (nI (i + 1)))]) C dX0_possible_41 rfl (nI_inc i) (by decide) [1, 2, 0] rfl ?_
        refine g_goto (tgt := 17) C dX0_possible_44 (by decide) ?_
        exact ih (i + 1) (by omega)
    exact L n 0 (by omega)
  · refine g_lconst (v := 1) C dX0_possible_7 (by decide) ?_
    exact g_lret C hr hlocks (⟨⟨Cn, h⟩, by rw [fPos, if_pos ((nI_eq (by omega) (by decide)).mp c1)]⟩) dX0_possible_8
