set_option maxHeartbeats 4000000 in
set_option maxRecDepth 100000 in
theorem c_X1_fault (l : Launch) (D : va_G) (cy : Nat → ClassId) (a : Nat → Nat) (hi : wInj 9 a) {e : Nat → va_E} {n T th : Nat} {S : Nat → UInt64} {M E : T2} {r : Nat → Nat} {nw od : Nat → UInt64} {cn bf : Nat → Int64} (h : RM cy a e n T th S M E r nw od cn bf) (hn : n ≤ 6) (hT : T ≤ 12) (x x2 : Int32) : Met l yX1_fault wsX1_fault ({ frames := 1, cells := 0, slots := 0, locals := 21 }) (gPc D clP cy 9 a e [.ref (a 0), .int x, .int x2]) (va_Qi (fun z e1 => e1 = e ∧ ((z = nI 1 ∧ ¬ (∃ t, t < T ∧ x = nI t)) ∨ (z = nI 2 ∧ (∃ t, t < T ∧ x = nI t) ∧ ¬ (∃ i, i < n ∧ x2 = nI i)) ∨ (z = nI 0 ∧ (∃ t, t < T ∧ x = nI t) ∧ (∃ i, i < n ∧ x2 = nI i)))) (gB D clP 9 a) (wA 9 a)) 0 0 (wA 9 a) := by
  refine g_met (cc := cX1_fault) (maxL := 3) (ret := (some .int)) (lv := [(0, .ref (a 0)), (1, .int x), (2, .int x2)]) (by decide) rfl (Nat.le_of_ble_eq_true rfl) rfl hi (fun k hk => ⟨k, hk, rfl⟩) ?_
  intro p en s m below meth c C hr hlocks
  have hin : ∀ w ∈ u_ws RX1 TX1 11, w ∈ wsX1_fault := by decide +kernel
  have f_length := C.2.2.2.2.1 (.fieldLink RX1 43 "PathOddsModel" "length" "I") (by decide +kernel)
  obtain ⟨h0, hS, hM, hE, hr0, hnw, hod, hcn, hbf⟩ := id h
  refine g_iload_n C dX1_fault_0 rfl 1 rfl ?_
  refine g_if_lt (tgt := 12) C dX1_fault_1 (by decide) (fun c1 => ?_) (fun c1 => ?_)
  · refine g_iconst (v := nI 1) C dX1_fault_12 (by decide) ?_
    refine g_goto (tgt := 29) C dX1_fault_13 (by decide) ?_
    exact g_iret C hr hlocks (⟨rfl, Or.inl ⟨rfl, inB_neg (by omega) c1⟩⟩) dX1_fault_29
  · refine g_iload_n C dX1_fault_4 rfl 1 rfl ?_
    refine g_aload_n C dX1_fault_5 rfl 0 rfl ?_
    refine g_get C 1 hin inl_pos1 (by decide) h0 (by decide) f_length rfl dX1_fault_6 ?_
    refine g_icmp_lt (tgt := 16) C dX1_fault_9 (by decide) (fun c2 => ?_) (fun c2 => ?_)
    · have hpl : ∃ t, t < T ∧ x = nI t := inB_in (by omega) c1 (fun q => absurd c2 (by rw [Int32.lt_iff_toInt_lt]; rw [Int32.le_iff_toInt_le] at q; omega))
      refine g_aload_n C dX1_fault_16 rfl 0 rfl ?_
      refine g_iload_n C dX1_fault_17 rfl 2 rfl ?_
      refine g_calli (As := [.int x2]) (rest := []) C (cwV 1 C.2.2.2.2.1 gX1_fault_X1_state rfl rfl rfl (by decide +kernel) ⟨Nat.le_of_ble_eq_true rfl, Nat.le_of_ble_eq_true rfl⟩) (c_X1_state l D cy a hi h (by omega) x2) (by decide) h0 inl_pos1 rfl rfl (Nat.le_of_ble_eq_true rfl) dX1_fault_18 ⟨Nat.zero_le _, Nat.zero_le _⟩ (fun z e1 hz => ?_)
      rw [hz.1]
      rcases hz.2 with ⟨rfl, hst⟩ | ⟨rfl, hno⟩
      · refine g_if_eq (tgt := 28) C dX1_fault_21 (by decide) (fun c1 => absurd c1 (by decide)) (fun c1 => ?_)
        refine g_iconst (v := nI 0) C dX1_fault_24 (by decide) ?_
        refine g_goto (tgt := 29) C dX1_fault_25 (by decide) ?_
        exact g_iret C hr hlocks (⟨rfl, Or.inr (Or.inr ⟨rfl, hpl, hst⟩)⟩) dX1_fault_29
      · refine g_if_eq (tgt := 28) C dX1_fault_21 (by decide) (fun c1 => ?_) (fun c1 => absurd c1 (fun q => q (by decide)))
        refine g_iconst (v := nI 2) C dX1_fault_28 (by decide) ?_
        exact g_iret C hr hlocks (⟨rfl, Or.inr (Or.inl ⟨rfl, hpl, hno⟩)⟩) dX1_fault_29
    · refine g_iconst (v := nI 1) C dX1_fault_12 (by decide) ?_
      refine g_goto (tgt := 29) C dX1_fault_13 (by decide) ?_
      exact g_iret C hr hlocks (⟨rfl, Or.inl ⟨rfl, inB_big (by omega) (by rw [Int32.le_iff_toInt_le]; rw [Int32.lt_iff_toInt_lt] at c2; omega)⟩⟩) dX1_fault_29

set_option maxHeartbeats 4000000 in
set_option maxRecDepth 100000 in
theorem c_X1_all (l : Launch) (D : va_G) (cy : Nat → ClassId) (a : Nat → Nat) (hi : wInj 9 a) {e : Nat → va_E} {n T th : Nat} {S : Nat → UInt64} {M E : T2} {r : Nat → Nat} {nw od : Nat → UInt64} {cn bf : Nat → Int64} (h : RM cy a e n T th S M E r nw od cn bf) (hn : 1 ≤ n ∧ n ≤ 6) (hT : T ≤ 12) (hW : WB S M E) (hr4 : RW4 r) : Met l yX1_all wsX1_all ({ frames := 2, cells := 0, slots := 0, locals := 48 }) (gPc D clP cy 9 a e [.ref (a 0)]) (va_Qd (fun z e1 => (∃ nw1 od1, RM cy a e1 n T th S M E r nw1 od1 cn bf) ∧ z = fTot n S M E r T) (gB D clP 9 a) (wA 9 a)) 0 0 (wA 9 a) := by
  refine g_met (cc := cX1_all) (maxL := 4) (ret := (some .double)) (lv := [(0, .ref (a 0))]) (by decide) rfl (Nat.le_of_ble_eq_true rfl) rfl hi (fun k hk => ⟨k, hk, rfl⟩) ?_
  intro p en s m below meth c C hr hlocks
  have hin : ∀ w ∈ u_ws RX1 TX1 11, w ∈ wsX1_all := by decide +kernel
  have f_length := C.2.2.2.2.1 (.fieldLink RX1 43 "PathOddsModel" "length" "I") (by decide +kernel)
  have f_n := C.2.2.2.2.1 (.fieldLink RX1 36 "PathOddsModel" "n" "I") (by decide +kernel)
  have f_now := C.2.2.2.2.1 (.fieldLink RX1 23 "PathOddsModel" "now" "[D") (by decide +kernel)
  obtain ⟨h0, hS, hM, hE, hr0, hnw, hod, hcn, hbf⟩ := id h
  refine g_aload_n C dX1_all_0 rfl 0 rfl ?_
  refine g_get C 1 hin inl_pos1 (by decide) h0 (by decide) f_length rfl dX1_all_1 ?_
  refine g_if_ne (tgt := 9) C dX1_all_4 (by decide) (fun c1 => ?_) (fun c1 => ?_)
  · have hT0 : 0 < T := Nat.pos_of_ne_zero (fun q => c1 (by rw [q]; rfl))
    refine g_aload_n C dX1_all_9 rfl 0 rfl ?_
    refine g_aload_n C dX1_all_10 rfl 0 rfl ?_
    refine g_get C 1 hin inl_pos1 (by decide) h0 (by decide) f_length rfl dX1_all_11 ?_
    refine g_iconst (v := nI 1) C dX1_all_14 (by decide) ?_
    refine g_isub (v := nI (T - 1)) C dX1_all_15 (pk_sub (by omega)) ?_
    refine g_callv (As := [.int (nI (T - 1))]) (rest := []) C (cwV 1 C.2.2.2.2.1 gX1_all_X1_ahead rfl rfl rfl (by decide +kernel) ⟨Nat.le_of_ble_eq_true rfl, Nat.le_of_ble_eq_true rfl⟩) (c_X1_ahead l D cy a hi h hn hW hr4 (T - 1) (by omega)) (by decide) h0 inl_pos1 rfl rfl (Nat.le_of_ble_eq_true rfl) dX1_all_16 ⟨Nat.zero_le _, Nat.zero_le _⟩ (fun e1 he => ?_)
    obtain ⟨nw1, od1, h, hp⟩ := he
    obtain ⟨h0, hS, hM, hE, hr0, hnw, hod, hcn, hbf⟩ := id h
    refine g_dconst0 C dX1_all_19 ?_
    refine g_dstore_n (lv' := [(0, .ref (a 0)), (1, .double FP.dconst0)]) C dX1_all_20 rfl (by decide) [1, 0] rfl ?_
    refine g_iconst (v := nI 0) C dX1_all_21 (by decide) ?_
    refine g_istore_n (lv' := [(0, .ref (a 0)), (1, .double FP.dconst0), (3, .int (nI 0))]) C dX1_all_22 rfl (by decide) [1, 2, 0] rfl ?_
    have hb : ∀ q, q < n → mg 1202 ((fun j => nw1 j) q) := fun q hq => by show mg 1202 (nw1 q); rw [hp q hq]; exact mg_mono (fA_mg hn.2 hW hr4 (T - 1) q (by omega) (by omega)) (by omega)
    have L : ∀ (k : Nat) (i : Nat), i + k = n → GW p l en ({ frames := 2, cells := 0, slots := 0, locals := 48 }) s m ([.ref (a 0)] : List Value).toArray below meth c 0 0 (MQ below (va_Qd (fun z e1 => (∃ nw1 od1, RM cy a e1 n T th S M E r nw1 od1 cn bf) ∧ z = fTot n S M E r T) (gB D clP 9 a) (wA 9 a)) ([.ref (a 0)] : List Value).toArray s 0 0 (wA 9 a)) D clP 9 4 a (wA 9 a) e1 23 [(0, .ref (a 0)), (1, .double (fsm (fun j => nw1 j) i)), (3, .int (nI i))] [] := by
      intro k
      induction k with
      | zero =>
        intro i hk
        skip
        refine g_iload_n C dX1_all_23 rfl 2 rfl ?_
        refine g_aload_n C dX1_all_24 rfl 0 rfl ?_
        refine g_get C 0 hin inl_pos1 (by decide) h0 (by decide) f_n rfl dX1_all_25 ?_
        refine g_icmp_ge (tgt := 46) C dX1_all_28 (by decide) (fun c1 => ?_) (fun c1 => absurd c1 (fun q => q (nI_le (by omega) (by omega))))
        refine g_dload_n C dX1_all_46 rfl 1 rfl ?_
        exact g_dret C hr hlocks (⟨⟨nw1, od1, h⟩, by rw [fTot, if_neg (by omega), show i = n from by omega]; exact fsm_congr (fun q hq => hp q hq) n (Nat.le_refl n)⟩) dX1_all_47
      | succ k ih =>
        intro i hk
        skip
        refine g_iload_n C dX1_all_23 rfl 2 rfl ?_
        refine g_aload_n C dX1_all_24 rfl 0 rfl ?_
        refine g_get C 0 hin inl_pos1 (by decide) h0 (by decide) f_n rfl dX1_all_25 ?_
        refine g_icmp_ge (tgt := 46) C dX1_all_28 (by decide) (fun c1 => absurd c1 (nI_ge (by omega) (by omega))) (fun c1 => ?_)
        refine g_dload_n C dX1_all_31 rfl 1 rfl ?_
        refine g_aload_n C dX1_all_32 rfl 0 rfl ?_
        refine g_get C 7 hin inl_pos1 (by decide) h0 (by decide) f_now rfl dX1_all_33 ?_
        refine g_iload_n C dX1_all_36 rfl 2 rfl ?_
        refine g_dald C (by omega) hnw (by omega) (by decide) dX1_all_37 ?_
        refine g_dadd C dX1_all_38 (mg_n64 (mg_add (fsm_mg hb (by omega) (by omega) i (by omega)) (mg_mono (hb i (by omega)) (by omega)) (by omega)) (by omega)) ?_
        refine g_dstore_n (lv' := [(0, .ref (a 0)), (1, .double (FP.dadd (fsm (fun j => nw1 j) i) (nw1 i))), (3, .int (nI i))]) C dX1_all_39 rfl (by decide) [1, 0, 2] rfl ?_
        refine g_iinc (v := nI (i + 1)) (k := 2) (lv' := [(0, .ref (a 0)), (1, .double (FP.dadd (fsm (fun j => nw1 j) i) (nw1 i))), (3, .int (nI (i + 1)))]) C dX1_all_40 rfl (nI_inc i) (by decide) [1, 2, 0] rfl ?_
        refine g_goto (tgt := 23) C dX1_all_43 (by decide) ?_
        exact ih (i + 1) (by omega)
    exact L n 0 (by omega)
  · refine g_dconst1 C dX1_all_7 ?_
    exact g_dret C hr hlocks (⟨⟨nw, od, h⟩, by rw [fTot, if_pos ((nI_eq (by omega) (by decide)).mp c1)]⟩) dX1_all_8

set_option maxHeartbeats 4000000 in
set_option maxRecDepth 100000 in
theorem c_X1_total (l : Launch) (D : va_G) (cy : Nat → ClassId) (a : Nat → Nat) (hi : wInj 9 a) {e : Nat → va_E} {n T th : Nat} {S : Nat → UInt64} {M E : T2} {r : Nat → Nat} {nw od : Nat → UInt64} {cn bf : Nat → Int64} (h : RM cy a e n T th S M E r nw od cn bf) (hn : 1 ≤ n ∧ n ≤ 6) (hT : T ≤ 12) (hW : WB S M E) (hr4 : RW4 r) : Met l yX1_total wsX1_total ({ frames := 3, cells := 0, slots := 0, locals := 71 }) (gPc D clP cy 9 a e [.ref (a 0)]) (va_Qd (fun z e1 => (∃ nw1 od1, RM cy a e1 n T 0 S M E r nw1 od1 cn bf) ∧ z = fTot n S M E r T) (gB D clP 9 a) (wA 9 a)) 0 0 (wA 9 a) := by
  refine g_met (cc := cX1_total) (maxL := 1) (ret := (some .double)) (lv := [(0, .ref (a 0))]) (by decide) rfl (Nat.le_of_ble_eq_true rfl) rfl hi (fun k hk => ⟨k, hk, rfl⟩) ?_
  intro p en s m below meth c C hr hlocks
  have hin : ∀ w ∈ u_ws RX1 TX1 11, w ∈ wsX1_total := by decide +kernel
  have f_thrown := C.2.2.2.2.1 (.fieldLink RX1 40 "PathOddsModel" "thrown" "I") (by decide +kernel)
  obtain ⟨h0, hS, hM, hE, hr0, hnw, hod, hcn, hbf⟩ := id h
  refine g_aload_n C dX1_total_0 rfl 0 rfl ?_
  refine g_iconst (v := nI 0) C dX1_total_1 (by decide) ?_
  refine g_putE C 2 tyX1 tyX1_ok nmX1 hin inl_pos1 (by decide) h0 (by decide) f_thrown rfl (ty := .int) (by decide +kernel) rfl rfl (Nat.le_of_ble_eq_true rfl) dX1_total_2 (fun e2 he2 => ?_)
  have h : RM cy a e2 n T 0 S M E r nw od cn bf := by rw [he2]; exact RM_obj h rfl
  generalize e2 = e0 at h ⊢
  obtain ⟨h0, hS, hM, hE, hr0, hnw, hod, hcn, hbf⟩ := id h
  refine g_aload_n C dX1_total_5 rfl 0 rfl ?_
  refine g_calld (As := []) (rest := []) C (cwV 0 C.2.2.2.2.1 gX1_total_X1_all rfl rfl rfl (by decide +kernel) ⟨Nat.le_of_ble_eq_true rfl, Nat.le_of_ble_eq_true rfl⟩) (c_X1_all l D cy a hi h hn hT hW hr4) (by decide) h0 inl_pos1 rfl rfl (Nat.le_of_ble_eq_true rfl) dX1_total_6 ⟨Nat.zero_le _, Nat.zero_le _⟩ (fun z e1 hz => ?_)
  exact g_dret C hr hlocks (hz) dX1_total_9

set_option maxHeartbeats 4000000 in
set_option maxRecDepth 100000 in
theorem c_X1_best (l : Launch) (D : va_G) (cy : Nat → ClassId) (a : Nat → Nat) (hi : wInj 9 a) {e : Nat → va_E} {n T th : Nat} {S : Nat → UInt64} {M E : T2} {r : Nat → Nat} {nw od : Nat → UInt64} {cn bf : Nat → Int64} (h : RM cy a e n T th S M E r nw od cn bf) (hn : 1 ≤ n ∧ n ≤ 6) (hT : T ≤ 12) (hW : WB S M E) (hr4 : RW4 r) : Met l yX1_best wsX1_best ({ frames := 2, cells := 0, slots := 0, locals := 46 }) (gPc D clP cy 9 a e [.ref (a 0)]) (va_Qd (fun z e1 => (∃ nw1 od1, RM cy a e1 n T 0 S M E r nw1 od1 cn bf) ∧ z = fBest n S M E r T) (gB D clP 9 a) (wA 9 a)) 0 0 (wA 9 a) := by
  refine g_met (cc := cX1_best) (maxL := 1) (ret := (some .double)) (lv := [(0, .ref (a 0))]) (by decide) rfl (Nat.le_of_ble_eq_true rfl) rfl hi (fun k hk => ⟨k, hk, rfl⟩) ?_
  intro p en s m below meth c C hr hlocks
  have hin : ∀ w ∈ u_ws RX1 TX1 11, w ∈ wsX1_best := by decide +kernel
  have f_thrown := C.2.2.2.2.1 (.fieldLink RX1 40 "PathOddsModel" "thrown" "I") (by decide +kernel)
  have f_length := C.2.2.2.2.1 (.fieldLink RX1 43 "PathOddsModel" "length" "I") (by decide +kernel)
  have f_now := C.2.2.2.2.1 (.fieldLink RX1 23 "PathOddsModel" "now" "[D") (by decide +kernel)
  obtain ⟨h0, hS, hM, hE, hr0, hnw, hod, hcn, hbf⟩ := id h
  refine g_aload_n C dX1_best_0 rfl 0 rfl ?_
  refine g_iconst (v := nI 0) C dX1_best_1 (by decide) ?_
  refine g_putE C 2 tyX1 tyX1_ok nmX1 hin inl_pos1 (by decide) h0 (by decide) f_thrown rfl (ty := .int) (by decide +kernel) rfl rfl (Nat.le_of_ble_eq_true rfl) dX1_best_2 (fun e2 he2 => ?_)
  have h : RM cy a e2 n T 0 S M E r nw od cn bf := by rw [he2]; exact RM_obj h rfl
  generalize e2 = e0 at h ⊢
  obtain ⟨h0, hS, hM, hE, hr0, hnw, hod, hcn, hbf⟩ := id h
  refine g_aload_n C dX1_best_5 rfl 0 rfl ?_
  refine g_get C 1 hin inl_pos1 (by decide) h0 (by decide) f_length rfl dX1_best_6 ?_
  refine g_if_ne (tgt := 14) C dX1_best_9 (by decide) (fun c1 => ?_) (fun c1 => ?_)
  · have hT0 : 0 < T := Nat.pos_of_ne_zero (fun q => c1 (by rw [q]; rfl))
    refine g_aload_n C dX1_best_14 rfl 0 rfl ?_
    refine g_aload_n C dX1_best_15 rfl 0 rfl ?_
    refine g_get C 1 hin inl_pos1 (by decide) h0 (by decide) f_length rfl dX1_best_16 ?_
    refine g_iconst (v := nI 1) C dX1_best_19 (by decide) ?_
    refine g_isub (v := nI (T - 1)) C dX1_best_20 (pk_sub (by omega)) ?_
    refine g_callv (As := [.int (nI (T - 1))]) (rest := []) C (cwV 1 C.2.2.2.2.1 gX1_best_X1_greatest rfl rfl rfl (by decide +kernel) ⟨Nat.le_of_ble_eq_true rfl, Nat.le_of_ble_eq_true rfl⟩) (c_X1_greatest l D cy a hi h hn hW hr4 (T - 1) (by omega)) (by decide) h0 inl_pos1 rfl rfl (Nat.le_of_ble_eq_true rfl) dX1_best_21 ⟨Nat.zero_le _, Nat.zero_le _⟩ (fun e1 he => ?_)
    obtain ⟨nw1, od1, h, hp⟩ := he
    obtain ⟨h0, hS, hM, hE, hr0, hnw, hod, hcn, hbf⟩ := id h
    refine g_aload_n C dX1_best_24 rfl 0 rfl ?_
    refine g_get C 7 hin inl_pos1 (by decide) h0 (by decide) f_now rfl dX1_best_25 ?_
    refine g_aload_n C dX1_best_28 rfl 0 rfl ?_
    refine g_calli (As := []) (rest := [.ref (a 5)]) C (cwV 0 C.2.2.2.2.1 gX1_best_X1_last rfl rfl rfl (by decide +kernel) ⟨Nat.le_of_ble_eq_true rfl, Nat.le_of_ble_eq_true rfl⟩) (c_X1_last l D cy a hi h hn) (by decide) h0 inl_pos1 rfl rfl (Nat.le_of_ble_eq_true rfl) dX1_best_29 ⟨Nat.zero_le _, Nat.zero_le _⟩ (fun z e2 hz => ?_)
    rw [hz.1]
    obtain ⟨-, hz⟩ := hz
    have hc := am_congr (n := n) (f := fun j => nw1 j) (g := fun j => fV n S M E r (T - 1) j) (by omega) (fun i hi1 => hp i hi1) n (Nat.le_refl n)
    rw [hc] at hz
    subst hz
    have ha := am_lt (fun j => fV n S M E r (T - 1) j) n (by omega)
    refine g_dald C (by omega) hnw (by omega) (by decide) dX1_best_32 ?_
    exact g_dret C hr hlocks (⟨⟨nw1, od1, h⟩, by rw [fBest, if_neg (by omega)]; exact hp _ ha⟩) dX1_best_33
  · refine g_dconst1 C dX1_best_12 ?_
    exact g_dret C hr hlocks (⟨⟨nw, od, h⟩, by rw [fBest, if_pos ((nI_eq (by omega) (by decide)).mp c1)]⟩) dX1_best_13

set_option maxHeartbeats 4000000 in
set_option maxRecDepth 100000 in
theorem c_X1_bestState (l : Launch) (D : va_G) (cy : Nat → ClassId) (a : Nat → Nat) (hi : wInj 9 a) {e : Nat → va_E} {n T th : Nat} {S : Nat → UInt64} {M E : T2} {r : Nat → Nat} {nw od : Nat → UInt64} {cn bf : Nat → Int64} (h : RM cy a e n T th S M E r nw od cn bf) (hn : 1 ≤ n ∧ n ≤ 6) (hT : T ≤ 12) (hW : WB S M E) (hr4 : RW4 r) (x : Int32) : Met l yX1_bestState wsX1_bestState ({ frames := 2, cells := 0, slots := 0, locals := 46 }) (gPc D clP cy 9 a e [.ref (a 0), .int x]) (va_Qi (fun z e1 => (∃ nw1 od1, RM cy a e1 n T 0 S M E r nw1 od1 cn bf) ∧ ((∃ t, t < T ∧ x = nI t ∧ z = nI (fH n S M E r T (T - 1 - t))) ∨ (¬ (∃ t, t < T ∧ x = nI t) ∧ z = -1))) (gB D clP 9 a) (wA 9 a)) 0 0 (wA 9 a) := by
  refine g_met (cc := cX1_bestState) (maxL := 4) (ret := (some .int)) (lv := [(0, .ref (a 0)), (1, .int x)]) (by decide) rfl (Nat.le_of_ble_eq_true rfl) rfl hi (fun k hk => ⟨k, hk, rfl⟩) ?_
  intro p en s m below meth c C hr hlocks
  have hin : ∀ w ∈ u_ws RX1 TX1 11, w ∈ wsX1_bestState := by decide +kernel
  have f_thrown := C.2.2.2.2.1 (.fieldLink RX1 40 "PathOddsModel" "thrown" "I") (by decide +kernel)
  have f_length := C.2.2.2.2.1 (.fieldLink RX1 43 "PathOddsModel" "length" "I") (by decide +kernel)
  obtain ⟨h0, hS, hM, hE, hr0, hnw, hod, hcn, hbf⟩ := id h
  refine g_aload_n C dX1_bestState_0 rfl 0 rfl ?_
  refine g_iconst (v := nI 0) C dX1_bestState_1 (by decide) ?_
  refine g_putE C 2 tyX1 tyX1_ok nmX1 hin inl_pos1 (by decide) h0 (by decide) f_thrown rfl (ty := .int) (by decide +kernel) rfl rfl (Nat.le_of_ble_eq_true rfl) dX1_bestState_2 (fun e2 he2 => ?_)
  have h : RM cy a e2 n T 0 S M E r nw od cn bf := by rw [he2]; exact RM_obj h rfl
  generalize e2 = e0 at h ⊢
  obtain ⟨h0, hS, hM, hE, hr0, hnw, hod, hcn, hbf⟩ := id h
  refine g_iload_n C dX1_bestState_5 rfl 1 rfl ?_
  refine g_if_lt (tgt := 17) C dX1_bestState_6 (by decide) (fun c1 => ?_) (fun c1 => ?_)
  · refine g_iconst (v := -1) C dX1_bestState_17 (by decide) ?_
    exact g_iret C hr hlocks (⟨⟨nw, od, h⟩, Or.inr ⟨inB_neg (by omega) c1, rfl⟩⟩) dX1_bestState_18
  · refine g_iload_n C dX1_bestState_9 rfl 1 rfl ?_
    refine g_aload_n C dX1_bestState_10 rfl 0 rfl ?_
    refine g_get C 1 hin inl_pos1 (by decide) h0 (by decide) f_length rfl dX1_bestState_11 ?_
    refine g_icmp_lt (tgt := 19) C dX1_bestState_14 (by decide) (fun c2 => ?_) (fun c2 => ?_)
    · obtain ⟨t0, h_t, rfl⟩ : ∃ t, t < T ∧ x = nI t := inB_in (by omega) c1 (fun q => absurd c2 (by rw [Int32.lt_iff_toInt_lt]; rw [Int32.le_iff_toInt_le] at q; omega))
      refine g_aload_n C dX1_bestState_19 rfl 0 rfl ?_
      refine g_aload_n C dX1_bestState_20 rfl 0 rfl ?_
      refine g_get C 1 hin inl_pos1 (by decide) h0 (by decide) f_length rfl dX1_bestState_21 ?_
      refine g_iconst (v := nI 1) C dX1_bestState_24 (by decide) ?_
      refine g_isub (v := nI (T - 1)) C dX1_bestState_25 (pk_sub (by omega)) ?_
      refine g_callv (As := [.int (nI (T - 1))]) (rest := []) C (cwV 1 C.2.2.2.2.1 gX1_bestState_X1_greatest rfl rfl rfl (by decide +kernel) ⟨Nat.le_of_ble_eq_true rfl, Nat.le_of_ble_eq_true rfl⟩) (c_X1_greatest l D cy a hi h hn hW hr4 (T - 1) (by omega)) (by decide) h0 inl_pos1 rfl rfl (Nat.le_of_ble_eq_true rfl) dX1_bestState_26 ⟨Nat.zero_le _, Nat.zero_le _⟩ (fun e1 he => ?_)
      obtain ⟨nw1, od1, h, hp⟩ := he
      obtain ⟨h0, hS, hM, hE, hr0, hnw, hod, hcn, hbf⟩ := id h
      refine g_aload_n C dX1_bestState_29 rfl 0 rfl ?_
      refine g_calli (As := []) (rest := []) C (cwV 0 C.2.2.2.2.1 gX1_bestState_X1_last rfl rfl rfl (by decide +kernel) ⟨Nat.le_of_ble_eq_true rfl, Nat.le_of_ble_eq_true rfl⟩) (c_X1_last l D cy a hi h hn) (by decide) h0 inl_pos1 rfl rfl (Nat.le_of_ble_eq_true rfl) dX1_bestState_30 ⟨Nat.zero_le _, Nat.zero_le _⟩ (fun z e2 hz => ?_)
      rw [hz.1]
      obtain ⟨-, hz⟩ := hz
      have hc := am_congr (n := n) (f := fun j => nw1 j) (g := fun j => fV n S M E r (T - 1) j) (by omega) (fun i hi1 => hp i hi1) n (Nat.le_refl n)
      rw [hc] at hz
      have hz : z = nI (fH n S M E r T 0) := hz
      subst hz
      refine g_istore_n (lv' := [(0, .ref (a 0)), (1, .int (nI t0)), (2, .int (nI (fH n S M E r T 0)))]) C dX1_bestState_33 rfl (by decide) [1, 2, 0] rfl ?_
      refine g_aload_n C dX1_bestState_34 rfl 0 rfl ?_
      refine g_get C 1 hin inl_pos1 (by decide) h0 (by decide) f_length rfl dX1_bestState_35 ?_
      refine g_iconst (v := nI 1) C dX1_bestState_38 (by decide) ?_
      refine g_isub (v := nI (T - 1)) C dX1_bestState_39 (pk_sub (by omega)) ?_
      refine g_istore_n (lv' := [(0, .ref (a 0)), (1, .int (nI t0)), (2, .int (nI (fH n S M E r T 0))), (3, .int (nI (T - 1)))]) C dX1_bestState_40 rfl (by decide) [1, 2, 3, 0] rfl ?_
      have L : ∀ (k : Nat) (d : Nat) (e : Nat → va_E) (nw5 od5 : Nat → UInt64), d + k = T - 1 - t0 → RM cy a e n T 0 S M E r nw5 od5 cn bf → GW p l en ({ frames := 2, cells := 0, slots := 0, locals := 46 }) s m ([.ref (a 0), .int (nI t0)] : List Value).toArray below meth c 0 0 (MQ below (va_Qi (fun z e1 => (∃ nw1 od1, RM cy a e1 n T 0 S M E r nw1 od1 cn bf) ∧ ((∃ t, t < T ∧ nI t0 = nI t ∧ z = nI (fH n S M E r T (T - 1 - t))) ∨ (¬ (∃ t, t < T ∧ nI t0 = nI t) ∧ z = -1))) (gB D clP 9 a) (wA 9 a)) ([.ref (a 0), .int (nI t0)] : List Value).toArray s 0 0 (wA 9 a)) D clP 9 4 a (wA 9 a) e 41 [(0, .ref (a 0)), (1, .int (nI t0)), (2, .int (nI (fH n S M E r T d))), (3, .int (nI (T - 1 - d)))] [] := by
        intro k
        induction k with
        | zero =>
          intro d e nw5 od5 hk h
          obtain ⟨h0, hS, hM, hE, hr0, hnw, hod, hcn, hbf⟩ := id h
          refine g_iload_n C dX1_bestState_41 rfl 3 rfl ?_
          refine g_iload_n C dX1_bestState_42 rfl 1 rfl ?_
          refine g_icmp_le (tgt := 69) C dX1_bestState_43 (by decide) (fun c1 => ?_) (fun c1 => absurd c1 (fun q => q (nI_le (by omega) (by omega))))
          refine g_iload_n C dX1_bestState_69 rfl 2 rfl ?_
          exact g_iret C hr hlocks (⟨⟨nw5, od5, h⟩, Or.inl ⟨t0, h_t, rfl, by rw [show T - 1 - t0 = d by omega]⟩⟩) dX1_bestState_70
        | succ k ih =>
          intro d e nw5 od5 hk h
          obtain ⟨h0, hS, hM, hE, hr0, hnw, hod, hcn, hbf⟩ := id h
          have hl := fH_lt (n := n) (by omega) S M E r T d
          refine g_iload_n C dX1_bestState_41 rfl 3 rfl ?_
          refine g_iload_n C dX1_bestState_42 rfl 1 rfl ?_
          refine g_icmp_le (tgt := 69) C dX1_bestState_43 (by decide) (fun c1 => absurd c1 (nI_ge (by omega) (by omega))) (fun c1 => ?_)
          refine g_aload_n C dX1_bestState_46 rfl 0 rfl ?_
          refine g_iload_n C dX1_bestState_47 rfl 3 rfl ?_
          refine g_iconst (v := nI 1) C dX1_bestState_48 (by decide) ?_
          refine g_isub (v := nI ((T - 1 - d) - 1)) C dX1_bestState_49 (pk_sub (by omega)) ?_
          refine g_callv (As := [.int (nI ((T - 1 - d) - 1))]) (rest := []) C (cwV 1 C.2.2.2.2.1 gX1_bestState_X1_greatest rfl rfl rfl (by decide +kernel) ⟨Nat.le_of_ble_eq_true rfl, Nat.le_of_ble_eq_true rfl⟩) (c_X1_greatest l D cy a hi h hn hW hr4 (T - 1 - d - 1) (by omega)) (by decide) h0 inl_pos1 rfl rfl (Nat.le_of_ble_eq_true rfl) dX1_bestState_50 ⟨Nat.zero_le _, Nat.zero_le _⟩ (fun e1 he => ?_)
          obtain ⟨nw6, od6, h, hp6⟩ := he
          obtain ⟨h0, hS, hM, hE, hr0, hnw, hod, hcn, hbf⟩ := id h
          refine g_aload_n C dX1_bestState_53 rfl 0 rfl ?_
          refine g_callv (As := []) (rest := []) C (cwV 0 C.2.2.2.2.1 gX1_bestState_X1_shift rfl rfl rfl (by decide +kernel) ⟨Nat.le_of_ble_eq_true rfl, Nat.le_of_ble_eq_true rfl⟩) (c_X1_shift l D cy a hi h) (by decide) h0 inl_pos1 rfl rfl (Nat.le_of_ble_eq_true rfl) dX1_bestState_54 ⟨Nat.zero_le _, Nat.zero_le _⟩ (fun e2 h => ?_)
          obtain ⟨h0, hS, hM, hE, hr0, hnw, hod, hcn, hbf⟩ := id h
          refine g_aload_n C dX1_bestState_57 rfl 0 rfl ?_
          refine g_iload_n C dX1_bestState_58 rfl 2 rfl ?_
          refine g_calli (As := [.int (nI (fH n S M E r T d))]) (rest := []) C (cwV 1 C.2.2.2.2.1 gX1_bestState_X1_from rfl rfl rfl (by decide +kernel) ⟨Nat.le_of_ble_eq_true rfl, Nat.le_of_ble_eq_true rfl⟩) (c_X1_from l D cy a hi h hn (fH n S M E r T d) hl hW (K := 1202) (by omega) (fun q hq => by rw [hp6 q hq]; exact mg_mono (fV_mg (by omega) hn.2 hW hr4 _ q (by omega) (by omega)) (by omega))) (by decide) h0 inl_pos1 rfl rfl (Nat.le_of_ble_eq_true rfl) dX1_bestState_59 ⟨Nat.zero_le _, Nat.zero_le _⟩ (fun z e3 hz => ?_)
          rw [hz.1]
          obtain ⟨-, hz⟩ := hz
          have hz : z = nI (fH n S M E r T (d + 1)) := by rw [hz, fG_step (V := fun _ => nw6) (E := E) (S := S) (r := r) (t := T - 1 - d) (by omega) (fun q hq => hp6 q hq)]; rfl
          subst hz
          refine g_istore_n (lv' := [(0, .ref (a 0)), (1, .int (nI t0)), (2, .int (nI (fH n S M E r T (d + 1)))), (3, .int (nI (T - 1 - d)))]) C dX1_bestState_62 rfl (by decide) [1, 2, 0, 3] rfl ?_
          refine g_iinc (v := nI (T - 1 - (d + 1))) (k := 3) (lv' := [(0, .ref (a 0)), (1, .int (nI t0)), (2, .int (nI (fH n S M E r T (d + 1)))), (3, .int (nI (T - 1 - (d + 1))))]) C dX1_bestState_63 rfl (by rw [nI_dec (by omega), show T - 1 - d - 1 = T - 1 - (d + 1) by omega]) (by decide) [1, 2, 3, 0] rfl ?_
          refine g_goto (tgt := 41) C dX1_bestState_66 (by decide) ?_
          exact ih (d + 1) e2 nw6 nw6 (by omega) h
      exact L (T - 1 - t0) 0 e1 nw1 od1 (by omega) h
    · refine g_iconst (v := -1) C dX1_bestState_17 (by decide) ?_
      exact g_iret C hr hlocks (⟨⟨nw, od, h⟩, Or.inr ⟨inB_big (by omega) (by rw [Int32.le_iff_toInt_le]; rw [Int32.lt_iff_toInt_lt] at c2; omega), rfl⟩⟩) dX1_bestState_18

set_option maxHeartbeats 4000000 in
set_option maxRecDepth 100000 in
theorem c_X1_forward (l : Launch) (D : va_G) (cy : Nat → ClassId) (a : Nat → Nat) (hi : wInj 9 a) {e : Nat → va_E} {n T th : Nat} {S : Nat → UInt64} {M E : T2} {r : Nat → Nat} {nw od : Nat → UInt64} {cn bf : Nat → Int64} (h : RM cy a e n T th S M E r nw od cn bf) (hn : 1 ≤ n ∧ n ≤ 6) (hT : T ≤ 12) (hW : WB S M E) (hr4 : RW4 r) (x x2 : Int32) : Met l yX1_forward wsX1_forward ({ frames := 2, cells := 0, slots := 0, locals := 48 }) (gPc D clP cy 9 a e [.ref (a 0), .int x, .int x2]) (va_Qd (fun z e1 => ∃ th1, (∃ nw1 od1, RM cy a e1 n T th1 S M E r nw1 od1 cn bf) ∧ ((th1 = 1 ∧ ¬ (∃ t, t < T ∧ x = nI t)) ∨ (th1 = 2 ∧ (∃ t, t < T ∧ x = nI t) ∧ ¬ (∃ i, i < n ∧ x2 = nI i)) ∨ (th1 = 0 ∧ ∃ t i, t < T ∧ i < n ∧ x = nI t ∧ x2 = nI i ∧ z = fA n S M E r t i))) (gB D clP 9 a) (wA 9 a)) 0 0 (wA 9 a) := by
  refine g_met (cc := cX1_forward) (maxL := 3) (ret := (some .double)) (lv := [(0, .ref (a 0)), (1, .int x), (2, .int x2)]) (by decide) rfl (Nat.le_of_ble_eq_true rfl) rfl hi (fun k hk => ⟨k, hk, rfl⟩) ?_
  intro p en s m below meth c C hr hlocks
  have hin : ∀ w ∈ u_ws RX1 TX1 11, w ∈ wsX1_forward := by decide +kernel
  have f_thrown := C.2.2.2.2.1 (.fieldLink RX1 40 "PathOddsModel" "thrown" "I") (by decide +kernel)
  have f_now := C.2.2.2.2.1 (.fieldLink RX1 23 "PathOddsModel" "now" "[D") (by decide +kernel)
  obtain ⟨h0, hS, hM, hE, hr0, hnw, hod, hcn, hbf⟩ := id h
  refine g_aload_n C dX1_forward_0 rfl 0 rfl ?_
  refine g_aload_n C dX1_forward_1 rfl 0 rfl ?_
  refine g_iload_n C dX1_forward_2 rfl 1 rfl ?_
  refine g_iload_n C dX1_forward_3 rfl 2 rfl ?_
  refine g_calli (As := [.int x, .int x2]) (rest := [.ref (a 0)]) C (cwV 2 C.2.2.2.2.1 gX1_forward_X1_fault rfl rfl rfl (by decide +kernel) ⟨Nat.le_of_ble_eq_true rfl, Nat.le_of_ble_eq_true rfl⟩) (c_X1_fault l D cy a hi h (by omega) hT x x2) (by decide) h0 inl_pos1 rfl rfl (Nat.le_of_ble_eq_true rfl) dX1_forward_4 ⟨Nat.zero_le _, Nat.zero_le _⟩ (fun z e1 hz => ?_)
  rw [hz.1]
  rcases hz.2 with ⟨rfl, hno⟩ | ⟨rfl, hpl, hno⟩ | ⟨rfl, ⟨t0, ht0, rfl⟩, ⟨i0, hi0, rfl⟩⟩
  · refine g_putE C 2 tyX1 tyX1_ok nmX1 hin inl_pos1 (by decide) h0 (by decide) f_thrown rfl (ty := .int) (by decide +kernel) rfl rfl (Nat.le_of_ble_eq_true rfl) dX1_forward_7 (fun e2 he2 => ?_)
    have h : RM cy a e2 n T 1 S M E r nw od cn bf := by rw [he2]; exact RM_obj h rfl
    obtain ⟨h0, hS, hM, hE, hr0, hnw, hod, hcn, hbf⟩ := id h
    refine g_aload_n C dX1_forward_10 rfl 0 rfl ?_
    refine g_get C 2 hin inl_pos1 (by decide) h0 (by decide) f_thrown rfl dX1_forward_11 ?_
    refine g_if_le (tgt := 19) C dX1_forward_14 (by decide) (fun c1 => absurd c1 (by decide)) (fun c1 => ?_)
    refine g_dconst0 C dX1_forward_17 ?_
    exact g_dret C hr hlocks (⟨1, ⟨nw, od, h⟩, Or.inl ⟨rfl, hno⟩⟩) dX1_forward_18
  · refine g_putE C 2 tyX1 tyX1_ok nmX1 hin inl_pos1 (by decide) h0 (by decide) f_thrown rfl (ty := .int) (by decide +kernel) rfl rfl (Nat.le_of_ble_eq_true rfl) dX1_forward_7 (fun e2 he2 => ?_)
    have h : RM cy a e2 n T 2 S M E r nw od cn bf := by rw [he2]; exact RM_obj h rfl
    obtain ⟨h0, hS, hM, hE, hr0, hnw, hod, hcn, hbf⟩ := id h
    refine g_aload_n C dX1_forward_10 rfl 0 rfl ?_
    refine g_get C 2 hin inl_pos1 (by decide) h0 (by decide) f_thrown rfl dX1_forward_11 ?_
    refine g_if_le (tgt := 19) C dX1_forward_14 (by decide) (fun c1 => absurd c1 (by decide)) (fun c1 => ?_)
    refine g_dconst0 C dX1_forward_17 ?_
    exact g_dret C hr hlocks (⟨2, ⟨nw, od, h⟩, Or.inr (Or.inl ⟨rfl, hpl, hno⟩)⟩) dX1_forward_18
  · refine g_putE C 2 tyX1 tyX1_ok nmX1 hin inl_pos1 (by decide) h0 (by decide) f_thrown rfl (ty := .int) (by decide +kernel) rfl rfl (Nat.le_of_ble_eq_true rfl) dX1_forward_7 (fun e2 he2 => ?_)
    have h : RM cy a e2 n T 0 S M E r nw od cn bf := by rw [he2]; exact RM_obj h rfl
    obtain ⟨h0, hS, hM, hE, hr0, hnw, hod, hcn, hbf⟩ := id h
    refine g_aload_n C dX1_forward_10 rfl 0 rfl ?_
    refine g_get C 2 hin inl_pos1 (by decide) h0 (by decide) f_thrown rfl dX1_forward_11 ?_
    refine g_if_le (tgt := 19) C dX1_forward_14 (by decide) (fun c1 => ?_) (fun c1 => absurd c1 (fun q => q (by decide)))
    refine g_aload_n C dX1_forward_19 rfl 0 rfl ?_
    refine g_iload_n C dX1_forward_20 rfl 1 rfl ?_
    refine g_callv (As := [.int (nI t0)]) (rest := []) C (cwV 1 C.2.2.2.2.1 gX1_forward_X1_ahead rfl rfl rfl (by decide +kernel) ⟨Nat.le_of_ble_eq_true rfl, Nat.le_of_ble_eq_true rfl⟩) (c_X1_ahead l D cy a hi h hn hW hr4 t0 (by omega)) (by decide) h0 inl_pos1 rfl rfl (Nat.le_of_ble_eq_true rfl) dX1_forward_21 ⟨Nat.zero_le _, Nat.zero_le _⟩ (fun e3 he => ?_)
    obtain ⟨nw1, od1, h, hp⟩ := he
    obtain ⟨h0, hS, hM, hE, hr0, hnw, hod, hcn, hbf⟩ := id h
    refine g_aload_n C dX1_forward_24 rfl 0 rfl ?_
    refine g_get C 7 hin inl_pos1 (by decide) h0 (by decide) f_now rfl dX1_forward_25 ?_
    refine g_iload_n C dX1_forward_28 rfl 2 rfl ?_
    refine g_dald C (by omega) hnw (by omega) (by decide) dX1_forward_29 ?_
    exact g_dret C hr hlocks (⟨0, ⟨nw1, od1, h⟩, Or.inr (Or.inr ⟨rfl, t0, i0, ht0, hi0, rfl, rfl, hp i0 hi0⟩)⟩) dX1_forward_30

set_option maxHeartbeats 4000000 in
set_option maxRecDepth 100000 in
theorem c_X1_backward (l : Launch) (D : va_G) (cy : Nat → ClassId) (a : Nat → Nat) (hi : wInj 9 a) {e : Nat → va_E} {n T th : Nat} {S : Nat → UInt64} {M E : T2} {r : Nat → Nat} {nw od : Nat → UInt64} {cn bf : Nat → Int64} (h : RM cy a e n T th S M E r nw od cn bf) (hn : 1 ≤ n ∧ n ≤ 6) (hT : T ≤ 12) (hW : WB S M E) (hr4 : RW4 r) (x x2 : Int32) : Met l yX1_backward wsX1_backward ({ frames := 2, cells := 0, slots := 0, locals := 48 }) (gPc D clP cy 9 a e [.ref (a 0), .int x, .int x2]) (va_Qd (fun z e1 => ∃ th1, (∃ nw1 od1, RM cy a e1 n T th1 S M E r nw1 od1 cn bf) ∧ ((th1 = 1 ∧ ¬ (∃ t, t < T ∧ x = nI t)) ∨ (th1 = 2 ∧ (∃ t, t < T ∧ x = nI t) ∧ ¬ (∃ i, i < n ∧ x2 = nI i)) ∨ (th1 = 0 ∧ ∃ t i, t < T ∧ i < n ∧ x = nI t ∧ x2 = nI i ∧ z = fB n M E r T (T - 1 - t) i))) (gB D clP 9 a) (wA 9 a)) 0 0 (wA 9 a) := by
  refine g_met (cc := cX1_backward) (maxL := 3) (ret := (some .double)) (lv := [(0, .ref (a 0)), (1, .int x), (2, .int x2)]) (by decide) rfl (Nat.le_of_ble_eq_true rfl) rfl hi (fun k hk => ⟨k, hk, rfl⟩) ?_
  intro p en s m below meth c C hr hlocks
  have hin : ∀ w ∈ u_ws RX1 TX1 11, w ∈ wsX1_backward := by decide +kernel
  have f_thrown := C.2.2.2.2.1 (.fieldLink RX1 40 "PathOddsModel" "thrown" "I") (by decide +kernel)
  have f_now := C.2.2.2.2.1 (.fieldLink RX1 23 "PathOddsModel" "now" "[D") (by decide +kernel)
  obtain ⟨h0, hS, hM, hE, hr0, hnw, hod, hcn, hbf⟩ := id h
  refine g_aload_n C dX1_backward_0 rfl 0 rfl ?_
  refine g_aload_n C dX1_backward_1 rfl 0 rfl ?_
  refine g_iload_n C dX1_backward_2 rfl 1 rfl ?_
  refine g_iload_n C dX1_backward_3 rfl 2 rfl ?_
  refine g_calli (As := [.int x, .int x2]) (rest := [.ref (a 0)]) C (cwV 2 C.2.2.2.2.1 gX1_backward_X1_fault rfl rfl rfl (by decide +kernel) ⟨Nat.le_of_ble_eq_true rfl, Nat.le_of_ble_eq_true rfl⟩) (c_X1_fault l D cy a hi h (by omega) hT x x2) (by decide) h0 inl_pos1 rfl rfl (Nat.le_of_ble_eq_true rfl) dX1_backward_4 ⟨Nat.zero_le _, Nat.zero_le _⟩ (fun z e1 hz => ?_)
  rw [hz.1]
  rcases hz.2 with ⟨rfl, hno⟩ | ⟨rfl, hpl, hno⟩ | ⟨rfl, ⟨t0, ht0, rfl⟩, ⟨i0, hi0, rfl⟩⟩
  · refine g_putE C 2 tyX1 tyX1_ok nmX1 hin inl_pos1 (by decide) h0 (by decide) f_thrown rfl (ty := .int) (by decide +kernel) rfl rfl (Nat.le_of_ble_eq_true rfl) dX1_backward_7 (fun e2 he2 => ?_)
    have h : RM cy a e2 n T 1 S M E r nw od cn bf := by rw [he2]; exact RM_obj h rfl
    obtain ⟨h0, hS, hM, hE, hr0, hnw, hod, hcn, hbf⟩ := id h
    refine g_aload_n C dX1_backward_10 rfl 0 rfl ?_
    refine g_get C 2 hin inl_pos1 (by decide) h0 (by decide) f_thrown rfl dX1_backward_11 ?_
    refine g_if_le (tgt := 19) C dX1_backward_14 (by decide) (fun c1 => absurd c1 (by decide)) (fun c1 => ?_)
    refine g_dconst0 C dX1_backward_17 ?_
    exact g_dret C hr hlocks (⟨1, ⟨nw, od, h⟩, Or.inl ⟨rfl, hno⟩⟩) dX1_backward_18
  · refine g_putE C 2 tyX1 tyX1_ok nmX1 hin inl_pos1 (by decide) h0 (by decide) f_thrown rfl (ty := .int) (by decide +kernel) rfl rfl (Nat.le_of_ble_eq_true rfl) dX1_backward_7 (fun e2 he2 => ?_)
    have h : RM cy a e2 n T 2 S M E r nw od cn bf := by rw [he2]; exact RM_obj h rfl
    obtain ⟨h0, hS, hM, hE, hr0, hnw, hod, hcn, hbf⟩ := id h
    refine g_aload_n C dX1_backward_10 rfl 0 rfl ?_
    refine g_get C 2 hin inl_pos1 (by decide) h0 (by decide) f_thrown rfl dX1_backward_11 ?_
    refine g_if_le (tgt := 19) C dX1_backward_14 (by decide) (fun c1 => absurd c1 (by decide)) (fun c1 => ?_)
    refine g_dconst0 C dX1_backward_17 ?_
    exact g_dret C hr hlocks (⟨2, ⟨nw, od, h⟩, Or.inr (Or.inl ⟨rfl, hpl, hno⟩)⟩) dX1_backward_18
  · refine g_putE C 2 tyX1 tyX1_ok nmX1 hin inl_pos1 (by decide) h0 (by decide) f_thrown rfl (ty := .int) (by decide +kernel) rfl rfl (Nat.le_of_ble_eq_true rfl) dX1_backward_7 (fun e2 he2 => ?_)
    have h : RM cy a e2 n T 0 S M E r nw od cn bf := by rw [he2]; exact RM_obj h rfl
    obtain ⟨h0, hS, hM, hE, hr0, hnw, hod, hcn, hbf⟩ := id h
    refine g_aload_n C dX1_backward_10 rfl 0 rfl ?_
    refine g_get C 2 hin inl_pos1 (by decide) h0 (by decide) f_thrown rfl dX1_backward_11 ?_
    refine g_if_le (tgt := 19) C dX1_backward_14 (by decide) (fun c1 => ?_) (fun c1 => absurd c1 (fun q => q (by decide)))
    refine g_aload_n C dX1_backward_19 rfl 0 rfl ?_
    refine g_iload_n C dX1_backward_20 rfl 1 rfl ?_
    refine g_callv (As := [.int (nI t0)]) (rest := []) C (cwV 1 C.2.2.2.2.1 gX1_backward_X1_behind rfl rfl rfl (by decide +kernel) ⟨Nat.le_of_ble_eq_true rfl, Nat.le_of_ble_eq_true rfl⟩) (c_X1_behind l D cy a hi h hn hW hr4 hT t0 ht0) (by decide) h0 inl_pos1 rfl rfl (Nat.le_of_ble_eq_true rfl) dX1_backward_21 ⟨Nat.zero_le _, Nat.zero_le _⟩ (fun e3 he => ?_)
    obtain ⟨nw1, od1, h, hp⟩ := he
    obtain ⟨h0, hS, hM, hE, hr0, hnw, hod, hcn, hbf⟩ := id h
    refine g_aload_n C dX1_backward_24 rfl 0 rfl ?_
    refine g_get C 7 hin inl_pos1 (by decide) h0 (by decide) f_now rfl dX1_backward_25 ?_
    refine g_iload_n C dX1_backward_28 rfl 2 rfl ?_
    refine g_dald C (by omega) hnw (by omega) (by decide) dX1_backward_29 ?_
    exact g_dret C hr hlocks (⟨0, ⟨nw1, od1, h⟩, Or.inr (Or.inr ⟨rfl, t0, i0, ht0, hi0, rfl, rfl, hp i0 hi0⟩)⟩) dX1_backward_30

theorem fTot_mg {n T : Nat} {S : Nat → UInt64} {M E : T2} {r : Nat → Nat} (hn : n ≤ 6) (hT : T ≤ 12) (hW : WB S M E) (hr : RW4 r) : mg 1214 (fTot n S M E r T) := by
  unfold fTot
  by_cases h : T = 0
  · rw [if_pos h]
    exact mg_mono mg_1 (by decide)
  · rw [if_neg h]
    exact mg_mono (fsm_mg (K := 1202) (fun i hi => mg_mono (fA_mg hn hW hr (T - 1) i (by omega) (by omega)) (by omega)) (by omega) (by omega) n (Nat.le_refl n)) (by omega)

set_option maxHeartbeats 4000000 in
set_option maxRecDepth 100000 in
theorem c_X1_share (l : Launch) (D : va_G) (cy : Nat → ClassId) (a : Nat → Nat) (hi : wInj 9 a) {e : Nat → va_E} {n T th : Nat} {S : Nat → UInt64} {M E : T2} {r : Nat → Nat} {nw od : Nat → UInt64} {cn bf : Nat → Int64} (h : RM cy a e n T th S M E r nw od cn bf) (hn : 1 ≤ n ∧ n ≤ 6) (hT : T ≤ 12) (hW : WB S M E) (hr4 : RW4 r) (x x2 : Int32) : Met l yX1_share wsX1_share ({ frames := 3, cells := 0, slots := 0, locals := 71 }) (gPc D clP cy 9 a e [.ref (a 0), .int x, .int x2]) (va_Qd (fun z e1 => ∃ th1, (∃ nw1 od1, RM cy a e1 n T th1 S M E r nw1 od1 cn bf) ∧ ((th1 = 1 ∧ ¬ (∃ t, t < T ∧ x = nI t)) ∨ (th1 = 2 ∧ (∃ t, t < T ∧ x = nI t) ∧ ¬ (∃ i, i < n ∧ x2 = nI i)) ∨ (th1 = 3 ∧ (∃ t, t < T ∧ x = nI t) ∧ (∃ i, i < n ∧ x2 = nI i) ∧ Op.cmpValue (FP.dcmp (fTot n S M E r T) FP.dconst0) CmpOp.l = 0) ∨ (th1 = 0 ∧ ¬ Op.cmpValue (FP.dcmp (fTot n S M E r T) FP.dconst0) CmpOp.l = 0 ∧ ∃ t i, t < T ∧ i < n ∧ x = nI t ∧ x2 = nI i ∧ z = FP.ddiv (FP.dmul (fA n S M E r t i) (fB n M E r T (T - 1 - t) i)) (fTot n S M E r T)))) (gB D clP 9 a) (wA 9 a)) 0 0 (wA 9 a) := by
  refine g_met (cc := cX1_share) (maxL := 7) (ret := (some .double)) (lv := [(0, .ref (a 0)), (1, .int x), (2, .int x2)]) (by decide) rfl (Nat.le_of_ble_eq_true rfl) rfl hi (fun k hk => ⟨k, hk, rfl⟩) ?_
  intro p en s m below meth c C hr hlocks
  have hin : ∀ w ∈ u_ws RX1 TX1 11, w ∈ wsX1_share := by decide +kernel
  have f_thrown := C.2.2.2.2.1 (.fieldLink RX1 40 "PathOddsModel" "thrown" "I") (by decide +kernel)
  have f_now := C.2.2.2.2.1 (.fieldLink RX1 23 "PathOddsModel" "now" "[D") (by decide +kernel)
  obtain ⟨h0, hS, hM, hE, hr0, hnw, hod, hcn, hbf⟩ := id h
  refine g_aload_n C dX1_share_0 rfl 0 rfl ?_
  refine g_aload_n C dX1_share_1 rfl 0 rfl ?_
  refine g_iload_n C dX1_share_2 rfl 1 rfl ?_
  refine g_iload_n C dX1_share_3 rfl 2 rfl ?_
  refine g_calli (As := [.int x, .int x2]) (rest := [.ref (a 0)]) C (cwV 2 C.2.2.2.2.1 gX1_share_X1_fault rfl rfl rfl (by decide +kernel) ⟨Nat.le_of_ble_eq_true rfl, Nat.le_of_ble_eq_true rfl⟩) (c_X1_fault l D cy a hi h (by omega) hT x x2) (by decide) h0 inl_pos1 rfl rfl (Nat.le_of_ble_eq_true rfl) dX1_share_4 ⟨Nat.zero_le _, Nat.zero_le _⟩ (fun z e1 hz => ?_)
  rw [hz.1]
  rcases hz.2 with ⟨rfl, hno⟩ | ⟨rfl, hpl, hno⟩ | ⟨rfl, ⟨t0, ht0, rfl⟩, ⟨i0, hi0, rfl⟩⟩
  · refine g_putE C 2 tyX1 tyX1_ok nmX1 hin inl_pos1 (by decide) h0 (by decide) f_thrown rfl (ty := .int) (by decide +kernel) rfl rfl (Nat.le_of_ble_eq_true rfl) dX1_share_7 (fun e2 he2 => ?_)
    have h : RM cy a e2 n T 1 S M E r nw od cn bf := by rw [he2]; exact RM_obj h rfl
    obtain ⟨h0, hS, hM, hE, hr0, hnw, hod, hcn, hbf⟩ := id h
    refine g_aload_n C dX1_share_10 rfl 0 rfl ?_
    refine g_get C 2 hin inl_pos1 (by decide) h0 (by decide) f_thrown rfl dX1_share_11 ?_
    refine g_if_le (tgt := 19) C dX1_share_14 (by decide) (fun c1 => absurd c1 (by decide)) (fun c1 => ?_)
    refine g_dconst0 C dX1_share_17 ?_
    exact g_dret C hr hlocks (⟨1, ⟨nw, od, h⟩, Or.inl ⟨rfl, hno⟩⟩) dX1_share_18
  · refine g_putE C 2 tyX1 tyX1_ok nmX1 hin inl_pos1 (by decide) h0 (by decide) f_thrown rfl (ty := .int) (by decide +kernel) rfl rfl (Nat.le_of_ble_eq_true rfl) dX1_share_7 (fun e2 he2 => ?_)
    have h : RM cy a e2 n T 2 S M E r nw od cn bf := by rw [he2]; exact RM_obj h rfl
    obtain ⟨h0, hS, hM, hE, hr0, hnw, hod, hcn, hbf⟩ := id h
    refine g_aload_n C dX1_share_10 rfl 0 rfl ?_
    refine g_get C 2 hin inl_pos1 (by decide) h0 (by decide) f_thrown rfl dX1_share_11 ?_
    refine g_if_le (tgt := 19) C dX1_share_14 (by decide) (fun c1 => absurd c1 (by decide)) (fun c1 => ?_)
    refine g_dconst0 C dX1_share_17 ?_
    exact g_dret C hr hlocks (⟨2, ⟨nw, od, h⟩, Or.inr (Or.inl ⟨rfl, hpl, hno⟩)⟩) dX1_share_18
  · refine g_putE C 2 tyX1 tyX1_ok nmX1 hin inl_pos1 (by decide) h0 (by decide) f_thrown rfl (ty := .int) (by decide +kernel) rfl rfl (Nat.le_of_ble_eq_true rfl) dX1_share_7 (fun e2 he2 => ?_)
    have h : RM cy a e2 n T 0 S M E r nw od cn bf := by rw [he2]; exact RM_obj h rfl
    obtain ⟨h0, hS, hM, hE, hr0, hnw, hod, hcn, hbf⟩ := id h
    refine g_aload_n C dX1_share_10 rfl 0 rfl ?_
    refine g_get C 2 hin inl_pos1 (by decide) h0 (by decide) f_thrown rfl dX1_share_11 ?_
    refine g_if_le (tgt := 19) C dX1_share_14 (by decide) (fun c1 => ?_) (fun c1 => absurd c1 (fun q => q (by decide)))
    refine g_aload_n C dX1_share_19 rfl 0 rfl ?_
    refine g_calld (As := []) (rest := []) C (cwV 0 C.2.2.2.2.1 gX1_share_X1_all rfl rfl rfl (by decide +kernel) ⟨Nat.le_of_ble_eq_true rfl, Nat.le_of_ble_eq_true rfl⟩) (c_X1_all l D cy a hi h hn hT hW hr4) (by decide) h0 inl_pos1 rfl rfl (Nat.le_of_ble_eq_true rfl) dX1_share_20 ⟨Nat.zero_le _, Nat.zero_le _⟩ (fun z e3 hz => ?_)
    obtain ⟨⟨nw1, od1, h⟩, rfl⟩ := hz
    obtain ⟨h0, hS, hM, hE, hr0, hnw, hod, hcn, hbf⟩ := id h
    refine g_dstore_n (lv' := [(0, .ref (a 0)), (1, .int (nI t0)), (2, .int (nI i0)), (3, .double (fTot n S M E r T))]) C dX1_share_23 rfl (by decide) [1, 2, 3, 0] rfl ?_
    refine g_dload_n C dX1_share_24 rfl 3 rfl ?_
    refine g_dconst0 C dX1_share_25 ?_
    refine g_dcmp C dX1_share_26 ?_
    refine g_if_ne (tgt := 37) C dX1_share_27 (by decide) (fun c2 => ?_) (fun c2 => ?_)
    · refine g_aload_n C dX1_share_37 rfl 0 rfl ?_
      refine g_iload_n C dX1_share_38 rfl 1 rfl ?_
      refine g_callv (As := [.int (nI t0)]) (rest := []) C (cwV 1 C.2.2.2.2.1 gX1_share_X1_ahead rfl rfl rfl (by decide +kernel) ⟨Nat.le_of_ble_eq_true rfl, Nat.le_of_ble_eq_true rfl⟩) (c_X1_ahead l D cy a hi h hn hW hr4 t0 (by omega)) (by decide) h0 inl_pos1 rfl rfl (Nat.le_of_ble_eq_true rfl) dX1_share_39 ⟨Nat.zero_le _, Nat.zero_le _⟩ (fun e4 he => ?_)
      obtain ⟨nw2, od2, h, hp⟩ := he
      obtain ⟨h0, hS, hM, hE, hr0, hnw, hod, hcn, hbf⟩ := id h
      refine g_aload_n C dX1_share_42 rfl 0 rfl ?_
      refine g_get C 7 hin inl_pos1 (by decide) h0 (by decide) f_now rfl dX1_share_43 ?_
      refine g_iload_n C dX1_share_46 rfl 2 rfl ?_
      refine g_dald C (by omega) hnw (by omega) (by decide) dX1_share_47 ?_
      rw [hp i0 hi0]
      refine g_dstore (lv' := [(0, .ref (a 0)), (1, .int (nI t0)), (2, .int (nI i0)), (3, .double (fTot n S M E r T)), (5, .double (fA n S M E r t0 i0))]) C dX1_share_48 (by decide) [1, 2, 3, 4, 0] rfl ?_
      refine g_aload_n C dX1_share_50 rfl 0 rfl ?_
      refine g_iload_n C dX1_share_51 rfl 1 rfl ?_
      refine g_callv (As := [.int (nI t0)]) (rest := []) C (cwV 1 C.2.2.2.2.1 gX1_share_X1_behind rfl rfl rfl (by decide +kernel) ⟨Nat.le_of_ble_eq_true rfl, Nat.le_of_ble_eq_true rfl⟩) (c_X1_behind l D cy a hi h hn hW hr4 hT t0 ht0) (by decide) h0 inl_pos1 rfl rfl (Nat.le_of_ble_eq_true rfl) dX1_share_52 ⟨Nat.zero_le _, Nat.zero_le _⟩ (fun e5 he => ?_)
      obtain ⟨nw3, od3, h, hp3⟩ := he
      obtain ⟨h0, hS, hM, hE, hr0, hnw, hod, hcn, hbf⟩ := id h
      refine g_dload C dX1_share_55 4 rfl ?_
      refine g_aload_n C dX1_share_57 rfl 0 rfl ?_
      refine g_get C 7 hin inl_pos1 (by decide) h0 (by decide) f_now rfl dX1_share_58 ?_
      refine g_iload_n C dX1_share_61 rfl 2 rfl ?_
      refine g_dald C (by omega) hnw (by omega) (by decide) dX1_share_62 ?_
      rw [hp3 i0 hi0]
      have hm := mg_mul (fA_mg hn.2 hW hr4 t0 i0 (by omega) (by omega)) (fB_mg (S := S) hn.2 hT hW hr4 (T - 1 - t0) i0 (by omega) (by omega)) (by omega) (by omega)
      refine g_dmul C dX1_share_63 (mg_n64 hm (by omega)) ?_
      refine g_dload_n C dX1_share_64 rfl 3 rfl ?_
      refine g_ddiv C dX1_share_65 (div_n64 hm (fTot_mg hn.2 hT hW hr4) (by omega) (by decide) (ne0_of (fTot_mg hn.2 hT hW hr4) (by decide) c2)) ?_
      exact g_dret C hr hlocks (⟨0, ⟨nw3, od3, h⟩, Or.inr (Or.inr (Or.inr ⟨rfl, c2, t0, i0, ht0, hi0, rfl, rfl, rfl⟩))⟩) dX1_share_66
    · refine g_aload_n C dX1_share_30 rfl 0 rfl ?_
      refine g_iconst (v := nI 3) C dX1_share_31 (by decide) ?_
      refine g_putE C 2 tyX1 tyX1_ok nmX1 hin inl_pos1 (by decide) h0 (by decide) f_thrown rfl (ty := .int) (by decide +kernel) rfl rfl (Nat.le_of_ble_eq_true rfl) dX1_share_32 (fun e2 he2 => ?_)
      have h : RM cy a e2 n T 3 S M E r nw1 od1 cn bf := by rw [he2]; exact RM_obj h rfl
      obtain ⟨h0, hS, hM, hE, hr0, hnw, hod, hcn, hbf⟩ := id h
      refine g_dconst0 C dX1_share_35 ?_
      exact g_dret C hr hlocks (⟨3, ⟨nw1, od1, h⟩, Or.inr (Or.inr (Or.inl ⟨rfl, ⟨t0, ht0, rfl⟩, ⟨i0, hi0, rfl⟩, c2⟩))⟩) dX1_share_36

theorem fC_model {n : Nat} {S : Nat → UInt64} {M E : T2} {r : Nat → Nat} {bf : Nat → Int64} {u j : Nat} (hu : 0 < u) (hp : ∀ q, q < n → bf q = fC n S M E r (u - 1) q) : csm (fun i => gtD (M i j) FP.dconst0 && gtD (E j (r u)) FP.dconst0) bf n = fC n S M E r u j := by
  obtain ⟨w, rfl⟩ : ∃ w, u = w + 1 := ⟨u - 1, by omega⟩
  show _ = if gtD (E j (r (w + 1))) FP.dconst0 = true then csm (fun i => gtD (M i j) FP.dconst0) (fC n S M E r w) n else 0
  by_cases hg : gtD (E j (r (w + 1))) FP.dconst0 = true
  · rw [if_pos hg]
    exact csm_congr (fun i _ => by rw [hg, Bool.and_true]) hp n (Nat.le_refl n)
  · rw [if_neg hg]
    have hf : gtD (E j (r (w + 1))) FP.dconst0 = false := by simpa using hg
    rw [csm_congr (d := fun _ => false) (g := bf) (fun i _ => by rw [hf, Bool.and_false]) (fun _ _ => rfl) n (Nat.le_refl n), csm_none]

set_option maxHeartbeats 4000000 in
set_option maxRecDepth 100000 in
theorem c_X1_possible (l : Launch) (D : va_G) (cy : Nat → ClassId) (a : Nat → Nat) (hi : wInj 9 a) {e : Nat → va_E} {n T th : Nat} {S : Nat → UInt64} {M E : T2} {r : Nat → Nat} {nw od : Nat → UInt64} {cn bf : Nat → Int64} (h : RM cy a e n T th S M E r nw od cn bf) (hn : 1 ≤ n ∧ n ≤ 6) (hT : T ≤ 12) (hr4 : RW4 r) : Met l yX1_possible wsX1_possible ({ frames := 1, cells := 0, slots := 0, locals := 22 }) (gPc D clP cy 9 a e [.ref (a 0)]) (va_Ql (fun z e1 => (∃ cn1 bf1, RM cy a e1 n T 0 S M E r nw od cn1 bf1) ∧ z = fPos n S M E r T) (gB D clP 9 a) (wA 9 a)) 0 0 (wA 9 a) := by
  refine g_met (cc := cX1_possible) (maxL := 4) (ret := (some .long)) (lv := [(0, .ref (a 0))]) (by decide) rfl (Nat.le_of_ble_eq_true rfl) rfl hi (fun k hk => ⟨k, hk, rfl⟩) ?_
  intro p en s m below meth c C hr hlocks
  have hin : ∀ w ∈ u_ws RX1 TX1 11, w ∈ wsX1_possible := by decide +kernel
  have f_thrown := C.2.2.2.2.1 (.fieldLink RX1 40 "PathOddsModel" "thrown" "I") (by decide +kernel)
  have f_length := C.2.2.2.2.1 (.fieldLink RX1 43 "PathOddsModel" "length" "I") (by decide +kernel)
  have f_counts := C.2.2.2.2.1 (.fieldLink RX1 29 "PathOddsModel" "counts" "[J") (by decide +kernel)
  have f_n := C.2.2.2.2.1 (.fieldLink RX1 36 "PathOddsModel" "n" "I") (by decide +kernel)
  have f_starts := C.2.2.2.2.1 (.fieldLink RX1 7 "PathOddsModel" "starts" "[D") (by decide +kernel)
  have f_before := C.2.2.2.2.1 (.fieldLink RX1 33 "PathOddsModel" "before" "[J") (by decide +kernel)
  have f_moves := C.2.2.2.2.1 (.fieldLink RX1 13 "PathOddsModel" "moves" "[D") (by decide +kernel)
  obtain ⟨h0, hS, hM, hE, hr0, hnw, hod, hcn, hbf⟩ := id h
  refine g_aload_n C dX1_possible_0 rfl 0 rfl ?_
  refine g_iconst (v := nI 0) C dX1_possible_1 (by decide) ?_
  refine g_putE C 2 tyX1 tyX1_ok nmX1 hin inl_pos1 (by decide) h0 (by decide) f_thrown rfl (ty := .int) (by decide +kernel) rfl rfl (Nat.le_of_ble_eq_true rfl) dX1_possible_2 (fun e2 he2 => ?_)
  have h : RM cy a e2 n T 0 S M E r nw od cn bf := by rw [he2]; exact RM_obj h rfl
  generalize e2 = e0 at h ⊢
  obtain ⟨h0, hS, hM, hE, hr0, hnw, hod, hcn, hbf⟩ := id h
  refine g_aload_n C dX1_possible_5 rfl 0 rfl ?_
  refine g_get C 1 hin inl_pos1 (by decide) h0 (by decide) f_length rfl dX1_possible_6 ?_
  refine g_if_ne (tgt := 14) C dX1_possible_9 (by decide) (fun c1 => ?_) (fun c1 => ?_)
  · have hT0 : 0 < T := Nat.pos_of_ne_zero (fun q => c1 (by rw [q]; rfl))
    have K1 : ∀ (k : Nat) (u : Nat) (e : Nat → va_E) (cn5 bf5 : Nat → Int64), 1 ≤ u → u + k = T → RM cy a e n T 0 S M E r nw od cn5 bf5 → (∀ q, q < n → cn5 q = fC n S M E r (u - 1) q) → GW p l en ({ frames := 1, cells := 0, slots := 0, locals := 22 }) s m ([.ref (a 0)] : List Value).toArray below meth c 0 0 (MQ below (va_Ql (fun z e1 => (∃ cn1 bf1, RM cy a e1 n T 0 S M E r nw od cn1 bf1) ∧ z = fPos n S M E r T) (gB D clP 9 a) (wA 9 a)) ([.ref (a 0)] : List Value).toArray s 0 0 (wA 9 a)) D clP 9 4 a (wA 9 a) e 71 [(0, .ref (a 0)), (1, .int (nI u))] [] := by
      intro k
      induction k with
      | zero =>
        intro u e cn5 bf5 hu hk h hp
        obtain ⟨h0, hS, hM, hE, hr0, hnw, hod, hcn, hbf⟩ := id h
        refine g_iload_n C dX1_possible_71 rfl 1 rfl ?_
        refine g_aload_n C dX1_possible_72 rfl 0 rfl ?_
        refine g_get C 1 hin inl_pos1 (by decide) h0 (by decide) f_length rfl dX1_possible_73 ?_
        refine g_icmp_ge (tgt := 196) C dX1_possible_76 (by decide) (fun c1 => ?_) (fun c1 => absurd c1 (fun q => q (nI_le (by omega) (by omega))))
        refine g_lconst (v := 0) C dX1_possible_196 (by decide) ?_
        refine g_lstore_n (lv' := [(0, .ref (a 0)), (1, .long 0)]) C dX1_possible_197 rfl (by decide) [1, 0] rfl ?_
        refine g_iconst (v := nI 0) C dX1_possible_198 (by decide) ?_
        refine g_istore_n (lv' := [(0, .ref (a 0)), (1, .long 0), (3, .int (nI 0))]) C dX1_possible_199 rfl (by decide) [1, 2, 0] rfl ?_
        have LS : ∀ (k : Nat) (i : Nat), i + k = n → GW p l en ({ frames := 1, cells := 0, slots := 0, locals := 22 }) s m ([.ref (a 0)] : List Value).toArray below meth c 0 0 (MQ below (va_Ql (fun z e1 => (∃ cn1 bf1, RM cy a e1 n T 0 S M E r nw od cn1 bf1) ∧ z = fPos n S M E r T) (gB D clP 9 a) (wA 9 a)) ([.ref (a 0)] : List Value).toArray s 0 0 (wA 9 a)) D clP 9 4 a (wA 9 a) e 200 [(0, .ref (a 0)), (1, .long (lsm (fun j => cn5 j) i)), (3, .int (nI i))] [] := by
          intro k
          induction k with
          | zero =>
            intro i hk
            skip
            refine g_iload_n C dX1_possible_200 rfl 2 rfl ?_
            refine g_aload_n C dX1_possible_201 rfl 0 rfl ?_
            refine g_get C 0 hin inl_pos1 (by decide) h0 (by decide) f_n rfl dX1_possible_202 ?_
            refine g_icmp_ge (tgt := 223) C dX1_possible_205 (by decide) (fun c1 => ?_) (fun c1 => absurd c1 (fun q => q (nI_le (by omega) (by omega))))
            refine g_lload_n C dX1_possible_223 rfl 1 rfl ?_
            exact g_lret C hr hlocks (⟨⟨cn5, bf5, h⟩, by rw [fPos, if_neg (by omega), show i = n from by omega]; exact lsm_congr (fun q hq => by show cn5 q = _; rw [hp q hq, show u = T from by omega]) n (Nat.le_refl n)⟩) dX1_possible_224
          | succ k ih =>
            intro i hk
            skip
            refine g_iload_n C dX1_possible_200 rfl 2 rfl ?_
            refine g_aload_n C dX1_possible_201 rfl 0 rfl ?_
            refine g_get C 0 hin inl_pos1 (by decide) h0 (by decide) f_n rfl dX1_possible_202 ?_
            refine g_icmp_ge (tgt := 223) C dX1_possible_205 (by decide) (fun c1 => absurd c1 (nI_ge (by omega) (by omega))) (fun c1 => ?_)
            refine g_lload_n C dX1_possible_208 rfl 1 rfl ?_
            refine g_aload_n C dX1_possible_209 rfl 0 rfl ?_
            refine g_get C 9 hin inl_pos1 (by decide) h0 (by decide) f_counts rfl dX1_possible_210 ?_
            refine g_iload_n C dX1_possible_213 rfl 2 rfl ?_
            refine g_lald C (by omega) hcn (by omega) (by decide) dX1_possible_214 ?_
            refine g_ladd C dX1_possible_215 ?_
            refine g_lstore_n (lv' := [(0, .ref (a 0)), (1, .long ((lsm (fun j => cn5 j) i) + (cn5 i))), (3, .int (nI i))]) C dX1_possible_216 rfl (by decide) [1, 0, 2] rfl ?_
            refine g_iinc (v := nI (i + 1)) (k := 2) (lv' := [(0, .ref (a 0)), (1, .long ((lsm (fun j => cn5 j) i) + (cn5 i))), (3, .int (nI (i + 1)))]) C dX1_possible_217 rfl (nI_inc i) (by decide) [1, 2, 0] rfl ?_
            refine g_goto (tgt := 200) C dX1_possible_220 (by decide) ?_
            exact ih (i + 1) (by omega)
        refine g_pick (lv' := [(0, .ref (a 0)), (1, .long 0), (3, .int (nI 0))]) [0, 1, 2] rfl ?_
        exact LS n 0 (by omega)
      | succ k ih =>
        intro u e cn5 bf5 hu hk h hp
        obtain ⟨h0, hS, hM, hE, hr0, hnw, hod, hcn, hbf⟩ := id h
        refine g_iload_n C dX1_possible_71 rfl 1 rfl ?_
        refine g_aload_n C dX1_possible_72 rfl 0 rfl ?_
        refine g_get C 1 hin inl_pos1 (by decide) h0 (by decide) f_length rfl dX1_possible_73 ?_
        refine g_icmp_ge (tgt := 196) C dX1_possible_76 (by decide) (fun c1 => absurd c1 (nI_ge (by omega) (by omega))) (fun c1 => ?_)
        have hru : r u < 4 := hr4 u (by omega)
        refine g_iconst (v := nI 0) C dX1_possible_79 (by decide) ?_
        refine g_istore_n (lv' := [(0, .ref (a 0)), (1, .int (nI u)), (2, .int (nI 0))]) C dX1_possible_80 rfl (by decide) [1, 2, 0] rfl ?_
        have L2 : ∀ (k2 : Nat) (j : Nat) (e : Nat → va_E) (cn6 bf6 : Nat → Int64), j + k2 = n → RM cy a e n T 0 S M E r nw od cn6 bf6 → (∀ q, q < n → bf6 q = fC n S M E r (u - 1) q) → (∀ q, q < j → cn6 q = fC n S M E r u q) → GW p l en ({ frames := 1, cells := 0, slots := 0, locals := 22 }) s m ([.ref (a 0)] : List Value).toArray below meth c 0 0 (MQ below (va_Ql (fun z e1 => (∃ cn1 bf1, RM cy a e1 n T 0 S M E r nw od cn1 bf1) ∧ z = fPos n S M E r T) (gB D clP 9 a) (wA 9 a)) ([.ref (a 0)] : List Value).toArray s 0 0 (wA 9 a)) D clP 9 4 a (wA 9 a) e 107 [(0, .ref (a 0)), (1, .int (nI u)), (2, .int (nI j))] [] := by
          intro k2
          induction k2 with
          | zero =>
            intro j e cn6 bf6 hk2 h hb6 hpj
            obtain ⟨h0, hS, hM, hE, hr0, hnw, hod, hcn, hbf⟩ := id h
            refine g_iload_n C dX1_possible_107 rfl 2 rfl ?_
            refine g_aload_n C dX1_possible_108 rfl 0 rfl ?_
            refine g_get C 0 hin inl_pos1 (by decide) h0 (by decide) f_n rfl dX1_possible_109 ?_
            refine g_icmp_ge (tgt := 190) C dX1_possible_112 (by decide) (fun c1 => ?_) (fun c1 => absurd c1 (fun q => q (nI_le (by omega) (by omega))))
            refine g_iinc (v := nI (u + 1)) (k := 1) (lv' := [(0, .ref (a 0)), (1, .int (nI (u + 1))), (2, .int (nI j))]) C dX1_possible_190 rfl (nI_inc u) (by decide) [1, 0, 2] rfl ?_
            refine g_goto (tgt := 71) C dX1_possible_193 (by decide) ?_
            refine g_pick (lv' := [(0, .ref (a 0)), (1, .int (nI (u + 1)))]) [0, 1] rfl ?_
            exact ih (u + 1) e cn6 bf6 (by omega) (by omega) h (fun q hq => hpj q (by omega))
          | succ k2 ih2 =>
            intro j e cn6 bf6 hk2 h hb6 hpj
            obtain ⟨h0, hS, hM, hE, hr0, hnw, hod, hcn, hbf⟩ := id h
            refine g_iload_n C dX1_possible_107 rfl 2 rfl ?_
            refine g_aload_n C dX1_possible_108 rfl 0 rfl ?_
            refine g_get C 0 hin inl_pos1 (by decide) h0 (by decide) f_n rfl dX1_possible_109 ?_
            refine g_icmp_ge (tgt := 190) C dX1_possible_112 (by decide) (fun c1 => absurd c1 (nI_ge (by omega) (by omega))) (fun c1 => ?_)
            refine g_aload_n C dX1_possible_115 rfl 0 rfl ?_
            refine g_get C 9 hin inl_pos1 (by decide) h0 (by decide) f_counts rfl dX1_possible_116 ?_
            refine g_iload_n C dX1_possible_119 rfl 2 rfl ?_
            refine g_lconst (v := 0) C dX1_possible_120 (by decide) ?_
            refine g_last C (by omega) hcn (by omega) (by decide) dX1_possible_121 (fun y hy => ?_)
            have h := RM_cn h hy
            generalize va_up e 7 y = e at h ⊢
            generalize hcE : va_up cn6 j 0 = cn7 at h
            have hc0 : cn7 j = 0 := by rw [← hcE, va_up_self]
            have hc1 : ∀ q, q < j → cn7 q = fC n S M E r u q := fun q hq => by rw [← hcE, va_up_ne _ _ (by omega)]; exact hpj q hq
            obtain ⟨h0, hS, hM, hE, hr0, hnw, hod, hcn, hbf⟩ := id h
            refine g_iconst (v := nI 0) C dX1_possible_122 (by decide) ?_
            refine g_istore_n (lv' := [(0, .ref (a 0)), (1, .int (nI u)), (2, .int (nI j)), (3, .int (nI 0))]) C dX1_possible_123 rfl (by decide) [1, 2, 3, 0] rfl ?_
            have L3 : ∀ (k3 : Nat) (i : Nat) (e : Nat → va_E) (cn8 : Nat → Int64), i + k3 = n → RM cy a e n T 0 S M E r nw od cn8 bf6 → cn8 j = csm (fun i => gtD (M i j) FP.dconst0 && gtD (E j (r u)) FP.dconst0) bf6 i → (∀ q, q < j → cn8 q = fC n S M E r u q) → GW p l en ({ frames := 1, cells := 0, slots := 0, locals := 22 }) s m ([.ref (a 0)] : List Value).toArray below meth c 0 0 (MQ below (va_Ql (fun z e1 => (∃ cn1 bf1, RM cy a e1 n T 0 S M E r nw od cn1 bf1) ∧ z = fPos n S M E r T) (gB D clP 9 a) (wA 9 a)) ([.ref (a 0)] : List Value).toArray s 0 0 (wA 9 a)) D clP 9 4 a (wA 9 a) e 124 [(0, .ref (a 0)), (1, .int (nI u)), (2, .int (nI j)), (3, .int (nI i))] [] := by
              intro k3
              induction k3 with
              | zero =>
                intro i e cn8 hk3 h hci hcq
                obtain ⟨h0, hS, hM, hE, hr0, hnw, hod, hcn, hbf⟩ := id h
                refine g_iload_n C dX1_possible_124 rfl 3 rfl ?_
                refine g_aload_n C dX1_possible_125 rfl 0 rfl ?_
                refine g_get C 0 hin inl_pos1 (by decide) h0 (by decide) f_n rfl dX1_possible_126 ?_
                refine g_icmp_ge (tgt := 184) C dX1_possible_129 (by decide) (fun c1 => ?_) (fun c1 => absurd c1 (fun q => q (nI_le (by omega) (by omega))))
                refine g_iinc (v := nI (j + 1)) (k := 2) (lv' := [(0, .ref (a 0)), (1, .int (nI u)), (2, .int (nI (j + 1))), (3, .int (nI i))]) C dX1_possible_184 rfl (nI_inc j) (by decide) [1, 2, 0, 3] rfl ?_
                refine g_goto (tgt := 107) C dX1_possible_187 (by decide) ?_
                refine g_pick (lv' := [(0, .ref (a 0)), (1, .int (nI u)), (2, .int (nI (j + 1)))]) [0, 1, 2] rfl ?_
                exact ih2 (j + 1) e cn8 bf6 (by omega) h hb6 (fun q hq => by
                  by_cases hqj : q = j
                  · subst hqj; rw [hci, show i = n from by omega]; exact fC_model (by omega) hb6
                  · exact hcq q (by omega))
              | succ k3 ih3 =>
                intro i e cn8 hk3 h hci hcq
                obtain ⟨h0, hS, hM, hE, hr0, hnw, hod, hcn, hbf⟩ := id h
                refine g_iload_n C dX1_possible_124 rfl 3 rfl ?_
                refine g_aload_n C dX1_possible_125 rfl 0 rfl ?_
                refine g_get C 0 hin inl_pos1 (by decide) h0 (by decide) f_n rfl dX1_possible_126 ?_
                refine g_icmp_ge (tgt := 184) C dX1_possible_129 (by decide) (fun c1 => absurd c1 (nI_ge (by omega) (by omega))) (fun c1 => ?_)
                refine g_aload_n C dX1_possible_132 rfl 0 rfl ?_
                refine g_get C 4 hin inl_pos1 (by decide) h0 (by decide) f_moves rfl dX1_possible_133 ?_
                refine g_bipush (v := nI 6) C dX1_possible_136 (by decide) ?_
                refine g_iload_n C dX1_possible_138 rfl 3 rfl ?_
                refine g_imul (v := nI (6 * i)) C dX1_possible_139 (pk_mul 6 i) ?_
                refine g_iload_n C dX1_possible_140 rfl 2 rfl ?_
                refine g_iadd (v := nI ((6 * i) + j)) C dX1_possible_141 (nI_add (6 * i) j) ?_
                refine g_dald2 (i := i) (j := j) C (by omega) hM (by omega) (by omega) (by decide) dX1_possible_142 ?_
                refine g_dconst0 C dX1_possible_143 ?_
                refine g_dcmp C dX1_possible_144 ?_
                refine g_if_le (tgt := 178) C dX1_possible_145 (by decide) (fun c2 => ?_) (fun c2 => ?_)
                · refine g_iinc (v := nI (i + 1)) (k := 3) (lv' := [(0, .ref (a 0)), (1, .int (nI u)), (2, .int (nI j)), (3, .int (nI (i + 1)))]) C dX1_possible_178 rfl (nI_inc i) (by decide) [1, 2, 3, 0] rfl ?_
                  refine g_goto (tgt := 124) C dX1_possible_181 (by decide) ?_
                  exact ih3 (i + 1) e cn8 (by omega) h (by rw [hci]; exact (if_neg (by show ¬ (gtD (M i j) FP.dconst0 && gtD (E j (r u)) FP.dconst0) = true; rw [gtD_f c2]; simp)).symm) hcq
                · refine g_aload_n C dX1_possible_148 rfl 0 rfl ?_
                  refine g_iload_n C dX1_possible_149 rfl 2 rfl ?_
                  refine g_iload_n C dX1_possible_150 rfl 1 rfl ?_
                  refine g_calld (As := [.int (nI j), .int (nI u)]) (rest := []) C (cwV 2 C.2.2.2.2.1 gX1_possible_X1_shown rfl rfl rfl (by decide +kernel) ⟨Nat.le_of_ble_eq_true rfl, Nat.le_of_ble_eq_true rfl⟩) (c_X1_shown l D cy a hi h j u (by omega) (by omega) hr4) (by decide) h0 inl_pos1 rfl rfl (Nat.le_of_ble_eq_true rfl) dX1_possible_151 ⟨Nat.zero_le _, Nat.zero_le _⟩ (fun z e1 hz => ?_)
                  rw [hz.1]
                  obtain ⟨-, rfl⟩ := hz
                  refine g_dconst0 C dX1_possible_154 ?_
                  refine g_dcmp C dX1_possible_155 ?_
                  refine g_if_le (tgt := 178) C dX1_possible_156 (by decide) (fun c3 => ?_) (fun c3 => ?_)
                  · refine g_iinc (v := nI (i + 1)) (k := 3) (lv' := [(0, .ref (a 0)), (1, .int (nI u)), (2, .int (nI j)), (3, .int (nI (i + 1)))]) C dX1_possible_178 rfl (nI_inc i) (by decide) [1, 2, 3, 0] rfl ?_
                    refine g_goto (tgt := 124) C dX1_possible_181 (by decide) ?_
                    exact ih3 (i + 1) e cn8 (by omega) h (by rw [hci]; exact (if_neg (by show ¬ (gtD (M i j) FP.dconst0 && gtD (E j (r u)) FP.dconst0) = true; rw [gtD_f c3]; simp)).symm) hcq
                  · refine g_aload_n C dX1_possible_159 rfl 0 rfl ?_
                    refine g_get C 9 hin inl_pos1 (by decide) h0 (by decide) f_counts rfl dX1_possible_160 ?_
                    refine g_iload_n C dX1_possible_163 rfl 2 rfl ?_
                    refine g_aload_n C dX1_possible_164 rfl 0 rfl ?_
                    refine g_get C 9 hin inl_pos1 (by decide) h0 (by decide) f_counts rfl dX1_possible_165 ?_
                    refine g_iload_n C dX1_possible_168 rfl 2 rfl ?_
                    refine g_lald C (by omega) hcn (by omega) (by decide) dX1_possible_169 ?_
                    refine g_aload_n C dX1_possible_170 rfl 0 rfl ?_
                    refine g_get C 10 hin inl_pos1 (by decide) h0 (by decide) f_before rfl dX1_possible_171 ?_
                    refine g_iload_n C dX1_possible_174 rfl 3 rfl ?_
                    refine g_lald C (by omega) hbf (by omega) (by decide) dX1_possible_175 ?_
                    refine g_ladd C dX1_possible_176 ?_
                    refine g_last C (by omega) hcn (by omega) (by decide) dX1_possible_177 (fun y hy => ?_)
                    have h := RM_cn h hy
                    generalize va_up e 7 y = e at h ⊢
                    refine g_iinc (v := nI (i + 1)) (k := 3) (lv' := [(0, .ref (a 0)), (1, .int (nI u)), (2, .int (nI j)), (3, .int (nI (i + 1)))]) C dX1_possible_178 rfl (nI_inc i) (by decide) [1, 2, 3, 0] rfl ?_
                    refine g_goto (tgt := 124) C dX1_possible_181 (by decide) ?_
                    exact ih3 (i + 1) e _ (by omega) h (by rw [va_up_self, hci]; exact (if_pos (by show (gtD (M i j) FP.dconst0 && gtD (E j (r u)) FP.dconst0) = true; rw [gtD_t c2, gtD_t c3]; rfl)).symm) (fun q hq => by rw [va_up_ne _ _ (by omega)]; exact hcq q hq)
            exact L3 n 0 e cn7 (by omega) h hc0 hc1
        have L1 : ∀ (k2 : Nat) (j : Nat) (e : Nat → va_E) (bf6 : Nat → Int64), j + k2 = 6 → RM cy a e n T 0 S M E r nw od cn5 bf6 → (∀ q, q < j → bf6 q = cn5 q) → GW p l en ({ frames := 1, cells := 0, slots := 0, locals := 22 }) s m ([.ref (a 0)] : List Value).toArray below meth c 0 0 (MQ below (va_Ql (fun z e1 => (∃ cn1 bf1, RM cy a e1 n T 0 S M E r nw od cn1 bf1) ∧ z = fPos n S M E r T) (gB D clP 9 a) (wA 9 a)) ([.ref (a 0)] : List Value).toArray s 0 0 (wA 9 a)) D clP 9 4 a (wA 9 a) e 81 [(0, .ref (a 0)), (1, .int (nI u)), (2, .int (nI j))] [] := by
          intro k2
          induction k2 with
          | zero =>
            intro j e bf6 hk2 h hcp
            obtain ⟨h0, hS, hM, hE, hr0, hnw, hod, hcn, hbf⟩ := id h
            refine g_iload_n C dX1_possible_81 rfl 2 rfl ?_
            refine g_bipush (v := nI 6) C dX1_possible_82 (by decide) ?_
            refine g_icmp_ge (tgt := 105) C dX1_possible_84 (by decide) (fun c1 => ?_) (fun c1 => absurd c1 (fun q => q (nI_le (by omega) (by omega))))
            refine g_iconst (v := nI 0) C dX1_possible_105 (by decide) ?_
            refine g_istore_n (lv' := [(0, .ref (a 0)), (1, .int (nI u)), (2, .int (nI 0))]) C dX1_possible_106 rfl (by decide) [1, 2, 0] rfl ?_
            exact L2 n 0 e cn5 bf6 (by omega) h (fun q hq => by rw [hcp q (by omega)]; exact hp q hq) (fun q hq => absurd hq (by omega))
          | succ k2 ih2 =>
            intro j e bf6 hk2 h hcp
            obtain ⟨h0, hS, hM, hE, hr0, hnw, hod, hcn, hbf⟩ := id h
            refine g_iload_n C dX1_possible_81 rfl 2 rfl ?_
            refine g_bipush (v := nI 6) C dX1_possible_82 (by decide) ?_
            refine g_icmp_ge (tgt := 105) C dX1_possible_84 (by decide) (fun c1 => absurd c1 (nI_ge (by omega) (by decide))) (fun c1 => ?_)
            refine g_aload_n C dX1_possible_87 rfl 0 rfl ?_
            refine g_get C 10 hin inl_pos1 (by decide) h0 (by decide) f_before rfl dX1_possible_88 ?_
            refine g_iload_n C dX1_possible_91 rfl 2 rfl ?_
            refine g_aload_n C dX1_possible_92 rfl 0 rfl ?_
            refine g_get C 9 hin inl_pos1 (by decide) h0 (by decide) f_counts rfl dX1_possible_93 ?_
            refine g_iload_n C dX1_possible_96 rfl 2 rfl ?_
            refine g_lald C (by omega) hcn (by omega) (by decide) dX1_possible_97 ?_
            refine g_last C (by omega) hbf (by omega) (by decide) dX1_possible_98 (fun y hy => ?_)
            have h := RM_bf h hy
            generalize va_up e 8 y = e at h ⊢
            refine g_iinc (v := nI (j + 1)) (k := 2) (lv' := [(0, .ref (a 0)), (1, .int (nI u)), (2, .int (nI (j + 1)))]) C dX1_possible_99 rfl (nI_inc j) (by decide) [1, 2, 0] rfl ?_
            refine g_goto (tgt := 81) C dX1_possible_102 (by decide) ?_
            exact ih2 (j + 1) e _ (by omega) h (fun q hq => by
              by_cases hqj : q = j
              · subst hqj; exact va_up_self _ _ _
              · rw [va_up_ne _ _ hqj]; exact hcp q (by omega))
        exact L1 6 0 e bf5 (by omega) h (fun q hq => absurd hq (by omega))
    have L0 : ∀ (k : Nat) (i : Nat) (e : Nat → va_E) (cn5 : Nat → Int64), i + k = 6 → RM cy a e n T 0 S M E r nw od cn5 bf → (∀ q, q < i → q < n → cn5 q = fC n S M E r 0 q) → GW p l en ({ frames := 1, cells := 0, slots := 0, locals := 22 }) s m ([.ref (a 0)] : List Value).toArray below meth c 0 0 (MQ below (va_Ql (fun z e1 => (∃ cn1 bf1, RM cy a e1 n T 0 S M E r nw od cn1 bf1) ∧ z = fPos n S M E r T) (gB D clP 9 a) (wA 9 a)) ([.ref (a 0)] : List Value).toArray s 0 0 (wA 9 a)) D clP 9 4 a (wA 9 a) e 16 [(0, .ref (a 0)), (1, .int (nI i))] [] := by
      intro k
      induction k with
      | zero =>
        intro i e cn5 hk h hp
        obtain ⟨h0, hS, hM, hE, hr0, hnw, hod, hcn, hbf⟩ := id h
        refine g_iload_n C dX1_possible_16 rfl 1 rfl ?_
        refine g_bipush (v := nI 6) C dX1_possible_17 (by decide) ?_
        refine g_icmp_ge (tgt := 69) C dX1_possible_19 (by decide) (fun c1 => ?_) (fun c1 => absurd c1 (fun q => q (nI_le (by omega) (by omega))))
        refine g_iconst (v := nI 1) C dX1_possible_69 (by decide) ?_
        refine g_istore_n (lv' := [(0, .ref (a 0)), (1, .int (nI 1))]) C dX1_possible_70 rfl (by decide) [1, 0] rfl ?_
        exact K1 (T - 1) 1 e cn5 bf (by omega) (by omega) h (fun q hq => hp q (by omega) hq)
      | succ k ih =>
        intro i e cn5 hk h hp
        obtain ⟨h0, hS, hM, hE, hr0, hnw, hod, hcn, hbf⟩ := id h
        refine g_iload_n C dX1_possible_16 rfl 1 rfl ?_
        refine g_bipush (v := nI 6) C dX1_possible_17 (by decide) ?_
        refine g_icmp_ge (tgt := 69) C dX1_possible_19 (by decide) (fun c1 => absurd c1 (nI_ge (by omega) (by decide))) (fun c1 => ?_)
        refine g_aload_n C dX1_possible_22 rfl 0 rfl ?_
        refine g_get C 9 hin inl_pos1 (by decide) h0 (by decide) f_counts rfl dX1_possible_23 ?_
        refine g_iload_n C dX1_possible_26 rfl 1 rfl ?_
        refine g_iload_n C dX1_possible_27 rfl 1 rfl ?_
        refine g_aload_n C dX1_possible_28 rfl 0 rfl ?_
        refine g_get C 0 hin inl_pos1 (by decide) h0 (by decide) f_n rfl dX1_possible_29 ?_
        refine g_icmp_ge (tgt := 61) C dX1_possible_32 (by decide) (fun c2 => ?_) (fun c2 => ?_)
        · refine g_lconst (v := 0) C dX1_possible_61 (by decide) ?_
          refine g_last C (by omega) hcn (by omega) (by decide) dX1_possible_62 (fun y hy => ?_)
          have h := RM_cn h hy
          generalize va_up e 7 y = e at h ⊢
          refine g_iinc (v := nI (i + 1)) (k := 1) (lv' := [(0, .ref (a 0)), (1, .int (nI (i + 1)))]) C dX1_possible_63 rfl (nI_inc i) (by decide) [1, 0] rfl ?_
          refine g_goto (tgt := 16) C dX1_possible_66 (by decide) ?_
          exact ih (i + 1) e _ (by omega) h (fun q hq hqn => by
            by_cases hqi : q = i
            · subst hqi; rw [va_up_self]; exact absurd hqn (by have := nI_le_n c2 (by omega) (by omega); omega)
            · rw [va_up_ne _ _ hqi]; exact hp q (by omega) hqn)
        · have hin1 : i < n := nI_ge_n c2 (by omega) (by omega)
          refine g_aload_n C dX1_possible_35 rfl 0 rfl ?_
          refine g_get C 3 hin inl_pos1 (by decide) h0 (by decide) f_starts rfl dX1_possible_36 ?_
          refine g_iload_n C dX1_possible_39 rfl 1 rfl ?_
          refine g_dald C (by omega) hS (by omega) (by decide) dX1_possible_40 ?_
          refine g_dconst0 C dX1_possible_41 ?_
          refine g_dcmp C dX1_possible_42 ?_
          refine g_if_le (tgt := 61) C dX1_possible_43 (by decide) (fun c3 => ?_) (fun c3 => ?_)
          · refine g_lconst (v := 0) C dX1_possible_61 (by decide) ?_
            refine g_last C (by omega) hcn (by omega) (by decide) dX1_possible_62 (fun y hy => ?_)
            have h := RM_cn h hy
            generalize va_up e 7 y = e at h ⊢
            refine g_iinc (v := nI (i + 1)) (k := 1) (lv' := [(0, .ref (a 0)), (1, .int (nI (i + 1)))]) C dX1_possible_63 rfl (nI_inc i) (by decide) [1, 0] rfl ?_
            refine g_goto (tgt := 16) C dX1_possible_66 (by decide) ?_
            exact ih (i + 1) e _ (by omega) h (fun q hq hqn => by
              by_cases hqi : q = i
              · subst hqi; rw [va_up_self]; show _ = if gtD (E q (r 0)) FP.dconst0 = true then (if gtD (S q) FP.dconst0 = true then 1 else 0) else 0; rw [gtD_f c3]; split <;> rfl
              · rw [va_up_ne _ _ hqi]; exact hp q (by omega) hqn)
          · refine g_aload_n C dX1_possible_46 rfl 0 rfl ?_
            refine g_iload_n C dX1_possible_47 rfl 1 rfl ?_
            refine g_iconst (v := nI 0) C dX1_possible_48 (by decide) ?_
            refine g_calld (As := [.int (nI i), .int (nI 0)]) (rest := [.int (nI i), .ref (a 7)]) C (cwV 2 C.2.2.2.2.1 gX1_possible_X1_shown rfl rfl rfl (by decide +kernel) ⟨Nat.le_of_ble_eq_true rfl, Nat.le_of_ble_eq_true rfl⟩) (c_X1_shown l D cy a hi h i 0 (by omega) (by omega) hr4) (by decide) h0 inl_pos1 rfl rfl (Nat.le_of_ble_eq_true rfl) dX1_possible_49 ⟨Nat.zero_le _, Nat.zero_le _⟩ (fun z e1 hz => ?_)
            rw [hz.1]
            obtain ⟨-, rfl⟩ := hz
            refine g_dconst0 C dX1_possible_52 ?_
            refine g_dcmp C dX1_possible_53 ?_
            refine g_if_le (tgt := 61) C dX1_possible_54 (by decide) (fun c4 => ?_) (fun c4 => ?_)
            · refine g_lconst (v := 0) C dX1_possible_61 (by decide) ?_
              refine g_last C (by omega) hcn (by omega) (by decide) dX1_possible_62 (fun y hy => ?_)
              have h := RM_cn h hy
              generalize va_up e 7 y = e at h ⊢
              refine g_iinc (v := nI (i + 1)) (k := 1) (lv' := [(0, .ref (a 0)), (1, .int (nI (i + 1)))]) C dX1_possible_63 rfl (nI_inc i) (by decide) [1, 0] rfl ?_
              refine g_goto (tgt := 16) C dX1_possible_66 (by decide) ?_
              exact ih (i + 1) e _ (by omega) h (fun q hq hqn => by
                by_cases hqi : q = i
                · subst hqi; rw [va_up_self]; show _ = if gtD (E q (r 0)) FP.dconst0 = true then (if gtD (S q) FP.dconst0 = true then 1 else 0) else 0; rw [gtD_f c4]; rfl
                · rw [va_up_ne _ _ hqi]; exact hp q (by omega) hqn)
            · refine g_lconst (v := 1) C dX1_possible_57 (by decide) ?_
              refine g_goto (tgt := 62) C dX1_possible_58 (by decide) ?_
              refine g_last C (by omega) hcn (by omega) (by decide) dX1_possible_62 (fun y hy => ?_)
              have h := RM_cn h hy
              generalize va_up e 7 y = e at h ⊢
              refine g_iinc (v := nI (i + 1)) (k := 1) (lv' := [(0, .ref (a 0)), (1, .int (nI (i + 1)))]) C dX1_possible_63 rfl (nI_inc i) (by decide) [1, 0] rfl ?_
              refine g_goto (tgt := 16) C dX1_possible_66 (by decide) ?_
              exact ih (i + 1) e _ (by omega) h (fun q hq hqn => by
                by_cases hqi : q = i
                · subst hqi; rw [va_up_self]; show _ = if gtD (E q (r 0)) FP.dconst0 = true then (if gtD (S q) FP.dconst0 = true then 1 else 0) else 0; rw [gtD_t c4, gtD_t c3]; rfl
                · rw [va_up_ne _ _ hqi]; exact hp q (by omega) hqn)
    refine g_iconst (v := nI 0) C dX1_possible_14 (by decide) ?_
    refine g_istore_n (lv' := [(0, .ref (a 0)), (1, .int (nI 0))]) C dX1_possible_15 rfl (by decide) [1, 0] rfl ?_
    exact L0 6 0 e0 cn (by omega) h (fun q hq => absurd hq (by omega))
  · refine g_lconst (v := 1) C dX1_possible_12 (by decide) ?_
    exact g_lret C hr hlocks (⟨⟨cn, bf, h⟩, by rw [fPos, if_pos ((nI_eq (by omega) (by decide)).mp c1)]⟩) dX1_possible_13
