theorem rng16 {x : Int32} (h1 : ¬ x < nI 1) (h2 : x ≤ nI 6) : ∃ k, 1 ≤ k ∧ k ≤ 6 ∧ x = nI k := by
  have a1 : (nI 1).toInt = 1 := nI_toInt (by decide)
  have a6 : (nI 6).toInt = 6 := nI_toInt (by decide)
  rw [Int32.lt_iff_toInt_lt, a1] at h1
  rw [Int32.le_iff_toInt_le, a6] at h2
  rcases pk_ix x (n := 7) (by decide) with q | q | ⟨j, hj, rfl⟩
  · rw [Int32.lt_iff_toInt_lt] at q
    have : (0 : Int32).toInt = 0 := rfl
    omega
  · rw [Int32.le_iff_toInt_le, nI_toInt (by decide)] at q
    omega
  · rw [nI_toInt (by omega)] at h1
    exact ⟨j, by omega, by omega, rfl⟩
theorem rng16_lo {x : Int32} (h : x < nI 1) : ¬ ∃ k, 1 ≤ k ∧ k ≤ 6 ∧ x = nI k := fun ⟨k, h1, h2, h3⟩ => by
  subst h3
  exact nI_nlt h1 (by omega) h
theorem rng16_hi {x : Int32} (h : ¬ x ≤ nI 6) : ¬ ∃ k, 1 ≤ k ∧ k ≤ 6 ∧ x = nI k := fun ⟨k, h1, h2, h3⟩ => by
  subst h3
  exact h (nI_le h2 (by decide))

set_option maxHeartbeats 4000000 in
set_option maxRecDepth 100000 in
theorem c_X0_states (l : Launch) (D : va_G) (cy : Nat → ClassId) (a : Nat → Nat) (hi : wInj 82 a) {e : Nat → va_E} {n T : Nat} {S : Nat → UInt64} {M E : T2} {r : Nat → Nat} {F B V : T2} {G : Nat → Nat → Int32} {Cn : Nat → Nat → Int64} (h : RP cy a e n T S M E r F B V G Cn) (x : Int32) : Met l yX0_states wsX0_states ({ frames := 1, cells := 0, slots := 0, locals := 22 }) (gPc D clP cy 82 a e [.ref (a 0), .int x]) (va_Qi (fun z e1 => (z = nI 1 ∧ ∃ k, 1 ≤ k ∧ k ≤ 6 ∧ x = nI k ∧ RP cy a e1 k 0 z1 z2 z2 r F B V G Cn) ∨ (z = nI 0 ∧ (¬ ∃ k, 1 ≤ k ∧ k ≤ 6 ∧ x = nI k) ∧ e1 = e)) (gB D clP 82 a) (wA 82 a)) 0 0 (wA 82 a) := by
  refine g_met (cc := cX0_states) (maxL := 2) (ret := (some .boolean)) (lv := [(0, .ref (a 0)), (1, .int x)]) (by decide) rfl (Nat.le_of_ble_eq_true rfl) rfl hi (fun k hk => ⟨k, hk, rfl⟩) ?_
  intro p en s m below meth c C hr hlocks
  have hin : ∀ w ∈ u_ws RX0 TX0 11, w ∈ wsX0_states := by decide +kernel
  have f_stateCount := C.2.2.2.2.1 (.fieldLink RX0 25 "PathOdds" "stateCount" "I") (by decide +kernel)
  have f_rowLength := C.2.2.2.2.1 (.fieldLink RX0 29 "PathOdds" "rowLength" "I") (by decide +kernel)
  obtain ⟨h0, hS, h2, h9, hr0, h17, h30, h43, h56, h69, hM, hE, hF, hB, hV, hG, hC⟩ := id h
  refine g_iload_n C dX0_states_0 rfl 1 rfl ?_
  refine g_iconst (v := nI 1) C dX0_states_1 (by decide) ?_
  refine g_icmp_lt (tgt := 11) C dX0_states_2 (by decide) (fun c1 => ?_) (fun c1 => ?_)
  · refine g_iconst (v := nI 0) C dX0_states_11 (by decide) ?_
    exact g_zret C hr hlocks (by decide) (Or.inr ⟨rfl, rng16_lo c1, rfl⟩) dX0_states_12
  · refine g_iload_n C dX0_states_5 rfl 1 rfl ?_
    refine g_bipush (v := nI 6) C dX0_states_6 (by decide) ?_
    refine g_icmp_le (tgt := 13) C dX0_states_8 (by decide) (fun c2 => ?_) (fun c2 => ?_)
    · obtain ⟨k, hk1, hk6, rfl⟩ := rng16 c1 c2
      refine g_aload_n C dX0_states_13 rfl 0 rfl ?_
      refine g_callv (As := []) (rest := []) C (cwV 0 C.2.2.2.2.1 gX0_states_X0_clearWeights rfl rfl rfl (by decide +kernel) ⟨Nat.le_of_ble_eq_true rfl, Nat.le_of_ble_eq_true rfl⟩) (c_X0_clearWeights l D cy a hi h) (by decide) h0 inl_pos0 rfl rfl (Nat.le_of_ble_eq_true rfl) dX0_states_14 ⟨Nat.zero_le _, Nat.zero_le _⟩ (fun e1 h => ?_)
      obtain ⟨h0, hS, h2, h9, hr0, h17, h30, h43, h56, h69, hM, hE, hF, hB, hV, hG, hC⟩ := id h
      refine g_aload_n C dX0_states_17 rfl 0 rfl ?_
      refine g_iload_n C dX0_states_18 rfl 1 rfl ?_
      refine g_putE C 4 tyX0 tyX0_ok nmX0 hin inl_pos0 (by decide) h0 (by decide) f_stateCount rfl (ty := .int) (by decide +kernel) rfl rfl (Nat.le_of_ble_eq_true rfl) dX0_states_19 (fun e2 he2 => ?_)
      have h : RP cy a e2 k T z1 z2 z2 r F B V G Cn := by rw [he2]; exact RP_obj h rfl
      obtain ⟨h0, hS, h2, h9, hr0, h17, h30, h43, h56, h69, hM, hE, hF, hB, hV, hG, hC⟩ := id h
      refine g_aload_n C dX0_states_22 rfl 0 rfl ?_
      refine g_iconst (v := nI 0) C dX0_states_23 (by decide) ?_
      refine g_putE C 5 tyX0 tyX0_ok nmX0 hin inl_pos0 (by decide) h0 (by decide) f_rowLength rfl (ty := .int) (by decide +kernel) rfl rfl (Nat.le_of_ble_eq_true rfl) dX0_states_24 (fun e2 he2 => ?_)
      have h : RP cy a e2 k 0 z1 z2 z2 r F B V G Cn := by rw [he2]; exact RP_obj h rfl
      obtain ⟨h0, hS, h2, h9, hr0, h17, h30, h43, h56, h69, hM, hE, hF, hB, hV, hG, hC⟩ := id h
      refine g_iconst (v := nI 1) C dX0_states_27 (by decide) ?_
      exact g_zret C hr hlocks (by decide) (Or.inl ⟨rfl, k, hk1, hk6, rfl, h⟩) dX0_states_28
    · refine g_iconst (v := nI 0) C dX0_states_11 (by decide) ?_
      exact g_zret C hr hlocks (by decide) (Or.inr ⟨rfl, rng16_hi c2, rfl⟩) dX0_states_12

set_option maxHeartbeats 4000000 in
set_option maxRecDepth 100000 in
theorem c_X0_start (l : Launch) (D : va_G) (cy : Nat → ClassId) (a : Nat → Nat) (hi : wInj 82 a) {e : Nat → va_E} {n T : Nat} {S : Nat → UInt64} {M E : T2} {r : Nat → Nat} {F B V : T2} {G : Nat → Nat → Int32} {Cn : Nat → Nat → Int64} (h : RP cy a e n T S M E r F B V G Cn) (hb : n ≤ 6) (x : Int32) (w : UInt64) : Met l yX0_start wsX0_start ({ frames := 1, cells := 0, slots := 0, locals := 21 }) (gPc D clP cy 82 a e [.ref (a 0), .int x, .double w]) (va_Qi (fun z e1 => (z = nI 1 ∧ ∃ i, i < n ∧ x = nI i ∧ okW w ∧ RP cy a e1 n T (va_up S i w) M E r F B V G Cn) ∨ (z = nI 0 ∧ ¬ ((∃ i, i < n ∧ x = nI i) ∧ okW w) ∧ e1 = e)) (gB D clP 82 a) (wA 82 a)) 0 0 (wA 82 a) := by
  refine g_met (cc := cX0_start) (maxL := 4) (ret := (some .boolean)) (lv := [(0, .ref (a 0)), (1, .int x), (2, .double w)]) (by decide) rfl (Nat.le_of_ble_eq_true rfl) rfl hi (fun k hk => ⟨k, hk, rfl⟩) ?_
  intro p en s m below meth c C hr hlocks
  have hin : ∀ w ∈ u_ws RX0 TX0 11, w ∈ wsX0_start := by decide +kernel
  have f_startWeights := C.2.2.2.2.1 (.fieldLink RX0 9 "PathOdds" "startWeights" "[D") (by decide +kernel)
  obtain ⟨h0, hS, h2, h9, hr0, h17, h30, h43, h56, h69, hM, hE, hF, hB, hV, hG, hC⟩ := id h
  refine g_aload_n C dX0_start_0 rfl 0 rfl ?_
  refine g_iload_n C dX0_start_1 rfl 1 rfl ?_
  refine g_calli (As := [.int x]) (rest := []) C (cwV 1 C.2.2.2.2.1 gX0_start_X0_isState rfl rfl rfl (by decide +kernel) ⟨Nat.le_of_ble_eq_true rfl, Nat.le_of_ble_eq_true rfl⟩) (c_X0_isState l D cy a hi h (by omega) x) (by decide) h0 inl_pos0 rfl rfl (Nat.le_of_ble_eq_true rfl) dX0_start_2 ⟨Nat.zero_le _, Nat.zero_le _⟩ (fun z e1 hz => ?_)
  rw [hz.1]
  rcases hz.2 with ⟨rfl, i, h_i, rfl⟩ | ⟨rfl, hno⟩
  · refine g_if_eq (tgt := 15) C dX0_start_5 (by decide) (fun c1 => absurd c1 (by decide)) (fun c1 => ?_)
    refine g_dload_n C dX0_start_8 rfl 2 rfl ?_
    refine g_callSz (As := [.double w]) (rest := []) C (va_cwS 1 C.2.2.2.2.1 gX0_start_X0_isWeight rfl rfl rfl (by decide +kernel) ⟨Nat.le_of_ble_eq_true rfl, Nat.le_of_ble_eq_true rfl⟩) (c_X0_isWeight l D cy a hi h w) rfl rfl (Nat.le_of_ble_eq_true rfl) dX0_start_9 ⟨Nat.zero_le _, Nat.zero_le _⟩ (fun z e1 hz => ?_)
    rw [hz.1]
    rcases hz.2 with ⟨rfl, hok⟩ | ⟨rfl, hno⟩
    · refine g_if_ne (tgt := 17) C dX0_start_12 (by decide) (fun c1 => ?_) (fun c1 => absurd c1 (by decide))
      refine g_aload_n C dX0_start_17 rfl 0 rfl ?_
      refine g_get C 0 hin inl_pos0 (by decide) h0 (by decide) f_startWeights rfl dX0_start_18 ?_
      refine g_iload_n C dX0_start_21 rfl 1 rfl ?_
      refine g_dload_n C dX0_start_22 rfl 2 rfl ?_
      refine g_dast C (by omega) hS (by omega) (by decide) dX0_start_23 (fun y hy => ?_)
      have h2 := RP_S h hy
      generalize va_up e 1 y = e2 at h2 ⊢
      refine g_iconst (v := nI 1) C dX0_start_24 (by decide) ?_
      exact g_zret C hr hlocks (by decide) (Or.inl ⟨rfl, i, h_i, rfl, hok, h2⟩) dX0_start_25
    · refine g_if_ne (tgt := 17) C dX0_start_12 (by decide) (fun c1 => absurd c1 (fun q => q (by decide))) (fun c1 => ?_)
      refine g_iconst (v := nI 0) C dX0_start_15 (by decide) ?_
      exact g_zret C hr hlocks (by decide) (Or.inr ⟨rfl, fun q => hno q.2, rfl⟩) dX0_start_16
  · refine g_if_eq (tgt := 15) C dX0_start_5 (by decide) (fun c1 => ?_) (fun c1 => absurd c1 (fun q => q (by decide)))
    refine g_iconst (v := nI 0) C dX0_start_15 (by decide) ?_
    exact g_zret C hr hlocks (by decide) (Or.inr ⟨rfl, fun q => hno q.1, rfl⟩) dX0_start_16

set_option maxHeartbeats 4000000 in
set_option maxRecDepth 100000 in
theorem c_X0_move (l : Launch) (D : va_G) (cy : Nat → ClassId) (a : Nat → Nat) (hi : wInj 82 a) {e : Nat → va_E} {n T : Nat} {S : Nat → UInt64} {M E : T2} {r : Nat → Nat} {F B V : T2} {G : Nat → Nat → Int32} {Cn : Nat → Nat → Int64} (h : RP cy a e n T S M E r F B V G Cn) (hb : n ≤ 6) (x x2 : Int32) (w : UInt64) : Met l yX0_move wsX0_move ({ frames := 1, cells := 0, slots := 0, locals := 21 }) (gPc D clP cy 82 a e [.ref (a 0), .int x, .int x2, .double w]) (va_Qi (fun z e1 => (z = nI 1 ∧ ∃ i j, i < n ∧ j < n ∧ x = nI i ∧ x2 = nI j ∧ okW w ∧ RP cy a e1 n T S (va_up M i (va_up (M i) j w)) E r F B V G Cn) ∨ (z = nI 0 ∧ ¬ ((∃ i, i < n ∧ x = nI i) ∧ (∃ j, j < n ∧ x2 = nI j) ∧ okW w) ∧ e1 = e)) (gB D clP 82 a) (wA 82 a)) 0 0 (wA 82 a) := by
  refine g_met (cc := cX0_move) (maxL := 5) (ret := (some .boolean)) (lv := [(0, .ref (a 0)), (1, .int x), (2, .int x2), (3, .double w)]) (by decide) rfl (Nat.le_of_ble_eq_true rfl) rfl hi (fun k hk => ⟨k, hk, rfl⟩) ?_
  intro p en s m below meth c C hr hlocks
  have hin : ∀ w ∈ u_ws RX0 TX0 11, w ∈ wsX0_move := by decide +kernel
  have f_moveWeights := C.2.2.2.2.1 (.fieldLink RX0 15 "PathOdds" "moveWeights" "[[D") (by decide +kernel)
  obtain ⟨h0, hS, h2, h9, hr0, h17, h30, h43, h56, h69, hM, hE, hF, hB, hV, hG, hC⟩ := id h
  refine g_aload_n C dX0_move_0 rfl 0 rfl ?_
  refine g_iload_n C dX0_move_1 rfl 1 rfl ?_
  refine g_calli (As := [.int x]) (rest := []) C (cwV 1 C.2.2.2.2.1 gX0_move_X0_isState rfl rfl rfl (by decide +kernel) ⟨Nat.le_of_ble_eq_true rfl, Nat.le_of_ble_eq_true rfl⟩) (c_X0_isState l D cy a hi h (by omega) x) (by decide) h0 inl_pos0 rfl rfl (Nat.le_of_ble_eq_true rfl) dX0_move_2 ⟨Nat.zero_le _, Nat.zero_le _⟩ (fun z e1 hz => ?_)
  rw [hz.1]
  rcases hz.2 with ⟨rfl, i, h_i, rfl⟩ | ⟨rfl, hno⟩
  · refine g_if_eq (tgt := 23) C dX0_move_5 (by decide) (fun c1 => absurd c1 (by decide)) (fun c1 => ?_)
    refine g_aload_n C dX0_move_8 rfl 0 rfl ?_
    refine g_iload_n C dX0_move_9 rfl 2 rfl ?_
    refine g_calli (As := [.int x2]) (rest := []) C (cwV 1 C.2.2.2.2.1 gX0_move_X0_isState rfl rfl rfl (by decide +kernel) ⟨Nat.le_of_ble_eq_true rfl, Nat.le_of_ble_eq_true rfl⟩) (c_X0_isState l D cy a hi h (by omega) x2) (by decide) h0 inl_pos0 rfl rfl (Nat.le_of_ble_eq_true rfl) dX0_move_10 ⟨Nat.zero_le _, Nat.zero_le _⟩ (fun z e1 hz => ?_)
    rw [hz.1]
    rcases hz.2 with ⟨rfl, j, h_j, rfl⟩ | ⟨rfl, hno⟩
    · refine g_if_eq (tgt := 23) C dX0_move_13 (by decide) (fun c1 => absurd c1 (by decide)) (fun c1 => ?_)
      refine g_dload_n C dX0_move_16 rfl 3 rfl ?_
      refine g_callSz (As := [.double w]) (rest := []) C (va_cwS 1 C.2.2.2.2.1 gX0_move_X0_isWeight rfl rfl rfl (by decide +kernel) ⟨Nat.le_of_ble_eq_true rfl, Nat.le_of_ble_eq_true rfl⟩) (c_X0_isWeight l D cy a hi h w) rfl rfl (Nat.le_of_ble_eq_true rfl) dX0_move_17 ⟨Nat.zero_le _, Nat.zero_le _⟩ (fun z e1 hz => ?_)
      rw [hz.1]
      rcases hz.2 with ⟨rfl, hok⟩ | ⟨rfl, hno⟩
      · refine g_if_ne (tgt := 25) C dX0_move_20 (by decide) (fun c1 => ?_) (fun c1 => absurd c1 (by decide))
        refine g_aload_n C dX0_move_25 rfl 0 rfl ?_
        refine g_get C 1 hin inl_pos0 (by decide) h0 (by decide) f_moveWeights rfl dX0_move_26 ?_
        refine g_iload_n C dX0_move_29 rfl 1 rfl ?_
        refine g_aald C (by omega) (tyD2 cy) h2 (by omega) (by decide) dX0_move_30 ?_
        refine g_iload_n C dX0_move_31 rfl 2 rfl ?_
        refine g_dload_n C dX0_move_32 rfl 3 rfl ?_
        refine g_dast C (by omega) (hM i (by omega)) (by omega) (by decide) dX0_move_33 (fun y hy => ?_)
        have h2 := RP_M (t := i) h (by omega) hy
        generalize va_up e (3 + i) y = e2 at h2 ⊢
        refine g_iconst (v := nI 1) C dX0_move_34 (by decide) ?_
        exact g_zret C hr hlocks (by decide) (Or.inl ⟨rfl, i, j, h_i, h_j, rfl, rfl, hok, h2⟩) dX0_move_35
      · refine g_if_ne (tgt := 25) C dX0_move_20 (by decide) (fun c1 => absurd c1 (fun q => q (by decide))) (fun c1 => ?_)
        refine g_iconst (v := nI 0) C dX0_move_23 (by decide) ?_
        exact g_zret C hr hlocks (by decide) (Or.inr ⟨rfl, fun q => hno q.2.2, rfl⟩) dX0_move_24
    · refine g_if_eq (tgt := 23) C dX0_move_13 (by decide) (fun c1 => ?_) (fun c1 => absurd c1 (fun q => q (by decide)))
      refine g_iconst (v := nI 0) C dX0_move_23 (by decide) ?_
      exact g_zret C hr hlocks (by decide) (Or.inr ⟨rfl, fun q => hno q.2.1, rfl⟩) dX0_move_24
  · refine g_if_eq (tgt := 23) C dX0_move_5 (by decide) (fun c1 => ?_) (fun c1 => absurd c1 (fun q => q (by decide)))
    refine g_iconst (v := nI 0) C dX0_move_23 (by decide) ?_
    exact g_zret C hr hlocks (by decide) (Or.inr ⟨rfl, fun q => hno q.1, rfl⟩) dX0_move_24

set_option maxHeartbeats 4000000 in
set_option maxRecDepth 100000 in
theorem c_X0_show (l : Launch) (D : va_G) (cy : Nat → ClassId) (a : Nat → Nat) (hi : wInj 82 a) {e : Nat → va_E} {n T : Nat} {S : Nat → UInt64} {M E : T2} {r : Nat → Nat} {F B V : T2} {G : Nat → Nat → Int32} {Cn : Nat → Nat → Int64} (h : RP cy a e n T S M E r F B V G Cn) (hb : n ≤ 6) (x x2 : Int32) (w : UInt64) : Met l yX0_show wsX0_show ({ frames := 1, cells := 0, slots := 0, locals := 21 }) (gPc D clP cy 82 a e [.ref (a 0), .int x, .int x2, .double w]) (va_Qi (fun z e1 => (z = nI 1 ∧ ∃ i j, i < n ∧ j < 4 ∧ x = nI i ∧ x2 = nI j ∧ okW w ∧ RP cy a e1 n T S M (va_up E i (va_up (E i) j w)) r F B V G Cn) ∨ (z = nI 0 ∧ ¬ ((∃ i, i < n ∧ x = nI i) ∧ (∃ j, j < 4 ∧ x2 = nI j) ∧ okW w) ∧ e1 = e)) (gB D clP 82 a) (wA 82 a)) 0 0 (wA 82 a) := by
  refine g_met (cc := cX0_show) (maxL := 5) (ret := (some .boolean)) (lv := [(0, .ref (a 0)), (1, .int x), (2, .int x2), (3, .double w)]) (by decide) rfl (Nat.le_of_ble_eq_true rfl) rfl hi (fun k hk => ⟨k, hk, rfl⟩) ?_
  intro p en s m below meth c C hr hlocks
  have hin : ∀ w ∈ u_ws RX0 TX0 11, w ∈ wsX0_show := by decide +kernel
  have f_showWeights := C.2.2.2.2.1 (.fieldLink RX0 18 "PathOdds" "showWeights" "[[D") (by decide +kernel)
  obtain ⟨h0, hS, h2, h9, hr0, h17, h30, h43, h56, h69, hM, hE, hF, hB, hV, hG, hC⟩ := id h
  refine g_aload_n C dX0_show_0 rfl 0 rfl ?_
  refine g_iload_n C dX0_show_1 rfl 1 rfl ?_
  refine g_calli (As := [.int x]) (rest := []) C (cwV 1 C.2.2.2.2.1 gX0_show_X0_isState rfl rfl rfl (by decide +kernel) ⟨Nat.le_of_ble_eq_true rfl, Nat.le_of_ble_eq_true rfl⟩) (c_X0_isState l D cy a hi h (by omega) x) (by decide) h0 inl_pos0 rfl rfl (Nat.le_of_ble_eq_true rfl) dX0_show_2 ⟨Nat.zero_le _, Nat.zero_le _⟩ (fun z e1 hz => ?_)
  rw [hz.1]
  rcases hz.2 with ⟨rfl, i, h_i, rfl⟩ | ⟨rfl, hno⟩
  · refine g_if_eq (tgt := 22) C dX0_show_5 (by decide) (fun c1 => absurd c1 (by decide)) (fun c1 => ?_)
    refine g_iload_n C dX0_show_8 rfl 2 rfl ?_
    refine g_callSz (As := [.int x2]) (rest := []) C (va_cwS 1 C.2.2.2.2.1 gX0_show_X0_isSymbol rfl rfl rfl (by decide +kernel) ⟨Nat.le_of_ble_eq_true rfl, Nat.le_of_ble_eq_true rfl⟩) (c_X0_isSymbol l D cy a hi h x2) rfl rfl (Nat.le_of_ble_eq_true rfl) dX0_show_9 ⟨Nat.zero_le _, Nat.zero_le _⟩ (fun z e1 hz => ?_)
    rw [hz.1]
    rcases hz.2 with ⟨rfl, j, h_j, rfl⟩ | ⟨rfl, hno⟩
    · refine g_if_eq (tgt := 22) C dX0_show_12 (by decide) (fun c1 => absurd c1 (by decide)) (fun c1 => ?_)
      refine g_dload_n C dX0_show_15 rfl 3 rfl ?_
      refine g_callSz (As := [.double w]) (rest := []) C (va_cwS 1 C.2.2.2.2.1 gX0_show_X0_isWeight rfl rfl rfl (by decide +kernel) ⟨Nat.le_of_ble_eq_true rfl, Nat.le_of_ble_eq_true rfl⟩) (c_X0_isWeight l D cy a hi h w) rfl rfl (Nat.le_of_ble_eq_true rfl) dX0_show_16 ⟨Nat.zero_le _, Nat.zero_le _⟩ (fun z e1 hz => ?_)
      rw [hz.1]
      rcases hz.2 with ⟨rfl, hok⟩ | ⟨rfl, hno⟩
      · refine g_if_ne (tgt := 24) C dX0_show_19 (by decide) (fun c1 => ?_) (fun c1 => absurd c1 (by decide))
        refine g_aload_n C dX0_show_24 rfl 0 rfl ?_
        refine g_get C 2 hin inl_pos0 (by decide) h0 (by decide) f_showWeights rfl dX0_show_25 ?_
        refine g_iload_n C dX0_show_28 rfl 1 rfl ?_
        refine g_aald C (by omega) (tyD2 cy) h9 (by omega) (by decide) dX0_show_29 ?_
        refine g_iload_n C dX0_show_30 rfl 2 rfl ?_
        refine g_dload_n C dX0_show_31 rfl 3 rfl ?_
        refine g_dast C (by omega) (hE i (by omega)) (by omega) (by decide) dX0_show_32 (fun y hy => ?_)
        have h2 := RP_E (t := i) h (by omega) hy
        generalize va_up e (10 + i) y = e2 at h2 ⊢
        refine g_iconst (v := nI 1) C dX0_show_33 (by decide) ?_
        exact g_zret C hr hlocks (by decide) (Or.inl ⟨rfl, i, j, h_i, h_j, rfl, rfl, hok, h2⟩) dX0_show_34
      · refine g_if_ne (tgt := 24) C dX0_show_19 (by decide) (fun c1 => absurd c1 (fun q => q (by decide))) (fun c1 => ?_)
        refine g_iconst (v := nI 0) C dX0_show_22 (by decide) ?_
        exact g_zret C hr hlocks (by decide) (Or.inr ⟨rfl, fun q => hno q.2.2, rfl⟩) dX0_show_23
    · refine g_if_eq (tgt := 22) C dX0_show_12 (by decide) (fun c1 => ?_) (fun c1 => absurd c1 (fun q => q (by decide)))
      refine g_iconst (v := nI 0) C dX0_show_22 (by decide) ?_
      exact g_zret C hr hlocks (by decide) (Or.inr ⟨rfl, fun q => hno q.2.1, rfl⟩) dX0_show_23
  · refine g_if_eq (tgt := 22) C dX0_show_5 (by decide) (fun c1 => ?_) (fun c1 => absurd c1 (fun q => q (by decide)))
    refine g_iconst (v := nI 0) C dX0_show_22 (by decide) ?_
    exact g_zret C hr hlocks (by decide) (Or.inr ⟨rfl, fun q => hno q.1, rfl⟩) dX0_show_23

theorem row_up {cy : Nat → ClassId} {y : va_E} {r : Nat → Nat} {t k : Nat} (h : isI cy y 12 (va_up (fun t => nI (r t)) t (nI k))) : isI cy y 12 (fun u => nI (va_up r t k u)) := h.to (fun j _ => by
  by_cases hj : j = t
  · subst hj; simp [va_up]
  · simp [va_up, hj])

set_option maxHeartbeats 4000000 in
set_option maxRecDepth 100000 in
theorem c_X0_read (l : Launch) (D : va_G) (cy : Nat → ClassId) (a : Nat → Nat) (hi : wInj 82 a) {e : Nat → va_E} {n T : Nat} {S : Nat → UInt64} {M E : T2} {r : Nat → Nat} {F B V : T2} {G : Nat → Nat → Int32} {Cn : Nat → Nat → Int64} (h : RP cy a e n T S M E r F B V G Cn) (hb : T ≤ 12) (x : Int32) : Met l yX0_read wsX0_read ({ frames := 1, cells := 0, slots := 0, locals := 20 }) (gPc D clP cy 82 a e [.ref (a 0), .int x]) (va_Qi (fun z e1 => (z = nI 1 ∧ ∃ k, k < 4 ∧ x = nI k ∧ T < 12 ∧ RP cy a e1 n (T + 1) S M E (va_up r T k) F B V G Cn) ∨ (z = nI 0 ∧ ¬ ((∃ k, k < 4 ∧ x = nI k) ∧ T < 12) ∧ e1 = e)) (gB D clP 82 a) (wA 82 a)) 0 0 (wA 82 a) := by
  refine g_met (cc := cX0_read) (maxL := 2) (ret := (some .boolean)) (lv := [(0, .ref (a 0)), (1, .int x)]) (by decide) rfl (Nat.le_of_ble_eq_true rfl) rfl hi (fun k hk => ⟨k, hk, rfl⟩) ?_
  intro p en s m below meth c C hr hlocks
  have hin : ∀ w ∈ u_ws RX0 TX0 11, w ∈ wsX0_read := by decide +kernel
  have f_rowLength := C.2.2.2.2.1 (.fieldLink RX0 29 "PathOdds" "rowLength" "I") (by decide +kernel)
  have f_row := C.2.2.2.2.1 (.fieldLink RX0 21 "PathOdds" "row" "[I") (by decide +kernel)
  obtain ⟨h0, hS, h2, h9, hr0, h17, h30, h43, h56, h69, hM, hE, hF, hB, hV, hG, hC⟩ := id h
  refine g_iload_n C dX0_read_0 rfl 1 rfl ?_
  refine g_callSz (As := [.int x]) (rest := []) C (va_cwS 1 C.2.2.2.2.1 gX0_read_X0_isSymbol rfl rfl rfl (by decide +kernel) ⟨Nat.le_of_ble_eq_true rfl, Nat.le_of_ble_eq_true rfl⟩) (c_X0_isSymbol l D cy a hi h x) rfl rfl (Nat.le_of_ble_eq_true rfl) dX0_read_1 ⟨Nat.zero_le _, Nat.zero_le _⟩ (fun z e1 hz => ?_)
  rw [hz.1]
  rcases hz.2 with ⟨rfl, k, h_k, rfl⟩ | ⟨rfl, hno⟩
  · refine g_if_eq (tgt := 16) C dX0_read_4 (by decide) (fun c1 => absurd c1 (by decide)) (fun c1 => ?_)
    refine g_aload_n C dX0_read_7 rfl 0 rfl ?_
    refine g_get C 5 hin inl_pos0 (by decide) h0 (by decide) f_rowLength rfl dX0_read_8 ?_
    refine g_bipush (v := nI 12) C dX0_read_11 (by decide) ?_
    refine g_icmp_lt (tgt := 18) C dX0_read_13 (by decide) (fun c2 => ?_) (fun c2 => ?_)
    · have hT12 : T < 12 := Nat.lt_of_not_le (fun q => absurd c2 (nI_nlt q (by omega)))
      refine g_aload_n C dX0_read_18 rfl 0 rfl ?_
      refine g_get C 3 hin inl_pos0 (by decide) h0 (by decide) f_row rfl dX0_read_19 ?_
      refine g_aload_n C dX0_read_22 rfl 0 rfl ?_
      refine g_get C 5 hin inl_pos0 (by decide) h0 (by decide) f_rowLength rfl dX0_read_23 ?_
      refine g_iload_n C dX0_read_26 rfl 1 rfl ?_
      refine g_iast C (by omega) hr0 (by omega) (by decide) dX0_read_27 (fun y hy => ?_)
      have h := RP_r h (row_up hy)
      generalize va_up e 16 y = e2 at h ⊢
      obtain ⟨h0, hS, h2, h9, hr0, h17, h30, h43, h56, h69, hM, hE, hF, hB, hV, hG, hC⟩ := id h
      refine g_aload_n C dX0_read_28 rfl 0 rfl ?_
      refine g_dup C dX0_read_29 rfl ?_
      refine g_get C 5 hin inl_pos0 (by decide) h0 (by decide) f_rowLength rfl dX0_read_30 ?_
      refine g_iconst (v := nI 1) C dX0_read_33 (by decide) ?_
      refine g_iadd (v := nI (T + 1)) C dX0_read_34 (nI_add T 1) ?_
      refine g_putE C 5 tyX0 tyX0_ok nmX0 hin inl_pos0 (by decide) h0 (by decide) f_rowLength rfl (ty := .int) (by decide +kernel) rfl rfl (Nat.le_of_ble_eq_true rfl) dX0_read_35 (fun e2 he2 => ?_)
      have h : RP cy a e2 n (T + 1) S M E (va_up r T k) F B V G Cn := by rw [he2]; exact RP_obj h rfl
      refine g_iconst (v := nI 1) C dX0_read_38 (by decide) ?_
      exact g_zret C hr hlocks (by decide) (Or.inl ⟨rfl, k, h_k, rfl, hT12, h⟩) dX0_read_39
    · refine g_iconst (v := nI 0) C dX0_read_16 (by decide) ?_
      exact g_zret C hr hlocks (by decide) (Or.inr ⟨rfl, fun q => c2 (nI_lt q.2 (by decide)), rfl⟩) dX0_read_17
  · refine g_if_eq (tgt := 16) C dX0_read_4 (by decide) (fun c1 => ?_) (fun c1 => absurd c1 (fun q => q (by decide)))
    refine g_iconst (v := nI 0) C dX0_read_16 (by decide) ?_
    exact g_zret C hr hlocks (by decide) (Or.inr ⟨rfl, fun q => hno q.1, rfl⟩) dX0_read_17

set_option maxHeartbeats 4000000 in
set_option maxRecDepth 100000 in
theorem c_X0_unread (l : Launch) (D : va_G) (cy : Nat → ClassId) (a : Nat → Nat) (hi : wInj 82 a) {e : Nat → va_E} {n T : Nat} {S : Nat → UInt64} {M E : T2} {r : Nat → Nat} {F B V : T2} {G : Nat → Nat → Int32} {Cn : Nat → Nat → Int64} (h : RP cy a e n T S M E r F B V G Cn) (hb : T ≤ 12) : Met l yX0_unread wsX0_unread ({ frames := 0, cells := 0, slots := 0, locals := 0 }) (gPc D clP cy 82 a e [.ref (a 0)]) (va_Qi (fun z e1 => (z = nI 1 ∧ 0 < T ∧ RP cy a e1 n (T - 1) S M E r F B V G Cn) ∨ (z = nI 0 ∧ T = 0 ∧ e1 = e)) (gB D clP 82 a) (wA 82 a)) 0 0 (wA 82 a) := by
  refine g_met (cc := cX0_unread) (maxL := 1) (ret := (some .boolean)) (lv := [(0, .ref (a 0))]) (by decide) rfl (Nat.le_of_ble_eq_true rfl) rfl hi (fun k hk => ⟨k, hk, rfl⟩) ?_
  intro p en s m below meth c C hr hlocks
  have hin : ∀ w ∈ u_ws RX0 TX0 11, w ∈ wsX0_unread := by decide +kernel
  have f_rowLength := C.2.2.2.2.1 (.fieldLink RX0 29 "PathOdds" "rowLength" "I") (by decide +kernel)
  obtain ⟨h0, hS, h2, h9, hr0, h17, h30, h43, h56, h69, hM, hE, hF, hB, hV, hG, hC⟩ := id h
  refine g_aload_n C dX0_unread_0 rfl 0 rfl ?_
  refine g_get C 5 hin inl_pos0 (by decide) h0 (by decide) f_rowLength rfl dX0_unread_1 ?_
  refine g_if_ne (tgt := 9) C dX0_unread_4 (by decide) (fun c1 => ?_) (fun c1 => ?_)
  · have hT0 : 0 < T := Nat.pos_of_ne_zero (fun q => c1 (by rw [q]; rfl))
    refine g_aload_n C dX0_unread_9 rfl 0 rfl ?_
    refine g_dup C dX0_unread_10 rfl ?_
    refine g_get C 5 hin inl_pos0 (by decide) h0 (by decide) f_rowLength rfl dX0_unread_11 ?_
    refine g_iconst (v := nI 1) C dX0_unread_14 (by decide) ?_
    refine g_isub (v := nI (T - 1)) C dX0_unread_15 (pk_sub (by omega)) ?_
    refine g_putE C 5 tyX0 tyX0_ok nmX0 hin inl_pos0 (by decide) h0 (by decide) f_rowLength rfl (ty := .int) (by decide +kernel) rfl rfl (Nat.le_of_ble_eq_true rfl) dX0_unread_16 (fun e2 he2 => ?_)
    have h : RP cy a e2 n (T - 1) S M E r F B V G Cn := by rw [he2]; exact RP_obj h rfl
    refine g_iconst (v := nI 1) C dX0_unread_19 (by decide) ?_
    exact g_zret C hr hlocks (by decide) (Or.inl ⟨rfl, hT0, h⟩) dX0_unread_20
  · refine g_iconst (v := nI 0) C dX0_unread_7 (by decide) ?_
    exact g_zret C hr hlocks (by decide) (Or.inr ⟨rfl, (nI_eq (by omega) (by decide)).mp c1, rfl⟩) dX0_unread_8
