set_option maxHeartbeats 4000000 in
set_option maxRecDepth 100000 in
theorem c_X1_shown (l : Launch) (D : va_G) (cy : Nat → ClassId) (a : Nat → Nat) (hi : wInj 9 a) {e : Nat → va_E} {n T th : Nat} {S : Nat → UInt64} {M E : T2} {r : Nat → Nat} {nw od : Nat → UInt64} {cn bf : Nat → Int64} (h : RM cy a e n T th S M E r nw od cn bf) (i t : Nat) (hi6 : i < 6) (ht : t < 12) (hr4 : RW4 r) : Met l yX1_shown wsX1_shown ({ frames := 0, cells := 0, slots := 0, locals := 0 }) (gPc D clP cy 9 a e [.ref (a 0), .int (nI i), .int (nI t)]) (va_Qd (fun z e1 => e1 = e ∧ z = E i (r t)) (gB D clP 9 a) (wA 9 a)) 0 0 (wA 9 a) := by
  refine g_met (cc := cX1_shown) (maxL := 3) (ret := (some .double)) (lv := [(0, .ref (a 0)), (1, .int (nI i)), (2, .int (nI t))]) (by decide) rfl (Nat.le_of_ble_eq_true rfl) rfl hi (fun k hk => ⟨k, hk, rfl⟩) ?_
  intro p en s m below meth c C hr hlocks
  have hin : ∀ w ∈ u_ws RX1 TX1 11, w ∈ wsX1_shown := by decide +kernel
  have f_shows := C.2.2.2.2.1 (.fieldLink RX1 16 "PathOddsModel" "shows" "[D") (by decide +kernel)
  have f_row := C.2.2.2.2.1 (.fieldLink RX1 19 "PathOddsModel" "row" "[I") (by decide +kernel)
  obtain ⟨h0, hS, hM, hE, hr0, hnw, hod, hcn, hbf⟩ := id h
  have hrt : r t < 4 := hr4 t ht
  refine g_aload_n C dX1_shown_0 rfl 0 rfl ?_
  refine g_get C 5 hin inl_pos1 (by decide) h0 (by decide) f_shows rfl dX1_shown_1 ?_
  refine g_iconst (v := nI 4) C dX1_shown_4 (by decide) ?_
  refine g_iload_n C dX1_shown_5 rfl 1 rfl ?_
  refine g_imul (v := nI (4 * i)) C dX1_shown_6 (pk_mul 4 i) ?_
  refine g_aload_n C dX1_shown_7 rfl 0 rfl ?_
  refine g_get C 6 hin inl_pos1 (by decide) h0 (by decide) f_row rfl dX1_shown_8 ?_
  refine g_iload_n C dX1_shown_11 rfl 2 rfl ?_
  refine g_iald C (by omega) hr0 (by omega) (by decide) dX1_shown_12 ?_
  refine g_iadd (v := nI ((4 * i) + (r t))) C dX1_shown_13 (nI_add (4 * i) (r t)) ?_
  refine g_dald2 (i := i) (j := (r t)) C (by omega) hE (by omega) (by omega) (by decide) dX1_shown_14 ?_
  exact g_dret C hr hlocks (⟨rfl, rfl⟩) dX1_shown_15

set_option maxHeartbeats 4000000 in
set_option maxRecDepth 100000 in
theorem c_X1_shift (l : Launch) (D : va_G) (cy : Nat → ClassId) (a : Nat → Nat) (hi : wInj 9 a) {e : Nat → va_E} {n T th : Nat} {S : Nat → UInt64} {M E : T2} {r : Nat → Nat} {nw od : Nat → UInt64} {cn bf : Nat → Int64} (h : RM cy a e n T th S M E r nw od cn bf)  : Met l yX1_shift wsX1_shift ({ frames := 0, cells := 0, slots := 0, locals := 0 }) (gPc D clP cy 9 a e [.ref (a 0)]) (va_Qv (fun e1 => RM cy a e1 n T th S M E r nw nw cn bf) (gB D clP 9 a) (wA 9 a)) 0 0 (wA 9 a) := by
  refine g_met (cc := cX1_shift) (maxL := 2) (ret := none) (lv := [(0, .ref (a 0))]) (by decide) rfl (Nat.le_of_ble_eq_true rfl) rfl hi (fun k hk => ⟨k, hk, rfl⟩) ?_
  intro p en s m below meth c C hr hlocks
  have hin : ∀ w ∈ u_ws RX1 TX1 11, w ∈ wsX1_shift := by decide +kernel
  have f_old := C.2.2.2.2.1 (.fieldLink RX1 26 "PathOddsModel" "old" "[D") (by decide +kernel)
  have f_now := C.2.2.2.2.1 (.fieldLink RX1 23 "PathOddsModel" "now" "[D") (by decide +kernel)
  obtain ⟨h0, hS, hM, hE, hr0, hnw, hod, hcn, hbf⟩ := id h
  have L : ∀ (k : Nat) (i : Nat) (e : Nat → va_E) (od : Nat → UInt64), i + k = 6 → RM cy a e n T th S M E r nw od cn bf → (∀ q, q < i → od q = nw q) → GW p l en ({ frames := 0, cells := 0, slots := 0, locals := 0 }) s m ([.ref (a 0)] : List Value).toArray below meth c 0 0 (MQ below (va_Qv (fun e1 => RM cy a e1 n T th S M E r nw nw cn bf) (gB D clP 9 a) (wA 9 a)) ([.ref (a 0)] : List Value).toArray s 0 0 (wA 9 a)) D clP 9 2 a (wA 9 a) e 2 [(0, .ref (a 0)), (1, .int (nI i))] [] := by
    intro k
    induction k with
    | zero =>
      intro i e od hk h hp
      obtain ⟨h0, hS, hM, hE, hr0, hnw, hod, hcn, hbf⟩ := id h
      refine g_iload_n C dX1_shift_2 rfl 1 rfl ?_
      refine g_bipush (v := nI 6) C dX1_shift_3 (by decide) ?_
      refine g_icmp_ge (tgt := 26) C dX1_shift_5 (by decide) (fun c1 => ?_) (fun c1 => absurd c1 (fun q => q (nI_le (by omega) (by omega))))
      exact g_vret C hr hlocks (RM_sc h (fun _ _ => rfl) (fun q hq => hp q (by omega)) (fun _ _ => rfl) (fun _ _ => rfl)) dX1_shift_26
    | succ k ih =>
      intro i e od hk h hp
      obtain ⟨h0, hS, hM, hE, hr0, hnw, hod, hcn, hbf⟩ := id h
      refine g_iload_n C dX1_shift_2 rfl 1 rfl ?_
      refine g_bipush (v := nI 6) C dX1_shift_3 (by decide) ?_
      refine g_icmp_ge (tgt := 26) C dX1_shift_5 (by decide) (fun c1 => absurd c1 (nI_ge (by omega) (by decide))) (fun c1 => ?_)
      refine g_aload_n C dX1_shift_8 rfl 0 rfl ?_
      refine g_get C 8 hin inl_pos1 (by decide) h0 (by decide) f_old rfl dX1_shift_9 ?_
      refine g_iload_n C dX1_shift_12 rfl 1 rfl ?_
      refine g_aload_n C dX1_shift_13 rfl 0 rfl ?_
      refine g_get C 7 hin inl_pos1 (by decide) h0 (by decide) f_now rfl dX1_shift_14 ?_
      refine g_iload_n C dX1_shift_17 rfl 1 rfl ?_
      refine g_dald C (by omega) hnw (by omega) (by decide) dX1_shift_18 ?_
      refine g_dast C (by omega) hod (by omega) (by decide) dX1_shift_19 (fun y hy => ?_)
      have h := RM_od h hy
      generalize va_up e 6 y = e at h ⊢
      refine g_iinc (v := nI (i + 1)) (k := 1) (lv' := [(0, .ref (a 0)), (1, .int (nI (i + 1)))]) C dX1_shift_20 rfl (nI_inc i) (by decide) [1, 0] rfl ?_
      refine g_goto (tgt := 2) C dX1_shift_23 (by decide) ?_
      exact ih (i + 1) e _ (by omega) h (fun q hq => by
        by_cases hqi : q = i
        · subst hqi; exact va_up_self _ _ _
        · rw [va_up_ne _ _ hqi]; exact hp q (by omega))
  refine g_iconst (v := nI 0) C dX1_shift_0 (by decide) ?_
  refine g_istore_n (lv' := [(0, .ref (a 0)), (1, .int (nI 0))]) C dX1_shift_1 rfl (by decide) [1, 0] rfl ?_
  exact L 6 0 e od (by omega) h (fun q hq => absurd hq (by omega))

set_option maxHeartbeats 4000000 in
set_option maxRecDepth 100000 in
theorem c_X1_from (l : Launch) (D : va_G) (cy : Nat → ClassId) (a : Nat → Nat) (hi : wInj 9 a) {e : Nat → va_E} {n T th : Nat} {S : Nat → UInt64} {M E : T2} {r : Nat → Nat} {nw od : Nat → UInt64} {cn bf : Nat → Int64} (h : RM cy a e n T th S M E r nw od cn bf) (hn : 1 ≤ n ∧ n ≤ 6) (j : Nat) (hj : j < n) (hW : WB S M E) {K : Nat} (hK : K ≤ 1900) (hob : ∀ i, i < n → mg K (od i)) : Met l yX1_from wsX1_from ({ frames := 0, cells := 0, slots := 0, locals := 0 }) (gPc D clP cy 9 a e [.ref (a 0), .int (nI j)]) (va_Qi (fun z e1 => e1 = e ∧ z = nI (am (fun i => FP.dmul (od i) (M i j)) n)) (gB D clP 9 a) (wA 9 a)) 0 0 (wA 9 a) := by
  refine g_met (cc := cX1_from) (maxL := 4) (ret := (some .int)) (lv := [(0, .ref (a 0)), (1, .int (nI j))]) (by decide) rfl (Nat.le_of_ble_eq_true rfl) rfl hi (fun k hk => ⟨k, hk, rfl⟩) ?_
  intro p en s m below meth c C hr hlocks
  have hin : ∀ w ∈ u_ws RX1 TX1 11, w ∈ wsX1_from := by decide +kernel
  have f_n := C.2.2.2.2.1 (.fieldLink RX1 36 "PathOddsModel" "n" "I") (by decide +kernel)
  have f_old := C.2.2.2.2.1 (.fieldLink RX1 26 "PathOddsModel" "old" "[D") (by decide +kernel)
  have f_moves := C.2.2.2.2.1 (.fieldLink RX1 13 "PathOddsModel" "moves" "[D") (by decide +kernel)
  obtain ⟨h0, hS, hM, hE, hr0, hnw, hod, hcn, hbf⟩ := id h
  have hb : ∀ q, q < n → mg (K + 3) ((fun i => FP.dmul (od i) (M i j)) q) := fun q hq => mg_mono (mg_mul (hob q hq) (hW.2.1 q j (by omega) (by omega)) (by omega) (by decide)) (by omega)
  have L : ∀ (k : Nat) (i : Nat), 1 ≤ i → i + k = n → GW p l en ({ frames := 0, cells := 0, slots := 0, locals := 0 }) s m ([.ref (a 0), .int (nI j)] : List Value).toArray below meth c 0 0 (MQ below (va_Qi (fun z e1 => e1 = e ∧ z = nI (am (fun i => FP.dmul (od i) (M i j)) n)) (gB D clP 9 a) (wA 9 a)) ([.ref (a 0), .int (nI j)] : List Value).toArray s 0 0 (wA 9 a)) D clP 9 4 a (wA 9 a) e 4 [(0, .ref (a 0)), (1, .int (nI j)), (2, .int (nI (am (fun i => FP.dmul (od i) (M i j)) i))), (3, .int (nI i))] [] := by
    intro k
    induction k with
    | zero =>
      intro i hi1 hk
      obtain ⟨h0, hS, hM, hE, hr0, hnw, hod, hcn, hbf⟩ := id h
      refine g_iload_n C dX1_from_4 rfl 3 rfl ?_
      refine g_aload_n C dX1_from_5 rfl 0 rfl ?_
      refine g_get C 0 hin inl_pos1 (by decide) h0 (by decide) f_n rfl dX1_from_6 ?_
      refine g_icmp_ge (tgt := 60) C dX1_from_9 (by decide) (fun c1 => ?_) (fun c1 => absurd c1 (fun q => q (nI_le (by omega) (by omega))))
      refine g_iload_n C dX1_from_60 rfl 2 rfl ?_
      exact g_iret C hr hlocks (⟨rfl, by rw [show n = i by omega]⟩) dX1_from_61
    | succ k ih =>
      intro i hi1 hk
      obtain ⟨h0, hS, hM, hE, hr0, hnw, hod, hcn, hbf⟩ := id h
      have ha := am_lt (fun i => FP.dmul (od i) (M i j)) i (by omega)
      refine g_iload_n C dX1_from_4 rfl 3 rfl ?_
      refine g_aload_n C dX1_from_5 rfl 0 rfl ?_
      refine g_get C 0 hin inl_pos1 (by decide) h0 (by decide) f_n rfl dX1_from_6 ?_
      refine g_icmp_ge (tgt := 60) C dX1_from_9 (by decide) (fun c1 => absurd c1 (nI_ge (by omega) (by omega))) (fun c1 => ?_)
      refine g_aload_n C dX1_from_12 rfl 0 rfl ?_
      refine g_get C 8 hin inl_pos1 (by decide) h0 (by decide) f_old rfl dX1_from_13 ?_
      refine g_iload_n C dX1_from_16 rfl 3 rfl ?_
      refine g_dald C (by omega) hod (by omega) (by decide) dX1_from_17 ?_
      refine g_aload_n C dX1_from_18 rfl 0 rfl ?_
      refine g_get C 4 hin inl_pos1 (by decide) h0 (by decide) f_moves rfl dX1_from_19 ?_
      refine g_bipush (v := nI 6) C dX1_from_22 (by decide) ?_
      refine g_iload_n C dX1_from_24 rfl 3 rfl ?_
      refine g_imul (v := nI (6 * i)) C dX1_from_25 (pk_mul 6 i) ?_
      refine g_iload_n C dX1_from_26 rfl 1 rfl ?_
      refine g_iadd (v := nI ((6 * i) + j)) C dX1_from_27 (nI_add (6 * i) j) ?_
      refine g_dald2 (i := i) (j := j) C (by omega) hM (by omega) (by omega) (by decide) dX1_from_28 ?_
      refine g_dmul C dX1_from_29 (mg_n64 (hb i (by omega)) (by omega)) ?_
      refine g_aload_n C dX1_from_30 rfl 0 rfl ?_
      refine g_get C 8 hin inl_pos1 (by decide) h0 (by decide) f_old rfl dX1_from_31 ?_
      refine g_iload_n C dX1_from_34 rfl 2 rfl ?_
      refine g_dald C (by omega) hod (by omega) (by decide) dX1_from_35 ?_
      refine g_aload_n C dX1_from_36 rfl 0 rfl ?_
      refine g_get C 4 hin inl_pos1 (by decide) h0 (by decide) f_moves rfl dX1_from_37 ?_
      refine g_bipush (v := nI 6) C dX1_from_40 (by decide) ?_
      refine g_iload_n C dX1_from_42 rfl 2 rfl ?_
      refine g_imul (v := nI (6 * (am (fun i => FP.dmul (od i) (M i j)) i))) C dX1_from_43 (pk_mul 6 (am (fun i => FP.dmul (od i) (M i j)) i)) ?_
      refine g_iload_n C dX1_from_44 rfl 1 rfl ?_
      refine g_iadd (v := nI ((6 * (am (fun i => FP.dmul (od i) (M i j)) i)) + j)) C dX1_from_45 (nI_add (6 * (am (fun i => FP.dmul (od i) (M i j)) i)) j) ?_
      refine g_dald2 (i := (am (fun i => FP.dmul (od i) (M i j)) i)) (j := j) C (by omega) hM (by omega) (by omega) (by decide) dX1_from_46 ?_
      refine g_dmul C dX1_from_47 (mg_n64 (hb _ (by omega)) (by omega)) ?_
      refine g_dcmp C dX1_from_48 ?_
      refine g_if_le (tgt := 54) C dX1_from_49 (by decide) (fun c2 => ?_) (fun c2 => ?_)
      · refine g_iinc (v := nI (i + 1)) (k := 3) (lv' := [(0, .ref (a 0)), (1, .int (nI j)), (2, .int (nI (am (fun i => FP.dmul (od i) (M i j)) i))), (3, .int (nI (i + 1)))]) C dX1_from_54 rfl (nI_inc i) (by decide) [1, 2, 3, 0] rfl ?_
        refine g_goto (tgt := 4) C dX1_from_57 (by decide) ?_
        have q := ih (i + 1) (by omega) (by omega)
        rw [am_f (f := (fun i => FP.dmul (od i) (M i j))) (k := i) (gtD_f c2)] at q
        exact q
      · refine g_iload_n C dX1_from_52 rfl 3 rfl ?_
        refine g_istore_n (lv' := [(0, .ref (a 0)), (1, .int (nI j)), (2, .int (nI i)), (3, .int (nI i))]) C dX1_from_53 rfl (by decide) [1, 2, 0, 3] rfl ?_
        refine g_iinc (v := nI (i + 1)) (k := 3) (lv' := [(0, .ref (a 0)), (1, .int (nI j)), (2, .int (nI i)), (3, .int (nI (i + 1)))]) C dX1_from_54 rfl (nI_inc i) (by decide) [1, 2, 3, 0] rfl ?_
        refine g_goto (tgt := 4) C dX1_from_57 (by decide) ?_
        have q := ih (i + 1) (by omega) (by omega)
        rw [am_t (f := (fun i => FP.dmul (od i) (M i j))) (k := i) (gtD_t c2)] at q
        exact q
  refine g_iconst (v := nI 0) C dX1_from_0 (by decide) ?_
  refine g_istore_n (lv' := [(0, .ref (a 0)), (1, .int (nI j)), (2, .int (nI 0))]) C dX1_from_1 rfl (by decide) [1, 2, 0] rfl ?_
  refine g_iconst (v := nI 1) C dX1_from_2 (by decide) ?_
  refine g_istore_n (lv' := [(0, .ref (a 0)), (1, .int (nI j)), (2, .int (nI 0)), (3, .int (nI 1))]) C dX1_from_3 rfl (by decide) [1, 2, 3, 0] rfl ?_
  have q := L (n - 1) 1 (by omega) (by omega)
  rw [am_1] at q
  exact q

set_option maxHeartbeats 4000000 in
set_option maxRecDepth 100000 in
theorem c_X1_last (l : Launch) (D : va_G) (cy : Nat → ClassId) (a : Nat → Nat) (hi : wInj 9 a) {e : Nat → va_E} {n T th : Nat} {S : Nat → UInt64} {M E : T2} {r : Nat → Nat} {nw od : Nat → UInt64} {cn bf : Nat → Int64} (h : RM cy a e n T th S M E r nw od cn bf) (hn : 1 ≤ n ∧ n ≤ 6) : Met l yX1_last wsX1_last ({ frames := 0, cells := 0, slots := 0, locals := 0 }) (gPc D clP cy 9 a e [.ref (a 0)]) (va_Qi (fun z e1 => e1 = e ∧ z = nI (am (fun j => nw j) n)) (gB D clP 9 a) (wA 9 a)) 0 0 (wA 9 a) := by
  refine g_met (cc := cX1_last) (maxL := 3) (ret := (some .int)) (lv := [(0, .ref (a 0))]) (by decide) rfl (Nat.le_of_ble_eq_true rfl) rfl hi (fun k hk => ⟨k, hk, rfl⟩) ?_
  intro p en s m below meth c C hr hlocks
  have hin : ∀ w ∈ u_ws RX1 TX1 11, w ∈ wsX1_last := by decide +kernel
  have f_n := C.2.2.2.2.1 (.fieldLink RX1 36 "PathOddsModel" "n" "I") (by decide +kernel)
  have f_now := C.2.2.2.2.1 (.fieldLink RX1 23 "PathOddsModel" "now" "[D") (by decide +kernel)
  obtain ⟨h0, hS, hM, hE, hr0, hnw, hod, hcn, hbf⟩ := id h
  have L : ∀ (k : Nat) (i : Nat), 1 ≤ i → i + k = n → GW p l en ({ frames := 0, cells := 0, slots := 0, locals := 0 }) s m ([.ref (a 0)] : List Value).toArray below meth c 0 0 (MQ below (va_Qi (fun z e1 => e1 = e ∧ z = nI (am (fun j => nw j) n)) (gB D clP 9 a) (wA 9 a)) ([.ref (a 0)] : List Value).toArray s 0 0 (wA 9 a)) D clP 9 3 a (wA 9 a) e 4 [(0, .ref (a 0)), (1, .int (nI (am (fun j => nw j) i))), (2, .int (nI i))] [] := by
    intro k
    induction k with
    | zero =>
      intro i hi1 hk
      obtain ⟨h0, hS, hM, hE, hr0, hnw, hod, hcn, hbf⟩ := id h
      refine g_iload_n C dX1_last_4 rfl 2 rfl ?_
      refine g_aload_n C dX1_last_5 rfl 0 rfl ?_
      refine g_get C 0 hin inl_pos1 (by decide) h0 (by decide) f_n rfl dX1_last_6 ?_
      refine g_icmp_ge (tgt := 36) C dX1_last_9 (by decide) (fun c1 => ?_) (fun c1 => absurd c1 (fun q => q (nI_le (by omega) (by omega))))
      refine g_iload_n C dX1_last_36 rfl 1 rfl ?_
      exact g_iret C hr hlocks (⟨rfl, by rw [show n = i by omega]⟩) dX1_last_37
    | succ k ih =>
      intro i hi1 hk
      obtain ⟨h0, hS, hM, hE, hr0, hnw, hod, hcn, hbf⟩ := id h
      have ha := am_lt (fun j => nw j) i (by omega)
      refine g_iload_n C dX1_last_4 rfl 2 rfl ?_
      refine g_aload_n C dX1_last_5 rfl 0 rfl ?_
      refine g_get C 0 hin inl_pos1 (by decide) h0 (by decide) f_n rfl dX1_last_6 ?_
      refine g_icmp_ge (tgt := 36) C dX1_last_9 (by decide) (fun c1 => absurd c1 (nI_ge (by omega) (by omega))) (fun c1 => ?_)
      refine g_aload_n C dX1_last_12 rfl 0 rfl ?_
      refine g_get C 7 hin inl_pos1 (by decide) h0 (by decide) f_now rfl dX1_last_13 ?_
      refine g_iload_n C dX1_last_16 rfl 2 rfl ?_
      refine g_dald C (by omega) hnw (by omega) (by decide) dX1_last_17 ?_
      refine g_aload_n C dX1_last_18 rfl 0 rfl ?_
      refine g_get C 7 hin inl_pos1 (by decide) h0 (by decide) f_now rfl dX1_last_19 ?_
      refine g_iload_n C dX1_last_22 rfl 1 rfl ?_
      refine g_dald C (by omega) hnw (by omega) (by decide) dX1_last_23 ?_
      refine g_dcmp C dX1_last_24 ?_
      refine g_if_le (tgt := 30) C dX1_last_25 (by decide) (fun c2 => ?_) (fun c2 => ?_)
      · refine g_iinc (v := nI (i + 1)) (k := 2) (lv' := [(0, .ref (a 0)), (1, .int (nI (am (fun j => nw j) i))), (2, .int (nI (i + 1)))]) C dX1_last_30 rfl (nI_inc i) (by decide) [1, 2, 0] rfl ?_
        refine g_goto (tgt := 4) C dX1_last_33 (by decide) ?_
        have q := ih (i + 1) (by omega) (by omega)
        rw [am_f (f := (fun j => nw j)) (k := i) (gtD_f c2)] at q
        exact q
      · refine g_iload_n C dX1_last_28 rfl 2 rfl ?_
        refine g_istore_n (lv' := [(0, .ref (a 0)), (1, .int (nI i)), (2, .int (nI i))]) C dX1_last_29 rfl (by decide) [1, 0, 2] rfl ?_
        refine g_iinc (v := nI (i + 1)) (k := 2) (lv' := [(0, .ref (a 0)), (1, .int (nI i)), (2, .int (nI (i + 1)))]) C dX1_last_30 rfl (nI_inc i) (by decide) [1, 2, 0] rfl ?_
        refine g_goto (tgt := 4) C dX1_last_33 (by decide) ?_
        have q := ih (i + 1) (by omega) (by omega)
        rw [am_t (f := (fun j => nw j)) (k := i) (gtD_t c2)] at q
        exact q
  refine g_iconst (v := nI 0) C dX1_last_0 (by decide) ?_
  refine g_istore_n (lv' := [(0, .ref (a 0)), (1, .int (nI 0))]) C dX1_last_1 rfl (by decide) [1, 0] rfl ?_
  refine g_iconst (v := nI 1) C dX1_last_2 (by decide) ?_
  refine g_istore_n (lv' := [(0, .ref (a 0)), (1, .int (nI 0)), (2, .int (nI 1))]) C dX1_last_3 rfl (by decide) [1, 2, 0] rfl ?_
  have q := L (n - 1) 1 (by omega) (by omega)
  rw [am_1] at q
  exact q

set_option maxHeartbeats 4000000 in
set_option maxRecDepth 100000 in
theorem c_X1_ahead (l : Launch) (D : va_G) (cy : Nat → ClassId) (a : Nat → Nat) (hi : wInj 9 a) {e : Nat → va_E} {n T th : Nat} {S : Nat → UInt64} {M E : T2} {r : Nat → Nat} {nw od : Nat → UInt64} {cn bf : Nat → Int64} (h : RM cy a e n T th S M E r nw od cn bf) (hn : 1 ≤ n ∧ n ≤ 6) (hW : WB S M E) (hr4 : RW4 r) (t : Nat) (ht : t < 12) : Met l yX1_ahead wsX1_ahead ({ frames := 1, cells := 0, slots := 0, locals := 22 }) (gPc D clP cy 9 a e [.ref (a 0), .int (nI t)]) (va_Qv (fun e1 => ∃ nw1 od1, RM cy a e1 n T th S M E r nw1 od1 cn bf ∧ ∀ j, j < n → nw1 j = fA n S M E r t j) (gB D clP 9 a) (wA 9 a)) 0 0 (wA 9 a) := by
  refine g_met (cc := cX1_ahead) (maxL := 7) (ret := none) (lv := [(0, .ref (a 0)), (1, .int (nI t))]) (by decide) rfl (Nat.le_of_ble_eq_true rfl) rfl hi (fun k hk => ⟨k, hk, rfl⟩) ?_
  intro p en s m below meth c C hr hlocks
  have hin : ∀ w ∈ u_ws RX1 TX1 11, w ∈ wsX1_ahead := by decide +kernel
  have f_n := C.2.2.2.2.1 (.fieldLink RX1 36 "PathOddsModel" "n" "I") (by decide +kernel)
  have f_now := C.2.2.2.2.1 (.fieldLink RX1 23 "PathOddsModel" "now" "[D") (by decide +kernel)
  have f_starts := C.2.2.2.2.1 (.fieldLink RX1 7 "PathOddsModel" "starts" "[D") (by decide +kernel)
  have f_old := C.2.2.2.2.1 (.fieldLink RX1 26 "PathOddsModel" "old" "[D") (by decide +kernel)
  have f_moves := C.2.2.2.2.1 (.fieldLink RX1 13 "PathOddsModel" "moves" "[D") (by decide +kernel)
  obtain ⟨h0, hS, hM, hE, hr0, hnw, hod, hcn, hbf⟩ := id h
  have K1 : ∀ (k : Nat) (u : Nat) (e : Nat → va_E) (nw od : Nat → UInt64), 1 ≤ u → u + k = t + 1 → RM cy a e n T th S M E r nw od cn bf → (∀ q, q < n → nw q = fA n S M E r (u - 1) q) → GW p l en ({ frames := 1, cells := 0, slots := 0, locals := 22 }) s m ([.ref (a 0), .int (nI t)] : List Value).toArray below meth c 0 0 (MQ below (va_Qv (fun e1 => ∃ nw1 od1, RM cy a e1 n T th S M E r nw1 od1 cn bf ∧ ∀ j, j < n → nw1 j = fA n S M E r t j) (gB D clP 9 a) (wA 9 a)) ([.ref (a 0), .int (nI t)] : List Value).toArray s 0 0 (wA 9 a)) D clP 9 7 a (wA 9 a) e 37 [(0, .ref (a 0)), (1, .int (nI t)), (2, .int (nI u))] [] := by
    intro k
    induction k with
    | zero =>
      intro u e nw od hu hk h hp
      obtain ⟨h0, hS, hM, hE, hr0, hnw, hod, hcn, hbf⟩ := id h
      refine g_iload_n C dX1_ahead_37 rfl 2 rfl ?_
      refine g_iload_n C dX1_ahead_38 rfl 1 rfl ?_
      refine g_icmp_gt (tgt := 129) C dX1_ahead_39 (by decide) (fun c1 => ?_) (fun c1 => absurd c1 (fun q => q (nI_lt (by omega) (by omega))))
      exact g_vret C hr hlocks (⟨nw, od, h, fun q hq => by rw [hp q hq, show u - 1 = t by omega]⟩) dX1_ahead_129
    | succ k ih =>
      intro u e nw od hu hk h hp
      obtain ⟨h0, hS, hM, hE, hr0, hnw, hod, hcn, hbf⟩ := id h
      refine g_iload_n C dX1_ahead_37 rfl 2 rfl ?_
      refine g_iload_n C dX1_ahead_38 rfl 1 rfl ?_
      refine g_icmp_gt (tgt := 129) C dX1_ahead_39 (by decide) (fun c1 => absurd c1 (nI_nlt (by omega) (by omega))) (fun c1 => ?_)
      have hru : r u < 4 := hr4 u (by omega)
      refine g_aload_n C dX1_ahead_42 rfl 0 rfl ?_
      refine g_callv (As := []) (rest := []) C (cwV 0 C.2.2.2.2.1 gX1_ahead_X1_shift rfl rfl rfl (by decide +kernel) ⟨Nat.le_of_ble_eq_true rfl, Nat.le_of_ble_eq_true rfl⟩) (c_X1_shift l D cy a hi h) (by decide) h0 inl_pos1 rfl rfl (Nat.le_of_ble_eq_true rfl) dX1_ahead_43 ⟨Nat.zero_le _, Nat.zero_le _⟩ (fun e1 h => ?_)
      obtain ⟨h0, hS, hM, hE, hr0, hnw, hod, hcn, hbf⟩ := id h
      refine g_iconst (v := nI 0) C dX1_ahead_46 (by decide) ?_
      refine g_istore_n (lv' := [(0, .ref (a 0)), (1, .int (nI t)), (2, .int (nI u)), (3, .int (nI 0))]) C dX1_ahead_47 rfl (by decide) [1, 2, 3, 0] rfl ?_
      have L2 : ∀ (k2 : Nat) (j : Nat) (e : Nat → va_E) (nw2 : Nat → UInt64), j + k2 = n → RM cy a e n T th S M E r nw2 nw cn bf → (∀ q, q < j → nw2 q = fA n S M E r u q) → GW p l en ({ frames := 1, cells := 0, slots := 0, locals := 22 }) s m ([.ref (a 0), .int (nI t)] : List Value).toArray below meth c 0 0 (MQ below (va_Qv (fun e1 => ∃ nw1 od1, RM cy a e1 n T th S M E r nw1 od1 cn bf ∧ ∀ j, j < n → nw1 j = fA n S M E r t j) (gB D clP 9 a) (wA 9 a)) ([.ref (a 0), .int (nI t)] : List Value).toArray s 0 0 (wA 9 a)) D clP 9 7 a (wA 9 a) e 48 [(0, .ref (a 0)), (1, .int (nI t)), (2, .int (nI u)), (3, .int (nI j))] [] := by
        intro k2
        induction k2 with
        | zero =>
          intro j e nw2 hk2 h hpj
          obtain ⟨h0, hS, hM, hE, hr0, hnw, hod, hcn, hbf⟩ := id h
          refine g_iload_n C dX1_ahead_48 rfl 3 rfl ?_
          refine g_aload_n C dX1_ahead_49 rfl 0 rfl ?_
          refine g_get C 0 hin inl_pos1 (by decide) h0 (by decide) f_n rfl dX1_ahead_50 ?_
          refine g_icmp_ge (tgt := 123) C dX1_ahead_53 (by decide) (fun c1 => ?_) (fun c1 => absurd c1 (fun q => q (nI_le (by omega) (by omega))))
          refine g_iinc (v := nI (u + 1)) (k := 2) (lv' := [(0, .ref (a 0)), (1, .int (nI t)), (2, .int (nI (u + 1))), (3, .int (nI j))]) C dX1_ahead_123 rfl (nI_inc u) (by decide) [1, 2, 0, 3] rfl ?_
          refine g_goto (tgt := 37) C dX1_ahead_126 (by decide) ?_
          refine g_pick (lv' := [(0, .ref (a 0)), (1, .int (nI t)), (2, .int (nI (u + 1)))]) [0, 1, 2] rfl ?_
          exact ih (u + 1) e nw2 nw (by omega) (by omega) h (fun q hq => hpj q (by omega))
        | succ k2 ih2 =>
          intro j e nw2 hk2 h hpj
          obtain ⟨h0, hS, hM, hE, hr0, hnw, hod, hcn, hbf⟩ := id h
          have hb : ∀ q, q < n → mg (1028 + 16 * (u - 1)) ((fun i => FP.dmul (nw i) (M i j)) q) := fun q hq => mg_mono (mg_mul (by rw [hp q hq]; exact fA_mg hn.2 hW hr4 (u - 1) q (by omega) (by omega)) (hW.2.1 q j (by omega) (by omega)) (by omega) (by decide)) (by omega)
          refine g_iload_n C dX1_ahead_48 rfl 3 rfl ?_
          refine g_aload_n C dX1_ahead_49 rfl 0 rfl ?_
          refine g_get C 0 hin inl_pos1 (by decide) h0 (by decide) f_n rfl dX1_ahead_50 ?_
          refine g_icmp_ge (tgt := 123) C dX1_ahead_53 (by decide) (fun c1 => absurd c1 (nI_ge (by omega) (by omega))) (fun c1 => ?_)
          refine g_dconst0 C dX1_ahead_56 ?_
          refine g_dstore (lv' := [(0, .ref (a 0)), (1, .int (nI t)), (2, .int (nI u)), (3, .int (nI j)), (4, .double FP.dconst0)]) C dX1_ahead_57 (by decide) [1, 2, 3, 4, 0] rfl ?_
          refine g_iconst (v := nI 0) C dX1_ahead_59 (by decide) ?_
          refine g_istore (lv' := [(0, .ref (a 0)), (1, .int (nI t)), (2, .int (nI u)), (3, .int (nI j)), (4, .double FP.dconst0), (6, .int (nI 0))]) C dX1_ahead_60 (by decide) [1, 2, 3, 4, 5, 0] rfl ?_
          have L3 : ∀ (k3 : Nat) (i : Nat), i + k3 = n → GW p l en ({ frames := 1, cells := 0, slots := 0, locals := 22 }) s m ([.ref (a 0), .int (nI t)] : List Value).toArray below meth c 0 0 (MQ below (va_Qv (fun e1 => ∃ nw1 od1, RM cy a e1 n T th S M E r nw1 od1 cn bf ∧ ∀ j, j < n → nw1 j = fA n S M E r t j) (gB D clP 9 a) (wA 9 a)) ([.ref (a 0), .int (nI t)] : List Value).toArray s 0 0 (wA 9 a)) D clP 9 7 a (wA 9 a) e 62 [(0, .ref (a 0)), (1, .int (nI t)), (2, .int (nI u)), (3, .int (nI j)), (4, .double (fsm (fun i => FP.dmul (nw i) (M i j)) i)), (6, .int (nI i))] [] := by
            intro k3
            induction k3 with
            | zero =>
              intro i hk3
              obtain ⟨h0, hS, hM, hE, hr0, hnw, hod, hcn, hbf⟩ := id h
              refine g_iload C dX1_ahead_62 5 rfl ?_
              refine g_aload_n C dX1_ahead_64 rfl 0 rfl ?_
              refine g_get C 0 hin inl_pos1 (by decide) h0 (by decide) f_n rfl dX1_ahead_65 ?_
              refine g_icmp_ge (tgt := 102) C dX1_ahead_68 (by decide) (fun c1 => ?_) (fun c1 => absurd c1 (fun q => q (nI_le (by omega) (by omega))))
              refine g_aload_n C dX1_ahead_102 rfl 0 rfl ?_
              refine g_get C 7 hin inl_pos1 (by decide) h0 (by decide) f_now rfl dX1_ahead_103 ?_
              refine g_iload_n C dX1_ahead_106 rfl 3 rfl ?_
              refine g_dload C dX1_ahead_107 4 rfl ?_
              refine g_aload_n C dX1_ahead_109 rfl 0 rfl ?_
              refine g_iload_n C dX1_ahead_110 rfl 3 rfl ?_
              refine g_iload_n C dX1_ahead_111 rfl 2 rfl ?_
              refine g_calld (As := [.int (nI j), .int (nI u)]) (rest := [.double (fsm (fun i => FP.dmul (nw i) (M i j)) i), .int (nI j), .ref (a 5)]) C (cwV 2 C.2.2.2.2.1 gX1_ahead_X1_shown rfl rfl rfl (by decide +kernel) ⟨Nat.le_of_ble_eq_true rfl, Nat.le_of_ble_eq_true rfl⟩) (c_X1_shown l D cy a hi h j u (by omega) (by omega) hr4) (by decide) h0 inl_pos1 rfl rfl (Nat.le_of_ble_eq_true rfl) dX1_ahead_112 ⟨Nat.zero_le _, Nat.zero_le _⟩ (fun z e1 hz => ?_)
              rw [hz.1]
              obtain ⟨-, rfl⟩ := hz
              have hzA : FP.dmul (fsm (fun i => FP.dmul (nw i) (M i j)) i) (E j (r u)) = fA n S M E r u j := fA_step (F := fun _ => nw) (by rw [if_neg (by omega), show i = n from by omega]) (fun _ q hq => hp q hq)
              refine g_dmul C dX1_ahead_115 (by rw [hzA]; exact mg_n64 (fA_mg hn.2 hW hr4 u j (by omega) (by omega)) (by omega)) ?_
              refine g_dast C (by omega) hnw (by omega) (by decide) dX1_ahead_116 (fun y hy => ?_)
              have h := RM_nw h hy
              generalize va_up e 5 y = e at h ⊢
              refine g_iinc (v := nI (j + 1)) (k := 3) (lv' := [(0, .ref (a 0)), (1, .int (nI t)), (2, .int (nI u)), (3, .int (nI (j + 1))), (4, .double (fsm (fun i => FP.dmul (nw i) (M i j)) i)), (6, .int (nI i))]) C dX1_ahead_117 rfl (nI_inc j) (by decide) [1, 2, 3, 0, 4, 5] rfl ?_
              refine g_goto (tgt := 48) C dX1_ahead_120 (by decide) ?_
              refine g_pick (lv' := [(0, .ref (a 0)), (1, .int (nI t)), (2, .int (nI u)), (3, .int (nI (j + 1)))]) [0, 1, 2, 3] rfl ?_
              exact ih2 (j + 1) e _ (by omega) h (fun q hq => by
                by_cases hqj : q = j
                · subst hqj; rw [va_up_self]; exact hzA
                · rw [va_up_ne _ _ hqj]; exact hpj q (by omega))
            | succ k3 ih3 =>
              intro i hk3
              obtain ⟨h0, hS, hM, hE, hr0, hnw, hod, hcn, hbf⟩ := id h
              refine g_iload C dX1_ahead_62 5 rfl ?_
              refine g_aload_n C dX1_ahead_64 rfl 0 rfl ?_
              refine g_get C 0 hin inl_pos1 (by decide) h0 (by decide) f_n rfl dX1_ahead_65 ?_
              refine g_icmp_ge (tgt := 102) C dX1_ahead_68 (by decide) (fun c1 => absurd c1 (nI_ge (by omega) (by omega))) (fun c1 => ?_)
              refine g_dload C dX1_ahead_71 4 rfl ?_
              refine g_aload_n C dX1_ahead_73 rfl 0 rfl ?_
              refine g_get C 8 hin inl_pos1 (by decide) h0 (by decide) f_old rfl dX1_ahead_74 ?_
              refine g_iload C dX1_ahead_77 5 rfl ?_
              refine g_dald C (by omega) hod (by omega) (by decide) dX1_ahead_79 ?_
              refine g_aload_n C dX1_ahead_80 rfl 0 rfl ?_
              refine g_get C 4 hin inl_pos1 (by decide) h0 (by decide) f_moves rfl dX1_ahead_81 ?_
              refine g_bipush (v := nI 6) C dX1_ahead_84 (by decide) ?_
              refine g_iload C dX1_ahead_86 5 rfl ?_
              refine g_imul (v := nI (6 * i)) C dX1_ahead_88 (pk_mul 6 i) ?_
              refine g_iload_n C dX1_ahead_89 rfl 3 rfl ?_
              refine g_iadd (v := nI ((6 * i) + j)) C dX1_ahead_90 (nI_add (6 * i) j) ?_
              refine g_dald2 (i := i) (j := j) C (by omega) hM (by omega) (by omega) (by decide) dX1_ahead_91 ?_
              refine g_dmul C dX1_ahead_92 (mg_n64 (hb i (by omega)) (by omega)) ?_
              refine g_dadd C dX1_ahead_93 (mg_n64 (mg_add (fsm_mg hb (by omega) (by omega) i (by omega)) (mg_mono (hb i (by omega)) (by omega)) (by omega)) (by omega)) ?_
              refine g_dstore (lv' := [(0, .ref (a 0)), (1, .int (nI t)), (2, .int (nI u)), (3, .int (nI j)), (4, .double (FP.dadd (fsm (fun i => FP.dmul (nw i) (M i j)) i) (FP.dmul (nw i) (M i j)))), (6, .int (nI i))]) C dX1_ahead_94 (by decide) [1, 2, 3, 4, 0, 5] rfl ?_
              refine g_iinc (v := nI (i + 1)) (k := 5) (lv' := [(0, .ref (a 0)), (1, .int (nI t)), (2, .int (nI u)), (3, .int (nI j)), (4, .double (FP.dadd (fsm (fun i => FP.dmul (nw i) (M i j)) i) (FP.dmul (nw i) (M i j)))), (6, .int (nI (i + 1)))]) C dX1_ahead_96 rfl (nI_inc i) (by decide) [1, 2, 3, 4, 5, 0] rfl ?_
              refine g_goto (tgt := 62) C dX1_ahead_99 (by decide) ?_
              exact ih3 (i + 1) (by omega)
          exact L3 n 0 (by omega)
      exact L2 n 0 e1 nw (by omega) h (fun q hq => absurd hq (by omega))
  have L0 : ∀ (k : Nat) (j : Nat) (e : Nat → va_E) (nw : Nat → UInt64), j + k = n → RM cy a e n T th S M E r nw od cn bf → (∀ q, q < j → nw q = fA n S M E r 0 q) → GW p l en ({ frames := 1, cells := 0, slots := 0, locals := 22 }) s m ([.ref (a 0), .int (nI t)] : List Value).toArray below meth c 0 0 (MQ below (va_Qv (fun e1 => ∃ nw1 od1, RM cy a e1 n T th S M E r nw1 od1 cn bf ∧ ∀ j, j < n → nw1 j = fA n S M E r t j) (gB D clP 9 a) (wA 9 a)) ([.ref (a 0), .int (nI t)] : List Value).toArray s 0 0 (wA 9 a)) D clP 9 7 a (wA 9 a) e 2 [(0, .ref (a 0)), (1, .int (nI t)), (2, .int (nI j))] [] := by
    intro k
    induction k with
    | zero =>
      intro j e nw hk h hp
      obtain ⟨h0, hS, hM, hE, hr0, hnw, hod, hcn, hbf⟩ := id h
      refine g_iload_n C dX1_ahead_2 rfl 2 rfl ?_
      refine g_aload_n C dX1_ahead_3 rfl 0 rfl ?_
      refine g_get C 0 hin inl_pos1 (by decide) h0 (by decide) f_n rfl dX1_ahead_4 ?_
      refine g_icmp_ge (tgt := 35) C dX1_ahead_7 (by decide) (fun c1 => ?_) (fun c1 => absurd c1 (fun q => q (nI_le (by omega) (by omega))))
      refine g_iconst (v := nI 1) C dX1_ahead_35 (by decide) ?_
      refine g_istore_n (lv' := [(0, .ref (a 0)), (1, .int (nI t)), (2, .int (nI 1))]) C dX1_ahead_36 rfl (by decide) [1, 2, 0] rfl ?_
      exact K1 t 1 e nw od (by omega) (by omega) h (fun q hq => hp q (by omega))
    | succ k ih =>
      intro j e nw hk h hp
      obtain ⟨h0, hS, hM, hE, hr0, hnw, hod, hcn, hbf⟩ := id h
      refine g_iload_n C dX1_ahead_2 rfl 2 rfl ?_
      refine g_aload_n C dX1_ahead_3 rfl 0 rfl ?_
      refine g_get C 0 hin inl_pos1 (by decide) h0 (by decide) f_n rfl dX1_ahead_4 ?_
      refine g_icmp_ge (tgt := 35) C dX1_ahead_7 (by decide) (fun c1 => absurd c1 (nI_ge (by omega) (by omega))) (fun c1 => ?_)
      refine g_aload_n C dX1_ahead_10 rfl 0 rfl ?_
      refine g_get C 7 hin inl_pos1 (by decide) h0 (by decide) f_now rfl dX1_ahead_11 ?_
      refine g_iload_n C dX1_ahead_14 rfl 2 rfl ?_
      refine g_aload_n C dX1_ahead_15 rfl 0 rfl ?_
      refine g_get C 3 hin inl_pos1 (by decide) h0 (by decide) f_starts rfl dX1_ahead_16 ?_
      refine g_iload_n C dX1_ahead_19 rfl 2 rfl ?_
      refine g_dald C (by omega) hS (by omega) (by decide) dX1_ahead_20 ?_
      refine g_aload_n C dX1_ahead_21 rfl 0 rfl ?_
      refine g_iload_n C dX1_ahead_22 rfl 2 rfl ?_
      refine g_iconst (v := nI 0) C dX1_ahead_23 (by decide) ?_
      refine g_calld (As := [.int (nI j), .int (nI 0)]) (rest := [.double (S j), .int (nI j), .ref (a 5)]) C (cwV 2 C.2.2.2.2.1 gX1_ahead_X1_shown rfl rfl rfl (by decide +kernel) ⟨Nat.le_of_ble_eq_true rfl, Nat.le_of_ble_eq_true rfl⟩) (c_X1_shown l D cy a hi h j 0 (by omega) (by omega) hr4) (by decide) h0 inl_pos1 rfl rfl (Nat.le_of_ble_eq_true rfl) dX1_ahead_24 ⟨Nat.zero_le _, Nat.zero_le _⟩ (fun z e1 hz => ?_)
      rw [hz.1]
      obtain ⟨-, rfl⟩ := hz
      refine g_dmul C dX1_ahead_27 (mg_n64 (fA_mg hn.2 hW hr4 0 j (by omega) (by omega)) (by omega)) ?_
      refine g_dast C (by omega) hnw (by omega) (by decide) dX1_ahead_28 (fun y hy => ?_)
      have h := RM_nw h hy
      generalize va_up e 5 y = e at h ⊢
      refine g_iinc (v := nI (j + 1)) (k := 2) (lv' := [(0, .ref (a 0)), (1, .int (nI t)), (2, .int (nI (j + 1)))]) C dX1_ahead_29 rfl (nI_inc j) (by decide) [1, 2, 0] rfl ?_
      refine g_goto (tgt := 2) C dX1_ahead_32 (by decide) ?_
      exact ih (j + 1) e _ (by omega) h (fun q hq => by
        by_cases hqj : q = j
        · subst hqj; rw [va_up_self]; rfl
        · rw [va_up_ne _ _ hqj]; exact hp q (by omega))
  refine g_iconst (v := nI 0) C dX1_ahead_0 (by decide) ?_
  refine g_istore_n (lv' := [(0, .ref (a 0)), (1, .int (nI t)), (2, .int (nI 0))]) C dX1_ahead_1 rfl (by decide) [1, 2, 0] rfl ?_
  exact L0 n 0 e nw (by omega) h (fun q hq => absurd hq (by omega))

set_option maxHeartbeats 4000000 in
set_option maxRecDepth 100000 in
theorem c_X1_greatest (l : Launch) (D : va_G) (cy : Nat → ClassId) (a : Nat → Nat) (hi : wInj 9 a) {e : Nat → va_E} {n T th : Nat} {S : Nat → UInt64} {M E : T2} {r : Nat → Nat} {nw od : Nat → UInt64} {cn bf : Nat → Int64} (h : RM cy a e n T th S M E r nw od cn bf) (hn : 1 ≤ n ∧ n ≤ 6) (hW : WB S M E) (hr4 : RW4 r) (t : Nat) (ht : t < 12) : Met l yX1_greatest wsX1_greatest ({ frames := 1, cells := 0, slots := 0, locals := 23 }) (gPc D clP cy 9 a e [.ref (a 0), .int (nI t)]) (va_Qv (fun e1 => ∃ nw1 od1, RM cy a e1 n T th S M E r nw1 od1 cn bf ∧ ∀ j, j < n → nw1 j = fV n S M E r t j) (gB D clP 9 a) (wA 9 a)) 0 0 (wA 9 a) := by
  refine g_met (cc := cX1_greatest) (maxL := 4) (ret := none) (lv := [(0, .ref (a 0)), (1, .int (nI t))]) (by decide) rfl (Nat.le_of_ble_eq_true rfl) rfl hi (fun k hk => ⟨k, hk, rfl⟩) ?_
  intro p en s m below meth c C hr hlocks
  have hin : ∀ w ∈ u_ws RX1 TX1 11, w ∈ wsX1_greatest := by decide +kernel
  have f_n := C.2.2.2.2.1 (.fieldLink RX1 36 "PathOddsModel" "n" "I") (by decide +kernel)
  have f_now := C.2.2.2.2.1 (.fieldLink RX1 23 "PathOddsModel" "now" "[D") (by decide +kernel)
  have f_starts := C.2.2.2.2.1 (.fieldLink RX1 7 "PathOddsModel" "starts" "[D") (by decide +kernel)
  have f_old := C.2.2.2.2.1 (.fieldLink RX1 26 "PathOddsModel" "old" "[D") (by decide +kernel)
  have f_moves := C.2.2.2.2.1 (.fieldLink RX1 13 "PathOddsModel" "moves" "[D") (by decide +kernel)
  obtain ⟨h0, hS, hM, hE, hr0, hnw, hod, hcn, hbf⟩ := id h
  have K1 : ∀ (k : Nat) (u : Nat) (e : Nat → va_E) (nw od : Nat → UInt64), 1 ≤ u → u + k = t + 1 → RM cy a e n T th S M E r nw od cn bf → (∀ q, q < n → nw q = fV n S M E r (u - 1) q) → GW p l en ({ frames := 1, cells := 0, slots := 0, locals := 23 }) s m ([.ref (a 0), .int (nI t)] : List Value).toArray below meth c 0 0 (MQ below (va_Qv (fun e1 => ∃ nw1 od1, RM cy a e1 n T th S M E r nw1 od1 cn bf ∧ ∀ j, j < n → nw1 j = fV n S M E r t j) (gB D clP 9 a) (wA 9 a)) ([.ref (a 0), .int (nI t)] : List Value).toArray s 0 0 (wA 9 a)) D clP 9 4 a (wA 9 a) e 37 [(0, .ref (a 0)), (1, .int (nI t)), (2, .int (nI u))] [] := by
    intro k
    induction k with
    | zero =>
      intro u e nw od hu hk h hp
      obtain ⟨h0, hS, hM, hE, hr0, hnw, hod, hcn, hbf⟩ := id h
      refine g_iload_n C dX1_greatest_37 rfl 2 rfl ?_
      refine g_iload_n C dX1_greatest_38 rfl 1 rfl ?_
      refine g_icmp_gt (tgt := 107) C dX1_greatest_39 (by decide) (fun c1 => ?_) (fun c1 => absurd c1 (fun q => q (nI_lt (by omega) (by omega))))
      exact g_vret C hr hlocks (⟨nw, od, h, fun q hq => by rw [hp q hq, show u - 1 = t by omega]⟩) dX1_greatest_107
    | succ k ih =>
      intro u e nw od hu hk h hp
      obtain ⟨h0, hS, hM, hE, hr0, hnw, hod, hcn, hbf⟩ := id h
      refine g_iload_n C dX1_greatest_37 rfl 2 rfl ?_
      refine g_iload_n C dX1_greatest_38 rfl 1 rfl ?_
      refine g_icmp_gt (tgt := 107) C dX1_greatest_39 (by decide) (fun c1 => absurd c1 (nI_nlt (by omega) (by omega))) (fun c1 => ?_)
      have hru : r u < 4 := hr4 u (by omega)
      refine g_aload_n C dX1_greatest_42 rfl 0 rfl ?_
      refine g_callv (As := []) (rest := []) C (cwV 0 C.2.2.2.2.1 gX1_greatest_X1_shift rfl rfl rfl (by decide +kernel) ⟨Nat.le_of_ble_eq_true rfl, Nat.le_of_ble_eq_true rfl⟩) (c_X1_shift l D cy a hi h) (by decide) h0 inl_pos1 rfl rfl (Nat.le_of_ble_eq_true rfl) dX1_greatest_43 ⟨Nat.zero_le _, Nat.zero_le _⟩ (fun e1 h => ?_)
      obtain ⟨h0, hS, hM, hE, hr0, hnw, hod, hcn, hbf⟩ := id h
      refine g_iconst (v := nI 0) C dX1_greatest_46 (by decide) ?_
      refine g_istore_n (lv' := [(0, .ref (a 0)), (1, .int (nI t)), (2, .int (nI u)), (3, .int (nI 0))]) C dX1_greatest_47 rfl (by decide) [1, 2, 3, 0] rfl ?_
      have L2 : ∀ (k2 : Nat) (j : Nat) (e : Nat → va_E) (nw2 : Nat → UInt64), j + k2 = n → RM cy a e n T th S M E r nw2 nw cn bf → (∀ q, q < j → nw2 q = fV n S M E r u q) → GW p l en ({ frames := 1, cells := 0, slots := 0, locals := 23 }) s m ([.ref (a 0), .int (nI t)] : List Value).toArray below meth c 0 0 (MQ below (va_Qv (fun e1 => ∃ nw1 od1, RM cy a e1 n T th S M E r nw1 od1 cn bf ∧ ∀ j, j < n → nw1 j = fV n S M E r t j) (gB D clP 9 a) (wA 9 a)) ([.ref (a 0), .int (nI t)] : List Value).toArray s 0 0 (wA 9 a)) D clP 9 4 a (wA 9 a) e 48 [(0, .ref (a 0)), (1, .int (nI t)), (2, .int (nI u)), (3, .int (nI j))] [] := by
        intro k2
        induction k2 with
        | zero =>
          intro j e nw2 hk2 h hpj
          obtain ⟨h0, hS, hM, hE, hr0, hnw, hod, hcn, hbf⟩ := id h
          refine g_iload_n C dX1_greatest_48 rfl 3 rfl ?_
          refine g_aload_n C dX1_greatest_49 rfl 0 rfl ?_
          refine g_get C 0 hin inl_pos1 (by decide) h0 (by decide) f_n rfl dX1_greatest_50 ?_
          refine g_icmp_ge (tgt := 101) C dX1_greatest_53 (by decide) (fun c1 => ?_) (fun c1 => absurd c1 (fun q => q (nI_le (by omega) (by omega))))
          refine g_iinc (v := nI (u + 1)) (k := 2) (lv' := [(0, .ref (a 0)), (1, .int (nI t)), (2, .int (nI (u + 1))), (3, .int (nI j))]) C dX1_greatest_101 rfl (nI_inc u) (by decide) [1, 2, 0, 3] rfl ?_
          refine g_goto (tgt := 37) C dX1_greatest_104 (by decide) ?_
          refine g_pick (lv' := [(0, .ref (a 0)), (1, .int (nI t)), (2, .int (nI (u + 1)))]) [0, 1, 2] rfl ?_
          exact ih (u + 1) e nw2 nw (by omega) (by omega) h (fun q hq => hpj q (by omega))
        | succ k2 ih2 =>
          intro j e nw2 hk2 h hpj
          obtain ⟨h0, hS, hM, hE, hr0, hnw, hod, hcn, hbf⟩ := id h
          have hob : ∀ q, q < n → mg (1026 + 16 * (u - 1)) (nw q) := fun q hq => by rw [hp q hq]; exact fV_mg (by omega) hn.2 hW hr4 (u - 1) q (by omega) (by omega)
          refine g_iload_n C dX1_greatest_48 rfl 3 rfl ?_
          refine g_aload_n C dX1_greatest_49 rfl 0 rfl ?_
          refine g_get C 0 hin inl_pos1 (by decide) h0 (by decide) f_n rfl dX1_greatest_50 ?_
          refine g_icmp_ge (tgt := 101) C dX1_greatest_53 (by decide) (fun c1 => absurd c1 (nI_ge (by omega) (by omega))) (fun c1 => ?_)
          have hal : am (fun i => FP.dmul (nw i) (M i j)) n < n := am_lt (fun i => FP.dmul (nw i) (M i j)) n (by omega)
          generalize hg : am (fun i => FP.dmul (nw i) (M i j)) n = g at hal
          refine g_aload_n C dX1_greatest_56 rfl 0 rfl ?_
          refine g_get C 7 hin inl_pos1 (by decide) h0 (by decide) f_now rfl dX1_greatest_57 ?_
          refine g_iload_n C dX1_greatest_60 rfl 3 rfl ?_
          refine g_aload_n C dX1_greatest_61 rfl 0 rfl ?_
          refine g_get C 8 hin inl_pos1 (by decide) h0 (by decide) f_old rfl dX1_greatest_62 ?_
          refine g_aload_n C dX1_greatest_65 rfl 0 rfl ?_
          refine g_iload_n C dX1_greatest_66 rfl 3 rfl ?_
          refine g_calli (As := [.int (nI j)]) (rest := [.ref (a 6), .int (nI j), .ref (a 5)]) C (cwV 1 C.2.2.2.2.1 gX1_greatest_X1_from rfl rfl rfl (by decide +kernel) ⟨Nat.le_of_ble_eq_true rfl, Nat.le_of_ble_eq_true rfl⟩) (c_X1_from l D cy a hi h hn j (by omega) hW (K := 1026 + 16 * (u - 1)) (by omega) hob) (by decide) h0 inl_pos1 rfl rfl (Nat.le_of_ble_eq_true rfl) dX1_greatest_67 ⟨Nat.zero_le _, Nat.zero_le _⟩ (fun z e1 hz => ?_)
          rw [hz.1]
          obtain ⟨-, hz⟩ := hz
          rw [hg] at hz
          subst hz
          refine g_dald C (by omega) hod (by omega) (by decide) dX1_greatest_70 ?_
          refine g_aload_n C dX1_greatest_71 rfl 0 rfl ?_
          refine g_get C 4 hin inl_pos1 (by decide) h0 (by decide) f_moves rfl dX1_greatest_72 ?_
          refine g_bipush (v := nI 6) C dX1_greatest_75 (by decide) ?_
          refine g_aload_n C dX1_greatest_77 rfl 0 rfl ?_
          refine g_iload_n C dX1_greatest_78 rfl 3 rfl ?_
          refine g_calli (As := [.int (nI j)]) (rest := [.int (nI 6), .ref (a 2), .double (nw g), .int (nI j), .ref (a 5)]) C (cwV 1 C.2.2.2.2.1 gX1_greatest_X1_from rfl rfl rfl (by decide +kernel) ⟨Nat.le_of_ble_eq_true rfl, Nat.le_of_ble_eq_true rfl⟩) (c_X1_from l D cy a hi h hn j (by omega) hW (K := 1026 + 16 * (u - 1)) (by omega) hob) (by decide) h0 inl_pos1 rfl rfl (Nat.le_of_ble_eq_true rfl) dX1_greatest_79 ⟨Nat.zero_le _, Nat.zero_le _⟩ (fun z e1 hz => ?_)
          rw [hz.1]
          obtain ⟨-, hz⟩ := hz
          rw [hg] at hz
          subst hz
          refine g_imul (v := nI (6 * g)) C dX1_greatest_82 (pk_mul 6 g) ?_
          refine g_iload_n C dX1_greatest_83 rfl 3 rfl ?_
          refine g_iadd (v := nI ((6 * g) + j)) C dX1_greatest_84 (nI_add (6 * g) j) ?_
          refine g_dald2 (i := g) (j := j) C (by omega) hM (by omega) (by omega) (by decide) dX1_greatest_85 ?_
          refine g_dmul C dX1_greatest_86 (mg_n64 (mg_mul (hob g hal) (hW.2.1 g j (by omega) (by omega)) (by omega) (by decide)) (by omega)) ?_
          refine g_aload_n C dX1_greatest_87 rfl 0 rfl ?_
          refine g_iload_n C dX1_greatest_88 rfl 3 rfl ?_
          refine g_iload_n C dX1_greatest_89 rfl 2 rfl ?_
          refine g_calld (As := [.int (nI j), .int (nI u)]) (rest := [.double (FP.dmul (nw g) (M g j)), .int (nI j), .ref (a 5)]) C (cwV 2 C.2.2.2.2.1 gX1_greatest_X1_shown rfl rfl rfl (by decide +kernel) ⟨Nat.le_of_ble_eq_true rfl, Nat.le_of_ble_eq_true rfl⟩) (c_X1_shown l D cy a hi h j u (by omega) (by omega) hr4) (by decide) h0 inl_pos1 rfl rfl (Nat.le_of_ble_eq_true rfl) dX1_greatest_90 ⟨Nat.zero_le _, Nat.zero_le _⟩ (fun z e1 hz => ?_)
          rw [hz.1]
          obtain ⟨-, rfl⟩ := hz
          have hzA : FP.dmul (FP.dmul (nw g) (M g j)) (E j (r u)) = fV n S M E r u j := fV_step (V := fun _ => nw) (by omega) (fun q => absurd q (by omega)) (fun _ => by rw [show am (fun i => FP.dmul ((fun _ => nw) (u - 1) i) (M i j)) n = g from hg]) (fun _ q hq => hp q hq)
          refine g_dmul C dX1_greatest_93 (by rw [hzA]; exact mg_n64 (fV_mg (by omega) hn.2 hW hr4 u j (by omega) (by omega)) (by omega)) ?_
          refine g_dast C (by omega) hnw (by omega) (by decide) dX1_greatest_94 (fun y hy => ?_)
          have h := RM_nw h hy
          generalize va_up e 5 y = e at h ⊢
          refine g_iinc (v := nI (j + 1)) (k := 3) (lv' := [(0, .ref (a 0)), (1, .int (nI t)), (2, .int (nI u)), (3, .int (nI (j + 1)))]) C dX1_greatest_95 rfl (nI_inc j) (by decide) [1, 2, 3, 0] rfl ?_
          refine g_goto (tgt := 48) C dX1_greatest_98 (by decide) ?_
          exact ih2 (j + 1) e _ (by omega) h (fun q hq => by
            by_cases hqj : q = j
            · subst hqj; rw [va_up_self]; exact hzA
            · rw [va_up_ne _ _ hqj]; exact hpj q (by omega))
      exact L2 n 0 e1 nw (by omega) h (fun q hq => absurd hq (by omega))
  have L0 : ∀ (k : Nat) (j : Nat) (e : Nat → va_E) (nw : Nat → UInt64), j + k = n → RM cy a e n T th S M E r nw od cn bf → (∀ q, q < j → nw q = fV n S M E r 0 q) → GW p l en ({ frames := 1, cells := 0, slots := 0, locals := 23 }) s m ([.ref (a 0), .int (nI t)] : List Value).toArray below meth c 0 0 (MQ below (va_Qv (fun e1 => ∃ nw1 od1, RM cy a e1 n T th S M E r nw1 od1 cn bf ∧ ∀ j, j < n → nw1 j = fV n S M E r t j) (gB D clP 9 a) (wA 9 a)) ([.ref (a 0), .int (nI t)] : List Value).toArray s 0 0 (wA 9 a)) D clP 9 4 a (wA 9 a) e 2 [(0, .ref (a 0)), (1, .int (nI t)), (2, .int (nI j))] [] := by
    intro k
    induction k with
    | zero =>
      intro j e nw hk h hp
      obtain ⟨h0, hS, hM, hE, hr0, hnw, hod, hcn, hbf⟩ := id h
      refine g_iload_n C dX1_greatest_2 rfl 2 rfl ?_
      refine g_aload_n C dX1_greatest_3 rfl 0 rfl ?_
      refine g_get C 0 hin inl_pos1 (by decide) h0 (by decide) f_n rfl dX1_greatest_4 ?_
      refine g_icmp_ge (tgt := 35) C dX1_greatest_7 (by decide) (fun c1 => ?_) (fun c1 => absurd c1 (fun q => q (nI_le (by omega) (by omega))))
      refine g_iconst (v := nI 1) C dX1_greatest_35 (by decide) ?_
      refine g_istore_n (lv' := [(0, .ref (a 0)), (1, .int (nI t)), (2, .int (nI 1))]) C dX1_greatest_36 rfl (by decide) [1, 2, 0] rfl ?_
      exact K1 t 1 e nw od (by omega) (by omega) h (fun q hq => hp q (by omega))
    | succ k ih =>
      intro j e nw hk h hp
      obtain ⟨h0, hS, hM, hE, hr0, hnw, hod, hcn, hbf⟩ := id h
      refine g_iload_n C dX1_greatest_2 rfl 2 rfl ?_
      refine g_aload_n C dX1_greatest_3 rfl 0 rfl ?_
      refine g_get C 0 hin inl_pos1 (by decide) h0 (by decide) f_n rfl dX1_greatest_4 ?_
      refine g_icmp_ge (tgt := 35) C dX1_greatest_7 (by decide) (fun c1 => absurd c1 (nI_ge (by omega) (by omega))) (fun c1 => ?_)
      refine g_aload_n C dX1_greatest_10 rfl 0 rfl ?_
      refine g_get C 7 hin inl_pos1 (by decide) h0 (by decide) f_now rfl dX1_greatest_11 ?_
      refine g_iload_n C dX1_greatest_14 rfl 2 rfl ?_
      refine g_aload_n C dX1_greatest_15 rfl 0 rfl ?_
      refine g_get C 3 hin inl_pos1 (by decide) h0 (by decide) f_starts rfl dX1_greatest_16 ?_
      refine g_iload_n C dX1_greatest_19 rfl 2 rfl ?_
      refine g_dald C (by omega) hS (by omega) (by decide) dX1_greatest_20 ?_
      refine g_aload_n C dX1_greatest_21 rfl 0 rfl ?_
      refine g_iload_n C dX1_greatest_22 rfl 2 rfl ?_
      refine g_iconst (v := nI 0) C dX1_greatest_23 (by decide) ?_
      refine g_calld (As := [.int (nI j), .int (nI 0)]) (rest := [.double (S j), .int (nI j), .ref (a 5)]) C (cwV 2 C.2.2.2.2.1 gX1_greatest_X1_shown rfl rfl rfl (by decide +kernel) ⟨Nat.le_of_ble_eq_true rfl, Nat.le_of_ble_eq_true rfl⟩) (c_X1_shown l D cy a hi h j 0 (by omega) (by omega) hr4) (by decide) h0 inl_pos1 rfl rfl (Nat.le_of_ble_eq_true rfl) dX1_greatest_24 ⟨Nat.zero_le _, Nat.zero_le _⟩ (fun z e1 hz => ?_)
      rw [hz.1]
      obtain ⟨-, rfl⟩ := hz
      refine g_dmul C dX1_greatest_27 (mg_n64 (fV_mg (by omega) hn.2 hW hr4 0 j (by omega) (by omega)) (by omega)) ?_
      refine g_dast C (by omega) hnw (by omega) (by decide) dX1_greatest_28 (fun y hy => ?_)
      have h := RM_nw h hy
      generalize va_up e 5 y = e at h ⊢
      refine g_iinc (v := nI (j + 1)) (k := 2) (lv' := [(0, .ref (a 0)), (1, .int (nI t)), (2, .int (nI (j + 1)))]) C dX1_greatest_29 rfl (nI_inc j) (by decide) [1, 2, 0] rfl ?_
      refine g_goto (tgt := 2) C dX1_greatest_32 (by decide) ?_
      exact ih (j + 1) e _ (by omega) h (fun q hq => by
        by_cases hqj : q = j
        · subst hqj; rw [va_up_self]; rfl
        · rw [va_up_ne _ _ hqj]; exact hp q (by omega))
  refine g_iconst (v := nI 0) C dX1_greatest_0 (by decide) ?_
  refine g_istore_n (lv' := [(0, .ref (a 0)), (1, .int (nI t)), (2, .int (nI 0))]) C dX1_greatest_1 rfl (by decide) [1, 2, 0] rfl ?_
  exact L0 n 0 e nw (by omega) h (fun q hq => absurd hq (by omega))

set_option maxHeartbeats 4000000 in
set_option maxRecDepth 100000 in
theorem c_X1_behind (l : Launch) (D : va_G) (cy : Nat → ClassId) (a : Nat → Nat) (hi : wInj 9 a) {e : Nat → va_E} {n T th : Nat} {S : Nat → UInt64} {M E : T2} {r : Nat → Nat} {nw od : Nat → UInt64} {cn bf : Nat → Int64} (h : RM cy a e n T th S M E r nw od cn bf) (hn : 1 ≤ n ∧ n ≤ 6) (hW : WB S M E) (hr4 : RW4 r) (hT : T ≤ 12) (t : Nat) (ht : t < T) : Met l yX1_behind wsX1_behind ({ frames := 1, cells := 0, slots := 0, locals := 22 }) (gPc D clP cy 9 a e [.ref (a 0), .int (nI t)]) (va_Qv (fun e1 => ∃ nw1 od1, RM cy a e1 n T th S M E r nw1 od1 cn bf ∧ ∀ j, j < n → nw1 j = fB n M E r T (T - 1 - t) j) (gB D clP 9 a) (wA 9 a)) 0 0 (wA 9 a) := by
  refine g_met (cc := cX1_behind) (maxL := 7) (ret := none) (lv := [(0, .ref (a 0)), (1, .int (nI t))]) (by decide) rfl (Nat.le_of_ble_eq_true rfl) rfl hi (fun k hk => ⟨k, hk, rfl⟩) ?_
  intro p en s m below meth c C hr hlocks
  have hin : ∀ w ∈ u_ws RX1 TX1 11, w ∈ wsX1_behind := by decide +kernel
  have f_n := C.2.2.2.2.1 (.fieldLink RX1 36 "PathOddsModel" "n" "I") (by decide +kernel)
  have f_now := C.2.2.2.2.1 (.fieldLink RX1 23 "PathOddsModel" "now" "[D") (by decide +kernel)
  have f_length := C.2.2.2.2.1 (.fieldLink RX1 43 "PathOddsModel" "length" "I") (by decide +kernel)
  have f_moves := C.2.2.2.2.1 (.fieldLink RX1 13 "PathOddsModel" "moves" "[D") (by decide +kernel)
  have f_old := C.2.2.2.2.1 (.fieldLink RX1 26 "PathOddsModel" "old" "[D") (by decide +kernel)
  obtain ⟨h0, hS, hM, hE, hr0, hnw, hod, hcn, hbf⟩ := id h
  have K1 : ∀ (k : Nat) (d : Nat) (e : Nat → va_E) (nw od : Nat → UInt64) (x2 : Int32), d + k = T - 1 - t → RM cy a e n T th S M E r nw od cn bf → (∀ q, q < n → nw q = fB n M E r T d q) → ((d + 2 ≤ T → x2 = nI (T - 2 - d)) ∧ (d + 1 = T → x2 = -1)) → GW p l en ({ frames := 1, cells := 0, slots := 0, locals := 22 }) s m ([.ref (a 0), .int (nI t)] : List Value).toArray below meth c 0 0 (MQ below (va_Qv (fun e1 => ∃ nw1 od1, RM cy a e1 n T th S M E r nw1 od1 cn bf ∧ ∀ j, j < n → nw1 j = fB n M E r T (T - 1 - t) j) (gB D clP 9 a) (wA 9 a)) ([.ref (a 0), .int (nI t)] : List Value).toArray s 0 0 (wA 9 a)) D clP 9 7 a (wA 9 a) e 30 [(0, .ref (a 0)), (1, .int (nI t)), (2, .int x2)] [] := by
    intro k
    induction k with
    | zero =>
      intro d e nw od x2 hk h hp hx
      obtain ⟨h0, hS, hM, hE, hr0, hnw, hod, hcn, hbf⟩ := id h
      have hlt : x2 < nI t := by
        by_cases h0t : t = 0
        · rw [hx.2 (by omega), h0t]; decide
        · rw [hx.1 (by omega)]; exact nI_lt (by omega) (by omega)
      refine g_iload_n C dX1_behind_30 rfl 2 rfl ?_
      refine g_iload_n C dX1_behind_31 rfl 1 rfl ?_
      refine g_icmp_lt (tgt := 125) C dX1_behind_32 (by decide) (fun c1 => ?_) (fun c1 => absurd c1 (fun q => q hlt))
      exact g_vret C hr hlocks (⟨nw, od, h, fun q hq => by rw [hp q hq, show d = T - 1 - t by omega]⟩) dX1_behind_125
    | succ k ih =>
      intro d e nw od x2 hk h hp hx
      obtain ⟨h0, hS, hM, hE, hr0, hnw, hod, hcn, hbf⟩ := id h
      have hx1 := hx.1 (by omega)
      subst hx1
      refine g_iload_n C dX1_behind_30 rfl 2 rfl ?_
      refine g_iload_n C dX1_behind_31 rfl 1 rfl ?_
      refine g_icmp_lt (tgt := 125) C dX1_behind_32 (by decide) (fun c1 => absurd c1 (nI_nlt (by omega) (by omega))) (fun c1 => ?_)
      have hru : r (T - 2 - d + 1) < 4 := hr4 _ (by omega)
      refine g_aload_n C dX1_behind_35 rfl 0 rfl ?_
      refine g_callv (As := []) (rest := []) C (cwV 0 C.2.2.2.2.1 gX1_behind_X1_shift rfl rfl rfl (by decide +kernel) ⟨Nat.le_of_ble_eq_true rfl, Nat.le_of_ble_eq_true rfl⟩) (c_X1_shift l D cy a hi h) (by decide) h0 inl_pos1 rfl rfl (Nat.le_of_ble_eq_true rfl) dX1_behind_36 ⟨Nat.zero_le _, Nat.zero_le _⟩ (fun e1 h => ?_)
      obtain ⟨h0, hS, hM, hE, hr0, hnw, hod, hcn, hbf⟩ := id h
      refine g_iconst (v := nI 0) C dX1_behind_39 (by decide) ?_
      refine g_istore_n (lv' := [(0, .ref (a 0)), (1, .int (nI t)), (2, .int (nI (T - 2 - d))), (3, .int (nI 0))]) C dX1_behind_40 rfl (by decide) [1, 2, 3, 0] rfl ?_
      have L2 : ∀ (k2 : Nat) (j : Nat) (e : Nat → va_E) (nw2 : Nat → UInt64), j + k2 = n → RM cy a e n T th S M E r nw2 nw cn bf → (∀ q, q < j → nw2 q = fB n M E r T (d + 1) q) → GW p l en ({ frames := 1, cells := 0, slots := 0, locals := 22 }) s m ([.ref (a 0), .int (nI t)] : List Value).toArray below meth c 0 0 (MQ below (va_Qv (fun e1 => ∃ nw1 od1, RM cy a e1 n T th S M E r nw1 od1 cn bf ∧ ∀ j, j < n → nw1 j = fB n M E r T (T - 1 - t) j) (gB D clP 9 a) (wA 9 a)) ([.ref (a 0), .int (nI t)] : List Value).toArray s 0 0 (wA 9 a)) D clP 9 7 a (wA 9 a) e 41 [(0, .ref (a 0)), (1, .int (nI t)), (2, .int (nI (T - 2 - d))), (3, .int (nI j))] [] := by
        intro k2
        induction k2 with
        | zero =>
          intro j e nw2 hk2 h hpj
          obtain ⟨h0, hS, hM, hE, hr0, hnw, hod, hcn, hbf⟩ := id h
          refine g_iload_n C dX1_behind_41 rfl 3 rfl ?_
          refine g_aload_n C dX1_behind_42 rfl 0 rfl ?_
          refine g_get C 0 hin inl_pos1 (by decide) h0 (by decide) f_n rfl dX1_behind_43 ?_
          refine g_icmp_ge (tgt := 119) C dX1_behind_46 (by decide) (fun c1 => ?_) (fun c1 => absurd c1 (fun q => q (nI_le (by omega) (by omega))))
          refine g_iinc (v := nI (T - 2 - d) + Int32.ofInt (-1)) (k := 2) (lv' := [(0, .ref (a 0)), (1, .int (nI t)), (2, .int (nI (T - 2 - d) + Int32.ofInt (-1))), (3, .int (nI j))]) C dX1_behind_119 rfl (rfl) (by decide) [1, 2, 0, 3] rfl ?_
          refine g_goto (tgt := 30) C dX1_behind_122 (by decide) ?_
          refine g_pick (lv' := [(0, .ref (a 0)), (1, .int (nI t)), (2, .int (nI (T - 2 - d) + Int32.ofInt (-1)))]) [0, 1, 2] rfl ?_
          exact ih (d + 1) e nw2 nw _ (by omega) h (fun q hq => hpj q (by omega)) ⟨fun hd => by rw [nI_dec (by omega), show T - 2 - d - 1 = T - 2 - (d + 1) by omega], fun hd => by rw [show T - 2 - d = 0 by omega]; decide⟩
        | succ k2 ih2 =>
          intro j e nw2 hk2 h hpj
          obtain ⟨h0, hS, hM, hE, hr0, hnw, hod, hcn, hbf⟩ := id h
          have hm : ∀ q, q < n → j < n → mg 1026 (FP.dmul (M j q) (E q (r (T - 2 - d + 1)))) := fun q hq hj => mg_mono (mg_mul (hW.2.1 j q (by omega) (by omega)) (hW.2.2 q _ (by omega) hru) (by decide) (by decide)) (by decide)
          have hb : ∀ q, q < n → mg (1028 + 16 * d) ((fun q => FP.dmul (FP.dmul (M j q) (E q (r (T - 2 - d + 1)))) (nw q)) q) := fun q hq => mg_mono (mg_mul (hm q hq (by omega)) (by rw [hp q hq]; exact fB_mg (S := S) hn.2 hT hW hr4 d q (by omega) (by omega)) (by decide) (by omega)) (by omega)
          refine g_iload_n C dX1_behind_41 rfl 3 rfl ?_
          refine g_aload_n C dX1_behind_42 rfl 0 rfl ?_
          refine g_get C 0 hin inl_pos1 (by decide) h0 (by decide) f_n rfl dX1_behind_43 ?_
          refine g_icmp_ge (tgt := 119) C dX1_behind_46 (by decide) (fun c1 => absurd c1 (nI_ge (by omega) (by omega))) (fun c1 => ?_)
          refine g_dconst0 C dX1_behind_49 ?_
          refine g_dstore (lv' := [(0, .ref (a 0)), (1, .int (nI t)), (2, .int (nI (T - 2 - d))), (3, .int (nI j)), (4, .double FP.dconst0)]) C dX1_behind_50 (by decide) [1, 2, 3, 4, 0] rfl ?_
          refine g_iconst (v := nI 0) C dX1_behind_52 (by decide) ?_
          refine g_istore (lv' := [(0, .ref (a 0)), (1, .int (nI t)), (2, .int (nI (T - 2 - d))), (3, .int (nI j)), (4, .double FP.dconst0), (6, .int (nI 0))]) C dX1_behind_53 (by decide) [1, 2, 3, 4, 5, 0] rfl ?_
          have L3 : ∀ (k3 : Nat) (i : Nat), i + k3 = n → GW p l en ({ frames := 1, cells := 0, slots := 0, locals := 22 }) s m ([.ref (a 0), .int (nI t)] : List Value).toArray below meth c 0 0 (MQ below (va_Qv (fun e1 => ∃ nw1 od1, RM cy a e1 n T th S M E r nw1 od1 cn bf ∧ ∀ j, j < n → nw1 j = fB n M E r T (T - 1 - t) j) (gB D clP 9 a) (wA 9 a)) ([.ref (a 0), .int (nI t)] : List Value).toArray s 0 0 (wA 9 a)) D clP 9 7 a (wA 9 a) e 55 [(0, .ref (a 0)), (1, .int (nI t)), (2, .int (nI (T - 2 - d))), (3, .int (nI j)), (4, .double (fsm (fun q => FP.dmul (FP.dmul (M j q) (E q (r (T - 2 - d + 1)))) (nw q)) i)), (6, .int (nI i))] [] := by
            intro k3
            induction k3 with
            | zero =>
              intro i hk3
              obtain ⟨h0, hS, hM, hE, hr0, hnw, hod, hcn, hbf⟩ := id h
              refine g_iload C dX1_behind_55 5 rfl ?_
              refine g_aload_n C dX1_behind_57 rfl 0 rfl ?_
              refine g_get C 0 hin inl_pos1 (by decide) h0 (by decide) f_n rfl dX1_behind_58 ?_
              refine g_icmp_ge (tgt := 105) C dX1_behind_61 (by decide) (fun c1 => ?_) (fun c1 => absurd c1 (fun q => q (nI_le (by omega) (by omega))))
              refine g_aload_n C dX1_behind_105 rfl 0 rfl ?_
              refine g_get C 7 hin inl_pos1 (by decide) h0 (by decide) f_now rfl dX1_behind_106 ?_
              refine g_iload_n C dX1_behind_109 rfl 3 rfl ?_
              refine g_dload C dX1_behind_110 4 rfl ?_
              have hzA : fsm (fun q => FP.dmul (FP.dmul (M j q) (E q (r (T - 2 - d + 1)))) (nw q)) i = fB n M E r T (d + 1) j := by
                rw [show i = n from by omega]
                exact fsm_congr (fun q hq => by
                  show FP.dmul (FP.dmul (M j q) (E q (r (T - 2 - d + 1)))) (nw q) = FP.dmul (FP.dmul (M j q) (E q (r (T - 1 - d)))) (fB n M E r T d q)
                  rw [hp q hq, show T - 2 - d + 1 = T - 1 - d by omega]) n (Nat.le_refl n)
              refine g_dast C (by omega) hnw (by omega) (by decide) dX1_behind_112 (fun y hy => ?_)
              have h := RM_nw h hy
              generalize va_up e 5 y = e at h ⊢
              refine g_iinc (v := nI (j + 1)) (k := 3) (lv' := [(0, .ref (a 0)), (1, .int (nI t)), (2, .int (nI (T - 2 - d))), (3, .int (nI (j + 1))), (4, .double (fsm (fun q => FP.dmul (FP.dmul (M j q) (E q (r (T - 2 - d + 1)))) (nw q)) i)), (6, .int (nI i))]) C dX1_behind_113 rfl (nI_inc j) (by decide) [1, 2, 3, 0, 4, 5] rfl ?_
              refine g_goto (tgt := 41) C dX1_behind_116 (by decide) ?_
              refine g_pick (lv' := [(0, .ref (a 0)), (1, .int (nI t)), (2, .int (nI (T - 2 - d))), (3, .int (nI (j + 1)))]) [0, 1, 2, 3] rfl ?_
              exact ih2 (j + 1) e _ (by omega) h (fun q hq => by
                by_cases hqj : q = j
                · subst hqj; rw [va_up_self]; exact hzA
                · rw [va_up_ne _ _ hqj]; exact hpj q (by omega))
            | succ k3 ih3 =>
              intro i hk3
              obtain ⟨h0, hS, hM, hE, hr0, hnw, hod, hcn, hbf⟩ := id h
              refine g_iload C dX1_behind_55 5 rfl ?_
              refine g_aload_n C dX1_behind_57 rfl 0 rfl ?_
              refine g_get C 0 hin inl_pos1 (by decide) h0 (by decide) f_n rfl dX1_behind_58 ?_
              refine g_icmp_ge (tgt := 105) C dX1_behind_61 (by decide) (fun c1 => absurd c1 (nI_ge (by omega) (by omega))) (fun c1 => ?_)
              refine g_dload C dX1_behind_64 4 rfl ?_
              refine g_aload_n C dX1_behind_66 rfl 0 rfl ?_
              refine g_get C 4 hin inl_pos1 (by decide) h0 (by decide) f_moves rfl dX1_behind_67 ?_
              refine g_bipush (v := nI 6) C dX1_behind_70 (by decide) ?_
              refine g_iload_n C dX1_behind_72 rfl 3 rfl ?_
              refine g_imul (v := nI (6 * j)) C dX1_behind_73 (pk_mul 6 j) ?_
              refine g_iload C dX1_behind_74 5 rfl ?_
              refine g_iadd (v := nI ((6 * j) + i)) C dX1_behind_76 (nI_add (6 * j) i) ?_
              refine g_dald2 (i := j) (j := i) C (by omega) hM (by omega) (by omega) (by decide) dX1_behind_77 ?_
              refine g_aload_n C dX1_behind_78 rfl 0 rfl ?_
              refine g_iload C dX1_behind_79 5 rfl ?_
              refine g_iload_n C dX1_behind_81 rfl 2 rfl ?_
              refine g_iconst (v := nI 1) C dX1_behind_82 (by decide) ?_
              refine g_iadd (v := nI ((T - 2 - d) + 1)) C dX1_behind_83 (nI_add (T - 2 - d) 1) ?_
              refine g_calld (As := [.int (nI i), .int (nI ((T - 2 - d) + 1))]) (rest := [.double (M j i), .double (fsm (fun q => FP.dmul (FP.dmul (M j q) (E q (r (T - 2 - d + 1)))) (nw q)) i)]) C (cwV 2 C.2.2.2.2.1 gX1_behind_X1_shown rfl rfl rfl (by decide +kernel) ⟨Nat.le_of_ble_eq_true rfl, Nat.le_of_ble_eq_true rfl⟩) (c_X1_shown l D cy a hi h i (T - 2 - d + 1) (by omega) (by omega) hr4) (by decide) h0 inl_pos1 rfl rfl (Nat.le_of_ble_eq_true rfl) dX1_behind_84 ⟨Nat.zero_le _, Nat.zero_le _⟩ (fun z e1 hz => ?_)
              rw [hz.1]
              obtain ⟨-, rfl⟩ := hz
              refine g_dmul C dX1_behind_87 (mg_n64 (hm i (by omega) (by omega)) (by omega)) ?_
              refine g_aload_n C dX1_behind_88 rfl 0 rfl ?_
              refine g_get C 8 hin inl_pos1 (by decide) h0 (by decide) f_old rfl dX1_behind_89 ?_
              refine g_iload C dX1_behind_92 5 rfl ?_
              refine g_dald C (by omega) hod (by omega) (by decide) dX1_behind_94 ?_
              refine g_dmul C dX1_behind_95 (mg_n64 (hb i (by omega)) (by omega)) ?_
              refine g_dadd C dX1_behind_96 (mg_n64 (mg_add (fsm_mg hb (by omega) (by omega) i (by omega)) (mg_mono (hb i (by omega)) (by omega)) (by omega)) (by omega)) ?_
              refine g_dstore (lv' := [(0, .ref (a 0)), (1, .int (nI t)), (2, .int (nI (T - 2 - d))), (3, .int (nI j)), (4, .double (FP.dadd (fsm (fun q => FP.dmul (FP.dmul (M j q) (E q (r (T - 2 - d + 1)))) (nw q)) i) (FP.dmul (FP.dmul (M j i) (E i (r (T - 2 - d + 1)))) (nw i)))), (6, .int (nI i))]) C dX1_behind_97 (by decide) [1, 2, 3, 4, 0, 5] rfl ?_
              refine g_iinc (v := nI (i + 1)) (k := 5) (lv' := [(0, .ref (a 0)), (1, .int (nI t)), (2, .int (nI (T - 2 - d))), (3, .int (nI j)), (4, .double (FP.dadd (fsm (fun q => FP.dmul (FP.dmul (M j q) (E q (r (T - 2 - d + 1)))) (nw q)) i) (FP.dmul (FP.dmul (M j i) (E i (r (T - 2 - d + 1)))) (nw i)))), (6, .int (nI (i + 1)))]) C dX1_behind_99 rfl (nI_inc i) (by decide) [1, 2, 3, 4, 5, 0] rfl ?_
              refine g_goto (tgt := 55) C dX1_behind_102 (by decide) ?_
              exact ih3 (i + 1) (by omega)
          exact L3 n 0 (by omega)
      exact L2 n 0 e1 nw (by omega) h (fun q hq => absurd hq (by omega))
  have L0 : ∀ (k : Nat) (j : Nat) (e : Nat → va_E) (nw : Nat → UInt64), j + k = n → RM cy a e n T th S M E r nw od cn bf → (∀ q, q < j → nw q = fB n M E r T 0 q) → GW p l en ({ frames := 1, cells := 0, slots := 0, locals := 22 }) s m ([.ref (a 0), .int (nI t)] : List Value).toArray below meth c 0 0 (MQ below (va_Qv (fun e1 => ∃ nw1 od1, RM cy a e1 n T th S M E r nw1 od1 cn bf ∧ ∀ j, j < n → nw1 j = fB n M E r T (T - 1 - t) j) (gB D clP 9 a) (wA 9 a)) ([.ref (a 0), .int (nI t)] : List Value).toArray s 0 0 (wA 9 a)) D clP 9 7 a (wA 9 a) e 2 [(0, .ref (a 0)), (1, .int (nI t)), (2, .int (nI j))] [] := by
    intro k
    induction k with
    | zero =>
      intro j e nw hk h hp
      obtain ⟨h0, hS, hM, hE, hr0, hnw, hod, hcn, hbf⟩ := id h
      refine g_iload_n C dX1_behind_2 rfl 2 rfl ?_
      refine g_aload_n C dX1_behind_3 rfl 0 rfl ?_
      refine g_get C 0 hin inl_pos1 (by decide) h0 (by decide) f_n rfl dX1_behind_4 ?_
      refine g_icmp_ge (tgt := 23) C dX1_behind_7 (by decide) (fun c1 => ?_) (fun c1 => absurd c1 (fun q => q (nI_le (by omega) (by omega))))
      refine g_aload_n C dX1_behind_23 rfl 0 rfl ?_
      refine g_get C 1 hin inl_pos1 (by decide) h0 (by decide) f_length rfl dX1_behind_24 ?_
      refine g_iconst (v := nI 2) C dX1_behind_27 (by decide) ?_
      refine g_isub (v := nI T - nI 2) C dX1_behind_28 rfl ?_
      refine g_istore_n (lv' := [(0, .ref (a 0)), (1, .int (nI t)), (2, .int (nI T - nI 2))]) C dX1_behind_29 rfl (by decide) [1, 2, 0] rfl ?_
      exact K1 (T - 1 - t) 0 e nw od _ (by omega) h (fun q hq => hp q (by omega)) ⟨fun hd => pk_sub hd, fun hd => by rw [show T = 1 by omega]; decide⟩
    | succ k ih =>
      intro j e nw hk h hp
      obtain ⟨h0, hS, hM, hE, hr0, hnw, hod, hcn, hbf⟩ := id h
      refine g_iload_n C dX1_behind_2 rfl 2 rfl ?_
      refine g_aload_n C dX1_behind_3 rfl 0 rfl ?_
      refine g_get C 0 hin inl_pos1 (by decide) h0 (by decide) f_n rfl dX1_behind_4 ?_
      refine g_icmp_ge (tgt := 23) C dX1_behind_7 (by decide) (fun c1 => absurd c1 (nI_ge (by omega) (by omega))) (fun c1 => ?_)
      refine g_aload_n C dX1_behind_10 rfl 0 rfl ?_
      refine g_get C 7 hin inl_pos1 (by decide) h0 (by decide) f_now rfl dX1_behind_11 ?_
      refine g_iload_n C dX1_behind_14 rfl 2 rfl ?_
      refine g_dconst1 C dX1_behind_15 ?_
      refine g_dast C (by omega) hnw (by omega) (by decide) dX1_behind_16 (fun y hy => ?_)
      have h := RM_nw h hy
      generalize va_up e 5 y = e at h ⊢
      refine g_iinc (v := nI (j + 1)) (k := 2) (lv' := [(0, .ref (a 0)), (1, .int (nI t)), (2, .int (nI (j + 1)))]) C dX1_behind_17 rfl (nI_inc j) (by decide) [1, 2, 0] rfl ?_
      refine g_goto (tgt := 2) C dX1_behind_20 (by decide) ?_
      exact ih (j + 1) e _ (by omega) h (fun q hq => by
        by_cases hqj : q = j
        · subst hqj; rw [va_up_self]; rfl
        · rw [va_up_ne _ _ hqj]; exact hp q (by omega))
  refine g_iconst (v := nI 0) C dX1_behind_0 (by decide) ?_
  refine g_istore_n (lv' := [(0, .ref (a 0)), (1, .int (nI t)), (2, .int (nI 0))]) C dX1_behind_1 rfl (by decide) [1, 2, 0] rfl ?_
  exact L0 n 0 e nw (by omega) h (fun q hq => absurd hq (by omega))
