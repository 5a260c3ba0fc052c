set_option maxHeartbeats 4000000 in
set_option maxRecDepth 100000 in
theorem c_X0_bestInto (l : Launch) (D : va_G) (cy : Nat → ClassId) (a : Nat → Nat) (hi : wInj 82 a) {e : Nat → va_E} {n T : Nat} {S : Nat → UInt64} {M E : T2} {r : Nat → Nat} {F B V : T2} {G : Nat → Nat → Int32} {Cn : Nat → Nat → Int64} (h : RP cy a e n T S M E r F B V G Cn) (hn : 1 ≤ n ∧ n ≤ 6) (t j : Nat) (ht : t < 12) (hj : j < n) (hW : WB S M E) {K : Nat} (hK : K ≤ 1900) (hVb : 0 < t → ∀ i, i < n → mg K (V (t - 1) i)) : Met l yX0_bestInto wsX0_bestInto ({ frames := 0, cells := 0, slots := 0, locals := 0 }) (gPc D clP cy 82 a e [.ref (a 0), .int (nI t), .int (nI j)]) (va_Qd (fun z e1 => ∃ G1 : Nat → Nat → Int32, RP cy a e1 n T S M E r F B V G1 Cn ∧ (t = 0 → z = S j) ∧ (0 < t → z = (fun i => FP.dmul (V (t - 1) i) (M i j)) (am (fun i => FP.dmul (V (t - 1) i) (M i j)) n)) ∧ (0 < t → G1 t j = nI (am (fun i => FP.dmul (V (t - 1) i) (M i j)) n)) ∧ (∀ u q, ¬ (u = t ∧ q = j) → G1 u q = G u q)) (gB D clP 82 a) (wA 82 a)) 0 0 (wA 82 a) := by
  refine g_met (cc := cX0_bestInto) (maxL := 9) (ret := (some .double)) (lv := [(0, .ref (a 0)), (1, .int (nI t)), (2, .int (nI j))]) (by decide) rfl (Nat.le_of_ble_eq_true rfl) rfl hi (fun k hk => ⟨k, hk, rfl⟩) ?_
  intro p en s m below meth c C hr hlocks
  have hin : ∀ w ∈ u_ws RX0 TX0 11, w ∈ wsX0_bestInto := by decide +kernel
  have f_startWeights := C.2.2.2.2.1 (.fieldLink RX0 9 "PathOdds" "startWeights" "[D") (by decide +kernel)
  have f_bestOdds := C.2.2.2.2.1 (.fieldLink RX0 38 "PathOdds" "bestOdds" "[[D") (by decide +kernel)
  have f_moveWeights := C.2.2.2.2.1 (.fieldLink RX0 15 "PathOdds" "moveWeights" "[[D") (by decide +kernel)
  have f_stateCount := C.2.2.2.2.1 (.fieldLink RX0 25 "PathOdds" "stateCount" "I") (by decide +kernel)
  have f_bestFrom := C.2.2.2.2.1 (.fieldLink RX0 43 "PathOdds" "bestFrom" "[[I") (by decide +kernel)
  obtain ⟨h0, hS, h2, h9, hr0, h17, h30, h43, h56, h69, hM, hE, hF, hB, hV, hG, hC⟩ := id h
  refine g_iload_n C dX0_bestInto_0 rfl 1 rfl ?_
  refine g_if_ne (tgt := 11) C dX0_bestInto_1 (by decide) (fun c1 => ?_) (fun c1 => ?_)
  · have ht0 : ¬ t = 0 := fun q => c1 (by rw [q]; rfl)
    have hb : ∀ q, q < n → mg (K + 3) ((fun i => FP.dmul (V (t - 1) i) (M i j)) q) := fun q hq => mg_mono (mg_mul (hVb (by omega) q hq) (hW.2.1 q j (by omega) (by omega)) (by omega) (by decide)) (by omega)
    refine g_iconst (v := nI 0) C dX0_bestInto_11 (by decide) ?_
    refine g_istore_n (lv' := [(0, .ref (a 0)), (1, .int (nI t)), (2, .int (nI j)), (3, .int (nI 0))]) C dX0_bestInto_12 rfl (by decide) [1, 2, 3, 0] rfl ?_
    refine g_aload_n C dX0_bestInto_13 rfl 0 rfl ?_
    refine g_get C 8 hin inl_pos0 (by decide) h0 (by decide) f_bestOdds rfl dX0_bestInto_14 ?_
    refine g_iload_n C dX0_bestInto_17 rfl 1 rfl ?_
    refine g_iconst (v := nI 1) C dX0_bestInto_18 (by decide) ?_
    refine g_isub (v := nI (t - 1)) C dX0_bestInto_19 (pk_sub (by omega)) ?_
    refine g_aald C (by omega) (tyD2 cy) h43 (by omega) (by decide) dX0_bestInto_20 ?_
    refine g_iconst (v := nI 0) C dX0_bestInto_21 (by decide) ?_
    refine g_dald C (by omega) (hV (t - 1) (by omega)) (by omega) (by decide) dX0_bestInto_22 ?_
    refine g_aload_n C dX0_bestInto_23 rfl 0 rfl ?_
    refine g_get C 1 hin inl_pos0 (by decide) h0 (by decide) f_moveWeights rfl dX0_bestInto_24 ?_
    refine g_iconst (v := nI 0) C dX0_bestInto_27 (by decide) ?_
    refine g_aald C (by omega) (tyD2 cy) h2 (by omega) (by decide) dX0_bestInto_28 ?_
    refine g_iload_n C dX0_bestInto_29 rfl 2 rfl ?_
    refine g_dald C (by omega) (hM 0 (by omega)) (by omega) (by decide) dX0_bestInto_30 ?_
    refine g_dmul C dX0_bestInto_31 (mg_n64 (hb 0 (by omega)) (by omega)) ?_
    refine g_dstore (lv' := [(0, .ref (a 0)), (1, .int (nI t)), (2, .int (nI j)), (3, .int (nI 0)), (4, .double (FP.dmul (V (t - 1) 0) (M 0 j)))]) C dX0_bestInto_32 (by decide) [1, 2, 3, 4, 0] rfl ?_
    refine g_iconst (v := nI 1) C dX0_bestInto_34 (by decide) ?_
    refine g_istore (lv' := [(0, .ref (a 0)), (1, .int (nI t)), (2, .int (nI j)), (3, .int (nI 0)), (4, .double (FP.dmul (V (t - 1) 0) (M 0 j))), (6, .int (nI 1))]) C dX0_bestInto_35 (by decide) [1, 2, 3, 4, 5, 0] rfl ?_
    have L : ∀ (k : Nat) (i : Nat), 1 ≤ i → i + k = n → GW p l en ({ frames := 0, cells := 0, slots := 0, locals := 0 }) s m ([.ref (a 0), .int (nI t), .int (nI j)] : List Value).toArray below meth c 0 0 (MQ below (va_Qd (fun z e1 => ∃ G1 : Nat → Nat → Int32, RP cy a e1 n T S M E r F B V G1 Cn ∧ (t = 0 → z = S j) ∧ (0 < t → z = (fun i => FP.dmul (V (t - 1) i) (M i j)) (am (fun i => FP.dmul (V (t - 1) i) (M i j)) n)) ∧ (0 < t → G1 t j = nI (am (fun i => FP.dmul (V (t - 1) i) (M i j)) n)) ∧ (∀ u q, ¬ (u = t ∧ q = j) → G1 u q = G u q)) (gB D clP 82 a) (wA 82 a)) ([.ref (a 0), .int (nI t), .int (nI j)] : List Value).toArray s 0 0 (wA 82 a)) D clP 82 9 a (wA 82 a) e 37 [(0, .ref (a 0)), (1, .int (nI t)), (2, .int (nI j)), (3, .int (nI (am (fun i => FP.dmul (V (t - 1) i) (M i j)) i))), (4, .double ((fun i => FP.dmul (V (t - 1) i) (M i j)) (am (fun i => FP.dmul (V (t - 1) i) (M i j)) i))), (6, .int (nI i))] [] := by
      intro k
      induction k with
      | zero =>
        intro i hi1 hk
        obtain ⟨h0, hS, h2, h9, hr0, h17, h30, h43, h56, h69, hM, hE, hF, hB, hV, hG, hC⟩ := id h
        refine g_iload C dX0_bestInto_37 5 rfl ?_
        refine g_aload_n C dX0_bestInto_39 rfl 0 rfl ?_
        refine g_get C 4 hin inl_pos0 (by decide) h0 (by decide) f_stateCount rfl dX0_bestInto_40 ?_
        refine g_icmp_ge (tgt := 90) C dX0_bestInto_43 (by decide) (fun c1 => ?_) (fun c1 => absurd c1 (fun q => q (nI_le (by omega) (by omega))))
        refine g_aload_n C dX0_bestInto_90 rfl 0 rfl ?_
        refine g_get C 9 hin inl_pos0 (by decide) h0 (by decide) f_bestFrom rfl dX0_bestInto_91 ?_
        refine g_iload_n C dX0_bestInto_94 rfl 1 rfl ?_
        refine g_aald C (by omega) (tyI2 cy) h56 (by omega) (by decide) dX0_bestInto_95 ?_
        refine g_iload_n C dX0_bestInto_96 rfl 2 rfl ?_
        refine g_iload_n C dX0_bestInto_97 rfl 3 rfl ?_
        refine g_iast C (by omega) (hG t (by omega)) (by omega) (by decide) dX0_bestInto_98 (fun y hy => ?_)
        have h2 := RP_G (t := t) h (by omega) hy
        generalize va_up e (57 + t) y = e2 at h2 ⊢
        refine g_dload C dX0_bestInto_99 4 rfl ?_
        exact g_dret C hr hlocks (⟨_, h2, fun q => absurd q ht0, fun _ => by rw [show n = i by omega], fun _ => by rw [va_up_self, va_up_self, show n = i by omega], fun u q hu => by
          by_cases h1 : u = t
          · subst h1
            rw [va_up_self, va_up_ne _ _ (fun h9 => hu ⟨rfl, h9⟩)]
          · rw [va_up_ne _ _ h1]⟩) dX0_bestInto_101
      | succ k ih =>
        intro i hi1 hk
        obtain ⟨h0, hS, h2, h9, hr0, h17, h30, h43, h56, h69, hM, hE, hF, hB, hV, hG, hC⟩ := id h
        refine g_iload C dX0_bestInto_37 5 rfl ?_
        refine g_aload_n C dX0_bestInto_39 rfl 0 rfl ?_
        refine g_get C 4 hin inl_pos0 (by decide) h0 (by decide) f_stateCount rfl dX0_bestInto_40 ?_
        refine g_icmp_ge (tgt := 90) C dX0_bestInto_43 (by decide) (fun c1 => absurd c1 (nI_ge (by omega) (by omega))) (fun c1 => ?_)
        refine g_aload_n C dX0_bestInto_46 rfl 0 rfl ?_
        refine g_get C 8 hin inl_pos0 (by decide) h0 (by decide) f_bestOdds rfl dX0_bestInto_47 ?_
        refine g_iload_n C dX0_bestInto_50 rfl 1 rfl ?_
        refine g_iconst (v := nI 1) C dX0_bestInto_51 (by decide) ?_
        refine g_isub (v := nI (t - 1)) C dX0_bestInto_52 (pk_sub (by omega)) ?_
        refine g_aald C (by omega) (tyD2 cy) h43 (by omega) (by decide) dX0_bestInto_53 ?_
        refine g_iload C dX0_bestInto_54 5 rfl ?_
        refine g_dald C (by omega) (hV (t - 1) (by omega)) (by omega) (by decide) dX0_bestInto_56 ?_
        refine g_aload_n C dX0_bestInto_57 rfl 0 rfl ?_
        refine g_get C 1 hin inl_pos0 (by decide) h0 (by decide) f_moveWeights rfl dX0_bestInto_58 ?_
        refine g_iload C dX0_bestInto_61 5 rfl ?_
        refine g_aald C (by omega) (tyD2 cy) h2 (by omega) (by decide) dX0_bestInto_63 ?_
        refine g_iload_n C dX0_bestInto_64 rfl 2 rfl ?_
        refine g_dald C (by omega) (hM i (by omega)) (by omega) (by decide) dX0_bestInto_65 ?_
        refine g_dmul C dX0_bestInto_66 (mg_n64 (hb i (by omega)) (by omega)) ?_
        refine g_dstore (lv' := [(0, .ref (a 0)), (1, .int (nI t)), (2, .int (nI j)), (3, .int (nI (am (fun i => FP.dmul (V (t - 1) i) (M i j)) i))), (4, .double ((fun i => FP.dmul (V (t - 1) i) (M i j)) (am (fun i => FP.dmul (V (t - 1) i) (M i j)) i))), (6, .int (nI i)), (7, .double (FP.dmul (V (t - 1) i) (M i j)))]) C dX0_bestInto_67 (by decide) [1, 2, 3, 4, 5, 6, 0] rfl ?_
        refine g_dload C dX0_bestInto_69 6 rfl ?_
        refine g_dload C dX0_bestInto_71 4 rfl ?_
        refine g_dcmp C dX0_bestInto_73 ?_
        refine g_if_le (tgt := 84) C dX0_bestInto_74 (by decide) (fun c2 => ?_) (fun c2 => ?_)
        · refine g_iinc (v := nI (i + 1)) (k := 5) (lv' := [(0, .ref (a 0)), (1, .int (nI t)), (2, .int (nI j)), (3, .int (nI (am (fun i => FP.dmul (V (t - 1) i) (M i j)) i))), (4, .double ((fun i => FP.dmul (V (t - 1) i) (M i j)) (am (fun i => FP.dmul (V (t - 1) i) (M i j)) i))), (6, .int (nI (i + 1))), (7, .double (FP.dmul (V (t - 1) i) (M i j)))]) C dX0_bestInto_84 rfl (nI_inc i) (by decide) [1, 2, 3, 4, 5, 0, 6] rfl ?_
          refine g_goto (tgt := 37) C dX0_bestInto_87 (by decide) ?_
          refine g_pick (lv' := [(0, .ref (a 0)), (1, .int (nI t)), (2, .int (nI j)), (3, .int (nI (am (fun i => FP.dmul (V (t - 1) i) (M i j)) i))), (4, .double ((fun i => FP.dmul (V (t - 1) i) (M i j)) (am (fun i => FP.dmul (V (t - 1) i) (M i j)) i))), (6, .int (nI (i + 1)))]) [0, 1, 2, 3, 4, 5] rfl ?_
          have q := ih (i + 1) (by omega) (by omega)
          rw [am_f (f := (fun i => FP.dmul (V (t - 1) i) (M i j))) (k := i) (gtD_f c2)] at q
          exact q
        · refine g_dload C dX0_bestInto_77 6 rfl ?_
          refine g_dstore (lv' := [(0, .ref (a 0)), (1, .int (nI t)), (2, .int (nI j)), (3, .int (nI (am (fun i => FP.dmul (V (t - 1) i) (M i j)) i))), (4, .double (FP.dmul (V (t - 1) i) (M i j))), (6, .int (nI i)), (7, .double (FP.dmul (V (t - 1) i) (M i j)))]) C dX0_bestInto_79 (by decide) [1, 2, 3, 4, 0, 5, 6] rfl ?_
          refine g_iload C dX0_bestInto_81 5 rfl ?_
          refine g_istore_n (lv' := [(0, .ref (a 0)), (1, .int (nI t)), (2, .int (nI j)), (3, .int (nI i)), (4, .double (FP.dmul (V (t - 1) i) (M i j))), (6, .int (nI i)), (7, .double (FP.dmul (V (t - 1) i) (M i j)))]) C dX0_bestInto_83 rfl (by decide) [1, 2, 3, 0, 4, 5, 6] rfl ?_
          refine g_iinc (v := nI (i + 1)) (k := 5) (lv' := [(0, .ref (a 0)), (1, .int (nI t)), (2, .int (nI j)), (3, .int (nI i)), (4, .double (FP.dmul (V (t - 1) i) (M i j))), (6, .int (nI (i + 1))), (7, .double (FP.dmul (V (t - 1) i) (M i j)))]) C dX0_bestInto_84 rfl (nI_inc i) (by decide) [1, 2, 3, 4, 5, 0, 6] rfl ?_
          refine g_goto (tgt := 37) C dX0_bestInto_87 (by decide) ?_
          refine g_pick (lv' := [(0, .ref (a 0)), (1, .int (nI t)), (2, .int (nI j)), (3, .int (nI i)), (4, .double (FP.dmul (V (t - 1) i) (M i j))), (6, .int (nI (i + 1)))]) [0, 1, 2, 3, 4, 5] rfl ?_
          have q := ih (i + 1) (by omega) (by omega)
          rw [am_t (f := (fun i => FP.dmul (V (t - 1) i) (M i j))) (k := i) (gtD_t c2)] at q
          exact q
    have q := L (n - 1) 1 (by omega) (by omega)
    rw [am_1] at q
    exact q
  · refine g_aload_n C dX0_bestInto_4 rfl 0 rfl ?_
    refine g_get C 0 hin inl_pos0 (by decide) h0 (by decide) f_startWeights rfl dX0_bestInto_5 ?_
    refine g_iload_n C dX0_bestInto_8 rfl 2 rfl ?_
    refine g_dald C (by omega) hS (by omega) (by decide) dX0_bestInto_9 ?_
    exact g_dret C hr hlocks (⟨G, h, fun _ => rfl, fun q => absurd q (by have := (nI_eq (a := t) (b := 0) (by omega) (by decide)).mp c1; omega), fun q => absurd q (by have := (nI_eq (a := t) (b := 0) (by omega) (by decide)).mp c1; omega), fun _ _ _ => rfl⟩) dX0_bestInto_10

set_option maxHeartbeats 4000000 in
set_option maxRecDepth 100000 in
theorem c_X0_fillBest (l : Launch) (D : va_G) (cy : Nat → ClassId) (a : Nat → Nat) (hi : wInj 82 a) {e : Nat → va_E} {n T : Nat} {S : Nat → UInt64} {M E : T2} {r : Nat → Nat} {F B V : T2} {G : Nat → Nat → Int32} {Cn : Nat → Nat → Int64} (h : RP cy a e n T S M E r F B V G Cn) (hn : 1 ≤ n ∧ n ≤ 6) (hT : T ≤ 12) (hW : WB S M E) (hr4 : RW4 r) : Met l yX0_fillBest wsX0_fillBest ({ frames := 1, cells := 0, slots := 0, locals := 28 }) (gPc D clP cy 82 a e [.ref (a 0)]) (va_Qv (fun e1 => ∃ V1 G1, RP cy a e1 n T S M E r F B V1 G1 Cn ∧ ∀ t j, t < T → j < n → V1 t j = fV n S M E r t j ∧ (0 < t → G1 t j = nI (fG n S M E r t j))) (gB D clP 82 a) (wA 82 a)) 0 0 (wA 82 a) := by
  refine g_met (cc := cX0_fillBest) (maxL := 4) (ret := none) (lv := [(0, .ref (a 0))]) (by decide) rfl (Nat.le_of_ble_eq_true rfl) rfl hi (fun k hk => ⟨k, hk, rfl⟩) ?_
  intro p en s m below meth c C hr hlocks
  have hin : ∀ w ∈ u_ws RX0 TX0 11, w ∈ wsX0_fillBest := by decide +kernel
  have f_rowLength := C.2.2.2.2.1 (.fieldLink RX0 29 "PathOdds" "rowLength" "I") (by decide +kernel)
  have f_row := C.2.2.2.2.1 (.fieldLink RX0 21 "PathOdds" "row" "[I") (by decide +kernel)
  have f_stateCount := C.2.2.2.2.1 (.fieldLink RX0 25 "PathOdds" "stateCount" "I") (by decide +kernel)
  have f_bestOdds := C.2.2.2.2.1 (.fieldLink RX0 38 "PathOdds" "bestOdds" "[[D") (by decide +kernel)
  have f_showWeights := C.2.2.2.2.1 (.fieldLink RX0 18 "PathOdds" "showWeights" "[[D") (by decide +kernel)
  obtain ⟨h0, hS, h2, h9, hr0, h17, h30, h43, h56, h69, hM, hE, hF, hB, hV, hG, hC⟩ := id h
  have L1 : ∀ (k : Nat) (t : Nat) (e : Nat → va_E) (V : T2) (G : Nat → Nat → Int32), t + k = T → RP cy a e n T S M E r F B V G Cn → (∀ u q, u < t → q < n → V u q = fV n S M E r u q ∧ (0 < u → G u q = nI (fG n S M E r u q))) → GW p l en ({ frames := 1, cells := 0, slots := 0, locals := 28 }) s m ([.ref (a 0)] : List Value).toArray below meth c 0 0 (MQ below (va_Qv (fun e1 => ∃ V1 G1, RP cy a e1 n T S M E r F B V1 G1 Cn ∧ ∀ t j, t < T → j < n → V1 t j = fV n S M E r t j ∧ (0 < t → G1 t j = nI (fG n S M E r t j))) (gB D clP 82 a) (wA 82 a)) ([.ref (a 0)] : List Value).toArray s 0 0 (wA 82 a)) D clP 82 4 a (wA 82 a) e 2 [(0, .ref (a 0)), (1, .int (nI t))] [] := by
    intro k
    induction k with
    | zero =>
      intro t e V G hk h hp
      obtain ⟨h0, hS, h2, h9, hr0, h17, h30, h43, h56, h69, hM, hE, hF, hB, hV, hG, hC⟩ := id h
      refine g_iload_n C dX0_fillBest_2 rfl 1 rfl ?_
      refine g_aload_n C dX0_fillBest_3 rfl 0 rfl ?_
      refine g_get C 5 hin inl_pos0 (by decide) h0 (by decide) f_rowLength rfl dX0_fillBest_4 ?_
      refine g_icmp_ge (tgt := 62) C dX0_fillBest_7 (by decide) (fun c1 => ?_) (fun c1 => absurd c1 (fun q => q (nI_le (by omega) (by omega))))
      exact g_vret C hr hlocks (⟨V, G, h, fun u q hu hq => hp u q (by omega) hq⟩) dX0_fillBest_62
    | succ k ih =>
      intro t e V G hk h hp
      obtain ⟨h0, hS, h2, h9, hr0, h17, h30, h43, h56, h69, hM, hE, hF, hB, hV, hG, hC⟩ := id h
      refine g_iload_n C dX0_fillBest_2 rfl 1 rfl ?_
      refine g_aload_n C dX0_fillBest_3 rfl 0 rfl ?_
      refine g_get C 5 hin inl_pos0 (by decide) h0 (by decide) f_rowLength rfl dX0_fillBest_4 ?_
      refine g_icmp_ge (tgt := 62) C dX0_fillBest_7 (by decide) (fun c1 => absurd c1 (nI_ge (by omega) (by omega))) (fun c1 => ?_)
      have hrt : r t < 4 := hr4 t (by omega)
      refine g_aload_n C dX0_fillBest_10 rfl 0 rfl ?_
      refine g_get C 3 hin inl_pos0 (by decide) h0 (by decide) f_row rfl dX0_fillBest_11 ?_
      refine g_iload_n C dX0_fillBest_14 rfl 1 rfl ?_
      refine g_iald C (by omega) hr0 (by omega) (by decide) dX0_fillBest_15 ?_
      refine g_istore_n (lv' := [(0, .ref (a 0)), (1, .int (nI t)), (2, .int (nI (r t)))]) C dX0_fillBest_16 rfl (by decide) [1, 2, 0] rfl ?_
      refine g_iconst (v := nI 0) C dX0_fillBest_17 (by decide) ?_
      refine g_istore_n (lv' := [(0, .ref (a 0)), (1, .int (nI t)), (2, .int (nI (r t))), (3, .int (nI 0))]) C dX0_fillBest_18 rfl (by decide) [1, 2, 3, 0] rfl ?_
      have L2 : ∀ (k2 : Nat) (j : Nat) (e : Nat → va_E) (V : T2) (G : Nat → Nat → Int32), j + k2 = n → RP cy a e n T S M E r F B V G Cn → (∀ u q, u < t → q < n → V u q = fV n S M E r u q ∧ (0 < u → G u q = nI (fG n S M E r u q))) → (∀ q, q < j → V t q = fV n S M E r t q ∧ (0 < t → G t q = nI (fG n S M E r t q))) → GW p l en ({ frames := 1, cells := 0, slots := 0, locals := 28 }) s m ([.ref (a 0)] : List Value).toArray below meth c 0 0 (MQ below (va_Qv (fun e1 => ∃ V1 G1, RP cy a e1 n T S M E r F B V1 G1 Cn ∧ ∀ t j, t < T → j < n → V1 t j = fV n S M E r t j ∧ (0 < t → G1 t j = nI (fG n S M E r t j))) (gB D clP 82 a) (wA 82 a)) ([.ref (a 0)] : List Value).toArray s 0 0 (wA 82 a)) D clP 82 4 a (wA 82 a) e 19 [(0, .ref (a 0)), (1, .int (nI t)), (2, .int (nI (r t))), (3, .int (nI j))] [] := by
        intro k2
        induction k2 with
        | zero =>
          intro j e V G hk2 h hp hpj
          obtain ⟨h0, hS, h2, h9, hr0, h17, h30, h43, h56, h69, hM, hE, hF, hB, hV, hG, hC⟩ := id h
          refine g_iload_n C dX0_fillBest_19 rfl 3 rfl ?_
          refine g_aload_n C dX0_fillBest_20 rfl 0 rfl ?_
          refine g_get C 4 hin inl_pos0 (by decide) h0 (by decide) f_stateCount rfl dX0_fillBest_21 ?_
          refine g_icmp_ge (tgt := 56) C dX0_fillBest_24 (by decide) (fun c1 => ?_) (fun c1 => absurd c1 (fun q => q (nI_le (by omega) (by omega))))
          refine g_iinc (v := nI (t + 1)) (k := 1) (lv' := [(0, .ref (a 0)), (1, .int (nI (t + 1))), (2, .int (nI (r t))), (3, .int (nI j))]) C dX0_fillBest_56 rfl (nI_inc t) (by decide) [1, 0, 2, 3] rfl ?_
          refine g_goto (tgt := 2) C dX0_fillBest_59 (by decide) ?_
          refine g_pick (lv' := [(0, .ref (a 0)), (1, .int (nI (t + 1)))]) [0, 1] rfl ?_
          exact ih (t + 1) e V G (by omega) h (fun u q hu hq => by
            by_cases hut : u = t
            · subst hut; exact hpj q (by omega)
            · exact hp u q (by omega) hq)
        | succ k2 ih2 =>
          intro j e V G hk2 h hp hpj
          obtain ⟨h0, hS, h2, h9, hr0, h17, h30, h43, h56, h69, hM, hE, hF, hB, hV, hG, hC⟩ := id h
          refine g_iload_n C dX0_fillBest_19 rfl 3 rfl ?_
          refine g_aload_n C dX0_fillBest_20 rfl 0 rfl ?_
          refine g_get C 4 hin inl_pos0 (by decide) h0 (by decide) f_stateCount rfl dX0_fillBest_21 ?_
          refine g_icmp_ge (tgt := 56) C dX0_fillBest_24 (by decide) (fun c1 => absurd c1 (nI_ge (by omega) (by omega))) (fun c1 => ?_)
          refine g_aload_n C dX0_fillBest_27 rfl 0 rfl ?_
          refine g_get C 8 hin inl_pos0 (by decide) h0 (by decide) f_bestOdds rfl dX0_fillBest_28 ?_
          refine g_iload_n C dX0_fillBest_31 rfl 1 rfl ?_
          refine g_aald C (by omega) (tyD2 cy) h43 (by omega) (by decide) dX0_fillBest_32 ?_
          refine g_iload_n C dX0_fillBest_33 rfl 3 rfl ?_
          refine g_aload_n C dX0_fillBest_34 rfl 0 rfl ?_
          refine g_iload_n C dX0_fillBest_35 rfl 1 rfl ?_
          refine g_iload_n C dX0_fillBest_36 rfl 3 rfl ?_
          refine g_calld (As := [.int (nI t), .int (nI j)]) (rest := [.int (nI j), .ref (a (44 + t))]) C (cwV 2 C.2.2.2.2.1 gX0_fillBest_X0_bestInto rfl rfl rfl (by decide +kernel) ⟨Nat.le_of_ble_eq_true rfl, Nat.le_of_ble_eq_true rfl⟩) (c_X0_bestInto l D cy a hi h hn t j (by omega) (by omega) hW (K := 1026 + 16 * (t - 1)) (by omega) (fun h0t q hq => by rw [(hp (t - 1) q (by omega) hq).1]; exact fV_mg (by omega) hn.2 hW hr4 (t - 1) q (by omega) (by omega))) (by decide) h0 inl_pos0 rfl rfl (Nat.le_of_ble_eq_true rfl) dX0_fillBest_37 ⟨Nat.zero_le _, Nat.zero_le _⟩ (fun z e1 hz => ?_)
          obtain ⟨G1, h, hz0, hz1, hg1, hg2⟩ := hz
          obtain ⟨h0, hS, h2, h9, hr0, h17, h30, h43, h56, h69, hM, hE, hF, hB, hV, hG, hC⟩ := id h
          have hzA : FP.dmul z (E j (r t)) = fV n S M E r t j := fV_step (by omega) hz0 hz1 (fun h0t q hq => (hp (t - 1) q (by omega) hq).1)
          refine g_aload_n C dX0_fillBest_40 rfl 0 rfl ?_
          refine g_get C 2 hin inl_pos0 (by decide) h0 (by decide) f_showWeights rfl dX0_fillBest_41 ?_
          refine g_iload_n C dX0_fillBest_44 rfl 3 rfl ?_
          refine g_aald C (by omega) (tyD2 cy) h9 (by omega) (by decide) dX0_fillBest_45 ?_
          refine g_iload_n C dX0_fillBest_46 rfl 2 rfl ?_
          refine g_dald C (by omega) (hE j (by omega)) (by omega) (by decide) dX0_fillBest_47 ?_
          refine g_dmul C dX0_fillBest_48 (by rw [hzA]; exact mg_n64 (fV_mg (by omega) hn.2 hW hr4 t j (by omega) (by omega)) (by omega)) ?_
          refine g_dast C (by omega) (hV t (by omega)) (by omega) (by decide) dX0_fillBest_49 (fun y hy => ?_)
          have h := RP_V (t := t) h (by omega) hy
          generalize va_up e1 (44 + t) y = e at h ⊢
          refine g_iinc (v := nI (j + 1)) (k := 3) (lv' := [(0, .ref (a 0)), (1, .int (nI t)), (2, .int (nI (r t))), (3, .int (nI (j + 1)))]) C dX0_fillBest_50 rfl (nI_inc j) (by decide) [1, 2, 3, 0] rfl ?_
          refine g_goto (tgt := 19) C dX0_fillBest_53 (by decide) ?_
          exact ih2 (j + 1) e _ G1 (by omega) h (fun u q hu hq => by
            rw [va_up_ne _ _ (by omega), hg2 u q (by omega)]
            exact hp u q hu hq) (fun q hq => by
            rw [va_up_self]
            by_cases hqj : q = j
            · subst hqj
              rw [va_up_self]
              exact ⟨hzA, fun h0t => by rw [hg1 h0t, fG_step (by omega) (fun q hq => (hp (t - 1) q (by omega) hq).1)]⟩
            · rw [va_up_ne _ _ hqj, hg2 t q (by omega)]
              exact hpj q (by omega))
      exact L2 n 0 e V G (by omega) h hp (fun q hq => absurd hq (by omega))
  refine g_iconst (v := nI 0) C dX0_fillBest_0 (by decide) ?_
  refine g_istore_n (lv' := [(0, .ref (a 0)), (1, .int (nI 0))]) C dX0_fillBest_1 rfl (by decide) [1, 0] rfl ?_
  exact L1 T 0 e V G (by omega) h (fun u q hu => absurd hu (by omega))

set_option maxHeartbeats 4000000 in
set_option maxRecDepth 100000 in
theorem c_X0_lastBestState (l : Launch) (D : va_G) (cy : Nat → ClassId) (a : Nat → Nat) (hi : wInj 82 a) {e : Nat → va_E} {n T : Nat} {S : Nat → UInt64} {M E : T2} {r : Nat → Nat} {F B V : T2} {G : Nat → Nat → Int32} {Cn : Nat → Nat → Int64} (h : RP cy a e n T S M E r F B V G Cn) (hn : 1 ≤ n ∧ n ≤ 6) (hT : 0 < T ∧ T ≤ 12) : Met l yX0_lastBestState wsX0_lastBestState ({ frames := 0, cells := 0, slots := 0, locals := 0 }) (gPc D clP cy 82 a e [.ref (a 0)]) (va_Qi (fun z e1 => e1 = e ∧ z = nI (am (fun j => V (T - 1) j) n)) (gB D clP 82 a) (wA 82 a)) 0 0 (wA 82 a) := by
  refine g_met (cc := cX0_lastBestState) (maxL := 3) (ret := (some .int)) (lv := [(0, .ref (a 0))]) (by decide) rfl (Nat.le_of_ble_eq_true rfl) rfl hi (fun k hk => ⟨k, hk, rfl⟩) ?_
  intro p en s m below meth c C hr hlocks
  have hin : ∀ w ∈ u_ws RX0 TX0 11, w ∈ wsX0_lastBestState := by decide +kernel
  have f_stateCount := C.2.2.2.2.1 (.fieldLink RX0 25 "PathOdds" "stateCount" "I") (by decide +kernel)
  have f_bestOdds := C.2.2.2.2.1 (.fieldLink RX0 38 "PathOdds" "bestOdds" "[[D") (by decide +kernel)
  have f_rowLength := C.2.2.2.2.1 (.fieldLink RX0 29 "PathOdds" "rowLength" "I") (by decide +kernel)
  obtain ⟨h0, hS, h2, h9, hr0, h17, h30, h43, h56, h69, hM, hE, hF, hB, hV, hG, hC⟩ := id h
  have L : ∀ (k : Nat) (i : Nat), 1 ≤ i → i + k = n → GW p l en ({ frames := 0, cells := 0, slots := 0, locals := 0 }) s m ([.ref (a 0)] : List Value).toArray below meth c 0 0 (MQ below (va_Qi (fun z e1 => e1 = e ∧ z = nI (am (fun j => V (T - 1) j) n)) (gB D clP 82 a) (wA 82 a)) ([.ref (a 0)] : List Value).toArray s 0 0 (wA 82 a)) D clP 82 3 a (wA 82 a) e 4 [(0, .ref (a 0)), (1, .int (nI (am (fun j => V (T - 1) j) i))), (2, .int (nI i))] [] := by
    intro k
    induction k with
    | zero =>
      intro i hi1 hk
      obtain ⟨h0, hS, h2, h9, hr0, h17, h30, h43, h56, h69, hM, hE, hF, hB, hV, hG, hC⟩ := id h
      refine g_iload_n C dX0_lastBestState_4 rfl 2 rfl ?_
      refine g_aload_n C dX0_lastBestState_5 rfl 0 rfl ?_
      refine g_get C 4 hin inl_pos0 (by decide) h0 (by decide) f_stateCount rfl dX0_lastBestState_6 ?_
      refine g_icmp_ge (tgt := 50) C dX0_lastBestState_9 (by decide) (fun c1 => ?_) (fun c1 => absurd c1 (fun q => q (nI_le (by omega) (by omega))))
      refine g_iload_n C dX0_lastBestState_50 rfl 1 rfl ?_
      exact g_iret C hr hlocks (⟨rfl, by rw [show n = i by omega]⟩) dX0_lastBestState_51
    | succ k ih =>
      intro i hi1 hk
      obtain ⟨h0, hS, h2, h9, hr0, h17, h30, h43, h56, h69, hM, hE, hF, hB, hV, hG, hC⟩ := id h
      have ha := am_lt (fun j => V (T - 1) j) i (by omega)
      refine g_iload_n C dX0_lastBestState_4 rfl 2 rfl ?_
      refine g_aload_n C dX0_lastBestState_5 rfl 0 rfl ?_
      refine g_get C 4 hin inl_pos0 (by decide) h0 (by decide) f_stateCount rfl dX0_lastBestState_6 ?_
      refine g_icmp_ge (tgt := 50) C dX0_lastBestState_9 (by decide) (fun c1 => absurd c1 (nI_ge (by omega) (by omega))) (fun c1 => ?_)
      refine g_aload_n C dX0_lastBestState_12 rfl 0 rfl ?_
      refine g_get C 8 hin inl_pos0 (by decide) h0 (by decide) f_bestOdds rfl dX0_lastBestState_13 ?_
      refine g_aload_n C dX0_lastBestState_16 rfl 0 rfl ?_
      refine g_get C 5 hin inl_pos0 (by decide) h0 (by decide) f_rowLength rfl dX0_lastBestState_17 ?_
      refine g_iconst (v := nI 1) C dX0_lastBestState_20 (by decide) ?_
      refine g_isub (v := nI (T - 1)) C dX0_lastBestState_21 (pk_sub (by omega)) ?_
      refine g_aald C (by omega) (tyD2 cy) h43 (by omega) (by decide) dX0_lastBestState_22 ?_
      refine g_iload_n C dX0_lastBestState_23 rfl 2 rfl ?_
      refine g_dald C (by omega) (hV (T - 1) (by omega)) (by omega) (by decide) dX0_lastBestState_24 ?_
      refine g_aload_n C dX0_lastBestState_25 rfl 0 rfl ?_
      refine g_get C 8 hin inl_pos0 (by decide) h0 (by decide) f_bestOdds rfl dX0_lastBestState_26 ?_
      refine g_aload_n C dX0_lastBestState_29 rfl 0 rfl ?_
      refine g_get C 5 hin inl_pos0 (by decide) h0 (by decide) f_rowLength rfl dX0_lastBestState_30 ?_
      refine g_iconst (v := nI 1) C dX0_lastBestState_33 (by decide) ?_
      refine g_isub (v := nI (T - 1)) C dX0_lastBestState_34 (pk_sub (by omega)) ?_
      refine g_aald C (by omega) (tyD2 cy) h43 (by omega) (by decide) dX0_lastBestState_35 ?_
      refine g_iload_n C dX0_lastBestState_36 rfl 1 rfl ?_
      refine g_dald C (by omega) (hV (T - 1) (by omega)) (by omega) (by decide) dX0_lastBestState_37 ?_
      refine g_dcmp C dX0_lastBestState_38 ?_
      refine g_if_le (tgt := 44) C dX0_lastBestState_39 (by decide) (fun c2 => ?_) (fun c2 => ?_)
      · refine g_iinc (v := nI (i + 1)) (k := 2) (lv' := [(0, .ref (a 0)), (1, .int (nI (am (fun j => V (T - 1) j) i))), (2, .int (nI (i + 1)))]) C dX0_lastBestState_44 rfl (nI_inc i) (by decide) [1, 2, 0] rfl ?_
        refine g_goto (tgt := 4) C dX0_lastBestState_47 (by decide) ?_
        have q := ih (i + 1) (by omega) (by omega)
        rw [am_f (f := (fun j => V (T - 1) j)) (k := i) (gtD_f c2)] at q
        exact q
      · refine g_iload_n C dX0_lastBestState_42 rfl 2 rfl ?_
        refine g_istore_n (lv' := [(0, .ref (a 0)), (1, .int (nI i)), (2, .int (nI i))]) C dX0_lastBestState_43 rfl (by decide) [1, 0, 2] rfl ?_
        refine g_iinc (v := nI (i + 1)) (k := 2) (lv' := [(0, .ref (a 0)), (1, .int (nI i)), (2, .int (nI (i + 1)))]) C dX0_lastBestState_44 rfl (nI_inc i) (by decide) [1, 2, 0] rfl ?_
        refine g_goto (tgt := 4) C dX0_lastBestState_47 (by decide) ?_
        have q := ih (i + 1) (by omega) (by omega)
        rw [am_t (f := (fun j => V (T - 1) j)) (k := i) (gtD_t c2)] at q
        exact q
  refine g_iconst (v := nI 0) C dX0_lastBestState_0 (by decide) ?_
  refine g_istore_n (lv' := [(0, .ref (a 0)), (1, .int (nI 0))]) C dX0_lastBestState_1 rfl (by decide) [1, 0] rfl ?_
  refine g_iconst (v := nI 1) C dX0_lastBestState_2 (by decide) ?_
  refine g_istore_n (lv' := [(0, .ref (a 0)), (1, .int (nI 0)), (2, .int (nI 1))]) C dX0_lastBestState_3 rfl (by decide) [1, 2, 0] rfl ?_
  have q := L (n - 1) 1 (by omega) (by omega)
  rw [am_1] at q
  exact q

set_option maxHeartbeats 4000000 in
set_option maxRecDepth 100000 in
theorem c_X0_waysInto (l : Launch) (D : va_G) (cy : Nat → ClassId) (a : Nat → Nat) (hi : wInj 82 a) {e : Nat → va_E} {n T : Nat} {S : Nat → UInt64} {M E : T2} {r : Nat → Nat} {F B V : T2} {G : Nat → Nat → Int32} {Cn : Nat → Nat → Int64} (h : RP cy a e n T S M E r F B V G Cn) (hn : n ≤ 6) (t j : Nat) (ht : t < 12) (hj : j < n) : Met l yX0_waysInto wsX0_waysInto ({ frames := 0, cells := 0, slots := 0, locals := 0 }) (gPc D clP cy 82 a e [.ref (a 0), .int (nI t), .int (nI j)]) (va_Ql (fun z e1 => e1 = e ∧ z = if t = 0 then (if gtD (S j) FP.dconst0 = true then 1 else 0) else csm (fun i => gtD (M i j) FP.dconst0) (Cn (t - 1)) n) (gB D clP 82 a) (wA 82 a)) 0 0 (wA 82 a) := by
  refine g_met (cc := cX0_waysInto) (maxL := 6) (ret := (some .long)) (lv := [(0, .ref (a 0)), (1, .int (nI t)), (2, .int (nI j))]) (by decide) rfl (Nat.le_of_ble_eq_true rfl) rfl hi (fun k hk => ⟨k, hk, rfl⟩) ?_
  intro p en s m below meth c C hr hlocks
  have hin : ∀ w ∈ u_ws RX0 TX0 11, w ∈ wsX0_waysInto := by decide +kernel
  have f_startWeights := C.2.2.2.2.1 (.fieldLink RX0 9 "PathOdds" "startWeights" "[D") (by decide +kernel)
  have f_stateCount := C.2.2.2.2.1 (.fieldLink RX0 25 "PathOdds" "stateCount" "I") (by decide +kernel)
  have f_moveWeights := C.2.2.2.2.1 (.fieldLink RX0 15 "PathOdds" "moveWeights" "[[D") (by decide +kernel)
  have f_wayCounts := C.2.2.2.2.1 (.fieldLink RX0 48 "PathOdds" "wayCounts" "[[J") (by decide +kernel)
  obtain ⟨h0, hS, h2, h9, hr0, h17, h30, h43, h56, h69, hM, hE, hF, hB, hV, hG, hC⟩ := id h
  refine g_iload_n C dX0_waysInto_0 rfl 1 rfl ?_
  refine g_if_ne (tgt := 21) C dX0_waysInto_1 (by decide) (fun c1 => ?_) (fun c1 => ?_)
  · have ht0 : ¬ t = 0 := fun q => c1 (by rw [q]; rfl)
    refine g_lconst (v := 0) C dX0_waysInto_21 (by decide) ?_
    refine g_lstore_n (lv' := [(0, .ref (a 0)), (1, .int (nI t)), (2, .int (nI j)), (3, .long 0)]) C dX0_waysInto_22 rfl (by decide) [1, 2, 3, 0] rfl ?_
    refine g_iconst (v := nI 0) C dX0_waysInto_23 (by decide) ?_
    refine g_istore (lv' := [(0, .ref (a 0)), (1, .int (nI t)), (2, .int (nI j)), (3, .long 0), (5, .int (nI 0))]) C dX0_waysInto_24 (by decide) [1, 2, 3, 4, 0] rfl ?_
    have L : ∀ (k : Nat) (i : Nat), i + k = n → GW p l en ({ frames := 0, cells := 0, slots := 0, locals := 0 }) s m ([.ref (a 0), .int (nI t), .int (nI j)] : List Value).toArray below meth c 0 0 (MQ below (va_Ql (fun z e1 => e1 = e ∧ z = if t = 0 then (if gtD (S j) FP.dconst0 = true then 1 else 0) else csm (fun i => gtD (M i j) FP.dconst0) (Cn (t - 1)) n) (gB D clP 82 a) (wA 82 a)) ([.ref (a 0), .int (nI t), .int (nI j)] : List Value).toArray s 0 0 (wA 82 a)) D clP 82 6 a (wA 82 a) e 26 [(0, .ref (a 0)), (1, .int (nI t)), (2, .int (nI j)), (3, .long (csm (fun i => gtD (M i j) FP.dconst0) (Cn (t - 1)) i)), (5, .int (nI i))] [] := by
      intro k
      induction k with
      | zero =>
        intro i hk
        obtain ⟨h0, hS, h2, h9, hr0, h17, h30, h43, h56, h69, hM, hE, hF, hB, hV, hG, hC⟩ := id h
        refine g_iload C dX0_waysInto_26 4 rfl ?_
        refine g_aload_n C dX0_waysInto_28 rfl 0 rfl ?_
        refine g_get C 4 hin inl_pos0 (by decide) h0 (by decide) f_stateCount rfl dX0_waysInto_29 ?_
        refine g_icmp_ge (tgt := 69) C dX0_waysInto_32 (by decide) (fun c1 => ?_) (fun c1 => absurd c1 (fun q => q (nI_le (by omega) (by omega))))
        refine g_lload_n C dX0_waysInto_69 rfl 3 rfl ?_
        exact g_lret C hr hlocks (⟨rfl, by rw [if_neg ht0, show n = i by omega]⟩) dX0_waysInto_70
      | succ k ih =>
        intro i hk
        obtain ⟨h0, hS, h2, h9, hr0, h17, h30, h43, h56, h69, hM, hE, hF, hB, hV, hG, hC⟩ := id h
        refine g_iload C dX0_waysInto_26 4 rfl ?_
        refine g_aload_n C dX0_waysInto_28 rfl 0 rfl ?_
        refine g_get C 4 hin inl_pos0 (by decide) h0 (by decide) f_stateCount rfl dX0_waysInto_29 ?_
        refine g_icmp_ge (tgt := 69) C dX0_waysInto_32 (by decide) (fun c1 => absurd c1 (nI_ge (by omega) (by omega))) (fun c1 => ?_)
        refine g_aload_n C dX0_waysInto_35 rfl 0 rfl ?_
        refine g_get C 1 hin inl_pos0 (by decide) h0 (by decide) f_moveWeights rfl dX0_waysInto_36 ?_
        refine g_iload C dX0_waysInto_39 4 rfl ?_
        refine g_aald C (by omega) (tyD2 cy) h2 (by omega) (by decide) dX0_waysInto_41 ?_
        refine g_iload_n C dX0_waysInto_42 rfl 2 rfl ?_
        refine g_dald C (by omega) (hM i (by omega)) (by omega) (by decide) dX0_waysInto_43 ?_
        refine g_dconst0 C dX0_waysInto_44 ?_
        refine g_dcmp C dX0_waysInto_45 ?_
        refine g_if_le (tgt := 63) C dX0_waysInto_46 (by decide) (fun c2 => ?_) (fun c2 => ?_)
        · refine g_iinc (v := nI (i + 1)) (k := 4) (lv' := [(0, .ref (a 0)), (1, .int (nI t)), (2, .int (nI j)), (3, .long (csm (fun i => gtD (M i j) FP.dconst0) (Cn (t - 1)) i)), (5, .int (nI (i + 1)))]) C dX0_waysInto_63 rfl (nI_inc i) (by decide) [1, 2, 3, 4, 0] rfl ?_
          refine g_goto (tgt := 26) C dX0_waysInto_66 (by decide) ?_
          have q := ih (i + 1) (by omega)
          rw [show csm (fun i => gtD (M i j) FP.dconst0) (Cn (t - 1)) (i + 1) = csm (fun i => gtD (M i j) FP.dconst0) (Cn (t - 1)) i from if_neg (by show ¬ gtD (M i j) FP.dconst0 = true; rw [gtD_f c2]; decide)] at q
          exact q
        · refine g_lload_n C dX0_waysInto_49 rfl 3 rfl ?_
          refine g_aload_n C dX0_waysInto_50 rfl 0 rfl ?_
          refine g_get C 10 hin inl_pos0 (by decide) h0 (by decide) f_wayCounts rfl dX0_waysInto_51 ?_
          refine g_iload_n C dX0_waysInto_54 rfl 1 rfl ?_
          refine g_iconst (v := nI 1) C dX0_waysInto_55 (by decide) ?_
          refine g_isub (v := nI (t - 1)) C dX0_waysInto_56 (pk_sub (by omega)) ?_
          refine g_aald C (by omega) (tyL2 cy) h69 (by omega) (by decide) dX0_waysInto_57 ?_
          refine g_iload C dX0_waysInto_58 4 rfl ?_
          refine g_lald C (by omega) (hC (t - 1) (by omega)) (by omega) (by decide) dX0_waysInto_60 ?_
          refine g_ladd C dX0_waysInto_61 ?_
          refine g_lstore_n (lv' := [(0, .ref (a 0)), (1, .int (nI t)), (2, .int (nI j)), (3, .long ((csm (fun i => gtD (M i j) FP.dconst0) (Cn (t - 1)) i) + (Cn (t - 1) i))), (5, .int (nI i))]) C dX0_waysInto_62 rfl (by decide) [1, 2, 3, 0, 4] rfl ?_
          refine g_iinc (v := nI (i + 1)) (k := 4) (lv' := [(0, .ref (a 0)), (1, .int (nI t)), (2, .int (nI j)), (3, .long ((csm (fun i => gtD (M i j) FP.dconst0) (Cn (t - 1)) i) + (Cn (t - 1) i))), (5, .int (nI (i + 1)))]) C dX0_waysInto_63 rfl (nI_inc i) (by decide) [1, 2, 3, 4, 0] rfl ?_
          refine g_goto (tgt := 26) C dX0_waysInto_66 (by decide) ?_
          have q := ih (i + 1) (by omega)
          rw [show csm (fun i => gtD (M i j) FP.dconst0) (Cn (t - 1)) (i + 1) = csm (fun i => gtD (M i j) FP.dconst0) (Cn (t - 1)) i + Cn (t - 1) i from if_pos (gtD_t c2)] at q
          exact q
    exact L n 0 (by omega)
  · have ht0 : t = 0 := (nI_eq (by omega) (by decide)).mp c1
    refine g_aload_n C dX0_waysInto_4 rfl 0 rfl ?_
    refine g_get C 0 hin inl_pos0 (by decide) h0 (by decide) f_startWeights rfl dX0_waysInto_5 ?_
    refine g_iload_n C dX0_waysInto_8 rfl 2 rfl ?_
    refine g_dald C (by omega) hS (by omega) (by decide) dX0_waysInto_9 ?_
    refine g_dconst0 C dX0_waysInto_10 ?_
    refine g_dcmp C dX0_waysInto_11 ?_
    refine g_if_le (tgt := 19) C dX0_waysInto_12 (by decide) (fun c2 => ?_) (fun c2 => ?_)
    · refine g_lconst (v := 0) C dX0_waysInto_19 (by decide) ?_
      exact g_lret C hr hlocks (⟨rfl, by rw [if_pos ht0, if_neg (by rw [gtD_f c2]; decide)]⟩) dX0_waysInto_20
    · refine g_lconst (v := 1) C dX0_waysInto_15 (by decide) ?_
      refine g_goto (tgt := 20) C dX0_waysInto_16 (by decide) ?_
      exact g_lret C hr hlocks (⟨rfl, by rw [if_pos ht0, if_pos (gtD_t c2)]⟩) dX0_waysInto_20

set_option maxHeartbeats 4000000 in
set_option maxRecDepth 100000 in
theorem c_X0_fillWayCounts (l : Launch) (D : va_G) (cy : Nat → ClassId) (a : Nat → Nat) (hi : wInj 82 a) {e : Nat → va_E} {n T : Nat} {S : Nat → UInt64} {M E : T2} {r : Nat → Nat} {F B V : T2} {G : Nat → Nat → Int32} {Cn : Nat → Nat → Int64} (h : RP cy a e n T S M E r F B V G Cn) (hn : 1 ≤ n ∧ n ≤ 6) (hT : T ≤ 12) (hr4 : RW4 r) : Met l yX0_fillWayCounts wsX0_fillWayCounts ({ frames := 1, cells := 0, slots := 0, locals := 25 }) (gPc D clP cy 82 a e [.ref (a 0)]) (va_Qv (fun e1 => ∃ C1 : Nat → Nat → Int64, RP cy a e1 n T S M E r F B V G C1 ∧ ∀ t j, t < T → j < n → C1 t j = fC n S M E r t j) (gB D clP 82 a) (wA 82 a)) 0 0 (wA 82 a) := by
  refine g_met (cc := cX0_fillWayCounts) (maxL := 4) (ret := none) (lv := [(0, .ref (a 0))]) (by decide) rfl (Nat.le_of_ble_eq_true rfl) rfl hi (fun k hk => ⟨k, hk, rfl⟩) ?_
  intro p en s m below meth c C hr hlocks
  have hin : ∀ w ∈ u_ws RX0 TX0 11, w ∈ wsX0_fillWayCounts := by decide +kernel
  have f_rowLength := C.2.2.2.2.1 (.fieldLink RX0 29 "PathOdds" "rowLength" "I") (by decide +kernel)
  have f_row := C.2.2.2.2.1 (.fieldLink RX0 21 "PathOdds" "row" "[I") (by decide +kernel)
  have f_stateCount := C.2.2.2.2.1 (.fieldLink RX0 25 "PathOdds" "stateCount" "I") (by decide +kernel)
  have f_wayCounts := C.2.2.2.2.1 (.fieldLink RX0 48 "PathOdds" "wayCounts" "[[J") (by decide +kernel)
  have f_showWeights := C.2.2.2.2.1 (.fieldLink RX0 18 "PathOdds" "showWeights" "[[D") (by decide +kernel)
  obtain ⟨h0, hS, h2, h9, hr0, h17, h30, h43, h56, h69, hM, hE, hF, hB, hV, hG, hC⟩ := id h
  have L1 : ∀ (k : Nat) (t : Nat) (e : Nat → va_E) (Cn : Nat → Nat → Int64), t + k = T → RP cy a e n T S M E r F B V G Cn → (∀ u q, u < t → q < n → Cn u q = fC n S M E r u q) → GW p l en ({ frames := 1, cells := 0, slots := 0, locals := 25 }) s m ([.ref (a 0)] : List Value).toArray below meth c 0 0 (MQ below (va_Qv (fun e1 => ∃ C1 : Nat → Nat → Int64, RP cy a e1 n T S M E r F B V G C1 ∧ ∀ t j, t < T → j < n → C1 t j = fC n S M E r t j) (gB D clP 82 a) (wA 82 a)) ([.ref (a 0)] : List Value).toArray s 0 0 (wA 82 a)) D clP 82 4 a (wA 82 a) e 2 [(0, .ref (a 0)), (1, .int (nI t))] [] := by
    intro k
    induction k with
    | zero =>
      intro t e Cn hk h hp
      obtain ⟨h0, hS, h2, h9, hr0, h17, h30, h43, h56, h69, hM, hE, hF, hB, hV, hG, hC⟩ := id h
      refine g_iload_n C dX0_fillWayCounts_2 rfl 1 rfl ?_
      refine g_aload_n C dX0_fillWayCounts_3 rfl 0 rfl ?_
      refine g_get C 5 hin inl_pos0 (by decide) h0 (by decide) f_rowLength rfl dX0_fillWayCounts_4 ?_
      refine g_icmp_ge (tgt := 70) C dX0_fillWayCounts_7 (by decide) (fun c1 => ?_) (fun c1 => absurd c1 (fun q => q (nI_le (by omega) (by omega))))
      exact g_vret C hr hlocks (⟨Cn, h, fun u q hu hq => hp u q (by omega) hq⟩) dX0_fillWayCounts_70
    | succ k ih =>
      intro t e Cn hk h hp
      obtain ⟨h0, hS, h2, h9, hr0, h17, h30, h43, h56, h69, hM, hE, hF, hB, hV, hG, hC⟩ := id h
      refine g_iload_n C dX0_fillWayCounts_2 rfl 1 rfl ?_
      refine g_aload_n C dX0_fillWayCounts_3 rfl 0 rfl ?_
      refine g_get C 5 hin inl_pos0 (by decide) h0 (by decide) f_rowLength rfl dX0_fillWayCounts_4 ?_
      refine g_icmp_ge (tgt := 70) C dX0_fillWayCounts_7 (by decide) (fun c1 => absurd c1 (nI_ge (by omega) (by omega))) (fun c1 => ?_)
      have hrt : r t < 4 := hr4 t (by omega)
      refine g_aload_n C dX0_fillWayCounts_10 rfl 0 rfl ?_
      refine g_get C 3 hin inl_pos0 (by decide) h0 (by decide) f_row rfl dX0_fillWayCounts_11 ?_
      refine g_iload_n C dX0_fillWayCounts_14 rfl 1 rfl ?_
      refine g_iald C (by omega) hr0 (by omega) (by decide) dX0_fillWayCounts_15 ?_
      refine g_istore_n (lv' := [(0, .ref (a 0)), (1, .int (nI t)), (2, .int (nI (r t)))]) C dX0_fillWayCounts_16 rfl (by decide) [1, 2, 0] rfl ?_
      refine g_iconst (v := nI 0) C dX0_fillWayCounts_17 (by decide) ?_
      refine g_istore_n (lv' := [(0, .ref (a 0)), (1, .int (nI t)), (2, .int (nI (r t))), (3, .int (nI 0))]) C dX0_fillWayCounts_18 rfl (by decide) [1, 2, 3, 0] rfl ?_
      have L2 : ∀ (k2 : Nat) (j : Nat) (e : Nat → va_E) (Cn : Nat → Nat → Int64), j + k2 = n → RP cy a e n T S M E r F B V G Cn → (∀ u q, u < t → q < n → Cn u q = fC n S M E r u q) → (∀ q, q < j → Cn t q = fC n S M E r t q) → GW p l en ({ frames := 1, cells := 0, slots := 0, locals := 25 }) s m ([.ref (a 0)] : List Value).toArray below meth c 0 0 (MQ below (va_Qv (fun e1 => ∃ C1 : Nat → Nat → Int64, RP cy a e1 n T S M E r F B V G C1 ∧ ∀ t j, t < T → j < n → C1 t j = fC n S M E r t j) (gB D clP 82 a) (wA 82 a)) ([.ref (a 0)] : List Value).toArray s 0 0 (wA 82 a)) D clP 82 4 a (wA 82 a) e 19 [(0, .ref (a 0)), (1, .int (nI t)), (2, .int (nI (r t))), (3, .int (nI j))] [] := by
        intro k2
        induction k2 with
        | zero =>
          intro j e Cn hk2 h hp hpj
          obtain ⟨h0, hS, h2, h9, hr0, h17, h30, h43, h56, h69, hM, hE, hF, hB, hV, hG, hC⟩ := id h
          refine g_iload_n C dX0_fillWayCounts_19 rfl 3 rfl ?_
          refine g_aload_n C dX0_fillWayCounts_20 rfl 0 rfl ?_
          refine g_get C 4 hin inl_pos0 (by decide) h0 (by decide) f_stateCount rfl dX0_fillWayCounts_21 ?_
          refine g_icmp_ge (tgt := 64) C dX0_fillWayCounts_24 (by decide) (fun c1 => ?_) (fun c1 => absurd c1 (fun q => q (nI_le (by omega) (by omega))))
          refine g_iinc (v := nI (t + 1)) (k := 1) (lv' := [(0, .ref (a 0)), (1, .int (nI (t + 1))), (2, .int (nI (r t))), (3, .int (nI j))]) C dX0_fillWayCounts_64 rfl (nI_inc t) (by decide) [1, 0, 2, 3] rfl ?_
          refine g_goto (tgt := 2) C dX0_fillWayCounts_67 (by decide) ?_
          refine g_pick (lv' := [(0, .ref (a 0)), (1, .int (nI (t + 1)))]) [0, 1] rfl ?_
          exact ih (t + 1) e Cn (by omega) h (fun u q hu hq => by
            by_cases hut : u = t
            · subst hut; exact hpj q (by omega)
            · exact hp u q (by omega) hq)
        | succ k2 ih2 =>
          intro j e Cn hk2 h hp hpj
          obtain ⟨h0, hS, h2, h9, hr0, h17, h30, h43, h56, h69, hM, hE, hF, hB, hV, hG, hC⟩ := id h
          refine g_iload_n C dX0_fillWayCounts_19 rfl 3 rfl ?_
          refine g_aload_n C dX0_fillWayCounts_20 rfl 0 rfl ?_
          refine g_get C 4 hin inl_pos0 (by decide) h0 (by decide) f_stateCount rfl dX0_fillWayCounts_21 ?_
          refine g_icmp_ge (tgt := 64) C dX0_fillWayCounts_24 (by decide) (fun c1 => absurd c1 (nI_ge (by omega) (by omega))) (fun c1 => ?_)
          refine g_aload_n C dX0_fillWayCounts_27 rfl 0 rfl ?_
          refine g_get C 10 hin inl_pos0 (by decide) h0 (by decide) f_wayCounts rfl dX0_fillWayCounts_28 ?_
          refine g_iload_n C dX0_fillWayCounts_31 rfl 1 rfl ?_
          refine g_aald C (by omega) (tyL2 cy) h69 (by omega) (by decide) dX0_fillWayCounts_32 ?_
          refine g_iload_n C dX0_fillWayCounts_33 rfl 3 rfl ?_
          refine g_aload_n C dX0_fillWayCounts_34 rfl 0 rfl ?_
          refine g_get C 2 hin inl_pos0 (by decide) h0 (by decide) f_showWeights rfl dX0_fillWayCounts_35 ?_
          refine g_iload_n C dX0_fillWayCounts_38 rfl 3 rfl ?_
          refine g_aald C (by omega) (tyD2 cy) h9 (by omega) (by decide) dX0_fillWayCounts_39 ?_
          refine g_iload_n C dX0_fillWayCounts_40 rfl 2 rfl ?_
          refine g_dald C (by omega) (hE j (by omega)) (by omega) (by decide) dX0_fillWayCounts_41 ?_
          refine g_dconst0 C dX0_fillWayCounts_42 ?_
          refine g_dcmp C dX0_fillWayCounts_43 ?_
          refine g_if_le (tgt := 56) C dX0_fillWayCounts_44 (by decide) (fun c2 => ?_) (fun c2 => ?_)
          · have hzA : (0 : Int64) = fC n S M E r t j := fC_no (gtD_f c2)
            refine g_lconst (v := 0) C dX0_fillWayCounts_56 (by decide) ?_
            refine g_last C (by omega) (hC t (by omega)) (by omega) (by decide) dX0_fillWayCounts_57 (fun y hy => ?_)
            have h := RP_C (t := t) h (by omega) hy
            generalize va_up e (70 + t) y = e at h ⊢
            refine g_iinc (v := nI (j + 1)) (k := 3) (lv' := [(0, .ref (a 0)), (1, .int (nI t)), (2, .int (nI (r t))), (3, .int (nI (j + 1)))]) C dX0_fillWayCounts_58 rfl (nI_inc j) (by decide) [1, 2, 3, 0] rfl ?_
            refine g_goto (tgt := 19) C dX0_fillWayCounts_61 (by decide) ?_
            exact ih2 (j + 1) e _ (by omega) h (fun u q hu hq => by rw [va_up_ne _ _ (by omega)]; exact hp u q hu hq) (fun q hq => by
              rw [va_up_self]
              by_cases hqj : q = j
              · subst hqj; rw [va_up_self]; exact hzA
              · rw [va_up_ne _ _ hqj]; exact hpj q (by omega))
          · refine g_aload_n C dX0_fillWayCounts_47 rfl 0 rfl ?_
            refine g_iload_n C dX0_fillWayCounts_48 rfl 1 rfl ?_
            refine g_iload_n C dX0_fillWayCounts_49 rfl 3 rfl ?_
            refine g_calll (As := [.int (nI t), .int (nI j)]) (rest := [.int (nI j), .ref (a (70 + t))]) C (cwV 2 C.2.2.2.2.1 gX0_fillWayCounts_X0_waysInto rfl rfl rfl (by decide +kernel) ⟨Nat.le_of_ble_eq_true rfl, Nat.le_of_ble_eq_true rfl⟩) (c_X0_waysInto l D cy a hi h (by omega) t j (by omega) (by omega)) (by decide) h0 inl_pos0 rfl rfl (Nat.le_of_ble_eq_true rfl) dX0_fillWayCounts_50 ⟨Nat.zero_le _, Nat.zero_le _⟩ (fun z e1 hz => ?_)
            rw [hz.1]
            have hzA : z = fC n S M E r t j := fC_step hz.2 (fun h0t q hq => hp (t - 1) q (by omega) hq) (gtD_t c2)
            refine g_goto (tgt := 57) C dX0_fillWayCounts_53 (by decide) ?_
            refine g_last C (by omega) (hC t (by omega)) (by omega) (by decide) dX0_fillWayCounts_57 (fun y hy => ?_)
            have h := RP_C (t := t) h (by omega) hy
            generalize va_up e (70 + t) y = e at h ⊢
            refine g_iinc (v := nI (j + 1)) (k := 3) (lv' := [(0, .ref (a 0)), (1, .int (nI t)), (2, .int (nI (r t))), (3, .int (nI (j + 1)))]) C dX0_fillWayCounts_58 rfl (nI_inc j) (by decide) [1, 2, 3, 0] rfl ?_
            refine g_goto (tgt := 19) C dX0_fillWayCounts_61 (by decide) ?_
            exact ih2 (j + 1) e _ (by omega) h (fun u q hu hq => by rw [va_up_ne _ _ (by omega)]; exact hp u q hu hq) (fun q hq => by
              rw [va_up_self]
              by_cases hqj : q = j
              · subst hqj; rw [va_up_self]; exact hzA
              · rw [va_up_ne _ _ hqj]; exact hpj q (by omega))
      exact L2 n 0 e Cn (by omega) h hp (fun q hq => absurd hq (by omega))
  refine g_iconst (v := nI 0) C dX0_fillWayCounts_0 (by decide) ?_
  refine g_istore_n (lv' := [(0, .ref (a 0)), (1, .int (nI 0))]) C dX0_fillWayCounts_1 rfl (by decide) [1, 0] rfl ?_
  exact L1 T 0 e Cn (by omega) h (fun u q hu => absurd hu (by omega))
