theorem fA_step {n : Nat} {S : Nat → UInt64} {M E : T2} {r : Nat → Nat} {F : T2} {t j : Nat} {z : UInt64} (hz : z = if t = 0 then S j else fsm (fun i => FP.dmul (F (t - 1) i) (M i j)) n) (hp : 0 < t → ∀ q, q < n → F (t - 1) q = fA n S M E r (t - 1) q) : FP.dmul z (E j (r t)) = fA n S M E r t j := by
  rw [hz]
  cases t with
  | zero => rfl
  | succ t =>
    rw [if_neg (by omega), fsm_congr (g := fun i => FP.dmul (fA n S M E r t i) (M i j)) (fun i hi => by
      show FP.dmul (F (t + 1 - 1) i) (M i j) = FP.dmul (fA n S M E r t i) (M i j)
      rw [hp (by omega) i hi]
      rfl) n (Nat.le_refl n)]
    rfl
theorem fV_step {n : Nat} (hn : 0 < n) {S : Nat → UInt64} {M E : T2} {r : Nat → Nat} {V : T2} {t j : Nat} {z : UInt64} (hz0 : t = 0 → z = S j) (hz : 0 < t → z = (fun i => FP.dmul (V (t - 1) i) (M i j)) (am (fun i => FP.dmul (V (t - 1) i) (M i j)) n)) (hp : 0 < t → ∀ q, q < n → V (t - 1) q = fV n S M E r (t - 1) q) : FP.dmul z (E j (r t)) = fV n S M E r t j := by
  cases t with
  | zero =>
    rw [hz0 rfl]
    rfl
  | succ t =>
    have hf : ∀ i, i < n → (fun i => FP.dmul (V (t + 1 - 1) i) (M i j)) i = (fun i => FP.dmul (fV n S M E r t i) (M i j)) i := fun i hi => by
      show FP.dmul (V (t + 1 - 1) i) (M i j) = FP.dmul (fV n S M E r t i) (M i j)
      rw [hp (by omega) i hi]
      rfl
    have hl := am_lt (fun i => FP.dmul (fV n S M E r t i) (M i j)) n hn
    rw [hz (by omega), am_congr hn hf n (Nat.le_refl n), hf _ hl]
    rfl
theorem fG_step {n : Nat} (hn : 0 < n) {S : Nat → UInt64} {M E : T2} {r : Nat → Nat} {V : T2} {t j : Nat} (hp : ∀ q, q < n → V (t - 1) q = fV n S M E r (t - 1) q) : am (fun i => FP.dmul (V (t - 1) i) (M i j)) n = fG n S M E r t j :=
  am_congr hn (fun i hi => by rw [hp i hi]) n (Nat.le_refl n)
theorem fB_step {n T : Nat} {M E : T2} {r : Nat → Nat} {B : T2} {t i : Nat} {z : UInt64} (ht : t < T) (hz : z = if t = T - 1 then FP.dconst1 else fsm (fun q => FP.dmul (FP.dmul (M i q) (E q (r (t + 1)))) (B (t + 1) q)) n) (hp : t + 1 < T → ∀ q, q < n → B (t + 1) q = fB n M E r T (T - 1 - (t + 1)) q) : z = fB n M E r T (T - 1 - t) i := by
  rw [hz]
  by_cases h : t = T - 1
  · rw [if_pos h, h, Nat.sub_self]
    rfl
  · rw [if_neg h]
    obtain ⟨d, hd⟩ : ∃ d, T - 1 - t = d + 1 := ⟨T - 1 - t - 1, by omega⟩
    rw [hd, fsm_congr (g := fun q => FP.dmul (FP.dmul (M i q) (E q (r (T - 1 - d)))) (fB n M E r T d q)) (fun q hq => by
      show FP.dmul (FP.dmul (M i q) (E q (r (t + 1)))) (B (t + 1) q) = FP.dmul (FP.dmul (M i q) (E q (r (T - 1 - d)))) (fB n M E r T d q)
      rw [hp (by omega) q hq, show T - 1 - (t + 1) = d by omega, show T - 1 - d = t + 1 by omega]) n (Nat.le_refl n)]
    rfl
theorem fC_step {n : Nat} {S : Nat → UInt64} {M E : T2} {r : Nat → Nat} {C : Nat → Nat → Int64} {t j : Nat} {z : Int64} (hz : z = if t = 0 then (if gtD (S j) FP.dconst0 = true then 1 else 0) else csm (fun i => gtD (M i j) FP.dconst0) (C (t - 1)) n) (hp : 0 < t → ∀ q, q < n → C (t - 1) q = fC n S M E r (t - 1) q) (hg : gtD (E j (r t)) FP.dconst0 = true) : z = fC n S M E r t j := by
  rw [hz]
  cases t with
  | zero =>
    show _ = if gtD (E j (r 0)) FP.dconst0 = true then _ else _
    rw [if_pos hg, if_pos rfl]
  | succ t =>
    show _ = if gtD (E j (r (t + 1))) FP.dconst0 = true then csm (fun i => gtD (M i j) FP.dconst0) (fC n S M E r t) n else 0
    rw [if_pos hg, if_neg (by omega)]
    exact csm_congr (fun _ _ => rfl) (fun i hi => hp (by omega) i hi) n (Nat.le_refl n)
theorem fC_no {n : Nat} {S : Nat → UInt64} {M E : T2} {r : Nat → Nat} {t j : Nat} (hg : gtD (E j (r t)) FP.dconst0 = false) : (0 : Int64) = fC n S M E r t j := by
  cases t with
  | zero =>
    show _ = if gtD (E j (r 0)) FP.dconst0 = true then _ else _
    rw [if_neg (by rw [hg]; decide)]
  | succ t =>
    show _ = if gtD (E j (r (t + 1))) FP.dconst0 = true then csm (fun i => gtD (M i j) FP.dconst0) (fC n S M E r t) n else 0
    rw [if_neg (by rw [hg]; decide)]

set_option maxHeartbeats 4000000 in
set_option maxRecDepth 100000 in
theorem c_X0_forwardInto (l : Launch) (D : va_G) (cy : Nat → ClassId) (a : Nat → Nat) (hi : wInj 82 a) {e : Nat → va_E} {n T : Nat} {S : Nat → UInt64} {M E : T2} {r : Nat → Nat} {F B V : T2} {G : Nat → Nat → Int32} {Cn : Nat → Nat → Int64} (h : RP cy a e n T S M E r F B V G Cn) (hn : n ≤ 6) (t j : Nat) (ht : t < 12) (hj : j < n) (hW : WB S M E) {K : Nat} (hK : K ≤ 1900) (hFb : 0 < t → ∀ i, i < n → mg K (F (t - 1) i)) : Met l yX0_forwardInto wsX0_forwardInto ({ frames := 0, cells := 0, slots := 0, locals := 0 }) (gPc D clP cy 82 a e [.ref (a 0), .int (nI t), .int (nI j)]) (va_Qd (fun z e1 => e1 = e ∧ z = if t = 0 then S j else fsm (fun i => FP.dmul (F (t - 1) i) (M i j)) n) (gB D clP 82 a) (wA 82 a)) 0 0 (wA 82 a) := by
  refine g_met (cc := cX0_forwardInto) (maxL := 6) (ret := (some .double)) (lv := [(0, .ref (a 0)), (1, .int (nI t)), (2, .int (nI j))]) (by decide) rfl (Nat.le_of_ble_eq_true rfl) rfl hi (fun k hk => ⟨k, hk, rfl⟩) ?_
  intro p en s m below meth c C hr hlocks
  have hin : ∀ w ∈ u_ws RX0 TX0 11, w ∈ wsX0_forwardInto := by decide +kernel
  have f_startWeights := C.2.2.2.2.1 (.fieldLink RX0 9 "PathOdds" "startWeights" "[D") (by decide +kernel)
  have f_stateCount := C.2.2.2.2.1 (.fieldLink RX0 25 "PathOdds" "stateCount" "I") (by decide +kernel)
  have f_forwardOdds := C.2.2.2.2.1 (.fieldLink RX0 32 "PathOdds" "forwardOdds" "[[D") (by decide +kernel)
  have f_moveWeights := C.2.2.2.2.1 (.fieldLink RX0 15 "PathOdds" "moveWeights" "[[D") (by decide +kernel)
  obtain ⟨h0, hS, h2, h9, hr0, h17, h30, h43, h56, h69, hM, hE, hF, hB, hV, hG, hC⟩ := id h
  refine g_iload_n C dX0_forwardInto_0 rfl 1 rfl ?_
  refine g_if_ne (tgt := 11) C dX0_forwardInto_1 (by decide) (fun c1 => ?_) (fun c1 => ?_)
  · have ht0 : ¬ t = 0 := fun q => c1 (by rw [q]; rfl)
    have hb : ∀ q, q < n → mg (K + 3) ((fun i => FP.dmul (F (t - 1) i) (M i j)) q) := fun q hq => mg_mono (mg_mul (hFb (by omega) q hq) (hW.2.1 q j (by omega) (by omega)) (by omega) (by decide)) (by omega)
    have L : ∀ (k : Nat) (i : Nat), i + k = n → GW p l en ({ frames := 0, cells := 0, slots := 0, locals := 0 }) s m ([.ref (a 0), .int (nI t), .int (nI j)] : List Value).toArray below meth c 0 0 (MQ below (va_Qd (fun z e1 => e1 = e ∧ z = if t = 0 then S j else fsm (fun i => FP.dmul (F (t - 1) i) (M i j)) n) (gB D clP 82 a) (wA 82 a)) ([.ref (a 0), .int (nI t), .int (nI j)] : List Value).toArray s 0 0 (wA 82 a)) D clP 82 6 a (wA 82 a) e 16 [(0, .ref (a 0)), (1, .int (nI t)), (2, .int (nI j)), (3, .double (fsm (fun i => FP.dmul (F (t - 1) i) (M i j)) i)), (5, .int (nI i))] [] := by
      intro k
      induction k with
      | zero =>
        intro i hk
        obtain ⟨h0, hS, h2, h9, hr0, h17, h30, h43, h56, h69, hM, hE, hF, hB, hV, hG, hC⟩ := id h
        refine g_iload C dX0_forwardInto_16 4 rfl ?_
        refine g_aload_n C dX0_forwardInto_18 rfl 0 rfl ?_
        refine g_get C 4 hin inl_pos0 (by decide) h0 (by decide) f_stateCount rfl dX0_forwardInto_19 ?_
        refine g_icmp_ge (tgt := 55) C dX0_forwardInto_22 (by decide) (fun c1 => ?_) (fun c1 => absurd c1 (fun q => q (nI_le (by omega) (by omega))))
        refine g_dload_n C dX0_forwardInto_55 rfl 3 rfl ?_
        exact g_dret C hr hlocks (⟨rfl, by rw [if_neg ht0, show n = i by omega]⟩) dX0_forwardInto_56
      | succ k ih =>
        intro i hk
        obtain ⟨h0, hS, h2, h9, hr0, h17, h30, h43, h56, h69, hM, hE, hF, hB, hV, hG, hC⟩ := id h
        refine g_iload C dX0_forwardInto_16 4 rfl ?_
        refine g_aload_n C dX0_forwardInto_18 rfl 0 rfl ?_
        refine g_get C 4 hin inl_pos0 (by decide) h0 (by decide) f_stateCount rfl dX0_forwardInto_19 ?_
        refine g_icmp_ge (tgt := 55) C dX0_forwardInto_22 (by decide) (fun c1 => absurd c1 (nI_ge (by omega) (by omega))) (fun c1 => ?_)
        refine g_dload_n C dX0_forwardInto_25 rfl 3 rfl ?_
        refine g_aload_n C dX0_forwardInto_26 rfl 0 rfl ?_
        refine g_get C 6 hin inl_pos0 (by decide) h0 (by decide) f_forwardOdds rfl dX0_forwardInto_27 ?_
        refine g_iload_n C dX0_forwardInto_30 rfl 1 rfl ?_
        refine g_iconst (v := nI 1) C dX0_forwardInto_31 (by decide) ?_
        refine g_isub (v := nI (t - 1)) C dX0_forwardInto_32 (pk_sub (by omega)) ?_
        refine g_aald C (by omega) (tyD2 cy) h17 (by omega) (by decide) dX0_forwardInto_33 ?_
        refine g_iload C dX0_forwardInto_34 4 rfl ?_
        refine g_dald C (by omega) (hF (t - 1) (by omega)) (by omega) (by decide) dX0_forwardInto_36 ?_
        refine g_aload_n C dX0_forwardInto_37 rfl 0 rfl ?_
        refine g_get C 1 hin inl_pos0 (by decide) h0 (by decide) f_moveWeights rfl dX0_forwardInto_38 ?_
        refine g_iload C dX0_forwardInto_41 4 rfl ?_
        refine g_aald C (by omega) (tyD2 cy) h2 (by omega) (by decide) dX0_forwardInto_43 ?_
        refine g_iload_n C dX0_forwardInto_44 rfl 2 rfl ?_
        refine g_dald C (by omega) (hM i (by omega)) (by omega) (by decide) dX0_forwardInto_45 ?_
        refine g_dmul C dX0_forwardInto_46 (mg_n64 (hb i (by omega)) (by omega)) ?_
        refine g_dadd C dX0_forwardInto_47 (mg_n64 (mg_add (fsm_mg hb (by omega) (by omega) i (by omega)) (mg_mono (hb i (by omega)) (by omega)) (by omega)) (by omega)) ?_
        refine g_dstore_n (lv' := [(0, .ref (a 0)), (1, .int (nI t)), (2, .int (nI j)), (3, .double (FP.dadd (fsm (fun i => FP.dmul (F (t - 1) i) (M i j)) i) (FP.dmul (F (t - 1) i) (M i j)))), (5, .int (nI i))]) C dX0_forwardInto_48 rfl (by decide) [1, 2, 3, 0, 4] rfl ?_
        refine g_iinc (v := nI (i + 1)) (k := 4) (lv' := [(0, .ref (a 0)), (1, .int (nI t)), (2, .int (nI j)), (3, .double (FP.dadd (fsm (fun i => FP.dmul (F (t - 1) i) (M i j)) i) (FP.dmul (F (t - 1) i) (M i j)))), (5, .int (nI (i + 1)))]) C dX0_forwardInto_49 rfl (nI_inc i) (by decide) [1, 2, 3, 4, 0] rfl ?_
        refine g_goto (tgt := 16) C dX0_forwardInto_52 (by decide) ?_
        exact ih (i + 1) (by omega)
    refine g_dconst0 C dX0_forwardInto_11 ?_
    refine g_dstore_n (lv' := [(0, .ref (a 0)), (1, .int (nI t)), (2, .int (nI j)), (3, .double FP.dconst0)]) C dX0_forwardInto_12 rfl (by decide) [1, 2, 3, 0] rfl ?_
    refine g_iconst (v := nI 0) C dX0_forwardInto_13 (by decide) ?_
    refine g_istore (lv' := [(0, .ref (a 0)), (1, .int (nI t)), (2, .int (nI j)), (3, .double FP.dconst0), (5, .int (nI 0))]) C dX0_forwardInto_14 (by decide) [1, 2, 3, 4, 0] rfl ?_
    exact L n 0 (by omega)
  · refine g_aload_n C dX0_forwardInto_4 rfl 0 rfl ?_
    refine g_get C 0 hin inl_pos0 (by decide) h0 (by decide) f_startWeights rfl dX0_forwardInto_5 ?_
    refine g_iload_n C dX0_forwardInto_8 rfl 2 rfl ?_
    refine g_dald C (by omega) hS (by omega) (by decide) dX0_forwardInto_9 ?_
    exact g_dret C hr hlocks (⟨rfl, by rw [if_pos ((nI_eq (by omega) (by decide)).mp c1)]⟩) dX0_forwardInto_10

set_option maxHeartbeats 4000000 in
set_option maxRecDepth 100000 in
theorem c_X0_fillForward (l : Launch) (D : va_G) (cy : Nat → ClassId) (a : Nat → Nat) (hi : wInj 82 a) {e : Nat → va_E} {n T : Nat} {S : Nat → UInt64} {M E : T2} {r : Nat → Nat} {F B V : T2} {G : Nat → Nat → Int32} {Cn : Nat → Nat → Int64} (h : RP cy a e n T S M E r F B V G Cn) (hn : 1 ≤ n ∧ n ≤ 6) (hT : T ≤ 12) (hW : WB S M E) (hr4 : RW4 r) : Met l yX0_fillForward wsX0_fillForward ({ frames := 1, cells := 0, slots := 0, locals := 25 }) (gPc D clP cy 82 a e [.ref (a 0)]) (va_Qv (fun e1 => ∃ F1, RP cy a e1 n T S M E r F1 B V G Cn ∧ ∀ t j, t < T → j < n → F1 t j = fA n S M E r t j) (gB D clP 82 a) (wA 82 a)) 0 0 (wA 82 a) := by
  refine g_met (cc := cX0_fillForward) (maxL := 4) (ret := none) (lv := [(0, .ref (a 0))]) (by decide) rfl (Nat.le_of_ble_eq_true rfl) rfl hi (fun k hk => ⟨k, hk, rfl⟩) ?_
  intro p en s m below meth c C hr hlocks
  have hin : ∀ w ∈ u_ws RX0 TX0 11, w ∈ wsX0_fillForward := by decide +kernel
  have f_rowLength := C.2.2.2.2.1 (.fieldLink RX0 29 "PathOdds" "rowLength" "I") (by decide +kernel)
  have f_row := C.2.2.2.2.1 (.fieldLink RX0 21 "PathOdds" "row" "[I") (by decide +kernel)
  have f_stateCount := C.2.2.2.2.1 (.fieldLink RX0 25 "PathOdds" "stateCount" "I") (by decide +kernel)
  have f_forwardOdds := C.2.2.2.2.1 (.fieldLink RX0 32 "PathOdds" "forwardOdds" "[[D") (by decide +kernel)
  have f_showWeights := C.2.2.2.2.1 (.fieldLink RX0 18 "PathOdds" "showWeights" "[[D") (by decide +kernel)
  obtain ⟨h0, hS, h2, h9, hr0, h17, h30, h43, h56, h69, hM, hE, hF, hB, hV, hG, hC⟩ := id h
  have L1 : ∀ (k : Nat) (t : Nat) (e : Nat → va_E) (F : T2), t + k = T → RP cy a e n T S M E r F B V G Cn → (∀ u q, u < t → q < n → F u q = fA n S M E r u q) → GW p l en ({ frames := 1, cells := 0, slots := 0, locals := 25 }) s m ([.ref (a 0)] : List Value).toArray below meth c 0 0 (MQ below (va_Qv (fun e1 => ∃ F1, RP cy a e1 n T S M E r F1 B V G Cn ∧ ∀ t j, t < T → j < n → F1 t j = fA n S M E r t j) (gB D clP 82 a) (wA 82 a)) ([.ref (a 0)] : List Value).toArray s 0 0 (wA 82 a)) D clP 82 4 a (wA 82 a) e 2 [(0, .ref (a 0)), (1, .int (nI t))] [] := by
    intro k
    induction k with
    | zero =>
      intro t e F hk h hp
      obtain ⟨h0, hS, h2, h9, hr0, h17, h30, h43, h56, h69, hM, hE, hF, hB, hV, hG, hC⟩ := id h
      refine g_iload_n C dX0_fillForward_2 rfl 1 rfl ?_
      refine g_aload_n C dX0_fillForward_3 rfl 0 rfl ?_
      refine g_get C 5 hin inl_pos0 (by decide) h0 (by decide) f_rowLength rfl dX0_fillForward_4 ?_
      refine g_icmp_ge (tgt := 62) C dX0_fillForward_7 (by decide) (fun c1 => ?_) (fun c1 => absurd c1 (fun q => q (nI_le (by omega) (by omega))))
      exact g_vret C hr hlocks (⟨F, h, fun u q hu hq => hp u q (by omega) hq⟩) dX0_fillForward_62
    | succ k ih =>
      intro t e F hk h hp
      obtain ⟨h0, hS, h2, h9, hr0, h17, h30, h43, h56, h69, hM, hE, hF, hB, hV, hG, hC⟩ := id h
      refine g_iload_n C dX0_fillForward_2 rfl 1 rfl ?_
      refine g_aload_n C dX0_fillForward_3 rfl 0 rfl ?_
      refine g_get C 5 hin inl_pos0 (by decide) h0 (by decide) f_rowLength rfl dX0_fillForward_4 ?_
      refine g_icmp_ge (tgt := 62) C dX0_fillForward_7 (by decide) (fun c1 => absurd c1 (nI_ge (by omega) (by omega))) (fun c1 => ?_)
      have hrt : r t < 4 := hr4 t (by omega)
      refine g_aload_n C dX0_fillForward_10 rfl 0 rfl ?_
      refine g_get C 3 hin inl_pos0 (by decide) h0 (by decide) f_row rfl dX0_fillForward_11 ?_
      refine g_iload_n C dX0_fillForward_14 rfl 1 rfl ?_
      refine g_iald C (by omega) hr0 (by omega) (by decide) dX0_fillForward_15 ?_
      refine g_istore_n (lv' := [(0, .ref (a 0)), (1, .int (nI t)), (2, .int (nI (r t)))]) C dX0_fillForward_16 rfl (by decide) [1, 2, 0] rfl ?_
      refine g_iconst (v := nI 0) C dX0_fillForward_17 (by decide) ?_
      refine g_istore_n (lv' := [(0, .ref (a 0)), (1, .int (nI t)), (2, .int (nI (r t))), (3, .int (nI 0))]) C dX0_fillForward_18 rfl (by decide) [1, 2, 3, 0] rfl ?_
      have L2 : ∀ (k2 : Nat) (j : Nat) (e : Nat → va_E) (F : T2), j + k2 = n → RP cy a e n T S M E r F B V G Cn → (∀ u q, u < t → q < n → F u q = fA n S M E r u q) → (∀ q, q < j → F t q = fA n S M E r t q) → GW p l en ({ frames := 1, cells := 0, slots := 0, locals := 25 }) s m ([.ref (a 0)] : List Value).toArray below meth c 0 0 (MQ below (va_Qv (fun e1 => ∃ F1, RP cy a e1 n T S M E r F1 B V G Cn ∧ ∀ t j, t < T → j < n → F1 t j = fA n S M E r t j) (gB D clP 82 a) (wA 82 a)) ([.ref (a 0)] : List Value).toArray s 0 0 (wA 82 a)) D clP 82 4 a (wA 82 a) e 19 [(0, .ref (a 0)), (1, .int (nI t)), (2, .int (nI (r t))), (3, .int (nI j))] [] := by
        intro k2
        induction k2 with
        | zero =>
          intro j e F hk2 h hp hpj
          obtain ⟨h0, hS, h2, h9, hr0, h17, h30, h43, h56, h69, hM, hE, hF, hB, hV, hG, hC⟩ := id h
          refine g_iload_n C dX0_fillForward_19 rfl 3 rfl ?_
          refine g_aload_n C dX0_fillForward_20 rfl 0 rfl ?_
          refine g_get C 4 hin inl_pos0 (by decide) h0 (by decide) f_stateCount rfl dX0_fillForward_21 ?_
          refine g_icmp_ge (tgt := 56) C dX0_fillForward_24 (by decide) (fun c1 => ?_) (fun c1 => absurd c1 (fun q => q (nI_le (by omega) (by omega))))
          refine g_iinc (v := nI (t + 1)) (k := 1) (lv' := [(0, .ref (a 0)), (1, .int (nI (t + 1))), (2, .int (nI (r t))), (3, .int (nI j))]) C dX0_fillForward_56 rfl (nI_inc t) (by decide) [1, 0, 2, 3] rfl ?_
          refine g_goto (tgt := 2) C dX0_fillForward_59 (by decide) ?_
          refine g_pick (lv' := [(0, .ref (a 0)), (1, .int (nI (t + 1)))]) [0, 1] rfl ?_
          exact ih (t + 1) e F (by omega) h (fun u q hu hq => by
            by_cases hut : u = t
            · subst hut; exact hpj q (by omega)
            · exact hp u q (by omega) hq)
        | succ k2 ih2 =>
          intro j e F hk2 h hp hpj
          obtain ⟨h0, hS, h2, h9, hr0, h17, h30, h43, h56, h69, hM, hE, hF, hB, hV, hG, hC⟩ := id h
          refine g_iload_n C dX0_fillForward_19 rfl 3 rfl ?_
          refine g_aload_n C dX0_fillForward_20 rfl 0 rfl ?_
          refine g_get C 4 hin inl_pos0 (by decide) h0 (by decide) f_stateCount rfl dX0_fillForward_21 ?_
          refine g_icmp_ge (tgt := 56) C dX0_fillForward_24 (by decide) (fun c1 => absurd c1 (nI_ge (by omega) (by omega))) (fun c1 => ?_)
          refine g_aload_n C dX0_fillForward_27 rfl 0 rfl ?_
          refine g_get C 6 hin inl_pos0 (by decide) h0 (by decide) f_forwardOdds rfl dX0_fillForward_28 ?_
          refine g_iload_n C dX0_fillForward_31 rfl 1 rfl ?_
          refine g_aald C (by omega) (tyD2 cy) h17 (by omega) (by decide) dX0_fillForward_32 ?_
          refine g_iload_n C dX0_fillForward_33 rfl 3 rfl ?_
          refine g_aload_n C dX0_fillForward_34 rfl 0 rfl ?_
          refine g_iload_n C dX0_fillForward_35 rfl 1 rfl ?_
          refine g_iload_n C dX0_fillForward_36 rfl 3 rfl ?_
          refine g_calld (As := [.int (nI t), .int (nI j)]) (rest := [.int (nI j), .ref (a (18 + t))]) C (cwV 2 C.2.2.2.2.1 gX0_fillForward_X0_forwardInto rfl rfl rfl (by decide +kernel) ⟨Nat.le_of_ble_eq_true rfl, Nat.le_of_ble_eq_true rfl⟩) (c_X0_forwardInto l D cy a hi h (by omega) t j (by omega) (by omega) hW (K := 1026 + 16 * (t - 1)) (by omega) (fun h0t q hq => by rw [hp (t - 1) q (by omega) hq]; exact fA_mg hn.2 hW hr4 (t - 1) q (by omega) (by omega))) (by decide) h0 inl_pos0 rfl rfl (Nat.le_of_ble_eq_true rfl) dX0_fillForward_37 ⟨Nat.zero_le _, Nat.zero_le _⟩ (fun z e1 hz => ?_)
          rw [hz.1]
          have hzA : FP.dmul z (E j (r t)) = fA n S M E r t j := fA_step hz.2 (fun h0t q hq => hp (t - 1) q (by omega) hq)
          refine g_aload_n C dX0_fillForward_40 rfl 0 rfl ?_
          refine g_get C 2 hin inl_pos0 (by decide) h0 (by decide) f_showWeights rfl dX0_fillForward_41 ?_
          refine g_iload_n C dX0_fillForward_44 rfl 3 rfl ?_
          refine g_aald C (by omega) (tyD2 cy) h9 (by omega) (by decide) dX0_fillForward_45 ?_
          refine g_iload_n C dX0_fillForward_46 rfl 2 rfl ?_
          refine g_dald C (by omega) (hE j (by omega)) (by omega) (by decide) dX0_fillForward_47 ?_
          refine g_dmul C dX0_fillForward_48 (by rw [hzA]; exact mg_n64 (fA_mg hn.2 hW hr4 t j (by omega) (by omega)) (by omega)) ?_
          refine g_dast C (by omega) (hF t (by omega)) (by omega) (by decide) dX0_fillForward_49 (fun y hy => ?_)
          have h := RP_F (t := t) h (by omega) hy
          generalize va_up e (18 + t) y = e at h ⊢
          refine g_iinc (v := nI (j + 1)) (k := 3) (lv' := [(0, .ref (a 0)), (1, .int (nI t)), (2, .int (nI (r t))), (3, .int (nI (j + 1)))]) C dX0_fillForward_50 rfl (nI_inc j) (by decide) [1, 2, 3, 0] rfl ?_
          refine g_goto (tgt := 19) C dX0_fillForward_53 (by decide) ?_
          exact ih2 (j + 1) e _ (by omega) h (fun u q hu hq => by rw [va_up_ne _ _ (by omega)]; exact hp u q hu hq) (fun q hq => by
            rw [va_up_self]
            by_cases hqj : q = j
            · subst hqj; rw [va_up_self]; exact hzA
            · rw [va_up_ne _ _ hqj]; exact hpj q (by omega))
      exact L2 n 0 e F (by omega) h hp (fun q hq => absurd hq (by omega))
  refine g_iconst (v := nI 0) C dX0_fillForward_0 (by decide) ?_
  refine g_istore_n (lv' := [(0, .ref (a 0)), (1, .int (nI 0))]) C dX0_fillForward_1 rfl (by decide) [1, 0] rfl ?_
  exact L1 T 0 e F (by omega) h (fun u q hu => absurd hu (by omega))

set_option maxHeartbeats 4000000 in
set_option maxRecDepth 100000 in
theorem c_X0_sumOfLastForward (l : Launch) (D : va_G) (cy : Nat → ClassId) (a : Nat → Nat) (hi : wInj 82 a) {e : Nat → va_E} {n T : Nat} {S : Nat → UInt64} {M E : T2} {r : Nat → Nat} {F B V : T2} {G : Nat → Nat → Int32} {Cn : Nat → Nat → Int64} (h : RP cy a e n T S M E r F B V G Cn) (hn : n ≤ 6) (hT : 0 < T ∧ T ≤ 12) {K : Nat} (hK : K ≤ 1900) (hFb : ∀ i, i < n → mg K (F (T - 1) i)) : Met l yX0_sumOfLastForward wsX0_sumOfLastForward ({ frames := 0, cells := 0, slots := 0, locals := 0 }) (gPc D clP cy 82 a e [.ref (a 0)]) (va_Qd (fun z e1 => e1 = e ∧ z = fsm (fun j => F (T - 1) j) n) (gB D clP 82 a) (wA 82 a)) 0 0 (wA 82 a) := by
  refine g_met (cc := cX0_sumOfLastForward) (maxL := 4) (ret := (some .double)) (lv := [(0, .ref (a 0))]) (by decide) rfl (Nat.le_of_ble_eq_true rfl) rfl hi (fun k hk => ⟨k, hk, rfl⟩) ?_
  intro p en s m below meth c C hr hlocks
  have hin : ∀ w ∈ u_ws RX0 TX0 11, w ∈ wsX0_sumOfLastForward := by decide +kernel
  have f_stateCount := C.2.2.2.2.1 (.fieldLink RX0 25 "PathOdds" "stateCount" "I") (by decide +kernel)
  have f_forwardOdds := C.2.2.2.2.1 (.fieldLink RX0 32 "PathOdds" "forwardOdds" "[[D") (by decide +kernel)
  have f_rowLength := C.2.2.2.2.1 (.fieldLink RX0 29 "PathOdds" "rowLength" "I") (by decide +kernel)
  obtain ⟨h0, hS, h2, h9, hr0, h17, h30, h43, h56, h69, hM, hE, hF, hB, hV, hG, hC⟩ := id h
  have hb : ∀ q, q < n → mg (K + 1) ((fun j => F (T - 1) j) q) := fun q hq => mg_mono (hFb q hq) (by omega)
  have L : ∀ (k : Nat) (i : Nat), i + k = n → GW p l en ({ frames := 0, cells := 0, slots := 0, locals := 0 }) s m ([.ref (a 0)] : List Value).toArray below meth c 0 0 (MQ below (va_Qd (fun z e1 => e1 = e ∧ z = fsm (fun j => F (T - 1) j) n) (gB D clP 82 a) (wA 82 a)) ([.ref (a 0)] : List Value).toArray s 0 0 (wA 82 a)) D clP 82 4 a (wA 82 a) e 4 [(0, .ref (a 0)), (1, .double (fsm (fun j => F (T - 1) j) i)), (3, .int (nI i))] [] := by
    intro k
    induction k with
    | zero =>
      intro i hk
      obtain ⟨h0, hS, h2, h9, hr0, h17, h30, h43, h56, h69, hM, hE, hF, hB, hV, hG, hC⟩ := id h
      refine g_iload_n C dX0_sumOfLastForward_4 rfl 2 rfl ?_
      refine g_aload_n C dX0_sumOfLastForward_5 rfl 0 rfl ?_
      refine g_get C 4 hin inl_pos0 (by decide) h0 (by decide) f_stateCount rfl dX0_sumOfLastForward_6 ?_
      refine g_icmp_ge (tgt := 34) C dX0_sumOfLastForward_9 (by decide) (fun c1 => ?_) (fun c1 => absurd c1 (fun q => q (nI_le (by omega) (by omega))))
      refine g_dload_n C dX0_sumOfLastForward_34 rfl 1 rfl ?_
      exact g_dret C hr hlocks (⟨rfl, by rw [show n = i by omega]⟩) dX0_sumOfLastForward_35
    | succ k ih =>
      intro i hk
      obtain ⟨h0, hS, h2, h9, hr0, h17, h30, h43, h56, h69, hM, hE, hF, hB, hV, hG, hC⟩ := id h
      refine g_iload_n C dX0_sumOfLastForward_4 rfl 2 rfl ?_
      refine g_aload_n C dX0_sumOfLastForward_5 rfl 0 rfl ?_
      refine g_get C 4 hin inl_pos0 (by decide) h0 (by decide) f_stateCount rfl dX0_sumOfLastForward_6 ?_
      refine g_icmp_ge (tgt := 34) C dX0_sumOfLastForward_9 (by decide) (fun c1 => absurd c1 (nI_ge (by omega) (by omega))) (fun c1 => ?_)
      refine g_dload_n C dX0_sumOfLastForward_12 rfl 1 rfl ?_
      refine g_aload_n C dX0_sumOfLastForward_13 rfl 0 rfl ?_
      refine g_get C 6 hin inl_pos0 (by decide) h0 (by decide) f_forwardOdds rfl dX0_sumOfLastForward_14 ?_
      refine g_aload_n C dX0_sumOfLastForward_17 rfl 0 rfl ?_
      refine g_get C 5 hin inl_pos0 (by decide) h0 (by decide) f_rowLength rfl dX0_sumOfLastForward_18 ?_
      refine g_iconst (v := nI 1) C dX0_sumOfLastForward_21 (by decide) ?_
      refine g_isub (v := nI (T - 1)) C dX0_sumOfLastForward_22 (pk_sub (by omega)) ?_
      refine g_aald C (by omega) (tyD2 cy) h17 (by omega) (by decide) dX0_sumOfLastForward_23 ?_
      refine g_iload_n C dX0_sumOfLastForward_24 rfl 2 rfl ?_
      refine g_dald C (by omega) (hF (T - 1) (by omega)) (by omega) (by decide) dX0_sumOfLastForward_25 ?_
      refine g_dadd C dX0_sumOfLastForward_26 (mg_n64 (mg_add (fsm_mg hb (by omega) (by omega) i (by omega)) (mg_mono (hb i (by omega)) (by omega)) (by omega)) (by omega)) ?_
      refine g_dstore_n (lv' := [(0, .ref (a 0)), (1, .double (FP.dadd (fsm (fun j => F (T - 1) j) i) (F (T - 1) i))), (3, .int (nI i))]) C dX0_sumOfLastForward_27 rfl (by decide) [1, 0, 2] rfl ?_
      refine g_iinc (v := nI (i + 1)) (k := 2) (lv' := [(0, .ref (a 0)), (1, .double (FP.dadd (fsm (fun j => F (T - 1) j) i) (F (T - 1) i))), (3, .int (nI (i + 1)))]) C dX0_sumOfLastForward_28 rfl (nI_inc i) (by decide) [1, 2, 0] rfl ?_
      refine g_goto (tgt := 4) C dX0_sumOfLastForward_31 (by decide) ?_
      exact ih (i + 1) (by omega)
  refine g_dconst0 C dX0_sumOfLastForward_0 ?_
  refine g_dstore_n (lv' := [(0, .ref (a 0)), (1, .double FP.dconst0)]) C dX0_sumOfLastForward_1 rfl (by decide) [1, 0] rfl ?_
  refine g_iconst (v := nI 0) C dX0_sumOfLastForward_2 (by decide) ?_
  refine g_istore_n (lv' := [(0, .ref (a 0)), (1, .double FP.dconst0), (3, .int (nI 0))]) C dX0_sumOfLastForward_3 rfl (by decide) [1, 2, 0] rfl ?_
  exact L n 0 (by omega)

set_option maxHeartbeats 4000000 in
set_option maxRecDepth 100000 in
theorem c_X0_backwardFrom (l : Launch) (D : va_G) (cy : Nat → ClassId) (a : Nat → Nat) (hi : wInj 82 a) {e : Nat → va_E} {n T : Nat} {S : Nat → UInt64} {M E : T2} {r : Nat → Nat} {F B V : T2} {G : Nat → Nat → Int32} {Cn : Nat → Nat → Int64} (h : RP cy a e n T S M E r F B V G Cn) (hn : n ≤ 6) (hT : T ≤ 12) (t i : Nat) (ht : t < T) (hi1 : i < n) (hW : WB S M E) (hr4 : RW4 r) {K : Nat} (hK : K ≤ 1900) (hBb : t + 1 < T → ∀ q, q < n → mg K (B (t + 1) q)) : Met l yX0_backwardFrom wsX0_backwardFrom ({ frames := 0, cells := 0, slots := 0, locals := 0 }) (gPc D clP cy 82 a e [.ref (a 0), .int (nI t), .int (nI i)]) (va_Qd (fun z e1 => e1 = e ∧ z = if t = T - 1 then FP.dconst1 else fsm (fun q => FP.dmul (FP.dmul (M i q) (E q (r (t + 1)))) (B (t + 1) q)) n) (gB D clP 82 a) (wA 82 a)) 0 0 (wA 82 a) := by
  refine g_met (cc := cX0_backwardFrom) (maxL := 7) (ret := (some .double)) (lv := [(0, .ref (a 0)), (1, .int (nI t)), (2, .int (nI i))]) (by decide) rfl (Nat.le_of_ble_eq_true rfl) rfl hi (fun k hk => ⟨k, hk, rfl⟩) ?_
  intro p en s m below meth c C hr hlocks
  have hin : ∀ w ∈ u_ws RX0 TX0 11, w ∈ wsX0_backwardFrom := by decide +kernel
  have f_rowLength := C.2.2.2.2.1 (.fieldLink RX0 29 "PathOdds" "rowLength" "I") (by decide +kernel)
  have f_row := C.2.2.2.2.1 (.fieldLink RX0 21 "PathOdds" "row" "[I") (by decide +kernel)
  have f_stateCount := C.2.2.2.2.1 (.fieldLink RX0 25 "PathOdds" "stateCount" "I") (by decide +kernel)
  have f_moveWeights := C.2.2.2.2.1 (.fieldLink RX0 15 "PathOdds" "moveWeights" "[[D") (by decide +kernel)
  have f_showWeights := C.2.2.2.2.1 (.fieldLink RX0 18 "PathOdds" "showWeights" "[[D") (by decide +kernel)
  have f_backwardOdds := C.2.2.2.2.1 (.fieldLink RX0 35 "PathOdds" "backwardOdds" "[[D") (by decide +kernel)
  obtain ⟨h0, hS, h2, h9, hr0, h17, h30, h43, h56, h69, hM, hE, hF, hB, hV, hG, hC⟩ := id h
  refine g_iload_n C dX0_backwardFrom_0 rfl 1 rfl ?_
  refine g_aload_n C dX0_backwardFrom_1 rfl 0 rfl ?_
  refine g_get C 5 hin inl_pos0 (by decide) h0 (by decide) f_rowLength rfl dX0_backwardFrom_2 ?_
  refine g_iconst (v := nI 1) C dX0_backwardFrom_5 (by decide) ?_
  refine g_isub (v := nI (T - 1)) C dX0_backwardFrom_6 (pk_sub (by omega)) ?_
  refine g_icmp_ne (tgt := 12) C dX0_backwardFrom_7 (by decide) (fun c1 => ?_) (fun c1 => ?_)
  · have ht1 : ¬ t = T - 1 := fun q => c1 (by rw [q])
    have hrt : r (t + 1) < 4 := hr4 (t + 1) (by omega)
    have hm : ∀ q, q < n → mg 1026 (FP.dmul (M i q) (E q (r (t + 1)))) := fun q hq => mg_mono (mg_mul (hW.2.1 i q (by omega) (by omega)) (hW.2.2 q _ (by omega) hrt) (by decide) (by decide)) (by decide)
    have hb : ∀ q, q < n → mg (K + 4) ((fun q => FP.dmul (FP.dmul (M i q) (E q (r (t + 1)))) (B (t + 1) q)) q) := fun q hq => mg_mono (mg_mul (hm q hq) (hBb (by omega) q hq) (by decide) (by omega)) (by omega)
    refine g_aload_n C dX0_backwardFrom_12 rfl 0 rfl ?_
    refine g_get C 3 hin inl_pos0 (by decide) h0 (by decide) f_row rfl dX0_backwardFrom_13 ?_
    refine g_iload_n C dX0_backwardFrom_16 rfl 1 rfl ?_
    refine g_iconst (v := nI 1) C dX0_backwardFrom_17 (by decide) ?_
    refine g_iadd (v := nI (t + 1)) C dX0_backwardFrom_18 (nI_add t 1) ?_
    refine g_iald C (by omega) hr0 (by omega) (by decide) dX0_backwardFrom_19 ?_
    refine g_istore_n (lv' := [(0, .ref (a 0)), (1, .int (nI t)), (2, .int (nI i)), (3, .int (nI (r (t + 1))))]) C dX0_backwardFrom_20 rfl (by decide) [1, 2, 3, 0] rfl ?_
    refine g_dconst0 C dX0_backwardFrom_21 ?_
    refine g_dstore (lv' := [(0, .ref (a 0)), (1, .int (nI t)), (2, .int (nI i)), (3, .int (nI (r (t + 1)))), (4, .double FP.dconst0)]) C dX0_backwardFrom_22 (by decide) [1, 2, 3, 4, 0] rfl ?_
    refine g_iconst (v := nI 0) C dX0_backwardFrom_24 (by decide) ?_
    refine g_istore (lv' := [(0, .ref (a 0)), (1, .int (nI t)), (2, .int (nI i)), (3, .int (nI (r (t + 1)))), (4, .double FP.dconst0), (6, .int (nI 0))]) C dX0_backwardFrom_25 (by decide) [1, 2, 3, 4, 5, 0] rfl ?_
    have L : ∀ (k : Nat) (j : Nat), j + k = n → GW p l en ({ frames := 0, cells := 0, slots := 0, locals := 0 }) s m ([.ref (a 0), .int (nI t), .int (nI i)] : List Value).toArray below meth c 0 0 (MQ below (va_Qd (fun z e1 => e1 = e ∧ z = if t = T - 1 then FP.dconst1 else fsm (fun q => FP.dmul (FP.dmul (M i q) (E q (r (t + 1)))) (B (t + 1) q)) n) (gB D clP 82 a) (wA 82 a)) ([.ref (a 0), .int (nI t), .int (nI i)] : List Value).toArray s 0 0 (wA 82 a)) D clP 82 7 a (wA 82 a) e 27 [(0, .ref (a 0)), (1, .int (nI t)), (2, .int (nI i)), (3, .int (nI (r (t + 1)))), (4, .double (fsm (fun q => FP.dmul (FP.dmul (M i q) (E q (r (t + 1)))) (B (t + 1) q)) j)), (6, .int (nI j))] [] := by
      intro k
      induction k with
      | zero =>
        intro j hk
        obtain ⟨h0, hS, h2, h9, hr0, h17, h30, h43, h56, h69, hM, hE, hF, hB, hV, hG, hC⟩ := id h
        refine g_iload C dX0_backwardFrom_27 5 rfl ?_
        refine g_aload_n C dX0_backwardFrom_29 rfl 0 rfl ?_
        refine g_get C 4 hin inl_pos0 (by decide) h0 (by decide) f_stateCount rfl dX0_backwardFrom_30 ?_
        refine g_icmp_ge (tgt := 78) C dX0_backwardFrom_33 (by decide) (fun c1 => ?_) (fun c1 => absurd c1 (fun q => q (nI_le (by omega) (by omega))))
        refine g_dload C dX0_backwardFrom_78 4 rfl ?_
        exact g_dret C hr hlocks (⟨rfl, by rw [if_neg ht1, show n = j by omega]⟩) dX0_backwardFrom_80
      | succ k ih =>
        intro j hk
        obtain ⟨h0, hS, h2, h9, hr0, h17, h30, h43, h56, h69, hM, hE, hF, hB, hV, hG, hC⟩ := id h
        refine g_iload C dX0_backwardFrom_27 5 rfl ?_
        refine g_aload_n C dX0_backwardFrom_29 rfl 0 rfl ?_
        refine g_get C 4 hin inl_pos0 (by decide) h0 (by decide) f_stateCount rfl dX0_backwardFrom_30 ?_
        refine g_icmp_ge (tgt := 78) C dX0_backwardFrom_33 (by decide) (fun c1 => absurd c1 (nI_ge (by omega) (by omega))) (fun c1 => ?_)
        refine g_dload C dX0_backwardFrom_36 4 rfl ?_
        refine g_aload_n C dX0_backwardFrom_38 rfl 0 rfl ?_
        refine g_get C 1 hin inl_pos0 (by decide) h0 (by decide) f_moveWeights rfl dX0_backwardFrom_39 ?_
        refine g_iload_n C dX0_backwardFrom_42 rfl 2 rfl ?_
        refine g_aald C (by omega) (tyD2 cy) h2 (by omega) (by decide) dX0_backwardFrom_43 ?_
        refine g_iload C dX0_backwardFrom_44 5 rfl ?_
        refine g_dald C (by omega) (hM i (by omega)) (by omega) (by decide) dX0_backwardFrom_46 ?_
        refine g_aload_n C dX0_backwardFrom_47 rfl 0 rfl ?_
        refine g_get C 2 hin inl_pos0 (by decide) h0 (by decide) f_showWeights rfl dX0_backwardFrom_48 ?_
        refine g_iload C dX0_backwardFrom_51 5 rfl ?_
        refine g_aald C (by omega) (tyD2 cy) h9 (by omega) (by decide) dX0_backwardFrom_53 ?_
        refine g_iload_n C dX0_backwardFrom_54 rfl 3 rfl ?_
        refine g_dald C (by omega) (hE j (by omega)) (by omega) (by decide) dX0_backwardFrom_55 ?_
        refine g_dmul C dX0_backwardFrom_56 (mg_n64 (hm j (by omega)) (by omega)) ?_
        refine g_aload_n C dX0_backwardFrom_57 rfl 0 rfl ?_
        refine g_get C 7 hin inl_pos0 (by decide) h0 (by decide) f_backwardOdds rfl dX0_backwardFrom_58 ?_
        refine g_iload_n C dX0_backwardFrom_61 rfl 1 rfl ?_
        refine g_iconst (v := nI 1) C dX0_backwardFrom_62 (by decide) ?_
        refine g_iadd (v := nI (t + 1)) C dX0_backwardFrom_63 (nI_add t 1) ?_
        refine g_aald C (by omega) (tyD2 cy) h30 (by omega) (by decide) dX0_backwardFrom_64 ?_
        refine g_iload C dX0_backwardFrom_65 5 rfl ?_
        refine g_dald C (by omega) (hB (t + 1) (by omega)) (by omega) (by decide) dX0_backwardFrom_67 ?_
        refine g_dmul C dX0_backwardFrom_68 (mg_n64 (hb j (by omega)) (by omega)) ?_
        refine g_dadd C dX0_backwardFrom_69 (mg_n64 (mg_add (fsm_mg hb (by omega) (by omega) j (by omega)) (mg_mono (hb j (by omega)) (by omega)) (by omega)) (by omega)) ?_
        refine g_dstore (lv' := [(0, .ref (a 0)), (1, .int (nI t)), (2, .int (nI i)), (3, .int (nI (r (t + 1)))), (4, .double (FP.dadd (fsm (fun q => FP.dmul (FP.dmul (M i q) (E q (r (t + 1)))) (B (t + 1) q)) j) (FP.dmul (FP.dmul (M i j) (E j (r (t + 1)))) (B (t + 1) j)))), (6, .int (nI j))]) C dX0_backwardFrom_70 (by decide) [1, 2, 3, 4, 0, 5] rfl ?_
        refine g_iinc (v := nI (j + 1)) (k := 5) (lv' := [(0, .ref (a 0)), (1, .int (nI t)), (2, .int (nI i)), (3, .int (nI (r (t + 1)))), (4, .double (FP.dadd (fsm (fun q => FP.dmul (FP.dmul (M i q) (E q (r (t + 1)))) (B (t + 1) q)) j) (FP.dmul (FP.dmul (M i j) (E j (r (t + 1)))) (B (t + 1) j)))), (6, .int (nI (j + 1)))]) C dX0_backwardFrom_72 rfl (nI_inc j) (by decide) [1, 2, 3, 4, 5, 0] rfl ?_
        refine g_goto (tgt := 27) C dX0_backwardFrom_75 (by decide) ?_
        exact ih (j + 1) (by omega)
    exact L n 0 (by omega)
  · refine g_dconst1 C dX0_backwardFrom_10 ?_
    exact g_dret C hr hlocks (⟨rfl, by rw [if_pos ((nI_eq (by omega) (by omega)).mp c1)]⟩) dX0_backwardFrom_11

set_option maxHeartbeats 4000000 in
set_option maxRecDepth 100000 in
theorem c_X0_fillBackward (l : Launch) (D : va_G) (cy : Nat → ClassId) (a : Nat → Nat) (hi : wInj 82 a) {e : Nat → va_E} {n T : Nat} {S : Nat → UInt64} {M E : T2} {r : Nat → Nat} {F B V : T2} {G : Nat → Nat → Int32} {Cn : Nat → Nat → Int64} (h : RP cy a e n T S M E r F B V G Cn) (hn : 1 ≤ n ∧ n ≤ 6) (hT : 0 < T ∧ T ≤ 12) (hW : WB S M E) (hr4 : RW4 r) : Met l yX0_fillBackward wsX0_fillBackward ({ frames := 1, cells := 0, slots := 0, locals := 26 }) (gPc D clP cy 82 a e [.ref (a 0)]) (va_Qv (fun e1 => ∃ B1, RP cy a e1 n T S M E r F B1 V G Cn ∧ ∀ t j, t < T → j < n → B1 t j = fB n M E r T (T - 1 - t) j) (gB D clP 82 a) (wA 82 a)) 0 0 (wA 82 a) := by
  refine g_met (cc := cX0_fillBackward) (maxL := 3) (ret := none) (lv := [(0, .ref (a 0))]) (by decide) rfl (Nat.le_of_ble_eq_true rfl) rfl hi (fun k hk => ⟨k, hk, rfl⟩) ?_
  intro p en s m below meth c C hr hlocks
  have hin : ∀ w ∈ u_ws RX0 TX0 11, w ∈ wsX0_fillBackward := by decide +kernel
  have f_rowLength := C.2.2.2.2.1 (.fieldLink RX0 29 "PathOdds" "rowLength" "I") (by decide +kernel)
  have f_stateCount := C.2.2.2.2.1 (.fieldLink RX0 25 "PathOdds" "stateCount" "I") (by decide +kernel)
  have f_backwardOdds := C.2.2.2.2.1 (.fieldLink RX0 35 "PathOdds" "backwardOdds" "[[D") (by decide +kernel)
  obtain ⟨h0, hS, h2, h9, hr0, h17, h30, h43, h56, h69, hM, hE, hF, hB, hV, hG, hC⟩ := id h
  have L1 : ∀ (k : Nat) (d : Nat) (e : Nat → va_E) (B : T2) (x1 : Int32), d + k = T → RP cy a e n T S M E r F B V G Cn → (∀ u q, u < T → T - 1 - u < d → q < n → B u q = fB n M E r T (T - 1 - u) q) → ((d < T → x1 = nI (T - 1 - d)) ∧ (d = T → x1 = -1)) → GW p l en ({ frames := 1, cells := 0, slots := 0, locals := 26 }) s m ([.ref (a 0)] : List Value).toArray below meth c 0 0 (MQ below (va_Qv (fun e1 => ∃ B1, RP cy a e1 n T S M E r F B1 V G Cn ∧ ∀ t j, t < T → j < n → B1 t j = fB n M E r T (T - 1 - t) j) (gB D clP 82 a) (wA 82 a)) ([.ref (a 0)] : List Value).toArray s 0 0 (wA 82 a)) D clP 82 3 a (wA 82 a) e 7 [(0, .ref (a 0)), (1, .int x1)] [] := by
    intro k
    induction k with
    | zero =>
      intro d e B x1 hk h hp hx
      obtain ⟨h0, hS, h2, h9, hr0, h17, h30, h43, h56, h69, hM, hE, hF, hB, hV, hG, hC⟩ := id h
      refine g_iload_n C dX0_fillBackward_7 rfl 1 rfl ?_
      refine g_if_lt (tgt := 47) C dX0_fillBackward_8 (by decide) (fun c1 => ?_) (fun c1 => absurd c1 (fun q => q (by rw [hx.2 (by omega)]; decide)))
      exact g_vret C hr hlocks (⟨B, h, fun u q hu hq => hp u q hu (by omega) hq⟩) dX0_fillBackward_47
    | succ k ih =>
      intro d e B x1 hk h hp hx
      obtain ⟨h0, hS, h2, h9, hr0, h17, h30, h43, h56, h69, hM, hE, hF, hB, hV, hG, hC⟩ := id h
      have hx1 := hx.1 (by omega)
      subst hx1
      refine g_iload_n C dX0_fillBackward_7 rfl 1 rfl ?_
      refine g_if_lt (tgt := 47) C dX0_fillBackward_8 (by decide) (fun c1 => absurd c1 (nI_pos (by omega))) (fun c1 => ?_)
      refine g_iconst (v := nI 0) C dX0_fillBackward_11 (by decide) ?_
      refine g_istore_n (lv' := [(0, .ref (a 0)), (1, .int (nI (T - 1 - d))), (2, .int (nI 0))]) C dX0_fillBackward_12 rfl (by decide) [1, 2, 0] rfl ?_
      have L2 : ∀ (k2 : Nat) (j : Nat) (e : Nat → va_E) (B : T2), j + k2 = n → RP cy a e n T S M E r F B V G Cn → (∀ u q, u < T → T - 1 - u < d → q < n → B u q = fB n M E r T (T - 1 - u) q) → (∀ q, q < j → B (T - 1 - d) q = fB n M E r T (T - 1 - (T - 1 - d)) q) → GW p l en ({ frames := 1, cells := 0, slots := 0, locals := 26 }) s m ([.ref (a 0)] : List Value).toArray below meth c 0 0 (MQ below (va_Qv (fun e1 => ∃ B1, RP cy a e1 n T S M E r F B1 V G Cn ∧ ∀ t j, t < T → j < n → B1 t j = fB n M E r T (T - 1 - t) j) (gB D clP 82 a) (wA 82 a)) ([.ref (a 0)] : List Value).toArray s 0 0 (wA 82 a)) D clP 82 3 a (wA 82 a) e 13 [(0, .ref (a 0)), (1, .int (nI (T - 1 - d))), (2, .int (nI j))] [] := by
        intro k2
        induction k2 with
        | zero =>
          intro j e B hk2 h hp hpj
          obtain ⟨h0, hS, h2, h9, hr0, h17, h30, h43, h56, h69, hM, hE, hF, hB, hV, hG, hC⟩ := id h
          refine g_iload_n C dX0_fillBackward_13 rfl 2 rfl ?_
          refine g_aload_n C dX0_fillBackward_14 rfl 0 rfl ?_
          refine g_get C 4 hin inl_pos0 (by decide) h0 (by decide) f_stateCount rfl dX0_fillBackward_15 ?_
          refine g_icmp_ge (tgt := 41) C dX0_fillBackward_18 (by decide) (fun c1 => ?_) (fun c1 => absurd c1 (fun q => q (nI_le (by omega) (by omega))))
          refine g_iinc (v := nI (T - 1 - d) + Int32.ofInt (-1)) (k := 1) (lv' := [(0, .ref (a 0)), (1, .int (nI (T - 1 - d) + Int32.ofInt (-1))), (2, .int (nI j))]) C dX0_fillBackward_41 rfl (rfl) (by decide) [1, 0, 2] rfl ?_
          refine g_goto (tgt := 7) C dX0_fillBackward_44 (by decide) ?_
          refine g_pick (lv' := [(0, .ref (a 0)), (1, .int (nI (T - 1 - d) + Int32.ofInt (-1)))]) [0, 1] rfl ?_
          exact ih (d + 1) e B _ (by omega) h (fun u q hu hud hq => by
            by_cases hut : u = T - 1 - d
            · subst hut; exact hpj q (by omega)
            · exact hp u q hu (by omega) hq) ⟨fun hd => by rw [nI_dec (by omega), show T - 1 - d - 1 = T - 1 - (d + 1) by omega], fun hd => by rw [show T - 1 - d = 0 by omega]; decide⟩
        | succ k2 ih2 =>
          intro j e B hk2 h hp hpj
          obtain ⟨h0, hS, h2, h9, hr0, h17, h30, h43, h56, h69, hM, hE, hF, hB, hV, hG, hC⟩ := id h
          refine g_iload_n C dX0_fillBackward_13 rfl 2 rfl ?_
          refine g_aload_n C dX0_fillBackward_14 rfl 0 rfl ?_
          refine g_get C 4 hin inl_pos0 (by decide) h0 (by decide) f_stateCount rfl dX0_fillBackward_15 ?_
          refine g_icmp_ge (tgt := 41) C dX0_fillBackward_18 (by decide) (fun c1 => absurd c1 (nI_ge (by omega) (by omega))) (fun c1 => ?_)
          refine g_aload_n C dX0_fillBackward_21 rfl 0 rfl ?_
          refine g_get C 7 hin inl_pos0 (by decide) h0 (by decide) f_backwardOdds rfl dX0_fillBackward_22 ?_
          refine g_iload_n C dX0_fillBackward_25 rfl 1 rfl ?_
          refine g_aald C (by omega) (tyD2 cy) h30 (by omega) (by decide) dX0_fillBackward_26 ?_
          refine g_iload_n C dX0_fillBackward_27 rfl 2 rfl ?_
          refine g_aload_n C dX0_fillBackward_28 rfl 0 rfl ?_
          refine g_iload_n C dX0_fillBackward_29 rfl 1 rfl ?_
          refine g_iload_n C dX0_fillBackward_30 rfl 2 rfl ?_
          refine g_calld (As := [.int (nI (T - 1 - d)), .int (nI j)]) (rest := [.int (nI j), .ref (a (31 + (T - 1 - d)))]) C (cwV 2 C.2.2.2.2.1 gX0_fillBackward_X0_backwardFrom rfl rfl rfl (by decide +kernel) ⟨Nat.le_of_ble_eq_true rfl, Nat.le_of_ble_eq_true rfl⟩) (c_X0_backwardFrom l D cy a hi h (by omega) (by omega) (T - 1 - d) j (by omega) (by omega) hW hr4 (K := 1024 + 16 * d) (by omega) (fun h1 q hq => by rw [hp (T - 1 - d + 1) q (by omega) (by omega) hq]; exact mg_mono (fB_mg (S := S) hn.2 hT.2 hW hr4 _ q (by omega) (by omega)) (by omega))) (by decide) h0 inl_pos0 rfl rfl (Nat.le_of_ble_eq_true rfl) dX0_fillBackward_31 ⟨Nat.zero_le _, Nat.zero_le _⟩ (fun z e1 hz => ?_)
          rw [hz.1]
          have hzA : z = fB n M E r T (T - 1 - (T - 1 - d)) j := fB_step (by omega) hz.2 (fun h1 q hq => hp _ q (by omega) (by omega) hq)
          refine g_dast C (by omega) (hB (T - 1 - d) (by omega)) (by omega) (by decide) dX0_fillBackward_34 (fun y hy => ?_)
          have h := RP_B (t := T - 1 - d) h (by omega) hy
          generalize va_up e (31 + (T - 1 - d)) y = e at h ⊢
          refine g_iinc (v := nI (j + 1)) (k := 2) (lv' := [(0, .ref (a 0)), (1, .int (nI (T - 1 - d))), (2, .int (nI (j + 1)))]) C dX0_fillBackward_35 rfl (nI_inc j) (by decide) [1, 2, 0] rfl ?_
          refine g_goto (tgt := 13) C dX0_fillBackward_38 (by decide) ?_
          exact ih2 (j + 1) e _ (by omega) h (fun u q hu hud hq => by rw [va_up_ne _ _ (by omega)]; exact hp u q hu hud hq) (fun q hq => by
            rw [va_up_self]
            by_cases hqj : q = j
            · subst hqj; rw [va_up_self]; exact hzA
            · rw [va_up_ne _ _ hqj]; exact hpj q (by omega))
      exact L2 n 0 e B (by omega) h hp (fun q hq => absurd hq (by omega))
  refine g_aload_n C dX0_fillBackward_0 rfl 0 rfl ?_
  refine g_get C 5 hin inl_pos0 (by decide) h0 (by decide) f_rowLength rfl dX0_fillBackward_1 ?_
  refine g_iconst (v := nI 1) C dX0_fillBackward_4 (by decide) ?_
  refine g_isub (v := nI (T - 1)) C dX0_fillBackward_5 (pk_sub (by omega)) ?_
  refine g_istore_n (lv' := [(0, .ref (a 0)), (1, .int (nI (T - 1)))]) C dX0_fillBackward_6 rfl (by decide) [1, 0] rfl ?_
  exact L1 T 0 e B _ (by omega) h (fun u q hu hud => absurd hud (by omega)) ⟨fun _ => rfl, fun h => absurd h (by omega)⟩
